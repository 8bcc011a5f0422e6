section
-- ===== PART A: goes FIRST, ahead of the names: the tables' words, and 'selects' of the private methods out of them =====
/-- a private method of a class that the tables say can be made, by its rows of tables_1 -/
def lw_okq (q : MethodName × Nat) : Prop := (q.1.cls ≠ "java/lang/invoke/MethodHandle" ∧ q.1.cls ≠ "java/lang/invoke/VarHandle") ∧ Cond.instantiable q.1.cls q.2 ∈ tables_1 ∧ Cond.privateMethod q.1 ∈ tables_1 ∧ Cond.instanceMethod q.1 ∈ tables_1
theorem lw_p0 : lw_okq (⟨"RiddlePost$ActText", "addAct", "(II)V"⟩, 5) := ⟨⟨by decide +kernel, by decide +kernel⟩, List.mem_of_getElem? (i := 132) (by decide +kernel), List.mem_of_getElem? (i := 246) (by decide +kernel), List.mem_of_getElem? (i := 247) (by decide +kernel)⟩
theorem lw_p1 : lw_okq (⟨"RiddlePost", "mixZone", "(JI)J"⟩, 4) := ⟨⟨by decide +kernel, by decide +kernel⟩, List.mem_of_getElem? (i := 18) (by decide +kernel), List.mem_of_getElem? (i := 271) (by decide +kernel), List.mem_of_getElem? (i := 272) (by decide +kernel)⟩
theorem lw_p2 : lw_okq (⟨"java/lang/Throwable", "fillInStackTrace", "(I)Ljava/lang/Throwable;"⟩, 6) := ⟨⟨by decide +kernel, by decide +kernel⟩, List.mem_of_getElem? (i := 320) (by decide +kernel), List.mem_of_getElem? (i := 318) (by decide +kernel), List.mem_of_getElem? (i := 319) (by decide +kernel)⟩
theorem lw_p3 : lw_okq (⟨"RiddlePost", "mixRiddle", "(JI)J"⟩, 4) := ⟨⟨by decide +kernel, by decide +kernel⟩, List.mem_of_getElem? (i := 18) (by decide +kernel), List.mem_of_getElem? (i := 368) (by decide +kernel), List.mem_of_getElem? (i := 369) (by decide +kernel)⟩
theorem lw_p4 : lw_okq (⟨"RiddlePost$State", "lackingReferrals", "(II)I"⟩, 6) := ⟨⟨by decide +kernel, by decide +kernel⟩, List.mem_of_getElem? (i := 26) (by decide +kernel), List.mem_of_getElem? (i := 432) (by decide +kernel), List.mem_of_getElem? (i := 433) (by decide +kernel)⟩
theorem lw_p5 : lw_okq (⟨"RiddlePost$State", "lacksReferral", "(II)Z"⟩, 6) := ⟨⟨by decide +kernel, by decide +kernel⟩, List.mem_of_getElem? (i := 26) (by decide +kernel), List.mem_of_getElem? (i := 436) (by decide +kernel), List.mem_of_getElem? (i := 437) (by decide +kernel)⟩
theorem lw_p6 : lw_okq (⟨"RiddlePost", "save", "()V"⟩, 4) := ⟨⟨by decide +kernel, by decide +kernel⟩, List.mem_of_getElem? (i := 18) (by decide +kernel), List.mem_of_getElem? (i := 475) (by decide +kernel), List.mem_of_getElem? (i := 476) (by decide +kernel)⟩
theorem lw_p7 : lw_okq (⟨"RiddlePost", "moveOldestToEnd", "()V"⟩, 4) := ⟨⟨by decide +kernel, by decide +kernel⟩, List.mem_of_getElem? (i := 18) (by decide +kernel), List.mem_of_getElem? (i := 479) (by decide +kernel), List.mem_of_getElem? (i := 480) (by decide +kernel)⟩
theorem lw_p8 : lw_okq (⟨"RiddlePost", "savedAt", "(I)LRiddlePost$State;"⟩, 4) := ⟨⟨by decide +kernel, by decide +kernel⟩, List.mem_of_getElem? (i := 18) (by decide +kernel), List.mem_of_getElem? (i := 483) (by decide +kernel), List.mem_of_getElem? (i := 484) (by decide +kernel)⟩
theorem lw_p9 : lw_okq (⟨"RiddlePost", "replaceTruth", "(IIII)I"⟩, 4) := ⟨⟨by decide +kernel, by decide +kernel⟩, List.mem_of_getElem? (i := 18) (by decide +kernel), List.mem_of_getElem? (i := 528) (by decide +kernel), List.mem_of_getElem? (i := 529) (by decide +kernel)⟩
theorem lw_p10 : lw_okq (⟨"RiddlePost$State", "takeReply", "(I)V"⟩, 6) := ⟨⟨by decide +kernel, by decide +kernel⟩, List.mem_of_getElem? (i := 26) (by decide +kernel), List.mem_of_getElem? (i := 580) (by decide +kernel), List.mem_of_getElem? (i := 581) (by decide +kernel)⟩
theorem lw_p11 : lw_okq (⟨"RiddlePost$State", "askTheWay", "(I)V"⟩, 6) := ⟨⟨by decide +kernel, by decide +kernel⟩, List.mem_of_getElem? (i := 26) (by decide +kernel), List.mem_of_getElem? (i := 584) (by decide +kernel), List.mem_of_getElem? (i := 585) (by decide +kernel)⟩
theorem lw_p12 : lw_okq (⟨"RiddlePost$State", "askRiddle", "(II)V"⟩, 6) := ⟨⟨by decide +kernel, by decide +kernel⟩, List.mem_of_getElem? (i := 26) (by decide +kernel), List.mem_of_getElem? (i := 595) (by decide +kernel), List.mem_of_getElem? (i := 596) (by decide +kernel)⟩
theorem lw_p13 : lw_okq (⟨"RiddlePost$State", "isOver", "(I)Z"⟩, 6) := ⟨⟨by decide +kernel, by decide +kernel⟩, List.mem_of_getElem? (i := 26) (by decide +kernel), List.mem_of_getElem? (i := 628) (by decide +kernel), List.mem_of_getElem? (i := 629) (by decide +kernel)⟩
theorem lw_p14 : lw_okq (⟨"RiddlePost$State", "dropReferral", "(I)V"⟩, 6) := ⟨⟨by decide +kernel, by decide +kernel⟩, List.mem_of_getElem? (i := 26) (by decide +kernel), List.mem_of_getElem? (i := 632) (by decide +kernel), List.mem_of_getElem? (i := 633) (by decide +kernel)⟩
theorem lw_p15 : lw_okq (⟨"RiddlePost", "letHappen", "(I)Z"⟩, 4) := ⟨⟨by decide +kernel, by decide +kernel⟩, List.mem_of_getElem? (i := 18) (by decide +kernel), List.mem_of_getElem? (i := 717) (by decide +kernel), List.mem_of_getElem? (i := 718) (by decide +kernel)⟩
def lw_privs_1 : List (MethodName × Nat) := [(⟨"RiddlePost$ActText", "addAct", "(II)V"⟩, 5), (⟨"RiddlePost", "mixZone", "(JI)J"⟩, 4), (⟨"java/lang/Throwable", "fillInStackTrace", "(I)Ljava/lang/Throwable;"⟩, 6), (⟨"RiddlePost", "mixRiddle", "(JI)J"⟩, 4), (⟨"RiddlePost$State", "lackingReferrals", "(II)I"⟩, 6), (⟨"RiddlePost$State", "lacksReferral", "(II)Z"⟩, 6), (⟨"RiddlePost", "save", "()V"⟩, 4), (⟨"RiddlePost", "moveOldestToEnd", "()V"⟩, 4), (⟨"RiddlePost", "savedAt", "(I)LRiddlePost$State;"⟩, 4), (⟨"RiddlePost", "replaceTruth", "(IIII)I"⟩, 4), (⟨"RiddlePost$State", "takeReply", "(I)V"⟩, 6), (⟨"RiddlePost$State", "askTheWay", "(I)V"⟩, 6), (⟨"RiddlePost$State", "askRiddle", "(II)V"⟩, 6), (⟨"RiddlePost$State", "isOver", "(I)Z"⟩, 6), (⟨"RiddlePost$State", "dropReferral", "(I)V"⟩, 6), (⟨"RiddlePost", "letHappen", "(I)Z"⟩, 4)]
theorem lw_r1 : ∀ q ∈ lw_privs_1, lw_okq q := List.forall_mem_cons.mpr ⟨lw_p0, List.forall_mem_cons.mpr ⟨lw_p1, List.forall_mem_cons.mpr ⟨lw_p2, List.forall_mem_cons.mpr ⟨lw_p3, List.forall_mem_cons.mpr ⟨lw_p4, List.forall_mem_cons.mpr ⟨lw_p5, List.forall_mem_cons.mpr ⟨lw_p6, List.forall_mem_cons.mpr ⟨lw_p7, List.forall_mem_cons.mpr ⟨lw_p8, List.forall_mem_cons.mpr ⟨lw_p9, List.forall_mem_cons.mpr ⟨lw_p10, List.forall_mem_cons.mpr ⟨lw_p11, List.forall_mem_cons.mpr ⟨lw_p12, List.forall_mem_cons.mpr ⟨lw_p13, List.forall_mem_cons.mpr ⟨lw_p14, List.forall_mem_cons.mpr ⟨lw_p15, fun _ h => absurd h List.not_mem_nil⟩⟩⟩⟩⟩⟩⟩⟩⟩⟩⟩⟩⟩⟩⟩⟩
theorem lw_p16 : lw_okq (⟨"RiddlePostModel", "putsZone", "(III)V"⟩, 11) := ⟨⟨by decide +kernel, by decide +kernel⟩, List.mem_of_getElem? (i := 729) (by decide +kernel), List.mem_of_getElem? (i := 735) (by decide +kernel), List.mem_of_getElem? (i := 736) (by decide +kernel)⟩
theorem lw_p17 : lw_okq (⟨"RiddlePostModel", "puts", "(III)V"⟩, 11) := ⟨⟨by decide +kernel, by decide +kernel⟩, List.mem_of_getElem? (i := 729) (by decide +kernel), List.mem_of_getElem? (i := 739) (by decide +kernel), List.mem_of_getElem? (i := 740) (by decide +kernel)⟩
theorem lw_p18 : lw_okq (⟨"RiddlePostModel", "record", "()V"⟩, 11) := ⟨⟨by decide +kernel, by decide +kernel⟩, List.mem_of_getElem? (i := 729) (by decide +kernel), List.mem_of_getElem? (i := 788) (by decide +kernel), List.mem_of_getElem? (i := 789) (by decide +kernel)⟩
theorem lw_p19 : lw_okq (⟨"RiddlePostModel", "ofZone", "(II)I"⟩, 11) := ⟨⟨by decide +kernel, by decide +kernel⟩, List.mem_of_getElem? (i := 729) (by decide +kernel), List.mem_of_getElem? (i := 795) (by decide +kernel), List.mem_of_getElem? (i := 796) (by decide +kernel)⟩
theorem lw_p20 : lw_okq (⟨"RiddlePostModel", "gives", "(IIII)I"⟩, 11) := ⟨⟨by decide +kernel, by decide +kernel⟩, List.mem_of_getElem? (i := 729) (by decide +kernel), List.mem_of_getElem? (i := 816) (by decide +kernel), List.mem_of_getElem? (i := 817) (by decide +kernel)⟩
theorem lw_p21 : lw_okq (⟨"RiddlePostModel", "of", "(II)I"⟩, 11) := ⟨⟨by decide +kernel, by decide +kernel⟩, List.mem_of_getElem? (i := 729) (by decide +kernel), List.mem_of_getElem? (i := 820) (by decide +kernel), List.mem_of_getElem? (i := 821) (by decide +kernel)⟩
theorem lw_p22 : lw_okq (⟨"RiddlePostModel", "solvesFirst", "(I)I"⟩, 11) := ⟨⟨by decide +kernel, by decide +kernel⟩, List.mem_of_getElem? (i := 729) (by decide +kernel), List.mem_of_getElem? (i := 836) (by decide +kernel), List.mem_of_getElem? (i := 837) (by decide +kernel)⟩
theorem lw_p23 : lw_okq (⟨"RiddlePostModel", "solves", "(I)I"⟩, 11) := ⟨⟨by decide +kernel, by decide +kernel⟩, List.mem_of_getElem? (i := 729) (by decide +kernel), List.mem_of_getElem? (i := 840) (by decide +kernel), List.mem_of_getElem? (i := 841) (by decide +kernel)⟩
theorem lw_p24 : lw_okq (⟨"RiddlePostModel", "asks", "(I)V"⟩, 11) := ⟨⟨by decide +kernel, by decide +kernel⟩, List.mem_of_getElem? (i := 729) (by decide +kernel), List.mem_of_getElem? (i := 844) (by decide +kernel), List.mem_of_getElem? (i := 845) (by decide +kernel)⟩
theorem lw_p25 : lw_okq (⟨"RiddlePostModel", "comesTo", "(I)V"⟩, 11) := ⟨⟨by decide +kernel, by decide +kernel⟩, List.mem_of_getElem? (i := 729) (by decide +kernel), List.mem_of_getElem? (i := 848) (by decide +kernel), List.mem_of_getElem? (i := 849) (by decide +kernel)⟩
theorem lw_p26 : lw_okq (⟨"RiddlePostModel", "costs", "(I)V"⟩, 11) := ⟨⟨by decide +kernel, by decide +kernel⟩, List.mem_of_getElem? (i := 729) (by decide +kernel), List.mem_of_getElem? (i := 852) (by decide +kernel), List.mem_of_getElem? (i := 853) (by decide +kernel)⟩
theorem lw_p27 : lw_okq (⟨"RiddlePostModel", "forgets", "(I)V"⟩, 11) := ⟨⟨by decide +kernel, by decide +kernel⟩, List.mem_of_getElem? (i := 729) (by decide +kernel), List.mem_of_getElem? (i := 860) (by decide +kernel), List.mem_of_getElem? (i := 861) (by decide +kernel)⟩
theorem lw_p28 : lw_okq (⟨"RiddlePostModel", "passes", "(I)I"⟩, 11) := ⟨⟨by decide +kernel, by decide +kernel⟩, List.mem_of_getElem? (i := 729) (by decide +kernel), List.mem_of_getElem? (i := 868) (by decide +kernel), List.mem_of_getElem? (i := 869) (by decide +kernel)⟩
theorem lw_p29 : lw_okq (⟨"RiddlePostModel", "tells", "(I)I"⟩, 11) := ⟨⟨by decide +kernel, by decide +kernel⟩, List.mem_of_getElem? (i := 729) (by decide +kernel), List.mem_of_getElem? (i := 876) (by decide +kernel), List.mem_of_getElem? (i := 877) (by decide +kernel)⟩
theorem lw_p30 : lw_okq (⟨"RiddlePostModel", "tellsZone", "(II)I"⟩, 11) := ⟨⟨by decide +kernel, by decide +kernel⟩, List.mem_of_getElem? (i := 729) (by decide +kernel), List.mem_of_getElem? (i := 884) (by decide +kernel), List.mem_of_getElem? (i := 885) (by decide +kernel)⟩
theorem lw_p31 : lw_okq (⟨"RiddlePostModel", "depth", "(I)I"⟩, 11) := ⟨⟨by decide +kernel, by decide +kernel⟩, List.mem_of_getElem? (i := 729) (by decide +kernel), List.mem_of_getElem? (i := 892) (by decide +kernel), List.mem_of_getElem? (i := 893) (by decide +kernel)⟩
def lw_privs_2 : List (MethodName × Nat) := [(⟨"RiddlePostModel", "putsZone", "(III)V"⟩, 11), (⟨"RiddlePostModel", "puts", "(III)V"⟩, 11), (⟨"RiddlePostModel", "record", "()V"⟩, 11), (⟨"RiddlePostModel", "ofZone", "(II)I"⟩, 11), (⟨"RiddlePostModel", "gives", "(IIII)I"⟩, 11), (⟨"RiddlePostModel", "of", "(II)I"⟩, 11), (⟨"RiddlePostModel", "solvesFirst", "(I)I"⟩, 11), (⟨"RiddlePostModel", "solves", "(I)I"⟩, 11), (⟨"RiddlePostModel", "asks", "(I)V"⟩, 11), (⟨"RiddlePostModel", "comesTo", "(I)V"⟩, 11), (⟨"RiddlePostModel", "costs", "(I)V"⟩, 11), (⟨"RiddlePostModel", "forgets", "(I)V"⟩, 11), (⟨"RiddlePostModel", "passes", "(I)I"⟩, 11), (⟨"RiddlePostModel", "tells", "(I)I"⟩, 11), (⟨"RiddlePostModel", "tellsZone", "(II)I"⟩, 11), (⟨"RiddlePostModel", "depth", "(I)I"⟩, 11)]
theorem lw_r2 : ∀ q ∈ lw_privs_2, lw_okq q := List.forall_mem_cons.mpr ⟨lw_p16, List.forall_mem_cons.mpr ⟨lw_p17, List.forall_mem_cons.mpr ⟨lw_p18, List.forall_mem_cons.mpr ⟨lw_p19, List.forall_mem_cons.mpr ⟨lw_p20, List.forall_mem_cons.mpr ⟨lw_p21, List.forall_mem_cons.mpr ⟨lw_p22, List.forall_mem_cons.mpr ⟨lw_p23, List.forall_mem_cons.mpr ⟨lw_p24, List.forall_mem_cons.mpr ⟨lw_p25, List.forall_mem_cons.mpr ⟨lw_p26, List.forall_mem_cons.mpr ⟨lw_p27, List.forall_mem_cons.mpr ⟨lw_p28, List.forall_mem_cons.mpr ⟨lw_p29, List.forall_mem_cons.mpr ⟨lw_p30, List.forall_mem_cons.mpr ⟨lw_p31, fun _ h => absurd h List.not_mem_nil⟩⟩⟩⟩⟩⟩⟩⟩⟩⟩⟩⟩⟩⟩⟩⟩
theorem lw_p32 : lw_okq (⟨"RiddlePostModel", "tellsRiddle", "(II)I"⟩, 11) := ⟨⟨by decide +kernel, by decide +kernel⟩, List.mem_of_getElem? (i := 729) (by decide +kernel), List.mem_of_getElem? (i := 900) (by decide +kernel), List.mem_of_getElem? (i := 901) (by decide +kernel)⟩
theorem lw_p33 : lw_okq (⟨"RiddlePostModel", "truth", "(I)I"⟩, 11) := ⟨⟨by decide +kernel, by decide +kernel⟩, List.mem_of_getElem? (i := 729) (by decide +kernel), List.mem_of_getElem? (i := 912) (by decide +kernel), List.mem_of_getElem? (i := 913) (by decide +kernel)⟩
theorem lw_p34 : lw_okq (⟨"RiddlePostModel", "leftUntil", "(I)I"⟩, 11) := ⟨⟨by decide +kernel, by decide +kernel⟩, List.mem_of_getElem? (i := 729) (by decide +kernel), List.mem_of_getElem? (i := 924) (by decide +kernel), List.mem_of_getElem? (i := 925) (by decide +kernel)⟩
theorem lw_p35 : lw_okq (⟨"RiddlePostModel", "memories", "()I"⟩, 11) := ⟨⟨by decide +kernel, by decide +kernel⟩, List.mem_of_getElem? (i := 729) (by decide +kernel), List.mem_of_getElem? (i := 936) (by decide +kernel), List.mem_of_getElem? (i := 937) (by decide +kernel)⟩
theorem lw_p36 : lw_okq (⟨"RiddlePostModel", "untilForgetting", "()I"⟩, 11) := ⟨⟨by decide +kernel, by decide +kernel⟩, List.mem_of_getElem? (i := 729) (by decide +kernel), List.mem_of_getElem? (i := 948) (by decide +kernel), List.mem_of_getElem? (i := 949) (by decide +kernel)⟩
theorem lw_p37 : lw_okq (⟨"RiddlePostModel", "isOld", "(I)Z"⟩, 11) := ⟨⟨by decide +kernel, by decide +kernel⟩, List.mem_of_getElem? (i := 729) (by decide +kernel), List.mem_of_getElem? (i := 959) (by decide +kernel), List.mem_of_getElem? (i := 960) (by decide +kernel)⟩
theorem lw_p38 : lw_okq (⟨"RiddlePostModel", "would", "(I)I"⟩, 11) := ⟨⟨by decide +kernel, by decide +kernel⟩, List.mem_of_getElem? (i := 729) (by decide +kernel), List.mem_of_getElem? (i := 987) (by decide +kernel), List.mem_of_getElem? (i := 988) (by decide +kernel)⟩
theorem lw_p39 : lw_okq (⟨"RiddlePostModel", "cost", "(I)I"⟩, 11) := ⟨⟨by decide +kernel, by decide +kernel⟩, List.mem_of_getElem? (i := 729) (by decide +kernel), List.mem_of_getElem? (i := 995) (by decide +kernel), List.mem_of_getElem? (i := 996) (by decide +kernel)⟩
theorem lw_p40 : lw_okq (⟨"RiddlePostModel", "wouldIn", "(II)I"⟩, 11) := ⟨⟨by decide +kernel, by decide +kernel⟩, List.mem_of_getElem? (i := 729) (by decide +kernel), List.mem_of_getElem? (i := 1003) (by decide +kernel), List.mem_of_getElem? (i := 1004) (by decide +kernel)⟩
theorem lw_p41 : lw_okq (⟨"RiddlePostModel", "findError", "()I"⟩, 11) := ⟨⟨by decide +kernel, by decide +kernel⟩, List.mem_of_getElem? (i := 729) (by decide +kernel), List.mem_of_getElem? (i := 1019) (by decide +kernel), List.mem_of_getElem? (i := 1020) (by decide +kernel)⟩
theorem lw_p42 : lw_okq (⟨"RiddlePostModel", "readsAct", "()Z"⟩, 11) := ⟨⟨by decide +kernel, by decide +kernel⟩, List.mem_of_getElem? (i := 729) (by decide +kernel), List.mem_of_getElem? (i := 1023) (by decide +kernel), List.mem_of_getElem? (i := 1024) (by decide +kernel)⟩
theorem lw_p43 : lw_okq (⟨"RiddlePostModel", "accepts", "(II)Z"⟩, 11) := ⟨⟨by decide +kernel, by decide +kernel⟩, List.mem_of_getElem? (i := 729) (by decide +kernel), List.mem_of_getElem? (i := 1027) (by decide +kernel), List.mem_of_getElem? (i := 1028) (by decide +kernel)⟩
theorem lw_p44 : lw_okq (⟨"RiddlePostModel", "readsNumber", "(II)Z"⟩, 11) := ⟨⟨by decide +kernel, by decide +kernel⟩, List.mem_of_getElem? (i := 729) (by decide +kernel), List.mem_of_getElem? (i := 1031) (by decide +kernel), List.mem_of_getElem? (i := 1032) (by decide +kernel)⟩
theorem lw_p45 : lw_okq (⟨"RiddlePostModel", "happens", "()Z"⟩, 11) := ⟨⟨by decide +kernel, by decide +kernel⟩, List.mem_of_getElem? (i := 729) (by decide +kernel), List.mem_of_getElem? (i := 1039) (by decide +kernel), List.mem_of_getElem? (i := 1040) (by decide +kernel)⟩
def lw_privs_3 : List (MethodName × Nat) := [(⟨"RiddlePostModel", "tellsRiddle", "(II)I"⟩, 11), (⟨"RiddlePostModel", "truth", "(I)I"⟩, 11), (⟨"RiddlePostModel", "leftUntil", "(I)I"⟩, 11), (⟨"RiddlePostModel", "memories", "()I"⟩, 11), (⟨"RiddlePostModel", "untilForgetting", "()I"⟩, 11), (⟨"RiddlePostModel", "isOld", "(I)Z"⟩, 11), (⟨"RiddlePostModel", "would", "(I)I"⟩, 11), (⟨"RiddlePostModel", "cost", "(I)I"⟩, 11), (⟨"RiddlePostModel", "wouldIn", "(II)I"⟩, 11), (⟨"RiddlePostModel", "findError", "()I"⟩, 11), (⟨"RiddlePostModel", "readsAct", "()Z"⟩, 11), (⟨"RiddlePostModel", "accepts", "(II)Z"⟩, 11), (⟨"RiddlePostModel", "readsNumber", "(II)Z"⟩, 11), (⟨"RiddlePostModel", "happens", "()Z"⟩, 11)]
theorem lw_r3 : ∀ q ∈ lw_privs_3, lw_okq q := List.forall_mem_cons.mpr ⟨lw_p32, List.forall_mem_cons.mpr ⟨lw_p33, List.forall_mem_cons.mpr ⟨lw_p34, List.forall_mem_cons.mpr ⟨lw_p35, List.forall_mem_cons.mpr ⟨lw_p36, List.forall_mem_cons.mpr ⟨lw_p37, List.forall_mem_cons.mpr ⟨lw_p38, List.forall_mem_cons.mpr ⟨lw_p39, List.forall_mem_cons.mpr ⟨lw_p40, List.forall_mem_cons.mpr ⟨lw_p41, List.forall_mem_cons.mpr ⟨lw_p42, List.forall_mem_cons.mpr ⟨lw_p43, List.forall_mem_cons.mpr ⟨lw_p44, List.forall_mem_cons.mpr ⟨lw_p45, fun _ h => absurd h List.not_mem_nil⟩⟩⟩⟩⟩⟩⟩⟩⟩⟩⟩⟩⟩⟩
def lw_privs : List (MethodName × Nat) := lw_privs_1 ++ (lw_privs_2 ++ (lw_privs_3))
def lw_tbl : List Cond := k2_sels lw_privs ++ tables_1
theorem lw_privs_ok : ∀ q ∈ lw_privs, lw_okq q := by
  show ∀ q ∈ lw_privs_1 ++ (lw_privs_2 ++ (lw_privs_3)), lw_okq q
  exact List.forall_mem_append.mpr ⟨lw_r1, List.forall_mem_append.mpr ⟨lw_r2, lw_r3⟩⟩
/-- the streams that the claim lets the run draw from -/
abbrev lw_cs : List Choice := [Jvm.Choice.named "NaN.bits"]
theorem lw_bits : nanBits ∈ lw_cs := by first | decide | exact List.mem_cons_self | simp [lw_cs, nanBits]
end
section
/-! the names (out of the printed text of names), and the words that the methods need, by their places in the tables; written by mknames.py -/
def RX0 : String := "RiddlePost$Accounts"
def TX0 : u_T := fun k => match k with
  | 0 => ("RiddlePost$Accounts", "solved", "I", false)
  | 1 => ("RiddlePost$Accounts", "questions", "I", false)
  | 2 => ("RiddlePost$Accounts", "hits", "I", false)
  | 3 => ("RiddlePost$Accounts", "timesRemembered", "I", false)
  | 4 => ("RiddlePost$Accounts", "timesForgotten", "I", false)
  | _ => ("RiddlePost$Accounts", "asked", "[I", true)
def tyX0 : Nat → FieldType := fun k => match k with
  | 0 => .int
  | 1 => .int
  | 2 => .int
  | 3 => .int
  | 4 => .int
  | _ => .array .int
abbrev wsX00 : List Cond := u_ws RX0 TX0 6
theorem nmX0 : ∀ a, a < 6 → ∀ b, b < 6 → a ≠ b → (TX0 a).2.1 ≠ (TX0 b).2.1 := by decide +kernel
theorem tyX0_ok : ∀ k, k < 6 → parseFieldDescriptor (TX0 k).2.2.1 = some (tyX0 k) := by decide +kernel
abbrev cX0_init : ByteArray := prog_2_method_1_code
def yX0_init : MethodName := ⟨RX0, "<init>", "()V"⟩
abbrev cX0_copyFrom : ByteArray := prog_2_method_2_code
def yX0_copyFrom : MethodName := ⟨RX0, "copyFrom", "(LRiddlePost$Accounts;)V"⟩
abbrev cX0_countQuestionTo : ByteArray := prog_2_method_3_code
def yX0_countQuestionTo : MethodName := ⟨RX0, "countQuestionTo", "(I)V"⟩
def RX1 : String := "RiddlePost$ActText"
def TX1 : u_T := fun k => match k with
  | 0 => ("RiddlePost$ActText", "codes", "[I", true)
  | 1 => ("RiddlePost$ActText", "length", "I", false)
  | 2 => ("RiddlePost$ActText", "actSigns", "[I", true)
  | 3 => ("RiddlePost$ActText", "actNumbers", "[I", true)
  | _ => ("RiddlePost$ActText", "acts", "I", false)
def tyX1 : Nat → FieldType := fun k => match k with
  | 0 => .array .int
  | 1 => .int
  | 2 => .array .int
  | 3 => .array .int
  | _ => .int
abbrev wsX10 : List Cond := u_ws RX1 TX1 5
theorem nmX1 : ∀ a, a < 5 → ∀ b, b < 5 → a ≠ b → (TX1 a).2.1 ≠ (TX1 b).2.1 := by decide +kernel
theorem tyX1_ok : ∀ k, k < 5 → parseFieldDescriptor (TX1 k).2.2.1 = some (tyX1 k) := by decide +kernel
abbrev cX1_init : ByteArray := prog_3_method_1_code
def yX1_init : MethodName := ⟨RX1, "<init>", "()V"⟩
abbrev cX1_add : ByteArray := prog_3_method_2_code
def yX1_add : MethodName := ⟨RX1, "add", "(I)V"⟩
abbrev cX1_readActs : ByteArray := prog_3_method_3_code
def yX1_readActs : MethodName := ⟨RX1, "readActs", "()I"⟩
abbrev cX1_addAct : ByteArray := prog_3_method_4_code
def yX1_addAct : MethodName := ⟨RX1, "addAct", "(II)V"⟩
abbrev cX1_withDigit : ByteArray := prog_3_method_5_code
def yX1_withDigit : MethodName := ⟨RX1, "withDigit", "(III)I"⟩
def RX2 : String := "RiddlePost$Replies"
def TX2 : u_T := fun k => match k with
  | 0 => ("RiddlePost$Replies", "kinds", "[I", true)
  | 1 => ("RiddlePost$Replies", "values", "[I", true)
  | _ => ("RiddlePost$Replies", "ticks", "[I", true)
def tyX2 : Nat → FieldType := fun k => match k with
  | 0 => .array .int
  | 1 => .array .int
  | _ => .array .int
abbrev wsX20 : List Cond := u_ws RX2 TX2 3
theorem nmX2 : ∀ a, a < 3 → ∀ b, b < 3 → a ≠ b → (TX2 a).2.1 ≠ (TX2 b).2.1 := by decide +kernel
theorem tyX2_ok : ∀ k, k < 3 → parseFieldDescriptor (TX2 k).2.2.1 = some (tyX2 k) := by decide +kernel
abbrev cX2_init : ByteArray := prog_4_method_1_code
def yX2_init : MethodName := ⟨RX2, "<init>", "()V"⟩
abbrev cX2_copyFrom : ByteArray := prog_4_method_2_code
def yX2_copyFrom : MethodName := ⟨RX2, "copyFrom", "(LRiddlePost$Replies;)V"⟩
abbrev cX2_put : ByteArray := prog_4_method_3_code
def yX2_put : MethodName := ⟨RX2, "put", "(IIII)V"⟩
abbrev cX2_kind : ByteArray := prog_4_method_4_code
def yX2_kind : MethodName := ⟨RX2, "kind", "(I)I"⟩
abbrev cX2_value : ByteArray := prog_4_method_5_code
def yX2_value : MethodName := ⟨RX2, "value", "(I)I"⟩
abbrev cX2_ticks : ByteArray := prog_4_method_6_code
def yX2_ticks : MethodName := ⟨RX2, "ticks", "(I)I"⟩
def RX3 : String := "RiddlePost$State"
def TX3 : u_T := fun k => match k with
  | 0 => ("RiddlePost$State", "time", "I", false)
  | 1 => ("RiddlePost$State", "zones", "LRiddlePost$Zones;", true)
  | 2 => ("RiddlePost$State", "truths", "LRiddlePost$Replies;", true)
  | 3 => ("RiddlePost$State", "memory", "LRiddlePost$Replies;", true)
  | 4 => ("RiddlePost$State", "referralEnds", "[I", true)
  | _ => ("RiddlePost$State", "accounts", "LRiddlePost$Accounts;", true)
def tyX3 : Nat → FieldType := fun k => match k with
  | 0 => .int
  | 1 => .object "RiddlePost$Zones"
  | 2 => .object "RiddlePost$Replies"
  | 3 => .object "RiddlePost$Replies"
  | 4 => .array .int
  | _ => .object "RiddlePost$Accounts"
abbrev wsX30 : List Cond := u_ws RX3 TX3 6
theorem nmX3 : ∀ a, a < 6 → ∀ b, b < 6 → a ≠ b → (TX3 a).2.1 ≠ (TX3 b).2.1 := by decide +kernel
theorem tyX3_ok : ∀ k, k < 6 → parseFieldDescriptor (TX3 k).2.2.1 = some (tyX3 k) := by decide +kernel
abbrev cX3_init : ByteArray := prog_5_method_1_code
def yX3_init : MethodName := ⟨RX3, "<init>", "()V"⟩
abbrev cX3_copyFrom : ByteArray := prog_5_method_2_code
def yX3_copyFrom : MethodName := ⟨RX3, "copyFrom", "(LRiddlePost$State;)V"⟩
abbrev cX3_findResult : ByteArray := prog_5_method_3_code
def yX3_findResult : MethodName := ⟨RX3, "findResult", "(I)I"⟩
abbrev cX3_takeReply : ByteArray := prog_5_method_4_code
def yX3_takeReply : MethodName := ⟨RX3, "takeReply", "(I)V"⟩
abbrev cX3_askTheWay : ByteArray := prog_5_method_5_code
def yX3_askTheWay : MethodName := ⟨RX3, "askTheWay", "(I)V"⟩
abbrev cX3_askRiddle : ByteArray := prog_5_method_6_code
def yX3_askRiddle : MethodName := ⟨RX3, "askRiddle", "(II)V"⟩
abbrev cX3_lackingReferrals : ByteArray := prog_5_method_7_code
def yX3_lackingReferrals : MethodName := ⟨RX3, "lackingReferrals", "(II)I"⟩
abbrev cX3_lacksReferral : ByteArray := prog_5_method_8_code
def yX3_lacksReferral : MethodName := ⟨RX3, "lacksReferral", "(II)Z"⟩
abbrev cX3_dropReply : ByteArray := prog_5_method_9_code
def yX3_dropReply : MethodName := ⟨RX3, "dropReply", "(I)V"⟩
abbrev cX3_dropReferral : ByteArray := prog_5_method_10_code
def yX3_dropReferral : MethodName := ⟨RX3, "dropReferral", "(I)V"⟩
abbrev cX3_hasRoomFor : ByteArray := prog_5_method_11_code
def yX3_hasRoomFor : MethodName := ⟨RX3, "hasRoomFor", "(I)Z"⟩
abbrev cX3_letPass : ByteArray := prog_5_method_12_code
def yX3_letPass : MethodName := ⟨RX3, "letPass", "(I)I"⟩
abbrev cX3_isOver : ByteArray := prog_5_method_13_code
def yX3_isOver : MethodName := ⟨RX3, "isOver", "(I)Z"⟩
abbrev cX3_ticksTo : ByteArray := prog_5_method_14_code
def yX3_ticksTo : MethodName := ⟨RX3, "ticksTo", "(I)I"⟩
abbrev cX3_countMemory : ByteArray := prog_5_method_15_code
def yX3_countMemory : MethodName := ⟨RX3, "countMemory", "()I"⟩
abbrev cX3_nextEnd : ByteArray := prog_5_method_16_code
def yX3_nextEnd : MethodName := ⟨RX3, "nextEnd", "()I"⟩
abbrev cX3_earlierEnd : ByteArray := prog_5_method_17_code
def yX3_earlierEnd : MethodName := ⟨RX3, "earlierEnd", "(II)I"⟩
abbrev cX3_differsFromTruth : ByteArray := prog_5_method_18_code
def yX3_differsFromTruth : MethodName := ⟨RX3, "differsFromTruth", "(I)Z"⟩
abbrev cX3_resultAfter : ByteArray := prog_5_method_19_code
def yX3_resultAfter : MethodName := ⟨RX3, "resultAfter", "(II)I"⟩
abbrev cX3_trueResult : ByteArray := prog_5_method_20_code
def yX3_trueResult : MethodName := ⟨RX3, "trueResult", "(I)I"⟩
abbrev cX3_waitForTruth : ByteArray := prog_5_method_21_code
def yX3_waitForTruth : MethodName := ⟨RX3, "waitForTruth", "(I)I"⟩
abbrev cX3_countQuestions : ByteArray := prog_5_method_22_code
def yX3_countQuestions : MethodName := ⟨RX3, "countQuestions", "(I)I"⟩
def RX4 : String := "RiddlePost$Zones"
def TX4 : u_T := fun k => match k with
  | 0 => ("RiddlePost$Zones", "parents", "[I", true)
  | 1 => ("RiddlePost$Zones", "referralAges", "[I", true)
  | _ => ("RiddlePost$Zones", "refusalAges", "[I", true)
def tyX4 : Nat → FieldType := fun k => match k with
  | 0 => .array .int
  | 1 => .array .int
  | _ => .array .int
abbrev wsX40 : List Cond := u_ws RX4 TX4 3
theorem nmX4 : ∀ a, a < 3 → ∀ b, b < 3 → a ≠ b → (TX4 a).2.1 ≠ (TX4 b).2.1 := by decide +kernel
theorem tyX4_ok : ∀ k, k < 3 → parseFieldDescriptor (TX4 k).2.2.1 = some (tyX4 k) := by decide +kernel
abbrev cX4_init : ByteArray := prog_6_method_1_code
def yX4_init : MethodName := ⟨RX4, "<init>", "()V"⟩
abbrev cX4_copyFrom : ByteArray := prog_6_method_2_code
def yX4_copyFrom : MethodName := ⟨RX4, "copyFrom", "(LRiddlePost$Zones;)V"⟩
abbrev cX4_stepsToRoot : ByteArray := prog_6_method_3_code
def yX4_stepsToRoot : MethodName := ⟨RX4, "stepsToRoot", "(I)I"⟩
def RX5 : String := "RiddlePost"
def TX5 : u_T := fun k => match k with
  | 0 => ("RiddlePost", "now", "LRiddlePost$State;", true)
  | 1 => ("RiddlePost", "saved", "[LRiddlePost$State;", true)
  | 2 => ("RiddlePost", "savedCount", "I", false)
  | _ => ("RiddlePost", "text", "LRiddlePost$ActText;", true)
def tyX5 : Nat → FieldType := fun k => match k with
  | 0 => .object "RiddlePost$State"
  | 1 => .array (.object "RiddlePost$State")
  | 2 => .int
  | _ => .object "RiddlePost$ActText"
abbrev wsX50 : List Cond := u_ws RX5 TX5 4
theorem nmX5 : ∀ a, a < 4 → ∀ b, b < 4 → a ≠ b → (TX5 a).2.1 ≠ (TX5 b).2.1 := by decide +kernel
theorem tyX5_ok : ∀ k, k < 4 → parseFieldDescriptor (TX5 k).2.2.1 = some (tyX5 k) := by decide +kernel
abbrev cX5_init : ByteArray := prog_1_method_1_code
def yX5_init : MethodName := ⟨RX5, "<init>", "()V"⟩
abbrev cX5_setParent : ByteArray := prog_1_method_2_code
def yX5_setParent : MethodName := ⟨RX5, "setParent", "(II)I"⟩
abbrev cX5_setAges : ByteArray := prog_1_method_3_code
def yX5_setAges : MethodName := ⟨RX5, "setAges", "(III)I"⟩
abbrev cX5_setAnswer : ByteArray := prog_1_method_4_code
def yX5_setAnswer : MethodName := ⟨RX5, "setAnswer", "(III)I"⟩
abbrev cX5_setReference : ByteArray := prog_1_method_5_code
def yX5_setReference : MethodName := ⟨RX5, "setReference", "(III)I"⟩
abbrev cX5_takeAway : ByteArray := prog_1_method_6_code
def yX5_takeAway : MethodName := ⟨RX5, "takeAway", "(I)I"⟩
abbrev cX5_solve : ByteArray := prog_1_method_7_code
def yX5_solve : MethodName := ⟨RX5, "solve", "(I)I"⟩
abbrev cX5_forget : ByteArray := prog_1_method_8_code
def yX5_forget : MethodName := ⟨RX5, "forget", "(I)I"⟩
abbrev cX5_pass : ByteArray := prog_1_method_9_code
def yX5_pass : MethodName := ⟨RX5, "pass", "(I)I"⟩
abbrev cX5_time : ByteArray := prog_1_method_10_code
def yX5_time : MethodName := ⟨RX5, "time", "()I"⟩
abbrev cX5_parentOf : ByteArray := prog_1_method_11_code
def yX5_parentOf : MethodName := ⟨RX5, "parentOf", "(I)I"⟩
abbrev cX5_depthOf : ByteArray := prog_1_method_12_code
def yX5_depthOf : MethodName := ⟨RX5, "depthOf", "(I)I"⟩
abbrev cX5_kindOf : ByteArray := prog_1_method_13_code
def yX5_kindOf : MethodName := ⟨RX5, "kindOf", "(I)I"⟩
abbrev cX5_valueOf : ByteArray := prog_1_method_14_code
def yX5_valueOf : MethodName := ⟨RX5, "valueOf", "(I)I"⟩
abbrev cX5_truthOf : ByteArray := prog_1_method_15_code
def yX5_truthOf : MethodName := ⟨RX5, "truthOf", "(I)I"⟩
abbrev cX5_rememberedOf : ByteArray := prog_1_method_16_code
def yX5_rememberedOf : MethodName := ⟨RX5, "rememberedOf", "(I)I"⟩
abbrev cX5_ticksLeftOf : ByteArray := prog_1_method_17_code
def yX5_ticksLeftOf : MethodName := ⟨RX5, "ticksLeftOf", "(I)I"⟩
abbrev cX5_referralLeft : ByteArray := prog_1_method_18_code
def yX5_referralLeft : MethodName := ⟨RX5, "referralLeft", "(I)I"⟩
abbrev cX5_remembered : ByteArray := prog_1_method_19_code
def yX5_remembered : MethodName := ⟨RX5, "remembered", "()I"⟩
abbrev cX5_rememberedByAccount : ByteArray := prog_1_method_20_code
def yX5_rememberedByAccount : MethodName := ⟨RX5, "rememberedByAccount", "()I"⟩
abbrev cX5_ticksUntilForgetting : ByteArray := prog_1_method_21_code
def yX5_ticksUntilForgetting : MethodName := ⟨RX5, "ticksUntilForgetting", "()I"⟩
abbrev cX5_isOutOfDate : ByteArray := prog_1_method_22_code
def yX5_isOutOfDate : MethodName := ⟨RX5, "isOutOfDate", "(I)Z"⟩
abbrev cX5_solved : ByteArray := prog_1_method_23_code
def yX5_solved : MethodName := ⟨RX5, "solved", "()I"⟩
abbrev cX5_questions : ByteArray := prog_1_method_24_code
def yX5_questions : MethodName := ⟨RX5, "questions", "()I"⟩
abbrev cX5_hits : ByteArray := prog_1_method_25_code
def yX5_hits : MethodName := ⟨RX5, "hits", "()I"⟩
abbrev cX5_questionsTo : ByteArray := prog_1_method_26_code
def yX5_questionsTo : MethodName := ⟨RX5, "questionsTo", "(I)I"⟩
abbrev cX5_meanQuestions : ByteArray := prog_1_method_27_code
def yX5_meanQuestions : MethodName := ⟨RX5, "meanQuestions", "()D"⟩
abbrev cX5_wouldSolve : ByteArray := prog_1_method_28_code
def yX5_wouldSolve : MethodName := ⟨RX5, "wouldSolve", "(I)I"⟩
abbrev cX5_costOf : ByteArray := prog_1_method_29_code
def yX5_costOf : MethodName := ⟨RX5, "costOf", "(I)I"⟩
abbrev cX5_ticksUntilTruth : ByteArray := prog_1_method_30_code
def yX5_ticksUntilTruth : MethodName := ⟨RX5, "ticksUntilTruth", "(I)I"⟩
abbrev cX5_append : ByteArray := prog_1_method_31_code
def yX5_append : MethodName := ⟨RX5, "append", "(I)I"⟩
abbrev cX5_clearText : ByteArray := prog_1_method_32_code
def yX5_clearText : MethodName := ⟨RX5, "clearText", "()I"⟩
abbrev cX5_firstError : ByteArray := prog_1_method_33_code
def yX5_firstError : MethodName := ⟨RX5, "firstError", "()I"⟩
abbrev cX5_runActs : ByteArray := prog_1_method_34_code
def yX5_runActs : MethodName := ⟨RX5, "runActs", "()I"⟩
abbrev cX5_undo : ByteArray := prog_1_method_35_code
def yX5_undo : MethodName := ⟨RX5, "undo", "()I"⟩
abbrev cX5_digest : ByteArray := prog_1_method_36_code
def yX5_digest : MethodName := ⟨RX5, "digest", "()J"⟩
abbrev cX5_mixZone : ByteArray := prog_1_method_37_code
def yX5_mixZone : MethodName := ⟨RX5, "mixZone", "(JI)J"⟩
abbrev cX5_mixRiddle : ByteArray := prog_1_method_38_code
def yX5_mixRiddle : MethodName := ⟨RX5, "mixRiddle", "(JI)J"⟩
abbrev cX5_mix : ByteArray := prog_1_method_39_code
def yX5_mix : MethodName := ⟨RX5, "mix", "(JI)J"⟩
abbrev cX5_replaceTruth : ByteArray := prog_1_method_40_code
def yX5_replaceTruth : MethodName := ⟨RX5, "replaceTruth", "(IIII)I"⟩
abbrev cX5_letHappen : ByteArray := prog_1_method_41_code
def yX5_letHappen : MethodName := ⟨RX5, "letHappen", "(I)Z"⟩
abbrev cX5_save : ByteArray := prog_1_method_42_code
def yX5_save : MethodName := ⟨RX5, "save", "()V"⟩
abbrev cX5_savedAt : ByteArray := prog_1_method_43_code
def yX5_savedAt : MethodName := ⟨RX5, "savedAt", "(I)LRiddlePost$State;"⟩
abbrev cX5_moveOldestToEnd : ByteArray := prog_1_method_44_code
def yX5_moveOldestToEnd : MethodName := ⟨RX5, "moveOldestToEnd", "()V"⟩
abbrev cX5_requireZone : ByteArray := prog_1_method_45_code
def yX5_requireZone : MethodName := ⟨RX5, "requireZone", "(I)V"⟩
abbrev cX5_requireRiddle : ByteArray := prog_1_method_46_code
def yX5_requireRiddle : MethodName := ⟨RX5, "requireRiddle", "(I)V"⟩
abbrev cX5_requireRange : ByteArray := prog_1_method_47_code
def yX5_requireRange : MethodName := ⟨RX5, "requireRange", "(III)V"⟩
abbrev cX5_read : ByteArray := prog_1_method_48_code
def yX5_read : MethodName := ⟨RX5, "read", "([II)I"⟩
abbrev cX5_write : ByteArray := prog_1_method_49_code
def yX5_write : MethodName := ⟨RX5, "write", "([III)V"⟩
abbrev cX5_copyRow : ByteArray := prog_1_method_50_code
def yX5_copyRow : MethodName := ⟨RX5, "copyRow", "([I[I)V"⟩
def RX6 : String := "RiddlePostModel"
def TX6 : u_T := fun k => match k with
  | 0 => ("RiddlePostModel", "thrown", "I", false)
  | 1 => ("RiddlePostModel", "state", "[I", true)
  | 2 => ("RiddlePostModel", "history", "[I", true)
  | 3 => ("RiddlePostModel", "recorded", "I", false)
  | 4 => ("RiddlePostModel", "kept", "[I", true)
  | 5 => ("RiddlePostModel", "text", "[I", true)
  | 6 => ("RiddlePostModel", "textLength", "I", false)
  | 7 => ("RiddlePostModel", "way", "[I", true)
  | 8 => ("RiddlePostModel", "at", "I", false)
  | 9 => ("RiddlePostModel", "kind", "I", false)
  | _ => ("RiddlePostModel", "number", "I", false)
def tyX6 : Nat → FieldType := fun k => match k with
  | 0 => .int
  | 1 => .array .int
  | 2 => .array .int
  | 3 => .int
  | 4 => .array .int
  | 5 => .array .int
  | 6 => .int
  | 7 => .array .int
  | 8 => .int
  | 9 => .int
  | _ => .int
abbrev wsX60 : List Cond := u_ws RX6 TX6 11
theorem nmX6 : ∀ a, a < 11 → ∀ b, b < 11 → a ≠ b → (TX6 a).2.1 ≠ (TX6 b).2.1 := by decide +kernel
theorem tyX6_ok : ∀ k, k < 11 → parseFieldDescriptor (TX6 k).2.2.1 = some (tyX6 k) := by decide +kernel
abbrev cX6_init : ByteArray := prog_8_method_1_code
def yX6_init : MethodName := ⟨RX6, "<init>", "()V"⟩
abbrev cX6_thrown : ByteArray := prog_8_method_2_code
def yX6_thrown : MethodName := ⟨RX6, "thrown", "()I"⟩
abbrev cX6_within : ByteArray := prog_8_method_3_code
def yX6_within : MethodName := ⟨RX6, "within", "(III)Z"⟩
abbrev cX6_lays : ByteArray := prog_8_method_4_code
def yX6_lays : MethodName := ⟨RX6, "lays", "([II[II)V"⟩
abbrev cX6_record : ByteArray := prog_8_method_5_code
def yX6_record : MethodName := ⟨RX6, "record", "()V"⟩
abbrev cX6_isZone : ByteArray := prog_8_method_6_code
def yX6_isZone : MethodName := ⟨RX6, "isZone", "(I)Z"⟩
abbrev cX6_isRiddle : ByteArray := prog_8_method_7_code
def yX6_isRiddle : MethodName := ⟨RX6, "isRiddle", "(I)Z"⟩
abbrev cX6_isAge : ByteArray := prog_8_method_8_code
def yX6_isAge : MethodName := ⟨RX6, "isAge", "(I)Z"⟩
abbrev cX6_ofZone : ByteArray := prog_8_method_9_code
def yX6_ofZone : MethodName := ⟨RX6, "ofZone", "(II)I"⟩
abbrev cX6_putsZone : ByteArray := prog_8_method_10_code
def yX6_putsZone : MethodName := ⟨RX6, "putsZone", "(III)V"⟩
abbrev cX6_of : ByteArray := prog_8_method_11_code
def yX6_of : MethodName := ⟨RX6, "of", "(II)I"⟩
abbrev cX6_puts : ByteArray := prog_8_method_12_code
def yX6_puts : MethodName := ⟨RX6, "puts", "(III)V"⟩
abbrev cX6_setParent : ByteArray := prog_8_method_13_code
def yX6_setParent : MethodName := ⟨RX6, "setParent", "(II)I"⟩
abbrev cX6_setAges : ByteArray := prog_8_method_14_code
def yX6_setAges : MethodName := ⟨RX6, "setAges", "(III)I"⟩
abbrev cX6_gives : ByteArray := prog_8_method_15_code
def yX6_gives : MethodName := ⟨RX6, "gives", "(IIII)I"⟩
abbrev cX6_setAnswer : ByteArray := prog_8_method_16_code
def yX6_setAnswer : MethodName := ⟨RX6, "setAnswer", "(III)I"⟩
abbrev cX6_setReference : ByteArray := prog_8_method_17_code
def yX6_setReference : MethodName := ⟨RX6, "setReference", "(III)I"⟩
abbrev cX6_takeAway : ByteArray := prog_8_method_18_code
def yX6_takeAway : MethodName := ⟨RX6, "takeAway", "(I)I"⟩
abbrev cX6_costs : ByteArray := prog_8_method_19_code
def yX6_costs : MethodName := ⟨RX6, "costs", "(I)V"⟩
abbrev cX6_comesTo : ByteArray := prog_8_method_20_code
def yX6_comesTo : MethodName := ⟨RX6, "comesTo", "(I)V"⟩
abbrev cX6_asks : ByteArray := prog_8_method_21_code
def yX6_asks : MethodName := ⟨RX6, "asks", "(I)V"⟩
abbrev cX6_solves : ByteArray := prog_8_method_22_code
def yX6_solves : MethodName := ⟨RX6, "solves", "(I)I"⟩
abbrev cX6_solvesFirst : ByteArray := prog_8_method_23_code
def yX6_solvesFirst : MethodName := ⟨RX6, "solvesFirst", "(I)I"⟩
abbrev cX6_solve : ByteArray := prog_8_method_24_code
def yX6_solve : MethodName := ⟨RX6, "solve", "(I)I"⟩
abbrev cX6_forgets : ByteArray := prog_8_method_25_code
def yX6_forgets : MethodName := ⟨RX6, "forgets", "(I)V"⟩
abbrev cX6_forget : ByteArray := prog_8_method_26_code
def yX6_forget : MethodName := ⟨RX6, "forget", "(I)I"⟩
abbrev cX6_passes : ByteArray := prog_8_method_27_code
def yX6_passes : MethodName := ⟨RX6, "passes", "(I)I"⟩
abbrev cX6_pass : ByteArray := prog_8_method_28_code
def yX6_pass : MethodName := ⟨RX6, "pass", "(I)I"⟩
abbrev cX6_tells : ByteArray := prog_8_method_29_code
def yX6_tells : MethodName := ⟨RX6, "tells", "(I)I"⟩
abbrev cX6_time : ByteArray := prog_8_method_30_code
def yX6_time : MethodName := ⟨RX6, "time", "()I"⟩
abbrev cX6_tellsZone : ByteArray := prog_8_method_31_code
def yX6_tellsZone : MethodName := ⟨RX6, "tellsZone", "(II)I"⟩
abbrev cX6_parentOf : ByteArray := prog_8_method_32_code
def yX6_parentOf : MethodName := ⟨RX6, "parentOf", "(I)I"⟩
abbrev cX6_depth : ByteArray := prog_8_method_33_code
def yX6_depth : MethodName := ⟨RX6, "depth", "(I)I"⟩
abbrev cX6_depthOf : ByteArray := prog_8_method_34_code
def yX6_depthOf : MethodName := ⟨RX6, "depthOf", "(I)I"⟩
abbrev cX6_tellsRiddle : ByteArray := prog_8_method_35_code
def yX6_tellsRiddle : MethodName := ⟨RX6, "tellsRiddle", "(II)I"⟩
abbrev cX6_kindOf : ByteArray := prog_8_method_36_code
def yX6_kindOf : MethodName := ⟨RX6, "kindOf", "(I)I"⟩
abbrev cX6_valueOf : ByteArray := prog_8_method_37_code
def yX6_valueOf : MethodName := ⟨RX6, "valueOf", "(I)I"⟩
abbrev cX6_truth : ByteArray := prog_8_method_38_code
def yX6_truth : MethodName := ⟨RX6, "truth", "(I)I"⟩
abbrev cX6_truthOf : ByteArray := prog_8_method_39_code
def yX6_truthOf : MethodName := ⟨RX6, "truthOf", "(I)I"⟩
abbrev cX6_rememberedOf : ByteArray := prog_8_method_40_code
def yX6_rememberedOf : MethodName := ⟨RX6, "rememberedOf", "(I)I"⟩
abbrev cX6_leftUntil : ByteArray := prog_8_method_41_code
def yX6_leftUntil : MethodName := ⟨RX6, "leftUntil", "(I)I"⟩
abbrev cX6_ticksLeftOf : ByteArray := prog_8_method_42_code
def yX6_ticksLeftOf : MethodName := ⟨RX6, "ticksLeftOf", "(I)I"⟩
abbrev cX6_referralLeft : ByteArray := prog_8_method_43_code
def yX6_referralLeft : MethodName := ⟨RX6, "referralLeft", "(I)I"⟩
abbrev cX6_memories : ByteArray := prog_8_method_44_code
def yX6_memories : MethodName := ⟨RX6, "memories", "()I"⟩
abbrev cX6_remembered : ByteArray := prog_8_method_45_code
def yX6_remembered : MethodName := ⟨RX6, "remembered", "()I"⟩
abbrev cX6_rememberedByAccount : ByteArray := prog_8_method_46_code
def yX6_rememberedByAccount : MethodName := ⟨RX6, "rememberedByAccount", "()I"⟩
abbrev cX6_sooner : ByteArray := prog_8_method_47_code
def yX6_sooner : MethodName := ⟨RX6, "sooner", "(II)I"⟩
abbrev cX6_untilForgetting : ByteArray := prog_8_method_48_code
def yX6_untilForgetting : MethodName := ⟨RX6, "untilForgetting", "()I"⟩
abbrev cX6_ticksUntilForgetting : ByteArray := prog_8_method_49_code
def yX6_ticksUntilForgetting : MethodName := ⟨RX6, "ticksUntilForgetting", "()I"⟩
abbrev cX6_isOld : ByteArray := prog_8_method_50_code
def yX6_isOld : MethodName := ⟨RX6, "isOld", "(I)Z"⟩
abbrev cX6_isOutOfDate : ByteArray := prog_8_method_51_code
def yX6_isOutOfDate : MethodName := ⟨RX6, "isOutOfDate", "(I)Z"⟩
abbrev cX6_solved : ByteArray := prog_8_method_52_code
def yX6_solved : MethodName := ⟨RX6, "solved", "()I"⟩
abbrev cX6_questions : ByteArray := prog_8_method_53_code
def yX6_questions : MethodName := ⟨RX6, "questions", "()I"⟩
abbrev cX6_hits : ByteArray := prog_8_method_54_code
def yX6_hits : MethodName := ⟨RX6, "hits", "()I"⟩
abbrev cX6_questionsTo : ByteArray := prog_8_method_55_code
def yX6_questionsTo : MethodName := ⟨RX6, "questionsTo", "(I)I"⟩
abbrev cX6_meanQuestions : ByteArray := prog_8_method_56_code
def yX6_meanQuestions : MethodName := ⟨RX6, "meanQuestions", "()D"⟩
abbrev cX6_would : ByteArray := prog_8_method_57_code
def yX6_would : MethodName := ⟨RX6, "would", "(I)I"⟩
abbrev cX6_wouldSolve : ByteArray := prog_8_method_58_code
def yX6_wouldSolve : MethodName := ⟨RX6, "wouldSolve", "(I)I"⟩
abbrev cX6_cost : ByteArray := prog_8_method_59_code
def yX6_cost : MethodName := ⟨RX6, "cost", "(I)I"⟩
abbrev cX6_costOf : ByteArray := prog_8_method_60_code
def yX6_costOf : MethodName := ⟨RX6, "costOf", "(I)I"⟩
abbrev cX6_ticksUntilTruth : ByteArray := prog_8_method_61_code
def yX6_ticksUntilTruth : MethodName := ⟨RX6, "ticksUntilTruth", "(I)I"⟩
abbrev cX6_wouldIn : ByteArray := prog_8_method_62_code
def yX6_wouldIn : MethodName := ⟨RX6, "wouldIn", "(II)I"⟩
abbrev cX6_append : ByteArray := prog_8_method_63_code
def yX6_append : MethodName := ⟨RX6, "append", "(I)I"⟩
abbrev cX6_clearText : ByteArray := prog_8_method_64_code
def yX6_clearText : MethodName := ⟨RX6, "clearText", "()I"⟩
abbrev cX6_accepts : ByteArray := prog_8_method_65_code
def yX6_accepts : MethodName := ⟨RX6, "accepts", "(II)Z"⟩
abbrev cX6_readsNumber : ByteArray := prog_8_method_66_code
def yX6_readsNumber : MethodName := ⟨RX6, "readsNumber", "(II)Z"⟩
abbrev cX6_readsAct : ByteArray := prog_8_method_67_code
def yX6_readsAct : MethodName := ⟨RX6, "readsAct", "()Z"⟩
abbrev cX6_findError : ByteArray := prog_8_method_68_code
def yX6_findError : MethodName := ⟨RX6, "findError", "()I"⟩
abbrev cX6_firstError : ByteArray := prog_8_method_69_code
def yX6_firstError : MethodName := ⟨RX6, "firstError", "()I"⟩
abbrev cX6_happens : ByteArray := prog_8_method_70_code
def yX6_happens : MethodName := ⟨RX6, "happens", "()Z"⟩
abbrev cX6_runActs : ByteArray := prog_8_method_71_code
def yX6_runActs : MethodName := ⟨RX6, "runActs", "()I"⟩
abbrev cX6_undo : ByteArray := prog_8_method_72_code
def yX6_undo : MethodName := ⟨RX6, "undo", "()I"⟩
abbrev cX6_digest : ByteArray := prog_8_method_73_code
def yX6_digest : MethodName := ⟨RX6, "digest", "()J"⟩
def RJ6 : String := "java/lang/Integer"
def TJ6 : u_T := fun k => match k with
  | _ => ("", "", "", false)
def tyJ6 : Nat → FieldType := fun k => match k with
  | _ => .int
abbrev wsJ60 : List Cond := u_ws RJ6 TJ6 0
theorem nmJ6 : ∀ a, a < 0 → ∀ b, b < 0 → a ≠ b → (TJ6 a).2.1 ≠ (TJ6 b).2.1 := by decide +kernel
theorem tyJ6_ok : ∀ k, k < 0 → parseFieldDescriptor (TJ6 k).2.2.1 = some (tyJ6 k) := by decide +kernel
abbrev cJ6_bitCount_0f7a4 : ByteArray := prog_13_method_49_code
def yJ6_bitCount_0f7a4 : MethodName := ⟨RJ6, "bitCount", "(I)I"⟩
def RJ9 : String := "java/lang/Math"
def TJ9 : u_T := fun k => match k with
  | _ => ("", "", "", false)
def tyJ9 : Nat → FieldType := fun k => match k with
  | _ => .int
abbrev wsJ90 : List Cond := u_ws RJ9 TJ9 0
theorem nmJ9 : ∀ a, a < 0 → ∀ b, b < 0 → a ≠ b → (TJ9 a).2.1 ≠ (TJ9 b).2.1 := by decide +kernel
theorem tyJ9_ok : ∀ k, k < 0 → parseFieldDescriptor (TJ9 k).2.2.1 = some (tyJ9 k) := by decide +kernel
abbrev cJ9_min_7cf53 : ByteArray := prog_14_method_69_code
def yJ9_min_7cf53 : MethodName := ⟨RJ9, "min", "(II)I"⟩
def RJ0 : String := "java/lang/String"
def TJ0 : u_T := fun k => match k with
  | _ => ("", "", "", false)
def tyJ0 : Nat → FieldType := fun k => match k with
  | _ => .int
abbrev wsJ00 : List Cond := u_ws RJ0 TJ0 0
theorem nmJ0 : ∀ a, a < 0 → ∀ b, b < 0 → a ≠ b → (TJ0 a).2.1 ≠ (TJ0 b).2.1 := by decide +kernel
theorem tyJ0_ok : ∀ k, k < 0 → parseFieldDescriptor (TJ0 k).2.2.1 = some (tyJ0 k) := by decide +kernel
def RJ10 : String := "java/lang/System"
def TJ10 : u_T := fun k => match k with
  | _ => ("", "", "", false)
def tyJ10 : Nat → FieldType := fun k => match k with
  | _ => .int
abbrev wsJ100 : List Cond := u_ws RJ10 TJ10 0
theorem nmJ10 : ∀ a, a < 0 → ∀ b, b < 0 → a ≠ b → (TJ10 a).2.1 ≠ (TJ10 b).2.1 := by decide +kernel
theorem tyJ10_ok : ∀ k, k < 0 → parseFieldDescriptor (TJ10 k).2.2.1 = some (tyJ10 k) := by decide +kernel
def RL : String := "RiddlePostLaw"
abbrev cL_setParent : ByteArray := method_3_code
def yL_setParent : MethodName := ⟨RL, "setParent", "(LRiddlePost;II[J)I"⟩
abbrev cL_setAges : ByteArray := method_4_code
def yL_setAges : MethodName := ⟨RL, "setAges", "(LRiddlePost;III[J)I"⟩
abbrev cL_setAnswer : ByteArray := method_5_code
def yL_setAnswer : MethodName := ⟨RL, "setAnswer", "(LRiddlePost;III[J)I"⟩
abbrev cL_setReference : ByteArray := method_6_code
def yL_setReference : MethodName := ⟨RL, "setReference", "(LRiddlePost;III[J)I"⟩
abbrev cL_takeAway : ByteArray := method_7_code
def yL_takeAway : MethodName := ⟨RL, "takeAway", "(LRiddlePost;I[J)I"⟩
abbrev cL_solve : ByteArray := method_8_code
def yL_solve : MethodName := ⟨RL, "solve", "(LRiddlePost;I[J)I"⟩
abbrev cL_forget : ByteArray := method_9_code
def yL_forget : MethodName := ⟨RL, "forget", "(LRiddlePost;I[J)I"⟩
abbrev cL_pass : ByteArray := method_10_code
def yL_pass : MethodName := ⟨RL, "pass", "(LRiddlePost;I[J)I"⟩
abbrev cL_parentOf : ByteArray := method_11_code
def yL_parentOf : MethodName := ⟨RL, "parentOf", "(LRiddlePost;I[J)I"⟩
abbrev cL_depthOf : ByteArray := method_12_code
def yL_depthOf : MethodName := ⟨RL, "depthOf", "(LRiddlePost;I[J)I"⟩
abbrev cL_kindOf : ByteArray := method_13_code
def yL_kindOf : MethodName := ⟨RL, "kindOf", "(LRiddlePost;I[J)I"⟩
abbrev cL_valueOf : ByteArray := method_14_code
def yL_valueOf : MethodName := ⟨RL, "valueOf", "(LRiddlePost;I[J)I"⟩
abbrev cL_truthOf : ByteArray := method_15_code
def yL_truthOf : MethodName := ⟨RL, "truthOf", "(LRiddlePost;I[J)I"⟩
abbrev cL_rememberedOf : ByteArray := method_16_code
def yL_rememberedOf : MethodName := ⟨RL, "rememberedOf", "(LRiddlePost;I[J)I"⟩
abbrev cL_ticksLeftOf : ByteArray := method_17_code
def yL_ticksLeftOf : MethodName := ⟨RL, "ticksLeftOf", "(LRiddlePost;I[J)I"⟩
abbrev cL_referralLeft : ByteArray := method_18_code
def yL_referralLeft : MethodName := ⟨RL, "referralLeft", "(LRiddlePost;I[J)I"⟩
abbrev cL_isOutOfDate : ByteArray := method_19_code
def yL_isOutOfDate : MethodName := ⟨RL, "isOutOfDate", "(LRiddlePost;I[J)I"⟩
abbrev cL_questionsTo : ByteArray := method_20_code
def yL_questionsTo : MethodName := ⟨RL, "questionsTo", "(LRiddlePost;I[J)I"⟩
abbrev cL_wouldSolve : ByteArray := method_21_code
def yL_wouldSolve : MethodName := ⟨RL, "wouldSolve", "(LRiddlePost;I[J)I"⟩
abbrev cL_costOf : ByteArray := method_22_code
def yL_costOf : MethodName := ⟨RL, "costOf", "(LRiddlePost;I[J)I"⟩
abbrev cL_ticksUntilTruth : ByteArray := method_23_code
def yL_ticksUntilTruth : MethodName := ⟨RL, "ticksUntilTruth", "(LRiddlePost;I[J)I"⟩
abbrev cL_append : ByteArray := method_24_code
def yL_append : MethodName := ⟨RL, "append", "(LRiddlePost;I[J)I"⟩
abbrev cL_runActs : ByteArray := method_25_code
def yL_runActs : MethodName := ⟨RL, "runActs", "(LRiddlePost;[J)I"⟩
abbrev cL_undo : ByteArray := method_26_code
def yL_undo : MethodName := ⟨RL, "undo", "(LRiddlePost;[J)I"⟩
abbrev cL_law : ByteArray := code
def yL_law : MethodName := ⟨RL, "law", "([I)Z"⟩
abbrev vwCl : List vw_C := [(RX0, TX0, 6), (RX1, TX1, 5), (RX2, TX2, 3), (RX3, TX3, 6), (RX4, TX4, 3), (RX5, TX5, 4), (RX6, TX6, 11)]
def ALL : List Cond := lw_tbl.filter goodWord
theorem qA {w : Cond} (h : w ∈ tables_1) (g : goodWord w = true) : w ∈ ALL := List.mem_filter.mpr ⟨List.mem_append_right _ h, g⟩
theorem qP {y : MethodName} {n : Nat} (h : (y, n) ∈ lw_privs) (g : goodWord (Cond.selects y.cls y y) = true) : Cond.selects y.cls y y ∈ ALL := List.mem_filter.mpr ⟨List.mem_append_left _ (List.mem_map.mpr ⟨(y, n), h, rfl⟩), g⟩
theorem qAL {w : Cond} (h : w ∈ ALL) : w ∈ lw_tbl := (List.mem_filter.mp h).1
theorem qAg {w : Cond} (h : w ∈ ALL) : goodWord w = true := (List.mem_filter.mp h).2
theorem q_1 {w : Cond} (i : Nat) (h : tables_1_1[i]? = some w) : w ∈ tables_1 := List.mem_append_left _ (List.mem_of_getElem? h)
theorem q_2 {w : Cond} (i : Nat) (h : tables_1_2[i]? = some w) : w ∈ tables_1 := List.mem_append_right _ (List.mem_append_left _ (List.mem_of_getElem? h))
theorem q_3 {w : Cond} (i : Nat) (h : tables_1_3[i]? = some w) : w ∈ tables_1 := List.mem_append_right _ (List.mem_append_right _ (List.mem_append_left _ (List.mem_of_getElem? h)))
theorem q_4 {w : Cond} (i : Nat) (h : tables_1_4[i]? = some w) : w ∈ tables_1 := List.mem_append_right _ (List.mem_append_right _ (List.mem_append_right _ (List.mem_append_left _ (List.mem_of_getElem? h))))
theorem q_5 {w : Cond} (i : Nat) (h : tables_1_5[i]? = some w) : w ∈ tables_1 := List.mem_append_right _ (List.mem_append_right _ (List.mem_append_right _ (List.mem_append_right _ (List.mem_of_getElem? h))))
theorem gi_all {c2 : Cond} (h : c2 ∈ ALL) : GoodIn ALL (c2 :: ALL) := fun w hw => (List.mem_cons.mp hw).elim (fun e => by rw [e]; exact ⟨h, good_of_word (qAg h)⟩) (fun h => ⟨h, good_of_word (qAg h)⟩)
theorem gi_c {a : List Cond} {w : Cond} (hw : w ∈ ALL) (ha : GoodIn ALL a) : GoodIn ALL (w :: a) := fun w' h => (List.mem_cons.mp h).elim (fun e => by rw [e]; exact ⟨hw, good_of_word (qAg hw)⟩) (fun h => ha w' h)
theorem gi_V {c2 : Cond} {own C : String} {idx : Nat} {y : MethodName} (h1 : Cond.methodLink own idx y ∈ ALL) (h2 : Cond.instanceMethod y ∈ ALL) (h3 : Cond.selects C y y ∈ ALL) (h4 : Cond.initialized C ∈ ALL) (h5 : c2 ∈ ALL) : GoodIn ALL (wsV own idx C y (c2 :: ALL)) :=
  gi_c h1 (gi_c h2 (gi_c h3 (gi_c h4 (gi_all h5))))
theorem gi_S {c2 : Cond} {own : String} {idx : Nat} {y : MethodName} (h1 : Cond.methodLink own idx y ∈ ALL) (h2 : Cond.static y ∈ ALL) (h3 : Cond.initialized y.cls ∈ ALL) (h5 : c2 ∈ ALL) : GoodIn ALL (va_wsS own idx y (c2 :: ALL)) :=
  gi_c h1 (gi_c h2 (gi_c h3 (gi_all h5)))
theorem it_L : Cond.initialized RL ∈ ALL := qA (q_1 0 (by decide +kernel)) rfl
theorem it_X5 : Cond.initialized RX5 ∈ ALL := qA (q_1 1 (by decide +kernel)) rfl
theorem it_X3 : Cond.initialized RX3 ∈ ALL := qA (q_1 2 (by decide +kernel)) rfl
theorem it_X4 : Cond.initialized RX4 ∈ ALL := qA (q_1 3 (by decide +kernel)) rfl
theorem it_X2 : Cond.initialized RX2 ∈ ALL := qA (q_1 4 (by decide +kernel)) rfl
theorem it_X0 : Cond.initialized RX0 ∈ ALL := qA (q_1 5 (by decide +kernel)) rfl
theorem it_X1 : Cond.initialized RX1 ∈ ALL := qA (q_1 6 (by decide +kernel)) rfl
theorem it_X6 : Cond.initialized RX6 ∈ ALL := qA (q_1 7 (by decide +kernel)) rfl
theorem it_Throwable : Cond.initialized "java/lang/Throwable" ∈ ALL := qA (q_1 8 (by decide +kernel)) rfl
theorem it_Exception : Cond.initialized "java/lang/Exception" ∈ ALL := qA (q_1 9 (by decide +kernel)) rfl
theorem it_RuntimeException : Cond.initialized "java/lang/RuntimeException" ∈ ALL := qA (q_1 10 (by decide +kernel)) rfl
theorem it_IndexOutOfBoundsException : Cond.initialized "java/lang/IndexOutOfBoundsException" ∈ ALL := qA (q_1 11 (by decide +kernel)) rfl
theorem it_IllegalArgumentException : Cond.initialized "java/lang/IllegalArgumentException" ∈ ALL := qA (q_1 12 (by decide +kernel)) rfl
theorem it_J9 : Cond.initialized RJ9 ∈ ALL := qA (q_1 13 (by decide +kernel)) rfl
theorem it_J10 : Cond.initialized RJ10 ∈ ALL := qA (q_1 14 (by decide +kernel)) rfl
theorem it_IllegalStateException : Cond.initialized "java/lang/IllegalStateException" ∈ ALL := qA (q_1 15 (by decide +kernel)) rfl
theorem it_J6 : Cond.initialized RJ6 ∈ ALL := qA (q_1 16 (by decide +kernel)) rfl
theorem cl_L_8 : Cond.classLink RL 8 RX5 ∈ ALL := qA (q_1 17 (by decide +kernel)) rfl
theorem ia_X5 : Cond.instantiable RX5 4 ∈ ALL := qA (q_1 18 (by decide +kernel)) rfl
theorem ml_L_92 : Cond.methodLink RL 92 yX5_init ∈ ALL := qA (q_1 19 (by decide +kernel)) rfl
theorem im_X5_init : Cond.instanceMethod yX5_init ∈ ALL := qA (q_1 20 (by decide +kernel)) rfl
theorem cd_X5_init : Cond.code yX5_init cX5_init 2 none ∈ ALL := qA (q_1 21 (by decide +kernel)) rfl
theorem ml_X5_1 : Cond.methodLink RX5 1 objectInit ∈ ALL := qA (q_1 22 (by decide +kernel)) rfl
theorem im_obj : Cond.instanceMethod objectInit ∈ ALL := qA (q_1 23 (by decide +kernel)) rfl
theorem cd_obj : Cond.code objectInit ⟨#[0xb1]⟩ 1 none ∈ ALL := qA (q_1 24 (by decide +kernel)) rfl
theorem cl_X5_7 : Cond.classLink RX5 7 RX3 ∈ ALL := qA (q_1 25 (by decide +kernel)) rfl
theorem ia_X3 : Cond.instantiable RX3 6 ∈ ALL := qA (q_1 26 (by decide +kernel)) rfl
theorem im_X3_init : Cond.instanceMethod yX3_init ∈ ALL := qA (q_1 28 (by decide +kernel)) rfl
theorem cd_X3_init : Cond.code yX3_init cX3_init 1 none ∈ ALL := qA (q_1 29 (by decide +kernel)) rfl
theorem ml_X3_3 : Cond.methodLink RX3 3 objectInit ∈ ALL := qA (q_1 30 (by decide +kernel)) rfl
theorem cl_X3_9 : Cond.classLink RX3 9 RX4 ∈ ALL := qA (q_1 31 (by decide +kernel)) rfl
theorem ia_X4 : Cond.instantiable RX4 3 ∈ ALL := qA (q_1 32 (by decide +kernel)) rfl
theorem ml_X3_11 : Cond.methodLink RX3 11 yX4_init ∈ ALL := qA (q_1 33 (by decide +kernel)) rfl
theorem im_X4_init : Cond.instanceMethod yX4_init ∈ ALL := qA (q_1 34 (by decide +kernel)) rfl
theorem cd_X4_init : Cond.code yX4_init cX4_init 2 none ∈ ALL := qA (q_1 35 (by decide +kernel)) rfl
theorem ml_X4_3 : Cond.methodLink RX4 3 objectInit ∈ ALL := qA (q_1 36 (by decide +kernel)) rfl
theorem fl_X4_9 : Cond.fieldLink RX4 9 "RiddlePost$Zones" "parents" "[I" ∈ ALL := qA (q_1 37 (by decide +kernel)) rfl
theorem fl_X5_53 : Cond.fieldLink RX5 53 "RiddlePost$Zones" "parents" "[I" ∈ ALL := qA (q_1 38 (by decide +kernel)) rfl
theorem fl_X3_85 : Cond.fieldLink RX3 85 "RiddlePost$Zones" "parents" "[I" ∈ ALL := qA (q_1 39 (by decide +kernel)) rfl
theorem fl_X4_15 : Cond.fieldLink RX4 15 "RiddlePost$Zones" "referralAges" "[I" ∈ ALL := qA (q_1 40 (by decide +kernel)) rfl
theorem fl_X5_67 : Cond.fieldLink RX5 67 "RiddlePost$Zones" "referralAges" "[I" ∈ ALL := qA (q_1 41 (by decide +kernel)) rfl
theorem fl_X3_95 : Cond.fieldLink RX3 95 "RiddlePost$Zones" "referralAges" "[I" ∈ ALL := qA (q_1 42 (by decide +kernel)) rfl
theorem fl_X4_18 : Cond.fieldLink RX4 18 "RiddlePost$Zones" "refusalAges" "[I" ∈ ALL := qA (q_1 43 (by decide +kernel)) rfl
theorem fl_X5_70 : Cond.fieldLink RX5 70 "RiddlePost$Zones" "refusalAges" "[I" ∈ ALL := qA (q_1 44 (by decide +kernel)) rfl
theorem fl_X3_105 : Cond.fieldLink RX3 105 "RiddlePost$Zones" "refusalAges" "[I" ∈ ALL := qA (q_1 45 (by decide +kernel)) rfl
theorem ac_int : Cond.arrayClass .int ∈ ALL := qA (q_1 53 (by decide +kernel)) rfl
theorem cl_X3_18 : Cond.classLink RX3 18 RX2 ∈ ALL := qA (q_1 54 (by decide +kernel)) rfl
theorem ia_X2 : Cond.instantiable RX2 3 ∈ ALL := qA (q_1 55 (by decide +kernel)) rfl
theorem ml_X3_20 : Cond.methodLink RX3 20 yX2_init ∈ ALL := qA (q_1 56 (by decide +kernel)) rfl
theorem im_X2_init : Cond.instanceMethod yX2_init ∈ ALL := qA (q_1 57 (by decide +kernel)) rfl
theorem cd_X2_init : Cond.code yX2_init cX2_init 2 none ∈ ALL := qA (q_1 58 (by decide +kernel)) rfl
theorem ml_X2_3 : Cond.methodLink RX2 3 objectInit ∈ ALL := qA (q_1 59 (by decide +kernel)) rfl
theorem fl_X2_9 : Cond.fieldLink RX2 9 "RiddlePost$Replies" "kinds" "[I" ∈ ALL := qA (q_1 60 (by decide +kernel)) rfl
theorem fl_X2_15 : Cond.fieldLink RX2 15 "RiddlePost$Replies" "values" "[I" ∈ ALL := qA (q_1 61 (by decide +kernel)) rfl
theorem fl_X2_18 : Cond.fieldLink RX2 18 "RiddlePost$Replies" "ticks" "[I" ∈ ALL := qA (q_1 62 (by decide +kernel)) rfl
theorem cl_X3_32 : Cond.classLink RX3 32 RX0 ∈ ALL := qA (q_1 70 (by decide +kernel)) rfl
theorem ia_X0 : Cond.instantiable RX0 6 ∈ ALL := qA (q_1 71 (by decide +kernel)) rfl
theorem im_X0_init : Cond.instanceMethod yX0_init ∈ ALL := qA (q_1 73 (by decide +kernel)) rfl
theorem cd_X0_init : Cond.code yX0_init cX0_init 1 none ∈ ALL := qA (q_1 74 (by decide +kernel)) rfl
theorem ml_X0_3 : Cond.methodLink RX0 3 objectInit ∈ ALL := qA (q_1 75 (by decide +kernel)) rfl
theorem fl_X0_15 : Cond.fieldLink RX0 15 "RiddlePost$Accounts" "solved" "I" ∈ ALL := qA (q_1 76 (by decide +kernel)) rfl
theorem fl_X3_57 : Cond.fieldLink RX3 57 "RiddlePost$Accounts" "solved" "I" ∈ ALL := qA (q_1 77 (by decide +kernel)) rfl
theorem fl_X5_163 : Cond.fieldLink RX5 163 "RiddlePost$Accounts" "solved" "I" ∈ ALL := qA (q_1 78 (by decide +kernel)) rfl
theorem fl_X0_19 : Cond.fieldLink RX0 19 "RiddlePost$Accounts" "questions" "I" ∈ ALL := qA (q_1 79 (by decide +kernel)) rfl
theorem fl_X5_166 : Cond.fieldLink RX5 166 "RiddlePost$Accounts" "questions" "I" ∈ ALL := qA (q_1 80 (by decide +kernel)) rfl
theorem fl_X0_22 : Cond.fieldLink RX0 22 "RiddlePost$Accounts" "hits" "I" ∈ ALL := qA (q_1 81 (by decide +kernel)) rfl
theorem fl_X3_71 : Cond.fieldLink RX3 71 "RiddlePost$Accounts" "hits" "I" ∈ ALL := qA (q_1 82 (by decide +kernel)) rfl
theorem fl_X5_169 : Cond.fieldLink RX5 169 "RiddlePost$Accounts" "hits" "I" ∈ ALL := qA (q_1 83 (by decide +kernel)) rfl
theorem fl_X0_25 : Cond.fieldLink RX0 25 "RiddlePost$Accounts" "timesRemembered" "I" ∈ ALL := qA (q_1 84 (by decide +kernel)) rfl
theorem fl_X3_102 : Cond.fieldLink RX3 102 "RiddlePost$Accounts" "timesRemembered" "I" ∈ ALL := qA (q_1 85 (by decide +kernel)) rfl
theorem fl_X5_149 : Cond.fieldLink RX5 149 "RiddlePost$Accounts" "timesRemembered" "I" ∈ ALL := qA (q_1 86 (by decide +kernel)) rfl
theorem fl_X0_28 : Cond.fieldLink RX0 28 "RiddlePost$Accounts" "timesForgotten" "I" ∈ ALL := qA (q_1 87 (by decide +kernel)) rfl
theorem fl_X3_119 : Cond.fieldLink RX3 119 "RiddlePost$Accounts" "timesForgotten" "I" ∈ ALL := qA (q_1 88 (by decide +kernel)) rfl
theorem fl_X5_154 : Cond.fieldLink RX5 154 "RiddlePost$Accounts" "timesForgotten" "I" ∈ ALL := qA (q_1 89 (by decide +kernel)) rfl
theorem fl_X0_9 : Cond.fieldLink RX0 9 "RiddlePost$Accounts" "asked" "[I" ∈ ALL := qA (q_1 90 (by decide +kernel)) rfl
theorem fl_X5_172 : Cond.fieldLink RX5 172 "RiddlePost$Accounts" "asked" "[I" ∈ ALL := qA (q_1 91 (by decide +kernel)) rfl
theorem fl_X3_39 : Cond.fieldLink RX3 39 "RiddlePost$State" "time" "I" ∈ ALL := qA (q_1 105 (by decide +kernel)) rfl
theorem fl_X5_120 : Cond.fieldLink RX5 120 "RiddlePost$State" "time" "I" ∈ ALL := qA (q_1 106 (by decide +kernel)) rfl
theorem fl_X3_12 : Cond.fieldLink RX3 12 "RiddlePost$State" "zones" "LRiddlePost$Zones;" ∈ ALL := qA (q_1 107 (by decide +kernel)) rfl
theorem fl_X5_49 : Cond.fieldLink RX5 49 "RiddlePost$State" "zones" "LRiddlePost$Zones;" ∈ ALL := qA (q_1 108 (by decide +kernel)) rfl
theorem fl_X3_21 : Cond.fieldLink RX3 21 "RiddlePost$State" "truths" "LRiddlePost$Replies;" ∈ ALL := qA (q_1 109 (by decide +kernel)) rfl
theorem fl_X5_85 : Cond.fieldLink RX5 85 "RiddlePost$State" "truths" "LRiddlePost$Replies;" ∈ ALL := qA (q_1 110 (by decide +kernel)) rfl
theorem fl_X3_25 : Cond.fieldLink RX3 25 "RiddlePost$State" "memory" "LRiddlePost$Replies;" ∈ ALL := qA (q_1 111 (by decide +kernel)) rfl
theorem fl_X5_103 : Cond.fieldLink RX5 103 "RiddlePost$State" "memory" "LRiddlePost$Replies;" ∈ ALL := qA (q_1 112 (by decide +kernel)) rfl
theorem fl_X3_28 : Cond.fieldLink RX3 28 "RiddlePost$State" "referralEnds" "[I" ∈ ALL := qA (q_1 113 (by decide +kernel)) rfl
theorem fl_X5_138 : Cond.fieldLink RX5 138 "RiddlePost$State" "referralEnds" "[I" ∈ ALL := qA (q_1 114 (by decide +kernel)) rfl
theorem fl_X3_35 : Cond.fieldLink RX3 35 "RiddlePost$State" "accounts" "LRiddlePost$Accounts;" ∈ ALL := qA (q_1 115 (by decide +kernel)) rfl
theorem fl_X5_145 : Cond.fieldLink RX5 145 "RiddlePost$State" "accounts" "LRiddlePost$Accounts;" ∈ ALL := qA (q_1 116 (by decide +kernel)) rfl
theorem cl_X5_24 : Cond.classLink RX5 24 RX1 ∈ ALL := qA (q_1 131 (by decide +kernel)) rfl
theorem ia_X1 : Cond.instantiable RX1 5 ∈ ALL := qA (q_1 132 (by decide +kernel)) rfl
theorem im_X1_init : Cond.instanceMethod yX1_init ∈ ALL := qA (q_1 134 (by decide +kernel)) rfl
theorem cd_X1_init : Cond.code yX1_init cX1_init 1 none ∈ ALL := qA (q_1 135 (by decide +kernel)) rfl
theorem ml_X1_3 : Cond.methodLink RX1 3 objectInit ∈ ALL := qA (q_1 136 (by decide +kernel)) rfl
theorem fl_X1_9 : Cond.fieldLink RX1 9 "RiddlePost$ActText" "codes" "[I" ∈ ALL := qA (q_1 137 (by decide +kernel)) rfl
theorem fl_X1_21 : Cond.fieldLink RX1 21 "RiddlePost$ActText" "length" "I" ∈ ALL := qA (q_1 138 (by decide +kernel)) rfl
theorem fl_X5_185 : Cond.fieldLink RX5 185 "RiddlePost$ActText" "length" "I" ∈ ALL := qA (q_1 139 (by decide +kernel)) rfl
theorem fl_X1_15 : Cond.fieldLink RX1 15 "RiddlePost$ActText" "actSigns" "[I" ∈ ALL := qA (q_1 140 (by decide +kernel)) rfl
theorem fl_X5_285 : Cond.fieldLink RX5 285 "RiddlePost$ActText" "actSigns" "[I" ∈ ALL := qA (q_1 141 (by decide +kernel)) rfl
theorem fl_X1_18 : Cond.fieldLink RX1 18 "RiddlePost$ActText" "actNumbers" "[I" ∈ ALL := qA (q_1 142 (by decide +kernel)) rfl
theorem fl_X5_282 : Cond.fieldLink RX5 282 "RiddlePost$ActText" "actNumbers" "[I" ∈ ALL := qA (q_1 143 (by decide +kernel)) rfl
theorem fl_X1_29 : Cond.fieldLink RX1 29 "RiddlePost$ActText" "acts" "I" ∈ ALL := qA (q_1 144 (by decide +kernel)) rfl
theorem fl_X5_198 : Cond.fieldLink RX5 198 "RiddlePost$ActText" "acts" "I" ∈ ALL := qA (q_1 145 (by decide +kernel)) rfl
theorem fl_X5_10 : Cond.fieldLink RX5 10 "RiddlePost" "now" "LRiddlePost$State;" ∈ ALL := qA (q_1 157 (by decide +kernel)) rfl
theorem fl_X5_16 : Cond.fieldLink RX5 16 "RiddlePost" "saved" "[LRiddlePost$State;" ∈ ALL := qA (q_1 158 (by decide +kernel)) rfl
theorem fl_X5_20 : Cond.fieldLink RX5 20 "RiddlePost" "savedCount" "I" ∈ ALL := qA (q_1 159 (by decide +kernel)) rfl
theorem fl_X5_27 : Cond.fieldLink RX5 27 "RiddlePost" "text" "LRiddlePost$ActText;" ∈ ALL := qA (q_1 160 (by decide +kernel)) rfl
theorem ml_L_128 : Cond.methodLink RL 128 yX5_time ∈ ALL := qA (q_1 170 (by decide +kernel)) rfl
theorem im_X5_time : Cond.instanceMethod yX5_time ∈ ALL := qA (q_1 171 (by decide +kernel)) rfl
theorem sl_X5_time : Cond.selects RX5 yX5_time yX5_time ∈ ALL := qA (q_1 172 (by decide +kernel)) rfl
theorem cd_X5_time : Cond.code yX5_time cX5_time 1 (some .int) ∈ ALL := qA (q_1 173 (by decide +kernel)) rfl
theorem ml_L_156 : Cond.methodLink RL 156 yX5_remembered ∈ ALL := qA (q_1 174 (by decide +kernel)) rfl
theorem im_X5_remembered : Cond.instanceMethod yX5_remembered ∈ ALL := qA (q_1 175 (by decide +kernel)) rfl
theorem sl_X5_remembered : Cond.selects RX5 yX5_remembered yX5_remembered ∈ ALL := qA (q_1 176 (by decide +kernel)) rfl
theorem cd_X5_remembered : Cond.code yX5_remembered cX5_remembered 1 (some .int) ∈ ALL := qA (q_1 177 (by decide +kernel)) rfl
theorem ml_X5_141 : Cond.methodLink RX5 141 yX3_countMemory ∈ ALL := qA (q_1 178 (by decide +kernel)) rfl
theorem im_X3_countMemory : Cond.instanceMethod yX3_countMemory ∈ ALL := qA (q_1 179 (by decide +kernel)) rfl
theorem sl_X3_countMemory : Cond.selects RX3 yX3_countMemory yX3_countMemory ∈ ALL := qA (q_1 180 (by decide +kernel)) rfl
theorem cd_X3_countMemory : Cond.code yX3_countMemory cX3_countMemory 3 (some .int) ∈ ALL := qA (q_1 181 (by decide +kernel)) rfl
theorem st_X5_read : Cond.static yX5_read ∈ ALL := qA (q_1 183 (by decide +kernel)) rfl
theorem cd_X5_read : Cond.code yX5_read cX5_read 2 (some .int) ∈ ALL := qA (q_1 184 (by decide +kernel)) rfl
theorem ml_X3_64 : Cond.methodLink RX3 64 yX2_kind ∈ ALL := qA (q_1 185 (by decide +kernel)) rfl
theorem im_X2_kind : Cond.instanceMethod yX2_kind ∈ ALL := qA (q_1 186 (by decide +kernel)) rfl
theorem sl_X2_kind : Cond.selects RX2 yX2_kind yX2_kind ∈ ALL := qA (q_1 187 (by decide +kernel)) rfl
theorem cd_X2_kind : Cond.code yX2_kind cX2_kind 2 (some .int) ∈ ALL := qA (q_1 188 (by decide +kernel)) rfl
theorem ml_L_160 : Cond.methodLink RL 160 yX5_rememberedByAccount ∈ ALL := qA (q_1 190 (by decide +kernel)) rfl
theorem im_X5_rememberedByAccount : Cond.instanceMethod yX5_rememberedByAccount ∈ ALL := qA (q_1 191 (by decide +kernel)) rfl
theorem sl_X5_rememberedByAccount : Cond.selects RX5 yX5_rememberedByAccount yX5_rememberedByAccount ∈ ALL := qA (q_1 192 (by decide +kernel)) rfl
theorem cd_X5_rememberedByAccount : Cond.code yX5_rememberedByAccount cX5_rememberedByAccount 1 (some .int) ∈ ALL := qA (q_1 193 (by decide +kernel)) rfl
theorem ml_L_164 : Cond.methodLink RL 164 yX5_ticksUntilForgetting ∈ ALL := qA (q_1 194 (by decide +kernel)) rfl
theorem im_X5_ticksUntilForgetting : Cond.instanceMethod yX5_ticksUntilForgetting ∈ ALL := qA (q_1 195 (by decide +kernel)) rfl
theorem sl_X5_ticksUntilForgetting : Cond.selects RX5 yX5_ticksUntilForgetting yX5_ticksUntilForgetting ∈ ALL := qA (q_1 196 (by decide +kernel)) rfl
theorem cd_X5_ticksUntilForgetting : Cond.code yX5_ticksUntilForgetting cX5_ticksUntilForgetting 1 (some .int) ∈ ALL := qA (q_1 197 (by decide +kernel)) rfl
theorem ml_X5_157 : Cond.methodLink RX5 157 yX3_nextEnd ∈ ALL := qA (q_1 198 (by decide +kernel)) rfl
theorem im_X3_nextEnd : Cond.instanceMethod yX3_nextEnd ∈ ALL := qA (q_1 199 (by decide +kernel)) rfl
theorem sl_X3_nextEnd : Cond.selects RX3 yX3_nextEnd yX3_nextEnd ∈ ALL := qA (q_1 200 (by decide +kernel)) rfl
theorem cd_X3_nextEnd : Cond.code yX3_nextEnd cX3_nextEnd 3 (some .int) ∈ ALL := qA (q_1 201 (by decide +kernel)) rfl
theorem ml_X3_132 : Cond.methodLink RX3 132 yX3_earlierEnd ∈ ALL := qA (q_1 202 (by decide +kernel)) rfl
theorem st_X3_earlierEnd : Cond.static yX3_earlierEnd ∈ ALL := qA (q_1 203 (by decide +kernel)) rfl
theorem cd_X3_earlierEnd : Cond.code yX3_earlierEnd cX3_earlierEnd 2 (some .int) ∈ ALL := qA (q_1 204 (by decide +kernel)) rfl
theorem ml_X3_135 : Cond.methodLink RX3 135 yJ9_min_7cf53 ∈ ALL := qA (q_1 205 (by decide +kernel)) rfl
theorem st_J9_min_7cf53 : Cond.static yJ9_min_7cf53 ∈ ALL := qA (q_1 206 (by decide +kernel)) rfl
theorem cd_J9_min_7cf53 : Cond.code yJ9_min_7cf53 cJ9_min_7cf53 2 (some .int) ∈ ALL := qA (q_1 207 (by decide +kernel)) rfl
theorem ml_X3_112 : Cond.methodLink RX3 112 yX2_ticks ∈ ALL := qA (q_1 208 (by decide +kernel)) rfl
theorem im_X2_ticks : Cond.instanceMethod yX2_ticks ∈ ALL := qA (q_1 209 (by decide +kernel)) rfl
theorem sl_X2_ticks : Cond.selects RX2 yX2_ticks yX2_ticks ∈ ALL := qA (q_1 210 (by decide +kernel)) rfl
theorem cd_X2_ticks : Cond.code yX2_ticks cX2_ticks 2 (some .int) ∈ ALL := qA (q_1 211 (by decide +kernel)) rfl
theorem ml_X5_135 : Cond.methodLink RX5 135 yX3_ticksTo ∈ ALL := qA (q_1 212 (by decide +kernel)) rfl
theorem im_X3_ticksTo : Cond.instanceMethod yX3_ticksTo ∈ ALL := qA (q_1 213 (by decide +kernel)) rfl
theorem sl_X3_ticksTo : Cond.selects RX3 yX3_ticksTo yX3_ticksTo ∈ ALL := qA (q_1 214 (by decide +kernel)) rfl
theorem cd_X3_ticksTo : Cond.code yX3_ticksTo cX3_ticksTo 2 (some .int) ∈ ALL := qA (q_1 215 (by decide +kernel)) rfl
theorem ml_L_171 : Cond.methodLink RL 171 yX5_solved ∈ ALL := qA (q_1 216 (by decide +kernel)) rfl
theorem im_X5_solved : Cond.instanceMethod yX5_solved ∈ ALL := qA (q_1 217 (by decide +kernel)) rfl
theorem sl_X5_solved : Cond.selects RX5 yX5_solved yX5_solved ∈ ALL := qA (q_1 218 (by decide +kernel)) rfl
theorem cd_X5_solved : Cond.code yX5_solved cX5_solved 1 (some .int) ∈ ALL := qA (q_1 219 (by decide +kernel)) rfl
theorem ml_L_175 : Cond.methodLink RL 175 yX5_questions ∈ ALL := qA (q_1 220 (by decide +kernel)) rfl
theorem im_X5_questions : Cond.instanceMethod yX5_questions ∈ ALL := qA (q_1 221 (by decide +kernel)) rfl
theorem sl_X5_questions : Cond.selects RX5 yX5_questions yX5_questions ∈ ALL := qA (q_1 222 (by decide +kernel)) rfl
theorem cd_X5_questions : Cond.code yX5_questions cX5_questions 1 (some .int) ∈ ALL := qA (q_1 223 (by decide +kernel)) rfl
theorem ml_L_179 : Cond.methodLink RL 179 yX5_hits ∈ ALL := qA (q_1 224 (by decide +kernel)) rfl
theorem im_X5_hits : Cond.instanceMethod yX5_hits ∈ ALL := qA (q_1 225 (by decide +kernel)) rfl
theorem sl_X5_hits : Cond.selects RX5 yX5_hits yX5_hits ∈ ALL := qA (q_1 226 (by decide +kernel)) rfl
theorem cd_X5_hits : Cond.code yX5_hits cX5_hits 1 (some .int) ∈ ALL := qA (q_1 227 (by decide +kernel)) rfl
theorem ml_L_186 : Cond.methodLink RL 186 yX5_meanQuestions ∈ ALL := qA (q_1 228 (by decide +kernel)) rfl
theorem im_X5_meanQuestions : Cond.instanceMethod yX5_meanQuestions ∈ ALL := qA (q_1 229 (by decide +kernel)) rfl
theorem sl_X5_meanQuestions : Cond.selects RX5 yX5_meanQuestions yX5_meanQuestions ∈ ALL := qA (q_1 230 (by decide +kernel)) rfl
theorem cd_X5_meanQuestions : Cond.code yX5_meanQuestions cX5_meanQuestions 2 (some .double) ∈ ALL := qA (q_1 231 (by decide +kernel)) rfl
theorem ml_L_203 : Cond.methodLink RL 203 yX5_clearText ∈ ALL := qA (q_1 232 (by decide +kernel)) rfl
theorem im_X5_clearText : Cond.instanceMethod yX5_clearText ∈ ALL := qA (q_1 233 (by decide +kernel)) rfl
theorem sl_X5_clearText : Cond.selects RX5 yX5_clearText yX5_clearText ∈ ALL := qA (q_1 234 (by decide +kernel)) rfl
theorem cd_X5_clearText : Cond.code yX5_clearText cX5_clearText 2 (some .int) ∈ ALL := qA (q_1 235 (by decide +kernel)) rfl
theorem ml_L_207 : Cond.methodLink RL 207 yX5_firstError ∈ ALL := qA (q_1 236 (by decide +kernel)) rfl
theorem im_X5_firstError : Cond.instanceMethod yX5_firstError ∈ ALL := qA (q_1 237 (by decide +kernel)) rfl
theorem sl_X5_firstError : Cond.selects RX5 yX5_firstError yX5_firstError ∈ ALL := qA (q_1 238 (by decide +kernel)) rfl
theorem cd_X5_firstError : Cond.code yX5_firstError cX5_firstError 1 (some .int) ∈ ALL := qA (q_1 239 (by decide +kernel)) rfl
theorem ml_X5_193 : Cond.methodLink RX5 193 yX1_readActs ∈ ALL := qA (q_2 0 (by decide +kernel)) rfl
theorem im_X1_readActs : Cond.instanceMethod yX1_readActs ∈ ALL := qA (q_2 1 (by decide +kernel)) rfl
theorem sl_X1_readActs : Cond.selects RX1 yX1_readActs yX1_readActs ∈ ALL := qA (q_2 2 (by decide +kernel)) rfl
theorem cd_X1_readActs : Cond.code yX1_readActs cX1_readActs 5 (some .int) ∈ ALL := qA (q_2 3 (by decide +kernel)) rfl
theorem ml_X1_36 : Cond.methodLink RX1 36 yX1_addAct ∈ ALL := qA (q_2 5 (by decide +kernel)) rfl
theorem im_X1_addAct : Cond.instanceMethod yX1_addAct ∈ ALL := qA (q_2 7 (by decide +kernel)) rfl
theorem cd_X1_addAct : Cond.code yX1_addAct cX1_addAct 3 none ∈ ALL := qA (q_2 8 (by decide +kernel)) rfl
theorem st_X5_write : Cond.static yX5_write ∈ ALL := qA (q_2 10 (by decide +kernel)) rfl
theorem cd_X5_write : Cond.code yX5_write cX5_write 3 none ∈ ALL := qA (q_2 11 (by decide +kernel)) rfl
theorem ml_X1_40 : Cond.methodLink RX1 40 yX1_withDigit ∈ ALL := qA (q_2 12 (by decide +kernel)) rfl
theorem st_X1_withDigit : Cond.static yX1_withDigit ∈ ALL := qA (q_2 13 (by decide +kernel)) rfl
theorem cd_X1_withDigit : Cond.code yX1_withDigit cX1_withDigit 7 (some .int) ∈ ALL := qA (q_2 14 (by decide +kernel)) rfl
theorem ml_L_218 : Cond.methodLink RL 218 yX5_digest ∈ ALL := qA (q_2 15 (by decide +kernel)) rfl
theorem im_X5_digest : Cond.instanceMethod yX5_digest ∈ ALL := qA (q_2 16 (by decide +kernel)) rfl
theorem sl_X5_digest : Cond.selects RX5 yX5_digest yX5_digest ∈ ALL := qA (q_2 17 (by decide +kernel)) rfl
theorem cd_X5_digest : Cond.code yX5_digest cX5_digest 4 (some .long) ∈ ALL := qA (q_2 18 (by decide +kernel)) rfl
theorem kl_X5_214 : Cond.constantLong RX5 214 (725) ∈ ALL := qA (q_2 19 (by decide +kernel)) rfl
theorem ml_X5_216 : Cond.methodLink RX5 216 yX5_time ∈ ALL := qA (q_2 20 (by decide +kernel)) rfl
theorem ml_X5_218 : Cond.methodLink RX5 218 yX5_mix ∈ ALL := qA (q_2 21 (by decide +kernel)) rfl
theorem st_X5_mix : Cond.static yX5_mix ∈ ALL := qA (q_2 22 (by decide +kernel)) rfl
theorem cd_X5_mix : Cond.code yX5_mix cX5_mix 3 (some .long) ∈ ALL := qA (q_2 23 (by decide +kernel)) rfl
theorem kl_X5_276 : Cond.constantLong RX5 276 (31) ∈ ALL := qA (q_2 24 (by decide +kernel)) rfl
theorem ml_X5_222 : Cond.methodLink RX5 222 yX5_remembered ∈ ALL := qA (q_2 25 (by decide +kernel)) rfl
theorem ml_X5_225 : Cond.methodLink RX5 225 yX5_ticksUntilForgetting ∈ ALL := qA (q_2 26 (by decide +kernel)) rfl
theorem ml_X5_228 : Cond.methodLink RX5 228 yX5_solved ∈ ALL := qA (q_2 27 (by decide +kernel)) rfl
theorem ml_X5_230 : Cond.methodLink RX5 230 yX5_questions ∈ ALL := qA (q_2 28 (by decide +kernel)) rfl
theorem ml_X5_232 : Cond.methodLink RX5 232 yX5_hits ∈ ALL := qA (q_2 29 (by decide +kernel)) rfl
theorem ml_X5_234 : Cond.methodLink RX5 234 yX5_mixZone ∈ ALL := qA (q_2 30 (by decide +kernel)) rfl
theorem im_X5_mixZone : Cond.instanceMethod yX5_mixZone ∈ ALL := qA (q_2 32 (by decide +kernel)) rfl
theorem cd_X5_mixZone : Cond.code yX5_mixZone cX5_mixZone 6 (some .long) ∈ ALL := qA (q_2 33 (by decide +kernel)) rfl
theorem ml_X5_240 : Cond.methodLink RX5 240 yX5_parentOf ∈ ALL := qA (q_2 34 (by decide +kernel)) rfl
theorem im_X5_parentOf : Cond.instanceMethod yX5_parentOf ∈ ALL := qA (q_2 35 (by decide +kernel)) rfl
theorem sl_X5_parentOf : Cond.selects RX5 yX5_parentOf yX5_parentOf ∈ ALL := qA (q_2 36 (by decide +kernel)) rfl
theorem cd_X5_parentOf : Cond.code yX5_parentOf cX5_parentOf 2 (some .int) ∈ ALL := qA (q_2 37 (by decide +kernel)) rfl
theorem ml_X5_31 : Cond.methodLink RX5 31 yX5_requireZone ∈ ALL := qA (q_2 38 (by decide +kernel)) rfl
theorem st_X5_requireZone : Cond.static yX5_requireZone ∈ ALL := qA (q_2 39 (by decide +kernel)) rfl
theorem cd_X5_requireZone : Cond.code yX5_requireZone cX5_requireZone 1 none ∈ ALL := qA (q_2 40 (by decide +kernel)) rfl
theorem cl_X5_35 : Cond.classLink RX5 35 "java/lang/IndexOutOfBoundsException" ∈ ALL := qA (q_2 41 (by decide +kernel)) rfl
theorem ia_IndexOutOfBoundsException : Cond.instantiable "java/lang/IndexOutOfBoundsException" 6 ∈ ALL := qA (q_2 42 (by decide +kernel)) rfl
theorem ia_Throwable : Cond.instantiable "java/lang/Throwable" 6 ∈ ALL := qA (q_2 80 (by decide +kernel)) rfl
theorem ac_byte : Cond.arrayClass .byte ∈ ALL := qA (q_2 108 (by decide +kernel)) rfl
theorem ml_X5_59 : Cond.methodLink RX5 59 yX5_read ∈ ALL := qA (q_2 109 (by decide +kernel)) rfl
theorem ml_X5_243 : Cond.methodLink RX5 243 yX5_depthOf ∈ ALL := qA (q_2 110 (by decide +kernel)) rfl
theorem im_X5_depthOf : Cond.instanceMethod yX5_depthOf ∈ ALL := qA (q_2 111 (by decide +kernel)) rfl
theorem sl_X5_depthOf : Cond.selects RX5 yX5_depthOf yX5_depthOf ∈ ALL := qA (q_2 112 (by decide +kernel)) rfl
theorem cd_X5_depthOf : Cond.code yX5_depthOf cX5_depthOf 2 (some .int) ∈ ALL := qA (q_2 113 (by decide +kernel)) rfl
theorem ml_X5_123 : Cond.methodLink RX5 123 yX4_stepsToRoot ∈ ALL := qA (q_2 114 (by decide +kernel)) rfl
theorem im_X4_stepsToRoot : Cond.instanceMethod yX4_stepsToRoot ∈ ALL := qA (q_2 115 (by decide +kernel)) rfl
theorem sl_X4_stepsToRoot : Cond.selects RX4 yX4_stepsToRoot yX4_stepsToRoot ∈ ALL := qA (q_2 116 (by decide +kernel)) rfl
theorem cd_X4_stepsToRoot : Cond.code yX4_stepsToRoot cX4_stepsToRoot 4 (some .int) ∈ ALL := qA (q_2 117 (by decide +kernel)) rfl
theorem ml_X5_246 : Cond.methodLink RX5 246 yX5_referralLeft ∈ ALL := qA (q_2 119 (by decide +kernel)) rfl
theorem im_X5_referralLeft : Cond.instanceMethod yX5_referralLeft ∈ ALL := qA (q_2 120 (by decide +kernel)) rfl
theorem sl_X5_referralLeft : Cond.selects RX5 yX5_referralLeft yX5_referralLeft ∈ ALL := qA (q_2 121 (by decide +kernel)) rfl
theorem cd_X5_referralLeft : Cond.code yX5_referralLeft cX5_referralLeft 2 (some .int) ∈ ALL := qA (q_2 122 (by decide +kernel)) rfl
theorem ml_X5_249 : Cond.methodLink RX5 249 yX5_questionsTo ∈ ALL := qA (q_2 123 (by decide +kernel)) rfl
theorem im_X5_questionsTo : Cond.instanceMethod yX5_questionsTo ∈ ALL := qA (q_2 124 (by decide +kernel)) rfl
theorem sl_X5_questionsTo : Cond.selects RX5 yX5_questionsTo yX5_questionsTo ∈ ALL := qA (q_2 125 (by decide +kernel)) rfl
theorem cd_X5_questionsTo : Cond.code yX5_questionsTo cX5_questionsTo 2 (some .int) ∈ ALL := qA (q_2 126 (by decide +kernel)) rfl
theorem ml_X5_237 : Cond.methodLink RX5 237 yX5_mixRiddle ∈ ALL := qA (q_2 127 (by decide +kernel)) rfl
theorem im_X5_mixRiddle : Cond.instanceMethod yX5_mixRiddle ∈ ALL := qA (q_2 129 (by decide +kernel)) rfl
theorem cd_X5_mixRiddle : Cond.code yX5_mixRiddle cX5_mixRiddle 6 (some .long) ∈ ALL := qA (q_2 130 (by decide +kernel)) rfl
theorem ml_X5_252 : Cond.methodLink RX5 252 yX5_kindOf ∈ ALL := qA (q_2 131 (by decide +kernel)) rfl
theorem im_X5_kindOf : Cond.instanceMethod yX5_kindOf ∈ ALL := qA (q_2 132 (by decide +kernel)) rfl
theorem sl_X5_kindOf : Cond.selects RX5 yX5_kindOf yX5_kindOf ∈ ALL := qA (q_2 133 (by decide +kernel)) rfl
theorem cd_X5_kindOf : Cond.code yX5_kindOf cX5_kindOf 2 (some .int) ∈ ALL := qA (q_2 134 (by decide +kernel)) rfl
theorem ml_X5_73 : Cond.methodLink RX5 73 yX5_requireRiddle ∈ ALL := qA (q_2 135 (by decide +kernel)) rfl
theorem st_X5_requireRiddle : Cond.static yX5_requireRiddle ∈ ALL := qA (q_2 136 (by decide +kernel)) rfl
theorem cd_X5_requireRiddle : Cond.code yX5_requireRiddle cX5_requireRiddle 1 none ∈ ALL := qA (q_2 137 (by decide +kernel)) rfl
theorem ml_X5_89 : Cond.methodLink RX5 89 yX2_kind ∈ ALL := qA (q_2 139 (by decide +kernel)) rfl
theorem ml_X5_255 : Cond.methodLink RX5 255 yX5_valueOf ∈ ALL := qA (q_2 140 (by decide +kernel)) rfl
theorem im_X5_valueOf : Cond.instanceMethod yX5_valueOf ∈ ALL := qA (q_2 141 (by decide +kernel)) rfl
theorem sl_X5_valueOf : Cond.selects RX5 yX5_valueOf yX5_valueOf ∈ ALL := qA (q_2 142 (by decide +kernel)) rfl
theorem cd_X5_valueOf : Cond.code yX5_valueOf cX5_valueOf 2 (some .int) ∈ ALL := qA (q_2 143 (by decide +kernel)) rfl
theorem ml_X5_126 : Cond.methodLink RX5 126 yX2_value ∈ ALL := qA (q_2 144 (by decide +kernel)) rfl
theorem im_X2_value : Cond.instanceMethod yX2_value ∈ ALL := qA (q_2 145 (by decide +kernel)) rfl
theorem sl_X2_value : Cond.selects RX2 yX2_value yX2_value ∈ ALL := qA (q_2 146 (by decide +kernel)) rfl
theorem cd_X2_value : Cond.code yX2_value cX2_value 2 (some .int) ∈ ALL := qA (q_2 147 (by decide +kernel)) rfl
theorem ml_X5_258 : Cond.methodLink RX5 258 yX5_truthOf ∈ ALL := qA (q_2 148 (by decide +kernel)) rfl
theorem im_X5_truthOf : Cond.instanceMethod yX5_truthOf ∈ ALL := qA (q_2 149 (by decide +kernel)) rfl
theorem sl_X5_truthOf : Cond.selects RX5 yX5_truthOf yX5_truthOf ∈ ALL := qA (q_2 150 (by decide +kernel)) rfl
theorem cd_X5_truthOf : Cond.code yX5_truthOf cX5_truthOf 2 (some .int) ∈ ALL := qA (q_2 151 (by decide +kernel)) rfl
theorem ml_X5_129 : Cond.methodLink RX5 129 yX3_trueResult ∈ ALL := qA (q_2 152 (by decide +kernel)) rfl
theorem im_X3_trueResult : Cond.instanceMethod yX3_trueResult ∈ ALL := qA (q_2 153 (by decide +kernel)) rfl
theorem sl_X3_trueResult : Cond.selects RX3 yX3_trueResult yX3_trueResult ∈ ALL := qA (q_2 154 (by decide +kernel)) rfl
theorem cd_X3_trueResult : Cond.code yX3_trueResult cX3_trueResult 2 (some .int) ∈ ALL := qA (q_2 155 (by decide +kernel)) rfl
theorem ml_X3_140 : Cond.methodLink RX3 140 yX3_resultAfter ∈ ALL := qA (q_2 156 (by decide +kernel)) rfl
theorem im_X3_resultAfter : Cond.instanceMethod yX3_resultAfter ∈ ALL := qA (q_2 157 (by decide +kernel)) rfl
theorem sl_X3_resultAfter : Cond.selects RX3 yX3_resultAfter yX3_resultAfter ∈ ALL := qA (q_2 158 (by decide +kernel)) rfl
theorem cd_X3_resultAfter : Cond.code yX3_resultAfter cX3_resultAfter 6 (some .int) ∈ ALL := qA (q_2 159 (by decide +kernel)) rfl
theorem ml_X3_68 : Cond.methodLink RX3 68 yX2_value ∈ ALL := qA (q_2 160 (by decide +kernel)) rfl
theorem ml_X5_261 : Cond.methodLink RX5 261 yX5_rememberedOf ∈ ALL := qA (q_2 161 (by decide +kernel)) rfl
theorem im_X5_rememberedOf : Cond.instanceMethod yX5_rememberedOf ∈ ALL := qA (q_2 162 (by decide +kernel)) rfl
theorem sl_X5_rememberedOf : Cond.selects RX5 yX5_rememberedOf yX5_rememberedOf ∈ ALL := qA (q_2 163 (by decide +kernel)) rfl
theorem cd_X5_rememberedOf : Cond.code yX5_rememberedOf cX5_rememberedOf 2 (some .int) ∈ ALL := qA (q_2 164 (by decide +kernel)) rfl
theorem ml_X5_264 : Cond.methodLink RX5 264 yX5_ticksLeftOf ∈ ALL := qA (q_2 165 (by decide +kernel)) rfl
theorem im_X5_ticksLeftOf : Cond.instanceMethod yX5_ticksLeftOf ∈ ALL := qA (q_2 166 (by decide +kernel)) rfl
theorem sl_X5_ticksLeftOf : Cond.selects RX5 yX5_ticksLeftOf yX5_ticksLeftOf ∈ ALL := qA (q_2 167 (by decide +kernel)) rfl
theorem cd_X5_ticksLeftOf : Cond.code yX5_ticksLeftOf cX5_ticksLeftOf 2 (some .int) ∈ ALL := qA (q_2 168 (by decide +kernel)) rfl
theorem ml_X5_132 : Cond.methodLink RX5 132 yX2_ticks ∈ ALL := qA (q_2 169 (by decide +kernel)) rfl
theorem ml_X5_267 : Cond.methodLink RX5 267 yX5_isOutOfDate ∈ ALL := qA (q_2 170 (by decide +kernel)) rfl
theorem im_X5_isOutOfDate : Cond.instanceMethod yX5_isOutOfDate ∈ ALL := qA (q_2 171 (by decide +kernel)) rfl
theorem sl_X5_isOutOfDate : Cond.selects RX5 yX5_isOutOfDate yX5_isOutOfDate ∈ ALL := qA (q_2 172 (by decide +kernel)) rfl
theorem cd_X5_isOutOfDate : Cond.code yX5_isOutOfDate cX5_isOutOfDate 2 (some .boolean) ∈ ALL := qA (q_2 173 (by decide +kernel)) rfl
theorem ml_X5_160 : Cond.methodLink RX5 160 yX3_differsFromTruth ∈ ALL := qA (q_2 174 (by decide +kernel)) rfl
theorem im_X3_differsFromTruth : Cond.instanceMethod yX3_differsFromTruth ∈ ALL := qA (q_2 175 (by decide +kernel)) rfl
theorem sl_X3_differsFromTruth : Cond.selects RX3 yX3_differsFromTruth yX3_differsFromTruth ∈ ALL := qA (q_2 176 (by decide +kernel)) rfl
theorem cd_X3_differsFromTruth : Cond.code yX3_differsFromTruth cX3_differsFromTruth 4 (some .boolean) ∈ ALL := qA (q_2 177 (by decide +kernel)) rfl
theorem ml_X5_270 : Cond.methodLink RX5 270 yX5_wouldSolve ∈ ALL := qA (q_2 178 (by decide +kernel)) rfl
theorem im_X5_wouldSolve : Cond.instanceMethod yX5_wouldSolve ∈ ALL := qA (q_2 179 (by decide +kernel)) rfl
theorem sl_X5_wouldSolve : Cond.selects RX5 yX5_wouldSolve yX5_wouldSolve ∈ ALL := qA (q_2 180 (by decide +kernel)) rfl
theorem cd_X5_wouldSolve : Cond.code yX5_wouldSolve cX5_wouldSolve 2 (some .int) ∈ ALL := qA (q_2 181 (by decide +kernel)) rfl
theorem ml_X5_175 : Cond.methodLink RX5 175 yX3_resultAfter ∈ ALL := qA (q_2 182 (by decide +kernel)) rfl
theorem ml_X5_273 : Cond.methodLink RX5 273 yX5_costOf ∈ ALL := qA (q_2 183 (by decide +kernel)) rfl
theorem im_X5_costOf : Cond.instanceMethod yX5_costOf ∈ ALL := qA (q_2 184 (by decide +kernel)) rfl
theorem sl_X5_costOf : Cond.selects RX5 yX5_costOf yX5_costOf ∈ ALL := qA (q_2 185 (by decide +kernel)) rfl
theorem cd_X5_costOf : Cond.code yX5_costOf cX5_costOf 2 (some .int) ∈ ALL := qA (q_2 186 (by decide +kernel)) rfl
theorem ml_X5_179 : Cond.methodLink RX5 179 yX3_countQuestions ∈ ALL := qA (q_2 187 (by decide +kernel)) rfl
theorem im_X3_countQuestions : Cond.instanceMethod yX3_countQuestions ∈ ALL := qA (q_2 188 (by decide +kernel)) rfl
theorem sl_X3_countQuestions : Cond.selects RX3 yX3_countQuestions yX3_countQuestions ∈ ALL := qA (q_2 189 (by decide +kernel)) rfl
theorem cd_X3_countQuestions : Cond.code yX3_countQuestions cX3_countQuestions 10 (some .int) ∈ ALL := qA (q_2 190 (by decide +kernel)) rfl
theorem ml_X3_81 : Cond.methodLink RX3 81 yX3_lackingReferrals ∈ ALL := qA (q_2 191 (by decide +kernel)) rfl
theorem im_X3_lackingReferrals : Cond.instanceMethod yX3_lackingReferrals ∈ ALL := qA (q_2 193 (by decide +kernel)) rfl
theorem cd_X3_lackingReferrals : Cond.code yX3_lackingReferrals cX3_lackingReferrals 6 (some .int) ∈ ALL := qA (q_2 194 (by decide +kernel)) rfl
theorem ml_X3_115 : Cond.methodLink RX3 115 yX3_lacksReferral ∈ ALL := qA (q_2 195 (by decide +kernel)) rfl
theorem im_X3_lacksReferral : Cond.instanceMethod yX3_lacksReferral ∈ ALL := qA (q_2 197 (by decide +kernel)) rfl
theorem cd_X3_lacksReferral : Cond.code yX3_lacksReferral cX3_lacksReferral 3 (some .boolean) ∈ ALL := qA (q_2 198 (by decide +kernel)) rfl
theorem ml_X3_146 : Cond.methodLink RX3 146 yJ6_bitCount_0f7a4 ∈ ALL := qA (q_2 199 (by decide +kernel)) rfl
theorem st_J6_bitCount_0f7a4 : Cond.static yJ6_bitCount_0f7a4 ∈ ALL := qA (q_2 200 (by decide +kernel)) rfl
theorem cd_J6_bitCount_0f7a4 : Cond.code yJ6_bitCount_0f7a4 cJ6_bitCount_0f7a4 1 (some .int) ∈ ALL := qA (q_2 201 (by decide +kernel)) rfl
theorem ki_J6_265 : Cond.constant RJ6 265 (1431655765) ∈ ALL := qA (q_2 202 (by decide +kernel)) rfl
theorem ki_J6_266 : Cond.constant RJ6 266 (858993459) ∈ ALL := qA (q_2 203 (by decide +kernel)) rfl
theorem ki_J6_267 : Cond.constant RJ6 267 (252645135) ∈ ALL := qA (q_2 204 (by decide +kernel)) rfl
theorem ml_L_96 : Cond.methodLink RL 96 yL_setParent ∈ ALL := qA (q_2 205 (by decide +kernel)) rfl
theorem st_L_setParent : Cond.static yL_setParent ∈ ALL := qA (q_2 206 (by decide +kernel)) rfl
theorem cd_L_setParent : Cond.codeWith yL_setParent cL_setParent 5 (some .int) [(0, 10, 13, 13), (0, 10, 17, 15)] ∈ ALL := qA (q_2 207 (by decide +kernel)) rfl
theorem cl_L_13 : Cond.classLink RL 13 "java/lang/IndexOutOfBoundsException" ∈ ALL := qA (q_2 208 (by decide +kernel)) rfl
theorem cl_L_15 : Cond.classLink RL 15 "java/lang/IllegalArgumentException" ∈ ALL := qA (q_2 209 (by decide +kernel)) rfl
theorem ml_L_7 : Cond.methodLink RL 7 yX5_setParent ∈ ALL := qA (q_2 210 (by decide +kernel)) rfl
theorem im_X5_setParent : Cond.instanceMethod yX5_setParent ∈ ALL := qA (q_2 211 (by decide +kernel)) rfl
theorem sl_X5_setParent : Cond.selects RX5 yX5_setParent yX5_setParent ∈ ALL := qA (q_2 212 (by decide +kernel)) rfl
theorem cd_X5_setParent : Cond.code yX5_setParent cX5_setParent 4 (some .int) ∈ ALL := qA (q_2 213 (by decide +kernel)) rfl
theorem ml_X5_42 : Cond.methodLink RX5 42 yX5_requireRange ∈ ALL := qA (q_2 215 (by decide +kernel)) rfl
theorem st_X5_requireRange : Cond.static yX5_requireRange ∈ ALL := qA (q_2 216 (by decide +kernel)) rfl
theorem cd_X5_requireRange : Cond.code yX5_requireRange cX5_requireRange 3 none ∈ ALL := qA (q_2 217 (by decide +kernel)) rfl
theorem cl_X5_80 : Cond.classLink RX5 80 "java/lang/IllegalArgumentException" ∈ ALL := qA (q_2 218 (by decide +kernel)) rfl
theorem ia_IllegalArgumentException : Cond.instantiable "java/lang/IllegalArgumentException" 6 ∈ ALL := qA (q_2 219 (by decide +kernel)) rfl
theorem ml_X5_46 : Cond.methodLink RX5 46 yX5_save ∈ ALL := qA (q_2 234 (by decide +kernel)) rfl
theorem im_X5_save : Cond.instanceMethod yX5_save ∈ ALL := qA (q_2 236 (by decide +kernel)) rfl
theorem cd_X5_save : Cond.code yX5_save cX5_save 2 none ∈ ALL := qA (q_2 237 (by decide +kernel)) rfl
theorem ml_X5_288 : Cond.methodLink RX5 288 yX5_moveOldestToEnd ∈ ALL := qA (q_2 238 (by decide +kernel)) rfl
theorem im_X5_moveOldestToEnd : Cond.instanceMethod yX5_moveOldestToEnd ∈ ALL := qA (q_3 0 (by decide +kernel)) rfl
theorem cd_X5_moveOldestToEnd : Cond.code yX5_moveOldestToEnd cX5_moveOldestToEnd 3 none ∈ ALL := qA (q_3 1 (by decide +kernel)) rfl
theorem ml_X5_204 : Cond.methodLink RX5 204 yX5_savedAt ∈ ALL := qA (q_3 2 (by decide +kernel)) rfl
theorem im_X5_savedAt : Cond.instanceMethod yX5_savedAt ∈ ALL := qA (q_3 4 (by decide +kernel)) rfl
theorem cd_X5_savedAt : Cond.code yX5_savedAt cX5_savedAt 2 (some (.object "RiddlePost$State")) ∈ ALL := qA (q_3 5 (by decide +kernel)) rfl
theorem ml_X5_210 : Cond.methodLink RX5 210 yX3_copyFrom ∈ ALL := qA (q_3 6 (by decide +kernel)) rfl
theorem im_X3_copyFrom : Cond.instanceMethod yX3_copyFrom ∈ ALL := qA (q_3 7 (by decide +kernel)) rfl
theorem sl_X3_copyFrom : Cond.selects RX3 yX3_copyFrom yX3_copyFrom ∈ ALL := qA (q_3 8 (by decide +kernel)) rfl
theorem cd_X3_copyFrom : Cond.code yX3_copyFrom cX3_copyFrom 2 none ∈ ALL := qA (q_3 9 (by decide +kernel)) rfl
theorem ml_X3_43 : Cond.methodLink RX3 43 yX4_copyFrom ∈ ALL := qA (q_3 10 (by decide +kernel)) rfl
theorem im_X4_copyFrom : Cond.instanceMethod yX4_copyFrom ∈ ALL := qA (q_3 11 (by decide +kernel)) rfl
theorem sl_X4_copyFrom : Cond.selects RX4 yX4_copyFrom yX4_copyFrom ∈ ALL := qA (q_3 12 (by decide +kernel)) rfl
theorem cd_X4_copyFrom : Cond.code yX4_copyFrom cX4_copyFrom 2 none ∈ ALL := qA (q_3 13 (by decide +kernel)) rfl
theorem st_X5_copyRow : Cond.static yX5_copyRow ∈ ALL := qA (q_3 15 (by decide +kernel)) rfl
theorem cd_X5_copyRow : Cond.code yX5_copyRow cX5_copyRow 2 none ∈ ALL := qA (q_3 16 (by decide +kernel)) rfl
theorem ml_X5_297 : Cond.methodLink RX5 297 yJ9_min_7cf53 ∈ ALL := qA (q_3 17 (by decide +kernel)) rfl
theorem ml_X3_47 : Cond.methodLink RX3 47 yX2_copyFrom ∈ ALL := qA (q_3 21 (by decide +kernel)) rfl
theorem im_X2_copyFrom : Cond.instanceMethod yX2_copyFrom ∈ ALL := qA (q_3 22 (by decide +kernel)) rfl
theorem sl_X2_copyFrom : Cond.selects RX2 yX2_copyFrom yX2_copyFrom ∈ ALL := qA (q_3 23 (by decide +kernel)) rfl
theorem cd_X2_copyFrom : Cond.code yX2_copyFrom cX2_copyFrom 2 none ∈ ALL := qA (q_3 24 (by decide +kernel)) rfl
theorem ml_X3_54 : Cond.methodLink RX3 54 yX0_copyFrom ∈ ALL := qA (q_3 27 (by decide +kernel)) rfl
theorem im_X0_copyFrom : Cond.instanceMethod yX0_copyFrom ∈ ALL := qA (q_3 28 (by decide +kernel)) rfl
theorem sl_X0_copyFrom : Cond.selects RX0 yX0_copyFrom yX0_copyFrom ∈ ALL := qA (q_3 29 (by decide +kernel)) rfl
theorem cd_X0_copyFrom : Cond.code yX0_copyFrom cX0_copyFrom 2 none ∈ ALL := qA (q_3 30 (by decide +kernel)) rfl
theorem ml_X5_63 : Cond.methodLink RX5 63 yX5_write ∈ ALL := qA (q_3 32 (by decide +kernel)) rfl
theorem ml_L_105 : Cond.methodLink RL 105 yL_setAges ∈ ALL := qA (q_3 33 (by decide +kernel)) rfl
theorem st_L_setAges : Cond.static yL_setAges ∈ ALL := qA (q_3 34 (by decide +kernel)) rfl
theorem cd_L_setAges : Cond.codeWith yL_setAges cL_setAges 6 (some .int) [(0, 12, 15, 13), (0, 12, 19, 15)] ∈ ALL := qA (q_3 35 (by decide +kernel)) rfl
theorem ml_L_17 : Cond.methodLink RL 17 yX5_setAges ∈ ALL := qA (q_3 36 (by decide +kernel)) rfl
theorem im_X5_setAges : Cond.instanceMethod yX5_setAges ∈ ALL := qA (q_3 37 (by decide +kernel)) rfl
theorem sl_X5_setAges : Cond.selects RX5 yX5_setAges yX5_setAges ∈ ALL := qA (q_3 38 (by decide +kernel)) rfl
theorem cd_X5_setAges : Cond.code yX5_setAges cX5_setAges 5 (some .int) ∈ ALL := qA (q_3 39 (by decide +kernel)) rfl
theorem ml_L_109 : Cond.methodLink RL 109 yL_setAnswer ∈ ALL := qA (q_3 40 (by decide +kernel)) rfl
theorem st_L_setAnswer : Cond.static yL_setAnswer ∈ ALL := qA (q_3 41 (by decide +kernel)) rfl
theorem cd_L_setAnswer : Cond.codeWith yL_setAnswer cL_setAnswer 6 (some .int) [(0, 12, 15, 13), (0, 12, 19, 15)] ∈ ALL := qA (q_3 42 (by decide +kernel)) rfl
theorem ml_L_21 : Cond.methodLink RL 21 yX5_setAnswer ∈ ALL := qA (q_3 43 (by decide +kernel)) rfl
theorem im_X5_setAnswer : Cond.instanceMethod yX5_setAnswer ∈ ALL := qA (q_3 44 (by decide +kernel)) rfl
theorem sl_X5_setAnswer : Cond.selects RX5 yX5_setAnswer yX5_setAnswer ∈ ALL := qA (q_3 45 (by decide +kernel)) rfl
theorem cd_X5_setAnswer : Cond.code yX5_setAnswer cX5_setAnswer 4 (some .int) ∈ ALL := qA (q_3 46 (by decide +kernel)) rfl
theorem ml_X5_76 : Cond.methodLink RX5 76 yX5_replaceTruth ∈ ALL := qA (q_3 47 (by decide +kernel)) rfl
theorem im_X5_replaceTruth : Cond.instanceMethod yX5_replaceTruth ∈ ALL := qA (q_3 49 (by decide +kernel)) rfl
theorem cd_X5_replaceTruth : Cond.code yX5_replaceTruth cX5_replaceTruth 6 (some .int) ∈ ALL := qA (q_3 50 (by decide +kernel)) rfl
theorem ml_X5_278 : Cond.methodLink RX5 278 yX2_put ∈ ALL := qA (q_3 51 (by decide +kernel)) rfl
theorem im_X2_put : Cond.instanceMethod yX2_put ∈ ALL := qA (q_3 52 (by decide +kernel)) rfl
theorem sl_X2_put : Cond.selects RX2 yX2_put yX2_put ∈ ALL := qA (q_3 53 (by decide +kernel)) rfl
theorem cd_X2_put : Cond.code yX2_put cX2_put 5 none ∈ ALL := qA (q_3 54 (by decide +kernel)) rfl
theorem ml_L_112 : Cond.methodLink RL 112 yL_setReference ∈ ALL := qA (q_3 56 (by decide +kernel)) rfl
theorem st_L_setReference : Cond.static yL_setReference ∈ ALL := qA (q_3 57 (by decide +kernel)) rfl
theorem cd_L_setReference : Cond.codeWith yL_setReference cL_setReference 6 (some .int) [(0, 12, 15, 13), (0, 12, 19, 15)] ∈ ALL := qA (q_3 58 (by decide +kernel)) rfl
theorem ml_L_24 : Cond.methodLink RL 24 yX5_setReference ∈ ALL := qA (q_3 59 (by decide +kernel)) rfl
theorem im_X5_setReference : Cond.instanceMethod yX5_setReference ∈ ALL := qA (q_3 60 (by decide +kernel)) rfl
theorem sl_X5_setReference : Cond.selects RX5 yX5_setReference yX5_setReference ∈ ALL := qA (q_3 61 (by decide +kernel)) rfl
theorem cd_X5_setReference : Cond.code yX5_setReference cX5_setReference 4 (some .int) ∈ ALL := qA (q_3 62 (by decide +kernel)) rfl
theorem ml_L_115 : Cond.methodLink RL 115 yL_takeAway ∈ ALL := qA (q_3 64 (by decide +kernel)) rfl
theorem st_L_takeAway : Cond.static yL_takeAway ∈ ALL := qA (q_3 65 (by decide +kernel)) rfl
theorem cd_L_takeAway : Cond.codeWith yL_takeAway cL_takeAway 4 (some .int) [(0, 9, 12, 13), (0, 9, 15, 31)] ∈ ALL := qA (q_3 66 (by decide +kernel)) rfl
theorem cl_L_31 : Cond.classLink RL 31 "java/lang/IllegalStateException" ∈ ALL := qA (q_3 67 (by decide +kernel)) rfl
theorem ml_L_27 : Cond.methodLink RL 27 yX5_takeAway ∈ ALL := qA (q_3 68 (by decide +kernel)) rfl
theorem im_X5_takeAway : Cond.instanceMethod yX5_takeAway ∈ ALL := qA (q_3 69 (by decide +kernel)) rfl
theorem sl_X5_takeAway : Cond.selects RX5 yX5_takeAway yX5_takeAway ∈ ALL := qA (q_3 70 (by decide +kernel)) rfl
theorem cd_X5_takeAway : Cond.code yX5_takeAway cX5_takeAway 2 (some .int) ∈ ALL := qA (q_3 71 (by decide +kernel)) rfl
theorem cl_X5_95 : Cond.classLink RX5 95 "java/lang/IllegalStateException" ∈ ALL := qA (q_3 72 (by decide +kernel)) rfl
theorem ia_IllegalStateException : Cond.instantiable "java/lang/IllegalStateException" 6 ∈ ALL := qA (q_3 73 (by decide +kernel)) rfl
theorem ml_L_119 : Cond.methodLink RL 119 yL_solve ∈ ALL := qA (q_3 88 (by decide +kernel)) rfl
theorem st_L_solve : Cond.static yL_solve ∈ ALL := qA (q_3 89 (by decide +kernel)) rfl
theorem cd_L_solve : Cond.codeWith yL_solve cL_solve 4 (some .int) [(0, 9, 12, 13)] ∈ ALL := qA (q_3 90 (by decide +kernel)) rfl
theorem ml_L_33 : Cond.methodLink RL 33 yX5_solve ∈ ALL := qA (q_3 91 (by decide +kernel)) rfl
theorem im_X5_solve : Cond.instanceMethod yX5_solve ∈ ALL := qA (q_3 92 (by decide +kernel)) rfl
theorem sl_X5_solve : Cond.selects RX5 yX5_solve yX5_solve ∈ ALL := qA (q_3 93 (by decide +kernel)) rfl
theorem cd_X5_solve : Cond.code yX5_solve cX5_solve 2 (some .int) ∈ ALL := qA (q_3 94 (by decide +kernel)) rfl
theorem ml_X5_100 : Cond.methodLink RX5 100 yX3_findResult ∈ ALL := qA (q_3 95 (by decide +kernel)) rfl
theorem im_X3_findResult : Cond.instanceMethod yX3_findResult ∈ ALL := qA (q_3 96 (by decide +kernel)) rfl
theorem sl_X3_findResult : Cond.selects RX3 yX3_findResult yX3_findResult ∈ ALL := qA (q_3 97 (by decide +kernel)) rfl
theorem cd_X3_findResult : Cond.code yX3_findResult cX3_findResult 4 (some .int) ∈ ALL := qA (q_3 98 (by decide +kernel)) rfl
theorem ml_X3_60 : Cond.methodLink RX3 60 yX3_takeReply ∈ ALL := qA (q_3 99 (by decide +kernel)) rfl
theorem im_X3_takeReply : Cond.instanceMethod yX3_takeReply ∈ ALL := qA (q_3 101 (by decide +kernel)) rfl
theorem cd_X3_takeReply : Cond.code yX3_takeReply cX3_takeReply 3 none ∈ ALL := qA (q_3 102 (by decide +kernel)) rfl
theorem ml_X3_74 : Cond.methodLink RX3 74 yX3_askTheWay ∈ ALL := qA (q_3 103 (by decide +kernel)) rfl
theorem im_X3_askTheWay : Cond.instanceMethod yX3_askTheWay ∈ ALL := qA (q_3 105 (by decide +kernel)) rfl
theorem cd_X3_askTheWay : Cond.code yX3_askTheWay cX3_askTheWay 5 none ∈ ALL := qA (q_3 106 (by decide +kernel)) rfl
theorem ml_X3_92 : Cond.methodLink RX3 92 yX0_countQuestionTo ∈ ALL := qA (q_3 107 (by decide +kernel)) rfl
theorem im_X0_countQuestionTo : Cond.instanceMethod yX0_countQuestionTo ∈ ALL := qA (q_3 108 (by decide +kernel)) rfl
theorem sl_X0_countQuestionTo : Cond.selects RX0 yX0_countQuestionTo yX0_countQuestionTo ∈ ALL := qA (q_3 109 (by decide +kernel)) rfl
theorem cd_X0_countQuestionTo : Cond.code yX0_countQuestionTo cX0_countQuestionTo 2 none ∈ ALL := qA (q_3 110 (by decide +kernel)) rfl
theorem ml_X3_77 : Cond.methodLink RX3 77 yX3_askRiddle ∈ ALL := qA (q_3 114 (by decide +kernel)) rfl
theorem im_X3_askRiddle : Cond.instanceMethod yX3_askRiddle ∈ ALL := qA (q_3 116 (by decide +kernel)) rfl
theorem cd_X3_askRiddle : Cond.code yX3_askRiddle cX3_askRiddle 4 none ∈ ALL := qA (q_3 117 (by decide +kernel)) rfl
theorem ml_X3_108 : Cond.methodLink RX3 108 yX2_put ∈ ALL := qA (q_3 118 (by decide +kernel)) rfl
theorem ml_L_122 : Cond.methodLink RL 122 yL_forget ∈ ALL := qA (q_3 119 (by decide +kernel)) rfl
theorem st_L_forget : Cond.static yL_forget ∈ ALL := qA (q_3 120 (by decide +kernel)) rfl
theorem cd_L_forget : Cond.codeWith yL_forget cL_forget 4 (some .int) [(0, 9, 12, 13), (0, 9, 15, 31)] ∈ ALL := qA (q_3 121 (by decide +kernel)) rfl
theorem ml_L_36 : Cond.methodLink RL 36 yX5_forget ∈ ALL := qA (q_3 122 (by decide +kernel)) rfl
theorem im_X5_forget : Cond.instanceMethod yX5_forget ∈ ALL := qA (q_3 123 (by decide +kernel)) rfl
theorem sl_X5_forget : Cond.selects RX5 yX5_forget yX5_forget ∈ ALL := qA (q_3 124 (by decide +kernel)) rfl
theorem cd_X5_forget : Cond.code yX5_forget cX5_forget 3 (some .int) ∈ ALL := qA (q_3 125 (by decide +kernel)) rfl
theorem ml_X5_108 : Cond.methodLink RX5 108 yX3_dropReply ∈ ALL := qA (q_3 127 (by decide +kernel)) rfl
theorem im_X3_dropReply : Cond.instanceMethod yX3_dropReply ∈ ALL := qA (q_3 128 (by decide +kernel)) rfl
theorem sl_X3_dropReply : Cond.selects RX3 yX3_dropReply yX3_dropReply ∈ ALL := qA (q_3 129 (by decide +kernel)) rfl
theorem cd_X3_dropReply : Cond.code yX3_dropReply cX3_dropReply 2 none ∈ ALL := qA (q_3 130 (by decide +kernel)) rfl
theorem ml_L_125 : Cond.methodLink RL 125 yL_pass ∈ ALL := qA (q_3 131 (by decide +kernel)) rfl
theorem st_L_pass : Cond.static yL_pass ∈ ALL := qA (q_3 132 (by decide +kernel)) rfl
theorem cd_L_pass : Cond.codeWith yL_pass cL_pass 4 (some .int) [(0, 9, 12, 15), (0, 9, 15, 31)] ∈ ALL := qA (q_3 133 (by decide +kernel)) rfl
theorem ml_L_39 : Cond.methodLink RL 39 yX5_pass ∈ ALL := qA (q_3 134 (by decide +kernel)) rfl
theorem im_X5_pass : Cond.instanceMethod yX5_pass ∈ ALL := qA (q_3 135 (by decide +kernel)) rfl
theorem sl_X5_pass : Cond.selects RX5 yX5_pass yX5_pass ∈ ALL := qA (q_3 136 (by decide +kernel)) rfl
theorem cd_X5_pass : Cond.code yX5_pass cX5_pass 2 (some .int) ∈ ALL := qA (q_3 137 (by decide +kernel)) rfl
theorem ml_X5_111 : Cond.methodLink RX5 111 yX3_hasRoomFor ∈ ALL := qA (q_3 138 (by decide +kernel)) rfl
theorem im_X3_hasRoomFor : Cond.instanceMethod yX3_hasRoomFor ∈ ALL := qA (q_3 139 (by decide +kernel)) rfl
theorem sl_X3_hasRoomFor : Cond.selects RX3 yX3_hasRoomFor yX3_hasRoomFor ∈ ALL := qA (q_3 140 (by decide +kernel)) rfl
theorem cd_X3_hasRoomFor : Cond.code yX3_hasRoomFor cX3_hasRoomFor 2 (some .boolean) ∈ ALL := qA (q_3 141 (by decide +kernel)) rfl
theorem ml_X5_117 : Cond.methodLink RX5 117 yX3_letPass ∈ ALL := qA (q_3 143 (by decide +kernel)) rfl
theorem im_X3_letPass : Cond.instanceMethod yX3_letPass ∈ ALL := qA (q_3 144 (by decide +kernel)) rfl
theorem sl_X3_letPass : Cond.selects RX3 yX3_letPass yX3_letPass ∈ ALL := qA (q_3 145 (by decide +kernel)) rfl
theorem cd_X3_letPass : Cond.code yX3_letPass cX3_letPass 4 (some .int) ∈ ALL := qA (q_3 146 (by decide +kernel)) rfl
theorem ml_X3_122 : Cond.methodLink RX3 122 yX3_isOver ∈ ALL := qA (q_3 147 (by decide +kernel)) rfl
theorem im_X3_isOver : Cond.instanceMethod yX3_isOver ∈ ALL := qA (q_3 149 (by decide +kernel)) rfl
theorem cd_X3_isOver : Cond.code yX3_isOver cX3_isOver 2 (some .boolean) ∈ ALL := qA (q_3 150 (by decide +kernel)) rfl
theorem ml_X3_126 : Cond.methodLink RX3 126 yX3_dropReferral ∈ ALL := qA (q_3 151 (by decide +kernel)) rfl
theorem im_X3_dropReferral : Cond.instanceMethod yX3_dropReferral ∈ ALL := qA (q_3 153 (by decide +kernel)) rfl
theorem cd_X3_dropReferral : Cond.code yX3_dropReferral cX3_dropReferral 2 none ∈ ALL := qA (q_3 154 (by decide +kernel)) rfl
theorem ml_X3_129 : Cond.methodLink RX3 129 yX3_dropReply ∈ ALL := qA (q_3 155 (by decide +kernel)) rfl
theorem ml_L_132 : Cond.methodLink RL 132 yL_parentOf ∈ ALL := qA (q_3 156 (by decide +kernel)) rfl
theorem st_L_parentOf : Cond.static yL_parentOf ∈ ALL := qA (q_3 157 (by decide +kernel)) rfl
theorem cd_L_parentOf : Cond.codeWith yL_parentOf cL_parentOf 4 (some .int) [(0, 9, 12, 13)] ∈ ALL := qA (q_3 158 (by decide +kernel)) rfl
theorem ml_L_42 : Cond.methodLink RL 42 yX5_parentOf ∈ ALL := qA (q_3 159 (by decide +kernel)) rfl
theorem ml_L_135 : Cond.methodLink RL 135 yL_depthOf ∈ ALL := qA (q_3 160 (by decide +kernel)) rfl
theorem st_L_depthOf : Cond.static yL_depthOf ∈ ALL := qA (q_3 161 (by decide +kernel)) rfl
theorem cd_L_depthOf : Cond.codeWith yL_depthOf cL_depthOf 4 (some .int) [(0, 9, 12, 13)] ∈ ALL := qA (q_3 162 (by decide +kernel)) rfl
theorem ml_L_45 : Cond.methodLink RL 45 yX5_depthOf ∈ ALL := qA (q_3 163 (by decide +kernel)) rfl
theorem ml_L_138 : Cond.methodLink RL 138 yL_kindOf ∈ ALL := qA (q_3 164 (by decide +kernel)) rfl
theorem st_L_kindOf : Cond.static yL_kindOf ∈ ALL := qA (q_3 165 (by decide +kernel)) rfl
theorem cd_L_kindOf : Cond.codeWith yL_kindOf cL_kindOf 4 (some .int) [(0, 9, 12, 13)] ∈ ALL := qA (q_3 166 (by decide +kernel)) rfl
theorem ml_L_48 : Cond.methodLink RL 48 yX5_kindOf ∈ ALL := qA (q_3 167 (by decide +kernel)) rfl
theorem ml_L_141 : Cond.methodLink RL 141 yL_valueOf ∈ ALL := qA (q_3 168 (by decide +kernel)) rfl
theorem st_L_valueOf : Cond.static yL_valueOf ∈ ALL := qA (q_3 169 (by decide +kernel)) rfl
theorem cd_L_valueOf : Cond.codeWith yL_valueOf cL_valueOf 4 (some .int) [(0, 9, 12, 13)] ∈ ALL := qA (q_3 170 (by decide +kernel)) rfl
theorem ml_L_51 : Cond.methodLink RL 51 yX5_valueOf ∈ ALL := qA (q_3 171 (by decide +kernel)) rfl
theorem ml_L_144 : Cond.methodLink RL 144 yL_truthOf ∈ ALL := qA (q_3 172 (by decide +kernel)) rfl
theorem st_L_truthOf : Cond.static yL_truthOf ∈ ALL := qA (q_3 173 (by decide +kernel)) rfl
theorem cd_L_truthOf : Cond.codeWith yL_truthOf cL_truthOf 4 (some .int) [(0, 9, 12, 13)] ∈ ALL := qA (q_3 174 (by decide +kernel)) rfl
theorem ml_L_54 : Cond.methodLink RL 54 yX5_truthOf ∈ ALL := qA (q_3 175 (by decide +kernel)) rfl
theorem ml_L_147 : Cond.methodLink RL 147 yL_rememberedOf ∈ ALL := qA (q_3 176 (by decide +kernel)) rfl
theorem st_L_rememberedOf : Cond.static yL_rememberedOf ∈ ALL := qA (q_3 177 (by decide +kernel)) rfl
theorem cd_L_rememberedOf : Cond.codeWith yL_rememberedOf cL_rememberedOf 4 (some .int) [(0, 9, 12, 13)] ∈ ALL := qA (q_3 178 (by decide +kernel)) rfl
theorem ml_L_57 : Cond.methodLink RL 57 yX5_rememberedOf ∈ ALL := qA (q_3 179 (by decide +kernel)) rfl
theorem ml_L_150 : Cond.methodLink RL 150 yL_ticksLeftOf ∈ ALL := qA (q_3 180 (by decide +kernel)) rfl
theorem st_L_ticksLeftOf : Cond.static yL_ticksLeftOf ∈ ALL := qA (q_3 181 (by decide +kernel)) rfl
theorem cd_L_ticksLeftOf : Cond.codeWith yL_ticksLeftOf cL_ticksLeftOf 4 (some .int) [(0, 9, 12, 13)] ∈ ALL := qA (q_3 182 (by decide +kernel)) rfl
theorem ml_L_60 : Cond.methodLink RL 60 yX5_ticksLeftOf ∈ ALL := qA (q_3 183 (by decide +kernel)) rfl
theorem ml_L_153 : Cond.methodLink RL 153 yL_referralLeft ∈ ALL := qA (q_3 184 (by decide +kernel)) rfl
theorem st_L_referralLeft : Cond.static yL_referralLeft ∈ ALL := qA (q_3 185 (by decide +kernel)) rfl
theorem cd_L_referralLeft : Cond.codeWith yL_referralLeft cL_referralLeft 4 (some .int) [(0, 9, 12, 13)] ∈ ALL := qA (q_3 186 (by decide +kernel)) rfl
theorem ml_L_63 : Cond.methodLink RL 63 yX5_referralLeft ∈ ALL := qA (q_3 187 (by decide +kernel)) rfl
theorem ml_L_168 : Cond.methodLink RL 168 yL_isOutOfDate ∈ ALL := qA (q_3 188 (by decide +kernel)) rfl
theorem st_L_isOutOfDate : Cond.static yL_isOutOfDate ∈ ALL := qA (q_3 189 (by decide +kernel)) rfl
theorem cd_L_isOutOfDate : Cond.codeWith yL_isOutOfDate cL_isOutOfDate 4 (some .int) [(0, 16, 19, 13)] ∈ ALL := qA (q_3 190 (by decide +kernel)) rfl
theorem ml_L_66 : Cond.methodLink RL 66 yX5_isOutOfDate ∈ ALL := qA (q_3 191 (by decide +kernel)) rfl
theorem ml_L_183 : Cond.methodLink RL 183 yL_questionsTo ∈ ALL := qA (q_3 192 (by decide +kernel)) rfl
theorem st_L_questionsTo : Cond.static yL_questionsTo ∈ ALL := qA (q_3 193 (by decide +kernel)) rfl
theorem cd_L_questionsTo : Cond.codeWith yL_questionsTo cL_questionsTo 4 (some .int) [(0, 9, 12, 13)] ∈ ALL := qA (q_3 194 (by decide +kernel)) rfl
theorem ml_L_70 : Cond.methodLink RL 70 yX5_questionsTo ∈ ALL := qA (q_3 195 (by decide +kernel)) rfl
theorem ml_L_191 : Cond.methodLink RL 191 yL_wouldSolve ∈ ALL := qA (q_3 196 (by decide +kernel)) rfl
theorem st_L_wouldSolve : Cond.static yL_wouldSolve ∈ ALL := qA (q_3 197 (by decide +kernel)) rfl
theorem cd_L_wouldSolve : Cond.codeWith yL_wouldSolve cL_wouldSolve 4 (some .int) [(0, 9, 12, 13)] ∈ ALL := qA (q_3 198 (by decide +kernel)) rfl
theorem ml_L_73 : Cond.methodLink RL 73 yX5_wouldSolve ∈ ALL := qA (q_3 199 (by decide +kernel)) rfl
theorem ml_L_194 : Cond.methodLink RL 194 yL_costOf ∈ ALL := qA (q_3 200 (by decide +kernel)) rfl
theorem st_L_costOf : Cond.static yL_costOf ∈ ALL := qA (q_3 201 (by decide +kernel)) rfl
theorem cd_L_costOf : Cond.codeWith yL_costOf cL_costOf 4 (some .int) [(0, 9, 12, 13)] ∈ ALL := qA (q_3 202 (by decide +kernel)) rfl
theorem ml_L_76 : Cond.methodLink RL 76 yX5_costOf ∈ ALL := qA (q_3 203 (by decide +kernel)) rfl
theorem ml_L_197 : Cond.methodLink RL 197 yL_ticksUntilTruth ∈ ALL := qA (q_3 204 (by decide +kernel)) rfl
theorem st_L_ticksUntilTruth : Cond.static yL_ticksUntilTruth ∈ ALL := qA (q_3 205 (by decide +kernel)) rfl
theorem cd_L_ticksUntilTruth : Cond.codeWith yL_ticksUntilTruth cL_ticksUntilTruth 4 (some .int) [(0, 9, 12, 13)] ∈ ALL := qA (q_3 206 (by decide +kernel)) rfl
theorem ml_L_79 : Cond.methodLink RL 79 yX5_ticksUntilTruth ∈ ALL := qA (q_3 207 (by decide +kernel)) rfl
theorem im_X5_ticksUntilTruth : Cond.instanceMethod yX5_ticksUntilTruth ∈ ALL := qA (q_3 208 (by decide +kernel)) rfl
theorem sl_X5_ticksUntilTruth : Cond.selects RX5 yX5_ticksUntilTruth yX5_ticksUntilTruth ∈ ALL := qA (q_3 209 (by decide +kernel)) rfl
theorem cd_X5_ticksUntilTruth : Cond.code yX5_ticksUntilTruth cX5_ticksUntilTruth 2 (some .int) ∈ ALL := qA (q_3 210 (by decide +kernel)) rfl
theorem ml_X5_182 : Cond.methodLink RX5 182 yX3_waitForTruth ∈ ALL := qA (q_3 211 (by decide +kernel)) rfl
theorem im_X3_waitForTruth : Cond.instanceMethod yX3_waitForTruth ∈ ALL := qA (q_3 212 (by decide +kernel)) rfl
theorem sl_X3_waitForTruth : Cond.selects RX3 yX3_waitForTruth yX3_waitForTruth ∈ ALL := qA (q_3 213 (by decide +kernel)) rfl
theorem cd_X3_waitForTruth : Cond.code yX3_waitForTruth cX3_waitForTruth 4 (some .int) ∈ ALL := qA (q_3 214 (by decide +kernel)) rfl
theorem ml_X3_143 : Cond.methodLink RX3 143 yX3_trueResult ∈ ALL := qA (q_3 215 (by decide +kernel)) rfl
theorem ml_L_200 : Cond.methodLink RL 200 yL_append ∈ ALL := qA (q_3 216 (by decide +kernel)) rfl
theorem st_L_append : Cond.static yL_append ∈ ALL := qA (q_3 217 (by decide +kernel)) rfl
theorem cd_L_append : Cond.codeWith yL_append cL_append 4 (some .int) [(0, 9, 12, 15), (0, 9, 15, 31)] ∈ ALL := qA (q_3 218 (by decide +kernel)) rfl
theorem ml_L_82 : Cond.methodLink RL 82 yX5_append ∈ ALL := qA (q_3 219 (by decide +kernel)) rfl
theorem im_X5_append : Cond.instanceMethod yX5_append ∈ ALL := qA (q_3 220 (by decide +kernel)) rfl
theorem sl_X5_append : Cond.selects RX5 yX5_append yX5_append ∈ ALL := qA (q_3 221 (by decide +kernel)) rfl
theorem cd_X5_append : Cond.code yX5_append cX5_append 2 (some .int) ∈ ALL := qA (q_3 222 (by decide +kernel)) rfl
theorem ml_X5_190 : Cond.methodLink RX5 190 yX1_add ∈ ALL := qA (q_3 224 (by decide +kernel)) rfl
theorem im_X1_add : Cond.instanceMethod yX1_add ∈ ALL := qA (q_3 225 (by decide +kernel)) rfl
theorem sl_X1_add : Cond.selects RX1 yX1_add yX1_add ∈ ALL := qA (q_3 226 (by decide +kernel)) rfl
theorem cd_X1_add : Cond.code yX1_add cX1_add 2 none ∈ ALL := qA (q_3 227 (by decide +kernel)) rfl
theorem ml_L_211 : Cond.methodLink RL 211 yL_runActs ∈ ALL := qA (q_3 228 (by decide +kernel)) rfl
theorem st_L_runActs : Cond.static yL_runActs ∈ ALL := qA (q_3 229 (by decide +kernel)) rfl
theorem cd_L_runActs : Cond.codeWith yL_runActs cL_runActs 3 (some .int) [(0, 8, 11, 31)] ∈ ALL := qA (q_3 230 (by decide +kernel)) rfl
theorem ml_L_85 : Cond.methodLink RL 85 yX5_runActs ∈ ALL := qA (q_3 231 (by decide +kernel)) rfl
theorem im_X5_runActs : Cond.instanceMethod yX5_runActs ∈ ALL := qA (q_3 232 (by decide +kernel)) rfl
theorem sl_X5_runActs : Cond.selects RX5 yX5_runActs yX5_runActs ∈ ALL := qA (q_3 233 (by decide +kernel)) rfl
theorem cd_X5_runActs : Cond.code yX5_runActs cX5_runActs 2 (some .int) ∈ ALL := qA (q_3 234 (by decide +kernel)) rfl
theorem ml_X5_201 : Cond.methodLink RX5 201 yX5_letHappen ∈ ALL := qA (q_3 236 (by decide +kernel)) rfl
theorem im_X5_letHappen : Cond.instanceMethod yX5_letHappen ∈ ALL := qA (q_3 238 (by decide +kernel)) rfl
theorem cd_X5_letHappen : Cond.code yX5_letHappen cX5_letHappen 3 (some .boolean) ∈ ALL := qA (q_3 239 (by decide +kernel)) rfl
theorem ml_L_215 : Cond.methodLink RL 215 yL_undo ∈ ALL := qA (q_4 0 (by decide +kernel)) rfl
theorem st_L_undo : Cond.static yL_undo ∈ ALL := qA (q_4 1 (by decide +kernel)) rfl
theorem cd_L_undo : Cond.codeWith yL_undo cL_undo 3 (some .int) [(0, 8, 11, 31)] ∈ ALL := qA (q_4 2 (by decide +kernel)) rfl
theorem ml_L_89 : Cond.methodLink RL 89 yX5_undo ∈ ALL := qA (q_4 3 (by decide +kernel)) rfl
theorem im_X5_undo : Cond.instanceMethod yX5_undo ∈ ALL := qA (q_4 4 (by decide +kernel)) rfl
theorem sl_X5_undo : Cond.selects RX5 yX5_undo yX5_undo ∈ ALL := qA (q_4 5 (by decide +kernel)) rfl
theorem cd_X5_undo : Cond.code yX5_undo cX5_undo 2 (some .int) ∈ ALL := qA (q_4 6 (by decide +kernel)) rfl
theorem cl_L_93 : Cond.classLink RL 93 RX6 ∈ ALL := qA (q_4 8 (by decide +kernel)) rfl
theorem ia_X6 : Cond.instantiable RX6 11 ∈ ALL := qA (q_4 9 (by decide +kernel)) rfl
theorem ml_L_95 : Cond.methodLink RL 95 yX6_init ∈ ALL := qA (q_4 10 (by decide +kernel)) rfl
theorem im_X6_init : Cond.instanceMethod yX6_init ∈ ALL := qA (q_4 11 (by decide +kernel)) rfl
theorem cd_X6_init : Cond.code yX6_init cX6_init 2 none ∈ ALL := qA (q_4 12 (by decide +kernel)) rfl
theorem ml_X6_1 : Cond.methodLink RX6 1 objectInit ∈ ALL := qA (q_4 13 (by decide +kernel)) rfl
theorem ml_X6_25 : Cond.methodLink RX6 25 yX6_putsZone ∈ ALL := qA (q_4 14 (by decide +kernel)) rfl
theorem im_X6_putsZone : Cond.instanceMethod yX6_putsZone ∈ ALL := qA (q_4 16 (by decide +kernel)) rfl
theorem cd_X6_putsZone : Cond.code yX6_putsZone cX6_putsZone 4 none ∈ ALL := qA (q_4 17 (by decide +kernel)) rfl
theorem ml_X6_29 : Cond.methodLink RX6 29 yX6_puts ∈ ALL := qA (q_4 18 (by decide +kernel)) rfl
theorem im_X6_puts : Cond.instanceMethod yX6_puts ∈ ALL := qA (q_4 20 (by decide +kernel)) rfl
theorem cd_X6_puts : Cond.code yX6_puts cX6_puts 4 none ∈ ALL := qA (q_4 21 (by decide +kernel)) rfl
theorem fl_X6_32 : Cond.fieldLink RX6 32 "RiddlePostModel" "thrown" "I" ∈ ALL := qA (q_4 22 (by decide +kernel)) rfl
theorem fl_X6_7 : Cond.fieldLink RX6 7 "RiddlePostModel" "state" "[I" ∈ ALL := qA (q_4 23 (by decide +kernel)) rfl
theorem fl_X6_13 : Cond.fieldLink RX6 13 "RiddlePostModel" "history" "[I" ∈ ALL := qA (q_4 24 (by decide +kernel)) rfl
theorem fl_X6_36 : Cond.fieldLink RX6 36 "RiddlePostModel" "recorded" "I" ∈ ALL := qA (q_4 25 (by decide +kernel)) rfl
theorem fl_X6_16 : Cond.fieldLink RX6 16 "RiddlePostModel" "kept" "[I" ∈ ALL := qA (q_4 26 (by decide +kernel)) rfl
theorem fl_X6_19 : Cond.fieldLink RX6 19 "RiddlePostModel" "text" "[I" ∈ ALL := qA (q_4 27 (by decide +kernel)) rfl
theorem fl_X6_134 : Cond.fieldLink RX6 134 "RiddlePostModel" "textLength" "I" ∈ ALL := qA (q_4 28 (by decide +kernel)) rfl
theorem fl_X6_22 : Cond.fieldLink RX6 22 "RiddlePostModel" "way" "[I" ∈ ALL := qA (q_4 29 (by decide +kernel)) rfl
theorem fl_X6_137 : Cond.fieldLink RX6 137 "RiddlePostModel" "at" "I" ∈ ALL := qA (q_4 30 (by decide +kernel)) rfl
theorem fl_X6_147 : Cond.fieldLink RX6 147 "RiddlePostModel" "kind" "I" ∈ ALL := qA (q_4 31 (by decide +kernel)) rfl
theorem fl_X6_144 : Cond.fieldLink RX6 144 "RiddlePostModel" "number" "I" ∈ ALL := qA (q_4 32 (by decide +kernel)) rfl
theorem ml_L_102 : Cond.methodLink RL 102 yX6_thrown ∈ ALL := qA (q_4 56 (by decide +kernel)) rfl
theorem im_X6_thrown : Cond.instanceMethod yX6_thrown ∈ ALL := qA (q_4 57 (by decide +kernel)) rfl
theorem sl_X6_thrown : Cond.selects RX6 yX6_thrown yX6_thrown ∈ ALL := qA (q_4 58 (by decide +kernel)) rfl
theorem cd_X6_thrown : Cond.code yX6_thrown cX6_thrown 1 (some .int) ∈ ALL := qA (q_4 59 (by decide +kernel)) rfl
theorem ml_L_101 : Cond.methodLink RL 101 yX6_setParent ∈ ALL := qA (q_4 60 (by decide +kernel)) rfl
theorem im_X6_setParent : Cond.instanceMethod yX6_setParent ∈ ALL := qA (q_4 61 (by decide +kernel)) rfl
theorem sl_X6_setParent : Cond.selects RX6 yX6_setParent yX6_setParent ∈ ALL := qA (q_4 62 (by decide +kernel)) rfl
theorem cd_X6_setParent : Cond.code yX6_setParent cX6_setParent 4 (some .int) ∈ ALL := qA (q_4 63 (by decide +kernel)) rfl
theorem ml_X6_43 : Cond.methodLink RX6 43 yX6_within ∈ ALL := qA (q_4 64 (by decide +kernel)) rfl
theorem st_X6_within : Cond.static yX6_within ∈ ALL := qA (q_4 65 (by decide +kernel)) rfl
theorem cd_X6_within : Cond.code yX6_within cX6_within 3 (some .boolean) ∈ ALL := qA (q_4 66 (by decide +kernel)) rfl
theorem ml_X6_47 : Cond.methodLink RX6 47 yX6_record ∈ ALL := qA (q_4 67 (by decide +kernel)) rfl
theorem im_X6_record : Cond.instanceMethod yX6_record ∈ ALL := qA (q_4 69 (by decide +kernel)) rfl
theorem cd_X6_record : Cond.code yX6_record cX6_record 2 none ∈ ALL := qA (q_4 70 (by decide +kernel)) rfl
theorem ml_X6_39 : Cond.methodLink RX6 39 yX6_lays ∈ ALL := qA (q_4 71 (by decide +kernel)) rfl
theorem st_X6_lays : Cond.static yX6_lays ∈ ALL := qA (q_4 72 (by decide +kernel)) rfl
theorem cd_X6_lays : Cond.code yX6_lays cX6_lays 5 none ∈ ALL := qA (q_4 73 (by decide +kernel)) rfl
theorem ml_X6_50 : Cond.methodLink RX6 50 yX6_ofZone ∈ ALL := qA (q_4 74 (by decide +kernel)) rfl
theorem im_X6_ofZone : Cond.instanceMethod yX6_ofZone ∈ ALL := qA (q_4 76 (by decide +kernel)) rfl
theorem cd_X6_ofZone : Cond.code yX6_ofZone cX6_ofZone 3 (some .int) ∈ ALL := qA (q_4 77 (by decide +kernel)) rfl
theorem ml_L_108 : Cond.methodLink RL 108 yX6_setAges ∈ ALL := qA (q_4 78 (by decide +kernel)) rfl
theorem im_X6_setAges : Cond.instanceMethod yX6_setAges ∈ ALL := qA (q_4 79 (by decide +kernel)) rfl
theorem sl_X6_setAges : Cond.selects RX6 yX6_setAges yX6_setAges ∈ ALL := qA (q_4 80 (by decide +kernel)) rfl
theorem cd_X6_setAges : Cond.code yX6_setAges cX6_setAges 5 (some .int) ∈ ALL := qA (q_4 81 (by decide +kernel)) rfl
theorem ml_X6_54 : Cond.methodLink RX6 54 yX6_isZone ∈ ALL := qA (q_4 82 (by decide +kernel)) rfl
theorem st_X6_isZone : Cond.static yX6_isZone ∈ ALL := qA (q_4 83 (by decide +kernel)) rfl
theorem cd_X6_isZone : Cond.code yX6_isZone cX6_isZone 1 (some .boolean) ∈ ALL := qA (q_4 84 (by decide +kernel)) rfl
theorem ml_X6_58 : Cond.methodLink RX6 58 yX6_isAge ∈ ALL := qA (q_4 85 (by decide +kernel)) rfl
theorem st_X6_isAge : Cond.static yX6_isAge ∈ ALL := qA (q_4 86 (by decide +kernel)) rfl
theorem cd_X6_isAge : Cond.code yX6_isAge cX6_isAge 1 (some .boolean) ∈ ALL := qA (q_4 87 (by decide +kernel)) rfl
theorem ml_L_111 : Cond.methodLink RL 111 yX6_setAnswer ∈ ALL := qA (q_4 88 (by decide +kernel)) rfl
theorem im_X6_setAnswer : Cond.instanceMethod yX6_setAnswer ∈ ALL := qA (q_4 89 (by decide +kernel)) rfl
theorem sl_X6_setAnswer : Cond.selects RX6 yX6_setAnswer yX6_setAnswer ∈ ALL := qA (q_4 90 (by decide +kernel)) rfl
theorem cd_X6_setAnswer : Cond.code yX6_setAnswer cX6_setAnswer 4 (some .int) ∈ ALL := qA (q_4 91 (by decide +kernel)) rfl
theorem ml_X6_64 : Cond.methodLink RX6 64 yX6_isRiddle ∈ ALL := qA (q_4 92 (by decide +kernel)) rfl
theorem st_X6_isRiddle : Cond.static yX6_isRiddle ∈ ALL := qA (q_4 93 (by decide +kernel)) rfl
theorem cd_X6_isRiddle : Cond.code yX6_isRiddle cX6_isRiddle 1 (some .boolean) ∈ ALL := qA (q_4 94 (by decide +kernel)) rfl
theorem ml_X6_67 : Cond.methodLink RX6 67 yX6_gives ∈ ALL := qA (q_4 95 (by decide +kernel)) rfl
theorem im_X6_gives : Cond.instanceMethod yX6_gives ∈ ALL := qA (q_4 97 (by decide +kernel)) rfl
theorem cd_X6_gives : Cond.code yX6_gives cX6_gives 6 (some .int) ∈ ALL := qA (q_4 98 (by decide +kernel)) rfl
theorem ml_X6_61 : Cond.methodLink RX6 61 yX6_of ∈ ALL := qA (q_4 99 (by decide +kernel)) rfl
theorem im_X6_of : Cond.instanceMethod yX6_of ∈ ALL := qA (q_4 101 (by decide +kernel)) rfl
theorem cd_X6_of : Cond.code yX6_of cX6_of 3 (some .int) ∈ ALL := qA (q_4 102 (by decide +kernel)) rfl
theorem ml_L_114 : Cond.methodLink RL 114 yX6_setReference ∈ ALL := qA (q_4 103 (by decide +kernel)) rfl
theorem im_X6_setReference : Cond.instanceMethod yX6_setReference ∈ ALL := qA (q_4 104 (by decide +kernel)) rfl
theorem sl_X6_setReference : Cond.selects RX6 yX6_setReference yX6_setReference ∈ ALL := qA (q_4 105 (by decide +kernel)) rfl
theorem cd_X6_setReference : Cond.code yX6_setReference cX6_setReference 4 (some .int) ∈ ALL := qA (q_4 106 (by decide +kernel)) rfl
theorem ml_L_118 : Cond.methodLink RL 118 yX6_takeAway ∈ ALL := qA (q_4 107 (by decide +kernel)) rfl
theorem im_X6_takeAway : Cond.instanceMethod yX6_takeAway ∈ ALL := qA (q_4 108 (by decide +kernel)) rfl
theorem sl_X6_takeAway : Cond.selects RX6 yX6_takeAway yX6_takeAway ∈ ALL := qA (q_4 109 (by decide +kernel)) rfl
theorem cd_X6_takeAway : Cond.code yX6_takeAway cX6_takeAway 2 (some .int) ∈ ALL := qA (q_4 110 (by decide +kernel)) rfl
theorem ml_L_121 : Cond.methodLink RL 121 yX6_solve ∈ ALL := qA (q_4 111 (by decide +kernel)) rfl
theorem im_X6_solve : Cond.instanceMethod yX6_solve ∈ ALL := qA (q_4 112 (by decide +kernel)) rfl
theorem sl_X6_solve : Cond.selects RX6 yX6_solve yX6_solve ∈ ALL := qA (q_4 113 (by decide +kernel)) rfl
theorem cd_X6_solve : Cond.code yX6_solve cX6_solve 2 (some .int) ∈ ALL := qA (q_4 114 (by decide +kernel)) rfl
theorem ml_X6_85 : Cond.methodLink RX6 85 yX6_solvesFirst ∈ ALL := qA (q_4 115 (by decide +kernel)) rfl
theorem im_X6_solvesFirst : Cond.instanceMethod yX6_solvesFirst ∈ ALL := qA (q_4 117 (by decide +kernel)) rfl
theorem cd_X6_solvesFirst : Cond.code yX6_solvesFirst cX6_solvesFirst 2 (some .int) ∈ ALL := qA (q_4 118 (by decide +kernel)) rfl
theorem ml_X6_81 : Cond.methodLink RX6 81 yX6_solves ∈ ALL := qA (q_4 119 (by decide +kernel)) rfl
theorem im_X6_solves : Cond.instanceMethod yX6_solves ∈ ALL := qA (q_4 121 (by decide +kernel)) rfl
theorem cd_X6_solves : Cond.code yX6_solves cX6_solves 4 (some .int) ∈ ALL := qA (q_4 122 (by decide +kernel)) rfl
theorem ml_X6_78 : Cond.methodLink RX6 78 yX6_asks ∈ ALL := qA (q_4 123 (by decide +kernel)) rfl
theorem im_X6_asks : Cond.instanceMethod yX6_asks ∈ ALL := qA (q_4 125 (by decide +kernel)) rfl
theorem cd_X6_asks : Cond.code yX6_asks cX6_asks 4 none ∈ ALL := qA (q_4 126 (by decide +kernel)) rfl
theorem ml_X6_75 : Cond.methodLink RX6 75 yX6_comesTo ∈ ALL := qA (q_4 127 (by decide +kernel)) rfl
theorem im_X6_comesTo : Cond.instanceMethod yX6_comesTo ∈ ALL := qA (q_4 129 (by decide +kernel)) rfl
theorem cd_X6_comesTo : Cond.code yX6_comesTo cX6_comesTo 5 none ∈ ALL := qA (q_4 130 (by decide +kernel)) rfl
theorem ml_X6_71 : Cond.methodLink RX6 71 yX6_costs ∈ ALL := qA (q_4 131 (by decide +kernel)) rfl
theorem im_X6_costs : Cond.instanceMethod yX6_costs ∈ ALL := qA (q_4 133 (by decide +kernel)) rfl
theorem cd_X6_costs : Cond.code yX6_costs cX6_costs 2 none ∈ ALL := qA (q_4 134 (by decide +kernel)) rfl
theorem ml_L_124 : Cond.methodLink RL 124 yX6_forget ∈ ALL := qA (q_4 135 (by decide +kernel)) rfl
theorem im_X6_forget : Cond.instanceMethod yX6_forget ∈ ALL := qA (q_4 136 (by decide +kernel)) rfl
theorem sl_X6_forget : Cond.selects RX6 yX6_forget yX6_forget ∈ ALL := qA (q_4 137 (by decide +kernel)) rfl
theorem cd_X6_forget : Cond.code yX6_forget cX6_forget 3 (some .int) ∈ ALL := qA (q_4 138 (by decide +kernel)) rfl
theorem ml_X6_88 : Cond.methodLink RX6 88 yX6_forgets ∈ ALL := qA (q_4 139 (by decide +kernel)) rfl
theorem im_X6_forgets : Cond.instanceMethod yX6_forgets ∈ ALL := qA (q_4 141 (by decide +kernel)) rfl
theorem cd_X6_forgets : Cond.code yX6_forgets cX6_forgets 2 none ∈ ALL := qA (q_4 142 (by decide +kernel)) rfl
theorem ml_L_127 : Cond.methodLink RL 127 yX6_pass ∈ ALL := qA (q_4 143 (by decide +kernel)) rfl
theorem im_X6_pass : Cond.instanceMethod yX6_pass ∈ ALL := qA (q_4 144 (by decide +kernel)) rfl
theorem sl_X6_pass : Cond.selects RX6 yX6_pass yX6_pass ∈ ALL := qA (q_4 145 (by decide +kernel)) rfl
theorem cd_X6_pass : Cond.code yX6_pass cX6_pass 2 (some .int) ∈ ALL := qA (q_4 146 (by decide +kernel)) rfl
theorem ml_X6_91 : Cond.methodLink RX6 91 yX6_passes ∈ ALL := qA (q_4 147 (by decide +kernel)) rfl
theorem im_X6_passes : Cond.instanceMethod yX6_passes ∈ ALL := qA (q_4 149 (by decide +kernel)) rfl
theorem cd_X6_passes : Cond.code yX6_passes cX6_passes 4 (some .int) ∈ ALL := qA (q_4 150 (by decide +kernel)) rfl
theorem ml_L_131 : Cond.methodLink RL 131 yX6_time ∈ ALL := qA (q_4 151 (by decide +kernel)) rfl
theorem im_X6_time : Cond.instanceMethod yX6_time ∈ ALL := qA (q_4 152 (by decide +kernel)) rfl
theorem sl_X6_time : Cond.selects RX6 yX6_time yX6_time ∈ ALL := qA (q_4 153 (by decide +kernel)) rfl
theorem cd_X6_time : Cond.code yX6_time cX6_time 1 (some .int) ∈ ALL := qA (q_4 154 (by decide +kernel)) rfl
theorem ml_X6_94 : Cond.methodLink RX6 94 yX6_tells ∈ ALL := qA (q_4 155 (by decide +kernel)) rfl
theorem im_X6_tells : Cond.instanceMethod yX6_tells ∈ ALL := qA (q_4 157 (by decide +kernel)) rfl
theorem cd_X6_tells : Cond.code yX6_tells cX6_tells 2 (some .int) ∈ ALL := qA (q_4 158 (by decide +kernel)) rfl
theorem ml_L_134 : Cond.methodLink RL 134 yX6_parentOf ∈ ALL := qA (q_4 159 (by decide +kernel)) rfl
theorem im_X6_parentOf : Cond.instanceMethod yX6_parentOf ∈ ALL := qA (q_4 160 (by decide +kernel)) rfl
theorem sl_X6_parentOf : Cond.selects RX6 yX6_parentOf yX6_parentOf ∈ ALL := qA (q_4 161 (by decide +kernel)) rfl
theorem cd_X6_parentOf : Cond.code yX6_parentOf cX6_parentOf 2 (some .int) ∈ ALL := qA (q_4 162 (by decide +kernel)) rfl
theorem ml_X6_97 : Cond.methodLink RX6 97 yX6_tellsZone ∈ ALL := qA (q_4 163 (by decide +kernel)) rfl
theorem im_X6_tellsZone : Cond.instanceMethod yX6_tellsZone ∈ ALL := qA (q_4 165 (by decide +kernel)) rfl
theorem cd_X6_tellsZone : Cond.code yX6_tellsZone cX6_tellsZone 3 (some .int) ∈ ALL := qA (q_4 166 (by decide +kernel)) rfl
theorem ml_L_137 : Cond.methodLink RL 137 yX6_depthOf ∈ ALL := qA (q_4 167 (by decide +kernel)) rfl
theorem im_X6_depthOf : Cond.instanceMethod yX6_depthOf ∈ ALL := qA (q_4 168 (by decide +kernel)) rfl
theorem sl_X6_depthOf : Cond.selects RX6 yX6_depthOf yX6_depthOf ∈ ALL := qA (q_4 169 (by decide +kernel)) rfl
theorem cd_X6_depthOf : Cond.code yX6_depthOf cX6_depthOf 2 (some .int) ∈ ALL := qA (q_4 170 (by decide +kernel)) rfl
theorem ml_X6_100 : Cond.methodLink RX6 100 yX6_depth ∈ ALL := qA (q_4 171 (by decide +kernel)) rfl
theorem im_X6_depth : Cond.instanceMethod yX6_depth ∈ ALL := qA (q_4 173 (by decide +kernel)) rfl
theorem cd_X6_depth : Cond.code yX6_depth cX6_depth 4 (some .int) ∈ ALL := qA (q_4 174 (by decide +kernel)) rfl
theorem ml_L_140 : Cond.methodLink RL 140 yX6_kindOf ∈ ALL := qA (q_4 175 (by decide +kernel)) rfl
theorem im_X6_kindOf : Cond.instanceMethod yX6_kindOf ∈ ALL := qA (q_4 176 (by decide +kernel)) rfl
theorem sl_X6_kindOf : Cond.selects RX6 yX6_kindOf yX6_kindOf ∈ ALL := qA (q_4 177 (by decide +kernel)) rfl
theorem cd_X6_kindOf : Cond.code yX6_kindOf cX6_kindOf 2 (some .int) ∈ ALL := qA (q_4 178 (by decide +kernel)) rfl
theorem ml_X6_103 : Cond.methodLink RX6 103 yX6_tellsRiddle ∈ ALL := qA (q_4 179 (by decide +kernel)) rfl
theorem im_X6_tellsRiddle : Cond.instanceMethod yX6_tellsRiddle ∈ ALL := qA (q_4 181 (by decide +kernel)) rfl
theorem cd_X6_tellsRiddle : Cond.code yX6_tellsRiddle cX6_tellsRiddle 3 (some .int) ∈ ALL := qA (q_4 182 (by decide +kernel)) rfl
theorem ml_L_143 : Cond.methodLink RL 143 yX6_valueOf ∈ ALL := qA (q_4 183 (by decide +kernel)) rfl
theorem im_X6_valueOf : Cond.instanceMethod yX6_valueOf ∈ ALL := qA (q_4 184 (by decide +kernel)) rfl
theorem sl_X6_valueOf : Cond.selects RX6 yX6_valueOf yX6_valueOf ∈ ALL := qA (q_4 185 (by decide +kernel)) rfl
theorem cd_X6_valueOf : Cond.code yX6_valueOf cX6_valueOf 2 (some .int) ∈ ALL := qA (q_4 186 (by decide +kernel)) rfl
theorem ml_L_146 : Cond.methodLink RL 146 yX6_truthOf ∈ ALL := qA (q_4 187 (by decide +kernel)) rfl
theorem im_X6_truthOf : Cond.instanceMethod yX6_truthOf ∈ ALL := qA (q_4 188 (by decide +kernel)) rfl
theorem sl_X6_truthOf : Cond.selects RX6 yX6_truthOf yX6_truthOf ∈ ALL := qA (q_4 189 (by decide +kernel)) rfl
theorem cd_X6_truthOf : Cond.code yX6_truthOf cX6_truthOf 2 (some .int) ∈ ALL := qA (q_4 190 (by decide +kernel)) rfl
theorem ml_X6_106 : Cond.methodLink RX6 106 yX6_truth ∈ ALL := qA (q_4 191 (by decide +kernel)) rfl
theorem im_X6_truth : Cond.instanceMethod yX6_truth ∈ ALL := qA (q_4 193 (by decide +kernel)) rfl
theorem cd_X6_truth : Cond.code yX6_truth cX6_truth 4 (some .int) ∈ ALL := qA (q_4 194 (by decide +kernel)) rfl
theorem ml_L_149 : Cond.methodLink RL 149 yX6_rememberedOf ∈ ALL := qA (q_4 195 (by decide +kernel)) rfl
theorem im_X6_rememberedOf : Cond.instanceMethod yX6_rememberedOf ∈ ALL := qA (q_4 196 (by decide +kernel)) rfl
theorem sl_X6_rememberedOf : Cond.selects RX6 yX6_rememberedOf yX6_rememberedOf ∈ ALL := qA (q_4 197 (by decide +kernel)) rfl
theorem cd_X6_rememberedOf : Cond.code yX6_rememberedOf cX6_rememberedOf 2 (some .int) ∈ ALL := qA (q_4 198 (by decide +kernel)) rfl
theorem ml_L_152 : Cond.methodLink RL 152 yX6_ticksLeftOf ∈ ALL := qA (q_4 199 (by decide +kernel)) rfl
theorem im_X6_ticksLeftOf : Cond.instanceMethod yX6_ticksLeftOf ∈ ALL := qA (q_4 200 (by decide +kernel)) rfl
theorem sl_X6_ticksLeftOf : Cond.selects RX6 yX6_ticksLeftOf yX6_ticksLeftOf ∈ ALL := qA (q_4 201 (by decide +kernel)) rfl
theorem cd_X6_ticksLeftOf : Cond.code yX6_ticksLeftOf cX6_ticksLeftOf 2 (some .int) ∈ ALL := qA (q_4 202 (by decide +kernel)) rfl
theorem ml_X6_109 : Cond.methodLink RX6 109 yX6_leftUntil ∈ ALL := qA (q_4 203 (by decide +kernel)) rfl
theorem im_X6_leftUntil : Cond.instanceMethod yX6_leftUntil ∈ ALL := qA (q_4 205 (by decide +kernel)) rfl
theorem cd_X6_leftUntil : Cond.code yX6_leftUntil cX6_leftUntil 2 (some .int) ∈ ALL := qA (q_4 206 (by decide +kernel)) rfl
theorem ml_L_155 : Cond.methodLink RL 155 yX6_referralLeft ∈ ALL := qA (q_4 207 (by decide +kernel)) rfl
theorem im_X6_referralLeft : Cond.instanceMethod yX6_referralLeft ∈ ALL := qA (q_4 208 (by decide +kernel)) rfl
theorem sl_X6_referralLeft : Cond.selects RX6 yX6_referralLeft yX6_referralLeft ∈ ALL := qA (q_4 209 (by decide +kernel)) rfl
theorem cd_X6_referralLeft : Cond.code yX6_referralLeft cX6_referralLeft 2 (some .int) ∈ ALL := qA (q_4 210 (by decide +kernel)) rfl
theorem ml_L_159 : Cond.methodLink RL 159 yX6_remembered ∈ ALL := qA (q_4 211 (by decide +kernel)) rfl
theorem im_X6_remembered : Cond.instanceMethod yX6_remembered ∈ ALL := qA (q_4 212 (by decide +kernel)) rfl
theorem sl_X6_remembered : Cond.selects RX6 yX6_remembered yX6_remembered ∈ ALL := qA (q_4 213 (by decide +kernel)) rfl
theorem cd_X6_remembered : Cond.code yX6_remembered cX6_remembered 1 (some .int) ∈ ALL := qA (q_4 214 (by decide +kernel)) rfl
theorem ml_X6_112 : Cond.methodLink RX6 112 yX6_memories ∈ ALL := qA (q_4 215 (by decide +kernel)) rfl
theorem im_X6_memories : Cond.instanceMethod yX6_memories ∈ ALL := qA (q_4 217 (by decide +kernel)) rfl
theorem cd_X6_memories : Cond.code yX6_memories cX6_memories 3 (some .int) ∈ ALL := qA (q_4 218 (by decide +kernel)) rfl
theorem ml_L_163 : Cond.methodLink RL 163 yX6_rememberedByAccount ∈ ALL := qA (q_4 219 (by decide +kernel)) rfl
theorem im_X6_rememberedByAccount : Cond.instanceMethod yX6_rememberedByAccount ∈ ALL := qA (q_4 220 (by decide +kernel)) rfl
theorem sl_X6_rememberedByAccount : Cond.selects RX6 yX6_rememberedByAccount yX6_rememberedByAccount ∈ ALL := qA (q_4 221 (by decide +kernel)) rfl
theorem cd_X6_rememberedByAccount : Cond.code yX6_rememberedByAccount cX6_rememberedByAccount 1 (some .int) ∈ ALL := qA (q_4 222 (by decide +kernel)) rfl
theorem ml_L_167 : Cond.methodLink RL 167 yX6_ticksUntilForgetting ∈ ALL := qA (q_4 223 (by decide +kernel)) rfl
theorem im_X6_ticksUntilForgetting : Cond.instanceMethod yX6_ticksUntilForgetting ∈ ALL := qA (q_4 224 (by decide +kernel)) rfl
theorem sl_X6_ticksUntilForgetting : Cond.selects RX6 yX6_ticksUntilForgetting yX6_ticksUntilForgetting ∈ ALL := qA (q_4 225 (by decide +kernel)) rfl
theorem cd_X6_ticksUntilForgetting : Cond.code yX6_ticksUntilForgetting cX6_ticksUntilForgetting 1 (some .int) ∈ ALL := qA (q_4 226 (by decide +kernel)) rfl
theorem ml_X6_119 : Cond.methodLink RX6 119 yX6_untilForgetting ∈ ALL := qA (q_4 227 (by decide +kernel)) rfl
theorem im_X6_untilForgetting : Cond.instanceMethod yX6_untilForgetting ∈ ALL := qA (q_4 229 (by decide +kernel)) rfl
theorem cd_X6_untilForgetting : Cond.code yX6_untilForgetting cX6_untilForgetting 3 (some .int) ∈ ALL := qA (q_4 230 (by decide +kernel)) rfl
theorem ml_X6_116 : Cond.methodLink RX6 116 yX6_sooner ∈ ALL := qA (q_4 231 (by decide +kernel)) rfl
theorem st_X6_sooner : Cond.static yX6_sooner ∈ ALL := qA (q_4 232 (by decide +kernel)) rfl
theorem cd_X6_sooner : Cond.code yX6_sooner cX6_sooner 2 (some .int) ∈ ALL := qA (q_4 233 (by decide +kernel)) rfl
theorem ml_L_170 : Cond.methodLink RL 170 yX6_isOutOfDate ∈ ALL := qA (q_4 234 (by decide +kernel)) rfl
theorem im_X6_isOutOfDate : Cond.instanceMethod yX6_isOutOfDate ∈ ALL := qA (q_4 235 (by decide +kernel)) rfl
theorem sl_X6_isOutOfDate : Cond.selects RX6 yX6_isOutOfDate yX6_isOutOfDate ∈ ALL := qA (q_4 236 (by decide +kernel)) rfl
theorem cd_X6_isOutOfDate : Cond.code yX6_isOutOfDate cX6_isOutOfDate 2 (some .boolean) ∈ ALL := qA (q_4 237 (by decide +kernel)) rfl
theorem ml_X6_122 : Cond.methodLink RX6 122 yX6_isOld ∈ ALL := qA (q_4 238 (by decide +kernel)) rfl
theorem im_X6_isOld : Cond.instanceMethod yX6_isOld ∈ ALL := qA (q_5 0 (by decide +kernel)) rfl
theorem cd_X6_isOld : Cond.code yX6_isOld cX6_isOld 4 (some .boolean) ∈ ALL := qA (q_5 1 (by decide +kernel)) rfl
theorem ml_L_174 : Cond.methodLink RL 174 yX6_solved ∈ ALL := qA (q_5 2 (by decide +kernel)) rfl
theorem im_X6_solved : Cond.instanceMethod yX6_solved ∈ ALL := qA (q_5 3 (by decide +kernel)) rfl
theorem sl_X6_solved : Cond.selects RX6 yX6_solved yX6_solved ∈ ALL := qA (q_5 4 (by decide +kernel)) rfl
theorem cd_X6_solved : Cond.code yX6_solved cX6_solved 1 (some .int) ∈ ALL := qA (q_5 5 (by decide +kernel)) rfl
theorem ml_L_178 : Cond.methodLink RL 178 yX6_questions ∈ ALL := qA (q_5 6 (by decide +kernel)) rfl
theorem im_X6_questions : Cond.instanceMethod yX6_questions ∈ ALL := qA (q_5 7 (by decide +kernel)) rfl
theorem sl_X6_questions : Cond.selects RX6 yX6_questions yX6_questions ∈ ALL := qA (q_5 8 (by decide +kernel)) rfl
theorem cd_X6_questions : Cond.code yX6_questions cX6_questions 1 (some .int) ∈ ALL := qA (q_5 9 (by decide +kernel)) rfl
theorem ml_L_182 : Cond.methodLink RL 182 yX6_hits ∈ ALL := qA (q_5 10 (by decide +kernel)) rfl
theorem im_X6_hits : Cond.instanceMethod yX6_hits ∈ ALL := qA (q_5 11 (by decide +kernel)) rfl
theorem sl_X6_hits : Cond.selects RX6 yX6_hits yX6_hits ∈ ALL := qA (q_5 12 (by decide +kernel)) rfl
theorem cd_X6_hits : Cond.code yX6_hits cX6_hits 1 (some .int) ∈ ALL := qA (q_5 13 (by decide +kernel)) rfl
theorem ml_L_185 : Cond.methodLink RL 185 yX6_questionsTo ∈ ALL := qA (q_5 14 (by decide +kernel)) rfl
theorem im_X6_questionsTo : Cond.instanceMethod yX6_questionsTo ∈ ALL := qA (q_5 15 (by decide +kernel)) rfl
theorem sl_X6_questionsTo : Cond.selects RX6 yX6_questionsTo yX6_questionsTo ∈ ALL := qA (q_5 16 (by decide +kernel)) rfl
theorem cd_X6_questionsTo : Cond.code yX6_questionsTo cX6_questionsTo 2 (some .int) ∈ ALL := qA (q_5 17 (by decide +kernel)) rfl
theorem ml_L_190 : Cond.methodLink RL 190 yX6_meanQuestions ∈ ALL := qA (q_5 18 (by decide +kernel)) rfl
theorem im_X6_meanQuestions : Cond.instanceMethod yX6_meanQuestions ∈ ALL := qA (q_5 19 (by decide +kernel)) rfl
theorem sl_X6_meanQuestions : Cond.selects RX6 yX6_meanQuestions yX6_meanQuestions ∈ ALL := qA (q_5 20 (by decide +kernel)) rfl
theorem cd_X6_meanQuestions : Cond.code yX6_meanQuestions cX6_meanQuestions 1 (some .double) ∈ ALL := qA (q_5 21 (by decide +kernel)) rfl
theorem ml_L_193 : Cond.methodLink RL 193 yX6_wouldSolve ∈ ALL := qA (q_5 22 (by decide +kernel)) rfl
theorem im_X6_wouldSolve : Cond.instanceMethod yX6_wouldSolve ∈ ALL := qA (q_5 23 (by decide +kernel)) rfl
theorem sl_X6_wouldSolve : Cond.selects RX6 yX6_wouldSolve yX6_wouldSolve ∈ ALL := qA (q_5 24 (by decide +kernel)) rfl
theorem cd_X6_wouldSolve : Cond.code yX6_wouldSolve cX6_wouldSolve 2 (some .int) ∈ ALL := qA (q_5 25 (by decide +kernel)) rfl
theorem ml_X6_125 : Cond.methodLink RX6 125 yX6_would ∈ ALL := qA (q_5 26 (by decide +kernel)) rfl
theorem im_X6_would : Cond.instanceMethod yX6_would ∈ ALL := qA (q_5 28 (by decide +kernel)) rfl
theorem cd_X6_would : Cond.code yX6_would cX6_would 3 (some .int) ∈ ALL := qA (q_5 29 (by decide +kernel)) rfl
theorem ml_L_196 : Cond.methodLink RL 196 yX6_costOf ∈ ALL := qA (q_5 30 (by decide +kernel)) rfl
theorem im_X6_costOf : Cond.instanceMethod yX6_costOf ∈ ALL := qA (q_5 31 (by decide +kernel)) rfl
theorem sl_X6_costOf : Cond.selects RX6 yX6_costOf yX6_costOf ∈ ALL := qA (q_5 32 (by decide +kernel)) rfl
theorem cd_X6_costOf : Cond.code yX6_costOf cX6_costOf 2 (some .int) ∈ ALL := qA (q_5 33 (by decide +kernel)) rfl
theorem ml_X6_128 : Cond.methodLink RX6 128 yX6_cost ∈ ALL := qA (q_5 34 (by decide +kernel)) rfl
theorem im_X6_cost : Cond.instanceMethod yX6_cost ∈ ALL := qA (q_5 36 (by decide +kernel)) rfl
theorem cd_X6_cost : Cond.code yX6_cost cX6_cost 3 (some .int) ∈ ALL := qA (q_5 37 (by decide +kernel)) rfl
theorem ml_L_199 : Cond.methodLink RL 199 yX6_ticksUntilTruth ∈ ALL := qA (q_5 38 (by decide +kernel)) rfl
theorem im_X6_ticksUntilTruth : Cond.instanceMethod yX6_ticksUntilTruth ∈ ALL := qA (q_5 39 (by decide +kernel)) rfl
theorem sl_X6_ticksUntilTruth : Cond.selects RX6 yX6_ticksUntilTruth yX6_ticksUntilTruth ∈ ALL := qA (q_5 40 (by decide +kernel)) rfl
theorem cd_X6_ticksUntilTruth : Cond.code yX6_ticksUntilTruth cX6_ticksUntilTruth 4 (some .int) ∈ ALL := qA (q_5 41 (by decide +kernel)) rfl
theorem ml_X6_131 : Cond.methodLink RX6 131 yX6_wouldIn ∈ ALL := qA (q_5 42 (by decide +kernel)) rfl
theorem im_X6_wouldIn : Cond.instanceMethod yX6_wouldIn ∈ ALL := qA (q_5 44 (by decide +kernel)) rfl
theorem cd_X6_wouldIn : Cond.code yX6_wouldIn cX6_wouldIn 4 (some .int) ∈ ALL := qA (q_5 45 (by decide +kernel)) rfl
theorem ml_L_202 : Cond.methodLink RL 202 yX6_append ∈ ALL := qA (q_5 46 (by decide +kernel)) rfl
theorem im_X6_append : Cond.instanceMethod yX6_append ∈ ALL := qA (q_5 47 (by decide +kernel)) rfl
theorem sl_X6_append : Cond.selects RX6 yX6_append yX6_append ∈ ALL := qA (q_5 48 (by decide +kernel)) rfl
theorem cd_X6_append : Cond.code yX6_append cX6_append 2 (some .int) ∈ ALL := qA (q_5 49 (by decide +kernel)) rfl
theorem ml_L_206 : Cond.methodLink RL 206 yX6_clearText ∈ ALL := qA (q_5 50 (by decide +kernel)) rfl
theorem im_X6_clearText : Cond.instanceMethod yX6_clearText ∈ ALL := qA (q_5 51 (by decide +kernel)) rfl
theorem sl_X6_clearText : Cond.selects RX6 yX6_clearText yX6_clearText ∈ ALL := qA (q_5 52 (by decide +kernel)) rfl
theorem cd_X6_clearText : Cond.code yX6_clearText cX6_clearText 2 (some .int) ∈ ALL := qA (q_5 53 (by decide +kernel)) rfl
theorem ml_L_210 : Cond.methodLink RL 210 yX6_firstError ∈ ALL := qA (q_5 54 (by decide +kernel)) rfl
theorem im_X6_firstError : Cond.instanceMethod yX6_firstError ∈ ALL := qA (q_5 55 (by decide +kernel)) rfl
theorem sl_X6_firstError : Cond.selects RX6 yX6_firstError yX6_firstError ∈ ALL := qA (q_5 56 (by decide +kernel)) rfl
theorem cd_X6_firstError : Cond.code yX6_firstError cX6_firstError 1 (some .int) ∈ ALL := qA (q_5 57 (by decide +kernel)) rfl
theorem ml_X6_157 : Cond.methodLink RX6 157 yX6_findError ∈ ALL := qA (q_5 58 (by decide +kernel)) rfl
theorem im_X6_findError : Cond.instanceMethod yX6_findError ∈ ALL := qA (q_5 60 (by decide +kernel)) rfl
theorem cd_X6_findError : Cond.code yX6_findError cX6_findError 1 (some .int) ∈ ALL := qA (q_5 61 (by decide +kernel)) rfl
theorem ml_X6_153 : Cond.methodLink RX6 153 yX6_readsAct ∈ ALL := qA (q_5 62 (by decide +kernel)) rfl
theorem im_X6_readsAct : Cond.instanceMethod yX6_readsAct ∈ ALL := qA (q_5 64 (by decide +kernel)) rfl
theorem cd_X6_readsAct : Cond.code yX6_readsAct cX6_readsAct 1 (some .boolean) ∈ ALL := qA (q_5 65 (by decide +kernel)) rfl
theorem ml_X6_140 : Cond.methodLink RX6 140 yX6_accepts ∈ ALL := qA (q_5 66 (by decide +kernel)) rfl
theorem im_X6_accepts : Cond.instanceMethod yX6_accepts ∈ ALL := qA (q_5 68 (by decide +kernel)) rfl
theorem cd_X6_accepts : Cond.code yX6_accepts cX6_accepts 4 (some .boolean) ∈ ALL := qA (q_5 69 (by decide +kernel)) rfl
theorem ml_X6_150 : Cond.methodLink RX6 150 yX6_readsNumber ∈ ALL := qA (q_5 70 (by decide +kernel)) rfl
theorem im_X6_readsNumber : Cond.instanceMethod yX6_readsNumber ∈ ALL := qA (q_5 72 (by decide +kernel)) rfl
theorem cd_X6_readsNumber : Cond.code yX6_readsNumber cX6_readsNumber 3 (some .boolean) ∈ ALL := qA (q_5 73 (by decide +kernel)) rfl
theorem ml_L_214 : Cond.methodLink RL 214 yX6_runActs ∈ ALL := qA (q_5 74 (by decide +kernel)) rfl
theorem im_X6_runActs : Cond.instanceMethod yX6_runActs ∈ ALL := qA (q_5 75 (by decide +kernel)) rfl
theorem sl_X6_runActs : Cond.selects RX6 yX6_runActs yX6_runActs ∈ ALL := qA (q_5 76 (by decide +kernel)) rfl
theorem cd_X6_runActs : Cond.code yX6_runActs cX6_runActs 3 (some .int) ∈ ALL := qA (q_5 77 (by decide +kernel)) rfl
theorem ml_X6_160 : Cond.methodLink RX6 160 yX6_happens ∈ ALL := qA (q_5 78 (by decide +kernel)) rfl
theorem im_X6_happens : Cond.instanceMethod yX6_happens ∈ ALL := qA (q_5 80 (by decide +kernel)) rfl
theorem cd_X6_happens : Cond.code yX6_happens cX6_happens 2 (some .boolean) ∈ ALL := qA (q_5 81 (by decide +kernel)) rfl
theorem ml_L_217 : Cond.methodLink RL 217 yX6_undo ∈ ALL := qA (q_5 82 (by decide +kernel)) rfl
theorem im_X6_undo : Cond.instanceMethod yX6_undo ∈ ALL := qA (q_5 83 (by decide +kernel)) rfl
theorem sl_X6_undo : Cond.selects RX6 yX6_undo yX6_undo ∈ ALL := qA (q_5 84 (by decide +kernel)) rfl
theorem cd_X6_undo : Cond.code yX6_undo cX6_undo 1 (some .int) ∈ ALL := qA (q_5 85 (by decide +kernel)) rfl
theorem ml_L_222 : Cond.methodLink RL 222 yX6_digest ∈ ALL := qA (q_5 86 (by decide +kernel)) rfl
theorem im_X6_digest : Cond.instanceMethod yX6_digest ∈ ALL := qA (q_5 87 (by decide +kernel)) rfl
theorem sl_X6_digest : Cond.selects RX6 yX6_digest yX6_digest ∈ ALL := qA (q_5 88 (by decide +kernel)) rfl
theorem cd_X6_digest : Cond.code yX6_digest cX6_digest 4 (some .long) ∈ ALL := qA (q_5 89 (by decide +kernel)) rfl
theorem kl_X6_163 : Cond.constantLong RX6 163 (725) ∈ ALL := qA (q_5 90 (by decide +kernel)) rfl
theorem kl_X6_165 : Cond.constantLong RX6 165 (31) ∈ ALL := qA (q_5 91 (by decide +kernel)) rfl
theorem ac_long : Cond.arrayClass .long ∈ ALL := qA (q_5 92 (by decide +kernel)) rfl
theorem sl_X1_addAct : Cond.selects RX1 yX1_addAct yX1_addAct ∈ ALL := qP (y := yX1_addAct) (n := 5) (List.mem_of_getElem? (i := 0) (by decide +kernel)) rfl
theorem sl_X5_mixZone : Cond.selects RX5 yX5_mixZone yX5_mixZone ∈ ALL := qP (y := yX5_mixZone) (n := 4) (List.mem_of_getElem? (i := 1) (by decide +kernel)) rfl
theorem sl_X5_mixRiddle : Cond.selects RX5 yX5_mixRiddle yX5_mixRiddle ∈ ALL := qP (y := yX5_mixRiddle) (n := 4) (List.mem_of_getElem? (i := 3) (by decide +kernel)) rfl
theorem sl_X3_lackingReferrals : Cond.selects RX3 yX3_lackingReferrals yX3_lackingReferrals ∈ ALL := qP (y := yX3_lackingReferrals) (n := 6) (List.mem_of_getElem? (i := 4) (by decide +kernel)) rfl
theorem sl_X3_lacksReferral : Cond.selects RX3 yX3_lacksReferral yX3_lacksReferral ∈ ALL := qP (y := yX3_lacksReferral) (n := 6) (List.mem_of_getElem? (i := 5) (by decide +kernel)) rfl
theorem sl_X5_save : Cond.selects RX5 yX5_save yX5_save ∈ ALL := qP (y := yX5_save) (n := 4) (List.mem_of_getElem? (i := 6) (by decide +kernel)) rfl
theorem sl_X5_moveOldestToEnd : Cond.selects RX5 yX5_moveOldestToEnd yX5_moveOldestToEnd ∈ ALL := qP (y := yX5_moveOldestToEnd) (n := 4) (List.mem_of_getElem? (i := 7) (by decide +kernel)) rfl
theorem sl_X5_savedAt : Cond.selects RX5 yX5_savedAt yX5_savedAt ∈ ALL := qP (y := yX5_savedAt) (n := 4) (List.mem_of_getElem? (i := 8) (by decide +kernel)) rfl
theorem sl_X5_replaceTruth : Cond.selects RX5 yX5_replaceTruth yX5_replaceTruth ∈ ALL := qP (y := yX5_replaceTruth) (n := 4) (List.mem_of_getElem? (i := 9) (by decide +kernel)) rfl
theorem sl_X3_takeReply : Cond.selects RX3 yX3_takeReply yX3_takeReply ∈ ALL := qP (y := yX3_takeReply) (n := 6) (List.mem_of_getElem? (i := 10) (by decide +kernel)) rfl
theorem sl_X3_askTheWay : Cond.selects RX3 yX3_askTheWay yX3_askTheWay ∈ ALL := qP (y := yX3_askTheWay) (n := 6) (List.mem_of_getElem? (i := 11) (by decide +kernel)) rfl
theorem sl_X3_askRiddle : Cond.selects RX3 yX3_askRiddle yX3_askRiddle ∈ ALL := qP (y := yX3_askRiddle) (n := 6) (List.mem_of_getElem? (i := 12) (by decide +kernel)) rfl
theorem sl_X3_isOver : Cond.selects RX3 yX3_isOver yX3_isOver ∈ ALL := qP (y := yX3_isOver) (n := 6) (List.mem_of_getElem? (i := 13) (by decide +kernel)) rfl
theorem sl_X3_dropReferral : Cond.selects RX3 yX3_dropReferral yX3_dropReferral ∈ ALL := qP (y := yX3_dropReferral) (n := 6) (List.mem_of_getElem? (i := 14) (by decide +kernel)) rfl
theorem sl_X5_letHappen : Cond.selects RX5 yX5_letHappen yX5_letHappen ∈ ALL := qP (y := yX5_letHappen) (n := 4) (List.mem_of_getElem? (i := 15) (by decide +kernel)) rfl
theorem sl_X6_putsZone : Cond.selects RX6 yX6_putsZone yX6_putsZone ∈ ALL := qP (y := yX6_putsZone) (n := 11) (List.mem_of_getElem? (i := 16) (by decide +kernel)) rfl
theorem sl_X6_puts : Cond.selects RX6 yX6_puts yX6_puts ∈ ALL := qP (y := yX6_puts) (n := 11) (List.mem_of_getElem? (i := 17) (by decide +kernel)) rfl
theorem sl_X6_record : Cond.selects RX6 yX6_record yX6_record ∈ ALL := qP (y := yX6_record) (n := 11) (List.mem_of_getElem? (i := 18) (by decide +kernel)) rfl
theorem sl_X6_ofZone : Cond.selects RX6 yX6_ofZone yX6_ofZone ∈ ALL := qP (y := yX6_ofZone) (n := 11) (List.mem_of_getElem? (i := 19) (by decide +kernel)) rfl
theorem sl_X6_gives : Cond.selects RX6 yX6_gives yX6_gives ∈ ALL := qP (y := yX6_gives) (n := 11) (List.mem_of_getElem? (i := 20) (by decide +kernel)) rfl
theorem sl_X6_of : Cond.selects RX6 yX6_of yX6_of ∈ ALL := qP (y := yX6_of) (n := 11) (List.mem_of_getElem? (i := 21) (by decide +kernel)) rfl
theorem sl_X6_solvesFirst : Cond.selects RX6 yX6_solvesFirst yX6_solvesFirst ∈ ALL := qP (y := yX6_solvesFirst) (n := 11) (List.mem_of_getElem? (i := 22) (by decide +kernel)) rfl
theorem sl_X6_solves : Cond.selects RX6 yX6_solves yX6_solves ∈ ALL := qP (y := yX6_solves) (n := 11) (List.mem_of_getElem? (i := 23) (by decide +kernel)) rfl
theorem sl_X6_asks : Cond.selects RX6 yX6_asks yX6_asks ∈ ALL := qP (y := yX6_asks) (n := 11) (List.mem_of_getElem? (i := 24) (by decide +kernel)) rfl
theorem sl_X6_comesTo : Cond.selects RX6 yX6_comesTo yX6_comesTo ∈ ALL := qP (y := yX6_comesTo) (n := 11) (List.mem_of_getElem? (i := 25) (by decide +kernel)) rfl
theorem sl_X6_costs : Cond.selects RX6 yX6_costs yX6_costs ∈ ALL := qP (y := yX6_costs) (n := 11) (List.mem_of_getElem? (i := 26) (by decide +kernel)) rfl
theorem sl_X6_forgets : Cond.selects RX6 yX6_forgets yX6_forgets ∈ ALL := qP (y := yX6_forgets) (n := 11) (List.mem_of_getElem? (i := 27) (by decide +kernel)) rfl
theorem sl_X6_passes : Cond.selects RX6 yX6_passes yX6_passes ∈ ALL := qP (y := yX6_passes) (n := 11) (List.mem_of_getElem? (i := 28) (by decide +kernel)) rfl
theorem sl_X6_tells : Cond.selects RX6 yX6_tells yX6_tells ∈ ALL := qP (y := yX6_tells) (n := 11) (List.mem_of_getElem? (i := 29) (by decide +kernel)) rfl
theorem sl_X6_tellsZone : Cond.selects RX6 yX6_tellsZone yX6_tellsZone ∈ ALL := qP (y := yX6_tellsZone) (n := 11) (List.mem_of_getElem? (i := 30) (by decide +kernel)) rfl
theorem sl_X6_depth : Cond.selects RX6 yX6_depth yX6_depth ∈ ALL := qP (y := yX6_depth) (n := 11) (List.mem_of_getElem? (i := 31) (by decide +kernel)) rfl
theorem sl_X6_tellsRiddle : Cond.selects RX6 yX6_tellsRiddle yX6_tellsRiddle ∈ ALL := qP (y := yX6_tellsRiddle) (n := 11) (List.mem_of_getElem? (i := 32) (by decide +kernel)) rfl
theorem sl_X6_truth : Cond.selects RX6 yX6_truth yX6_truth ∈ ALL := qP (y := yX6_truth) (n := 11) (List.mem_of_getElem? (i := 33) (by decide +kernel)) rfl
theorem sl_X6_leftUntil : Cond.selects RX6 yX6_leftUntil yX6_leftUntil ∈ ALL := qP (y := yX6_leftUntil) (n := 11) (List.mem_of_getElem? (i := 34) (by decide +kernel)) rfl
theorem sl_X6_memories : Cond.selects RX6 yX6_memories yX6_memories ∈ ALL := qP (y := yX6_memories) (n := 11) (List.mem_of_getElem? (i := 35) (by decide +kernel)) rfl
theorem sl_X6_untilForgetting : Cond.selects RX6 yX6_untilForgetting yX6_untilForgetting ∈ ALL := qP (y := yX6_untilForgetting) (n := 11) (List.mem_of_getElem? (i := 36) (by decide +kernel)) rfl
theorem sl_X6_isOld : Cond.selects RX6 yX6_isOld yX6_isOld ∈ ALL := qP (y := yX6_isOld) (n := 11) (List.mem_of_getElem? (i := 37) (by decide +kernel)) rfl
theorem sl_X6_would : Cond.selects RX6 yX6_would yX6_would ∈ ALL := qP (y := yX6_would) (n := 11) (List.mem_of_getElem? (i := 38) (by decide +kernel)) rfl
theorem sl_X6_cost : Cond.selects RX6 yX6_cost yX6_cost ∈ ALL := qP (y := yX6_cost) (n := 11) (List.mem_of_getElem? (i := 39) (by decide +kernel)) rfl
theorem sl_X6_wouldIn : Cond.selects RX6 yX6_wouldIn yX6_wouldIn ∈ ALL := qP (y := yX6_wouldIn) (n := 11) (List.mem_of_getElem? (i := 40) (by decide +kernel)) rfl
theorem sl_X6_findError : Cond.selects RX6 yX6_findError yX6_findError ∈ ALL := qP (y := yX6_findError) (n := 11) (List.mem_of_getElem? (i := 41) (by decide +kernel)) rfl
theorem sl_X6_readsAct : Cond.selects RX6 yX6_readsAct yX6_readsAct ∈ ALL := qP (y := yX6_readsAct) (n := 11) (List.mem_of_getElem? (i := 42) (by decide +kernel)) rfl
theorem sl_X6_accepts : Cond.selects RX6 yX6_accepts yX6_accepts ∈ ALL := qP (y := yX6_accepts) (n := 11) (List.mem_of_getElem? (i := 43) (by decide +kernel)) rfl
theorem sl_X6_readsNumber : Cond.selects RX6 yX6_readsNumber yX6_readsNumber ∈ ALL := qP (y := yX6_readsNumber) (n := 11) (List.mem_of_getElem? (i := 44) (by decide +kernel)) rfl
theorem sl_X6_happens : Cond.selects RX6 yX6_happens yX6_happens ∈ ALL := qP (y := yX6_happens) (n := 11) (List.mem_of_getElem? (i := 45) (by decide +kernel)) rfl
theorem inX0 : ∀ w ∈ wsX00, w ∈ ALL := List.forall_mem_cons.mpr ⟨qA (q_1 92 (by decide +kernel)) rfl, List.forall_mem_cons.mpr ⟨qA (q_1 94 (by decide +kernel)) rfl, List.forall_mem_cons.mpr ⟨qA (q_1 96 (by decide +kernel)) rfl, List.forall_mem_cons.mpr ⟨qA (q_1 98 (by decide +kernel)) rfl, List.forall_mem_cons.mpr ⟨qA (q_1 100 (by decide +kernel)) rfl, List.forall_mem_cons.mpr ⟨qA (q_1 102 (by decide +kernel)) rfl, fun _ h => nomatch h⟩⟩⟩⟩⟩⟩
theorem inX1 : ∀ w ∈ wsX10, w ∈ ALL := List.forall_mem_cons.mpr ⟨qA (q_1 146 (by decide +kernel)) rfl, List.forall_mem_cons.mpr ⟨qA (q_1 148 (by decide +kernel)) rfl, List.forall_mem_cons.mpr ⟨qA (q_1 150 (by decide +kernel)) rfl, List.forall_mem_cons.mpr ⟨qA (q_1 152 (by decide +kernel)) rfl, List.forall_mem_cons.mpr ⟨qA (q_1 154 (by decide +kernel)) rfl, fun _ h => nomatch h⟩⟩⟩⟩⟩
theorem inX2 : ∀ w ∈ wsX20, w ∈ ALL := List.forall_mem_cons.mpr ⟨qA (q_1 63 (by decide +kernel)) rfl, List.forall_mem_cons.mpr ⟨qA (q_1 65 (by decide +kernel)) rfl, List.forall_mem_cons.mpr ⟨qA (q_1 67 (by decide +kernel)) rfl, fun _ h => nomatch h⟩⟩⟩
theorem inX3 : ∀ w ∈ wsX30, w ∈ ALL := List.forall_mem_cons.mpr ⟨qA (q_1 117 (by decide +kernel)) rfl, List.forall_mem_cons.mpr ⟨qA (q_1 119 (by decide +kernel)) rfl, List.forall_mem_cons.mpr ⟨qA (q_1 121 (by decide +kernel)) rfl, List.forall_mem_cons.mpr ⟨qA (q_1 123 (by decide +kernel)) rfl, List.forall_mem_cons.mpr ⟨qA (q_1 125 (by decide +kernel)) rfl, List.forall_mem_cons.mpr ⟨qA (q_1 127 (by decide +kernel)) rfl, fun _ h => nomatch h⟩⟩⟩⟩⟩⟩
theorem inX4 : ∀ w ∈ wsX40, w ∈ ALL := List.forall_mem_cons.mpr ⟨qA (q_1 46 (by decide +kernel)) rfl, List.forall_mem_cons.mpr ⟨qA (q_1 48 (by decide +kernel)) rfl, List.forall_mem_cons.mpr ⟨qA (q_1 50 (by decide +kernel)) rfl, fun _ h => nomatch h⟩⟩⟩
theorem inX5 : ∀ w ∈ wsX50, w ∈ ALL := List.forall_mem_cons.mpr ⟨qA (q_1 161 (by decide +kernel)) rfl, List.forall_mem_cons.mpr ⟨qA (q_1 163 (by decide +kernel)) rfl, List.forall_mem_cons.mpr ⟨qA (q_1 165 (by decide +kernel)) rfl, List.forall_mem_cons.mpr ⟨qA (q_1 167 (by decide +kernel)) rfl, fun _ h => nomatch h⟩⟩⟩⟩
theorem inX6 : ∀ w ∈ wsX60, w ∈ ALL := List.forall_mem_cons.mpr ⟨qA (q_4 33 (by decide +kernel)) rfl, List.forall_mem_cons.mpr ⟨qA (q_4 35 (by decide +kernel)) rfl, List.forall_mem_cons.mpr ⟨qA (q_4 37 (by decide +kernel)) rfl, List.forall_mem_cons.mpr ⟨qA (q_4 39 (by decide +kernel)) rfl, List.forall_mem_cons.mpr ⟨qA (q_4 41 (by decide +kernel)) rfl, List.forall_mem_cons.mpr ⟨qA (q_4 43 (by decide +kernel)) rfl, List.forall_mem_cons.mpr ⟨qA (q_4 45 (by decide +kernel)) rfl, List.forall_mem_cons.mpr ⟨qA (q_4 47 (by decide +kernel)) rfl, List.forall_mem_cons.mpr ⟨qA (q_4 49 (by decide +kernel)) rfl, List.forall_mem_cons.mpr ⟨qA (q_4 51 (by decide +kernel)) rfl, List.forall_mem_cons.mpr ⟨qA (q_4 53 (by decide +kernel)) rfl, fun _ h => nomatch h⟩⟩⟩⟩⟩⟩⟩⟩⟩⟩⟩
end
section
/-! what the instructions of the reference are (printed rows) -/
theorem dX6_init_0 : decode cX6_init 0 = .ok (.aload_n 0, 1) := by decide +kernel
theorem dX6_init_1 : decode cX6_init 1 = .ok (.invokespecial 1, 3) := by decide +kernel
theorem dX6_init_4 : decode cX6_init 4 = .ok (.aload_n 0, 1) := by decide +kernel
theorem dX6_init_5 : decode cX6_init 5 = .ok (.sipush 252, 3) := by decide +kernel
theorem dX6_init_8 : decode cX6_init 8 = .ok (.newarray .int, 2) := by decide +kernel
theorem dX6_init_10 : decode cX6_init 10 = .ok (.putfield 7, 3) := by decide +kernel
theorem dX6_init_13 : decode cX6_init 13 = .ok (.aload_n 0, 1) := by decide +kernel
theorem dX6_init_14 : decode cX6_init 14 = .ok (.sipush 1512, 3) := by decide +kernel
theorem dX6_init_17 : decode cX6_init 17 = .ok (.newarray .int, 2) := by decide +kernel
theorem dX6_init_19 : decode cX6_init 19 = .ok (.putfield 13, 3) := by decide +kernel
theorem dX6_init_22 : decode cX6_init 22 = .ok (.aload_n 0, 1) := by decide +kernel
theorem dX6_init_23 : decode cX6_init 23 = .ok (.sipush 252, 3) := by decide +kernel
theorem dX6_init_26 : decode cX6_init 26 = .ok (.newarray .int, 2) := by decide +kernel
theorem dX6_init_28 : decode cX6_init 28 = .ok (.putfield 16, 3) := by decide +kernel
theorem dX6_init_31 : decode cX6_init 31 = .ok (.aload_n 0, 1) := by decide +kernel
theorem dX6_init_32 : decode cX6_init 32 = .ok (.bipush 60, 2) := by decide +kernel
theorem dX6_init_34 : decode cX6_init 34 = .ok (.newarray .int, 2) := by decide +kernel
theorem dX6_init_36 : decode cX6_init 36 = .ok (.putfield 19, 3) := by decide +kernel
theorem dX6_init_39 : decode cX6_init 39 = .ok (.aload_n 0, 1) := by decide +kernel
theorem dX6_init_40 : decode cX6_init 40 = .ok (.bipush 6, 2) := by decide +kernel
theorem dX6_init_42 : decode cX6_init 42 = .ok (.newarray .int, 2) := by decide +kernel
theorem dX6_init_44 : decode cX6_init 44 = .ok (.putfield 22, 3) := by decide +kernel
theorem dX6_init_47 : decode cX6_init 47 = .ok (.iconst 0, 1) := by decide +kernel
theorem dX6_init_48 : decode cX6_init 48 = .ok (.istore_n 1, 1) := by decide +kernel
theorem dX6_init_49 : decode cX6_init 49 = .ok (.iload_n 1, 1) := by decide +kernel
theorem dX6_init_50 : decode cX6_init 50 = .ok (.bipush 6, 2) := by decide +kernel
theorem dX6_init_52 : decode cX6_init 52 = .ok (.if_icmp .ge 43, 3) := by decide +kernel
theorem dX6_init_55 : decode cX6_init 55 = .ok (.aload_n 0, 1) := by decide +kernel
theorem dX6_init_56 : decode cX6_init 56 = .ok (.iload_n 1, 1) := by decide +kernel
theorem dX6_init_57 : decode cX6_init 57 = .ok (.iconst 0, 1) := by decide +kernel
theorem dX6_init_58 : decode cX6_init 58 = .ok (.iload_n 1, 1) := by decide +kernel
theorem dX6_init_59 : decode cX6_init 59 = .ok (.ifCond .ne 7, 3) := by decide +kernel
theorem dX6_init_62 : decode cX6_init 62 = .ok (.iconst (-1), 1) := by decide +kernel
theorem dX6_init_63 : decode cX6_init 63 = .ok (.goto 8, 3) := by decide +kernel
theorem dX6_init_66 : decode cX6_init 66 = .ok (.iload_n 1, 1) := by decide +kernel
theorem dX6_init_67 : decode cX6_init 67 = .ok (.iconst 1, 1) := by decide +kernel
theorem dX6_init_68 : decode cX6_init 68 = .ok (.isub, 1) := by decide +kernel
theorem dX6_init_69 : decode cX6_init 69 = .ok (.iconst 2, 1) := by decide +kernel
theorem dX6_init_70 : decode cX6_init 70 = .ok (.idiv, 1) := by decide +kernel
theorem dX6_init_71 : decode cX6_init 71 = .ok (.invokevirtual 25, 3) := by decide +kernel
theorem dX6_init_74 : decode cX6_init 74 = .ok (.aload_n 0, 1) := by decide +kernel
theorem dX6_init_75 : decode cX6_init 75 = .ok (.iload_n 1, 1) := by decide +kernel
theorem dX6_init_76 : decode cX6_init 76 = .ok (.iconst 1, 1) := by decide +kernel
theorem dX6_init_77 : decode cX6_init 77 = .ok (.bipush 20, 2) := by decide +kernel
theorem dX6_init_79 : decode cX6_init 79 = .ok (.invokevirtual 25, 3) := by decide +kernel
theorem dX6_init_82 : decode cX6_init 82 = .ok (.aload_n 0, 1) := by decide +kernel
theorem dX6_init_83 : decode cX6_init 83 = .ok (.iload_n 1, 1) := by decide +kernel
theorem dX6_init_84 : decode cX6_init 84 = .ok (.iconst 2, 1) := by decide +kernel
theorem dX6_init_85 : decode cX6_init 85 = .ok (.iconst 5, 1) := by decide +kernel
theorem dX6_init_86 : decode cX6_init 86 = .ok (.invokevirtual 25, 3) := by decide +kernel
theorem dX6_init_89 : decode cX6_init 89 = .ok (.iinc 1 1, 3) := by decide +kernel
theorem dX6_init_92 : decode cX6_init 92 = .ok (.goto (-43), 3) := by decide +kernel
theorem dX6_init_95 : decode cX6_init 95 = .ok (.iconst 0, 1) := by decide +kernel
theorem dX6_init_96 : decode cX6_init 96 = .ok (.istore_n 1, 1) := by decide +kernel
theorem dX6_init_97 : decode cX6_init 97 = .ok (.iload_n 1, 1) := by decide +kernel
theorem dX6_init_98 : decode cX6_init 98 = .ok (.bipush 36, 2) := by decide +kernel
theorem dX6_init_100 : decode cX6_init 100 = .ok (.if_icmp .ge 16, 3) := by decide +kernel
theorem dX6_init_103 : decode cX6_init 103 = .ok (.aload_n 0, 1) := by decide +kernel
theorem dX6_init_104 : decode cX6_init 104 = .ok (.iload_n 1, 1) := by decide +kernel
theorem dX6_init_105 : decode cX6_init 105 = .ok (.iconst 1, 1) := by decide +kernel
theorem dX6_init_106 : decode cX6_init 106 = .ok (.iconst (-1), 1) := by decide +kernel
theorem dX6_init_107 : decode cX6_init 107 = .ok (.invokevirtual 29, 3) := by decide +kernel
theorem dX6_init_110 : decode cX6_init 110 = .ok (.iinc 1 1, 3) := by decide +kernel
theorem dX6_init_113 : decode cX6_init 113 = .ok (.goto (-16), 3) := by decide +kernel
theorem dX6_init_116 : decode cX6_init 116 = .ok (.return_, 1) := by decide +kernel
theorem dX6_thrown_0 : decode cX6_thrown 0 = .ok (.aload_n 0, 1) := by decide +kernel
theorem dX6_thrown_1 : decode cX6_thrown 1 = .ok (.getfield 32, 3) := by decide +kernel
theorem dX6_thrown_4 : decode cX6_thrown 4 = .ok (.ireturn, 1) := by decide +kernel
theorem dX6_within_0 : decode cX6_within 0 = .ok (.iload_n 0, 1) := by decide +kernel
theorem dX6_within_1 : decode cX6_within 1 = .ok (.iload_n 1, 1) := by decide +kernel
theorem dX6_within_2 : decode cX6_within 2 = .ok (.if_icmp .lt 12, 3) := by decide +kernel
theorem dX6_within_5 : decode cX6_within 5 = .ok (.iload_n 0, 1) := by decide +kernel
theorem dX6_within_6 : decode cX6_within 6 = .ok (.iload_n 2, 1) := by decide +kernel
theorem dX6_within_7 : decode cX6_within 7 = .ok (.if_icmp .gt 7, 3) := by decide +kernel
theorem dX6_within_10 : decode cX6_within 10 = .ok (.iconst 1, 1) := by decide +kernel
theorem dX6_within_11 : decode cX6_within 11 = .ok (.goto 4, 3) := by decide +kernel
theorem dX6_within_14 : decode cX6_within 14 = .ok (.iconst 0, 1) := by decide +kernel
theorem dX6_within_15 : decode cX6_within 15 = .ok (.ireturn, 1) := by decide +kernel
theorem dX6_lays_0 : decode cX6_lays 0 = .ok (.iconst 0, 1) := by decide +kernel
theorem dX6_lays_1 : decode cX6_lays 1 = .ok (.istore 4, 2) := by decide +kernel
theorem dX6_lays_3 : decode cX6_lays 3 = .ok (.iload 4, 2) := by decide +kernel
theorem dX6_lays_5 : decode cX6_lays 5 = .ok (.sipush 252, 3) := by decide +kernel
theorem dX6_lays_8 : decode cX6_lays 8 = .ok (.if_icmp .ge 21, 3) := by decide +kernel
theorem dX6_lays_11 : decode cX6_lays 11 = .ok (.aload_n 2, 1) := by decide +kernel
theorem dX6_lays_12 : decode cX6_lays 12 = .ok (.iload_n 3, 1) := by decide +kernel
theorem dX6_lays_13 : decode cX6_lays 13 = .ok (.iload 4, 2) := by decide +kernel
theorem dX6_lays_15 : decode cX6_lays 15 = .ok (.iadd, 1) := by decide +kernel
theorem dX6_lays_16 : decode cX6_lays 16 = .ok (.aload_n 0, 1) := by decide +kernel
theorem dX6_lays_17 : decode cX6_lays 17 = .ok (.iload_n 1, 1) := by decide +kernel
theorem dX6_lays_18 : decode cX6_lays 18 = .ok (.iload 4, 2) := by decide +kernel
theorem dX6_lays_20 : decode cX6_lays 20 = .ok (.iadd, 1) := by decide +kernel
theorem dX6_lays_21 : decode cX6_lays 21 = .ok (.iaload, 1) := by decide +kernel
theorem dX6_lays_22 : decode cX6_lays 22 = .ok (.iastore, 1) := by decide +kernel
theorem dX6_lays_23 : decode cX6_lays 23 = .ok (.iinc 4 1, 3) := by decide +kernel
theorem dX6_lays_26 : decode cX6_lays 26 = .ok (.goto (-23), 3) := by decide +kernel
theorem dX6_lays_29 : decode cX6_lays 29 = .ok (.return_, 1) := by decide +kernel
theorem dX6_record_0 : decode cX6_record 0 = .ok (.aload_n 0, 1) := by decide +kernel
theorem dX6_record_1 : decode cX6_record 1 = .ok (.getfield 36, 3) := by decide +kernel
theorem dX6_record_4 : decode cX6_record 4 = .ok (.bipush 6, 2) := by decide +kernel
theorem dX6_record_6 : decode cX6_record 6 = .ok (.if_icmp .ne 44, 3) := by decide +kernel
theorem dX6_record_9 : decode cX6_record 9 = .ok (.iconst 0, 1) := by decide +kernel
theorem dX6_record_10 : decode cX6_record 10 = .ok (.istore_n 1, 1) := by decide +kernel
theorem dX6_record_11 : decode cX6_record 11 = .ok (.iload_n 1, 1) := by decide +kernel
theorem dX6_record_12 : decode cX6_record 12 = .ok (.sipush 1260, 3) := by decide +kernel
theorem dX6_record_15 : decode cX6_record 15 = .ok (.if_icmp .ge 25, 3) := by decide +kernel
theorem dX6_record_18 : decode cX6_record 18 = .ok (.aload_n 0, 1) := by decide +kernel
theorem dX6_record_19 : decode cX6_record 19 = .ok (.getfield 13, 3) := by decide +kernel
theorem dX6_record_22 : decode cX6_record 22 = .ok (.iload_n 1, 1) := by decide +kernel
theorem dX6_record_23 : decode cX6_record 23 = .ok (.aload_n 0, 1) := by decide +kernel
theorem dX6_record_24 : decode cX6_record 24 = .ok (.getfield 13, 3) := by decide +kernel
theorem dX6_record_27 : decode cX6_record 27 = .ok (.iload_n 1, 1) := by decide +kernel
theorem dX6_record_28 : decode cX6_record 28 = .ok (.sipush 252, 3) := by decide +kernel
theorem dX6_record_31 : decode cX6_record 31 = .ok (.iadd, 1) := by decide +kernel
theorem dX6_record_32 : decode cX6_record 32 = .ok (.iaload, 1) := by decide +kernel
theorem dX6_record_33 : decode cX6_record 33 = .ok (.iastore, 1) := by decide +kernel
theorem dX6_record_34 : decode cX6_record 34 = .ok (.iinc 1 1, 3) := by decide +kernel
theorem dX6_record_37 : decode cX6_record 37 = .ok (.goto (-26), 3) := by decide +kernel
theorem dX6_record_40 : decode cX6_record 40 = .ok (.aload_n 0, 1) := by decide +kernel
theorem dX6_record_41 : decode cX6_record 41 = .ok (.dup, 1) := by decide +kernel
theorem dX6_record_42 : decode cX6_record 42 = .ok (.getfield 36, 3) := by decide +kernel
theorem dX6_record_45 : decode cX6_record 45 = .ok (.iconst 1, 1) := by decide +kernel
theorem dX6_record_46 : decode cX6_record 46 = .ok (.isub, 1) := by decide +kernel
theorem dX6_record_47 : decode cX6_record 47 = .ok (.putfield 36, 3) := by decide +kernel
theorem dX6_record_50 : decode cX6_record 50 = .ok (.aload_n 0, 1) := by decide +kernel
theorem dX6_record_51 : decode cX6_record 51 = .ok (.getfield 7, 3) := by decide +kernel
theorem dX6_record_54 : decode cX6_record 54 = .ok (.iconst 0, 1) := by decide +kernel
theorem dX6_record_55 : decode cX6_record 55 = .ok (.aload_n 0, 1) := by decide +kernel
theorem dX6_record_56 : decode cX6_record 56 = .ok (.getfield 13, 3) := by decide +kernel
theorem dX6_record_59 : decode cX6_record 59 = .ok (.aload_n 0, 1) := by decide +kernel
theorem dX6_record_60 : decode cX6_record 60 = .ok (.getfield 36, 3) := by decide +kernel
theorem dX6_record_63 : decode cX6_record 63 = .ok (.sipush 252, 3) := by decide +kernel
theorem dX6_record_66 : decode cX6_record 66 = .ok (.imul, 1) := by decide +kernel
theorem dX6_record_67 : decode cX6_record 67 = .ok (.invokestatic 39, 3) := by decide +kernel
theorem dX6_record_70 : decode cX6_record 70 = .ok (.aload_n 0, 1) := by decide +kernel
theorem dX6_record_71 : decode cX6_record 71 = .ok (.dup, 1) := by decide +kernel
theorem dX6_record_72 : decode cX6_record 72 = .ok (.getfield 36, 3) := by decide +kernel
theorem dX6_record_75 : decode cX6_record 75 = .ok (.iconst 1, 1) := by decide +kernel
theorem dX6_record_76 : decode cX6_record 76 = .ok (.iadd, 1) := by decide +kernel
theorem dX6_record_77 : decode cX6_record 77 = .ok (.putfield 36, 3) := by decide +kernel
theorem dX6_record_80 : decode cX6_record 80 = .ok (.return_, 1) := by decide +kernel
theorem dX6_isZone_0 : decode cX6_isZone 0 = .ok (.iload_n 0, 1) := by decide +kernel
theorem dX6_isZone_1 : decode cX6_isZone 1 = .ok (.iconst 0, 1) := by decide +kernel
theorem dX6_isZone_2 : decode cX6_isZone 2 = .ok (.iconst 5, 1) := by decide +kernel
theorem dX6_isZone_3 : decode cX6_isZone 3 = .ok (.invokestatic 43, 3) := by decide +kernel
theorem dX6_isZone_6 : decode cX6_isZone 6 = .ok (.ireturn, 1) := by decide +kernel
theorem dX6_isRiddle_0 : decode cX6_isRiddle 0 = .ok (.iload_n 0, 1) := by decide +kernel
theorem dX6_isRiddle_1 : decode cX6_isRiddle 1 = .ok (.iconst 0, 1) := by decide +kernel
theorem dX6_isRiddle_2 : decode cX6_isRiddle 2 = .ok (.bipush 35, 2) := by decide +kernel
theorem dX6_isRiddle_4 : decode cX6_isRiddle 4 = .ok (.invokestatic 43, 3) := by decide +kernel
theorem dX6_isRiddle_7 : decode cX6_isRiddle 7 = .ok (.ireturn, 1) := by decide +kernel
theorem dX6_isAge_0 : decode cX6_isAge 0 = .ok (.iload_n 0, 1) := by decide +kernel
theorem dX6_isAge_1 : decode cX6_isAge 1 = .ok (.iconst 1, 1) := by decide +kernel
theorem dX6_isAge_2 : decode cX6_isAge 2 = .ok (.bipush 99, 2) := by decide +kernel
theorem dX6_isAge_4 : decode cX6_isAge 4 = .ok (.invokestatic 43, 3) := by decide +kernel
theorem dX6_isAge_7 : decode cX6_isAge 7 = .ok (.ireturn, 1) := by decide +kernel
theorem dX6_ofZone_0 : decode cX6_ofZone 0 = .ok (.aload_n 0, 1) := by decide +kernel
theorem dX6_ofZone_1 : decode cX6_ofZone 1 = .ok (.getfield 7, 3) := by decide +kernel
theorem dX6_ofZone_4 : decode cX6_ofZone 4 = .ok (.bipush 6, 2) := by decide +kernel
theorem dX6_ofZone_6 : decode cX6_ofZone 6 = .ok (.iconst 5, 1) := by decide +kernel
theorem dX6_ofZone_7 : decode cX6_ofZone 7 = .ok (.iload_n 1, 1) := by decide +kernel
theorem dX6_ofZone_8 : decode cX6_ofZone 8 = .ok (.imul, 1) := by decide +kernel
theorem dX6_ofZone_9 : decode cX6_ofZone 9 = .ok (.iadd, 1) := by decide +kernel
theorem dX6_ofZone_10 : decode cX6_ofZone 10 = .ok (.iload_n 2, 1) := by decide +kernel
theorem dX6_ofZone_11 : decode cX6_ofZone 11 = .ok (.iadd, 1) := by decide +kernel
theorem dX6_ofZone_12 : decode cX6_ofZone 12 = .ok (.iaload, 1) := by decide +kernel
theorem dX6_ofZone_13 : decode cX6_ofZone 13 = .ok (.ireturn, 1) := by decide +kernel
theorem dX6_putsZone_0 : decode cX6_putsZone 0 = .ok (.aload_n 0, 1) := by decide +kernel
theorem dX6_putsZone_1 : decode cX6_putsZone 1 = .ok (.getfield 7, 3) := by decide +kernel
theorem dX6_putsZone_4 : decode cX6_putsZone 4 = .ok (.bipush 6, 2) := by decide +kernel
theorem dX6_putsZone_6 : decode cX6_putsZone 6 = .ok (.iconst 5, 1) := by decide +kernel
theorem dX6_putsZone_7 : decode cX6_putsZone 7 = .ok (.iload_n 1, 1) := by decide +kernel
theorem dX6_putsZone_8 : decode cX6_putsZone 8 = .ok (.imul, 1) := by decide +kernel
theorem dX6_putsZone_9 : decode cX6_putsZone 9 = .ok (.iadd, 1) := by decide +kernel
theorem dX6_putsZone_10 : decode cX6_putsZone 10 = .ok (.iload_n 2, 1) := by decide +kernel
theorem dX6_putsZone_11 : decode cX6_putsZone 11 = .ok (.iadd, 1) := by decide +kernel
theorem dX6_putsZone_12 : decode cX6_putsZone 12 = .ok (.iload_n 3, 1) := by decide +kernel
theorem dX6_putsZone_13 : decode cX6_putsZone 13 = .ok (.iastore, 1) := by decide +kernel
theorem dX6_putsZone_14 : decode cX6_putsZone 14 = .ok (.return_, 1) := by decide +kernel
theorem dX6_of_0 : decode cX6_of 0 = .ok (.aload_n 0, 1) := by decide +kernel
theorem dX6_of_1 : decode cX6_of 1 = .ok (.getfield 7, 3) := by decide +kernel
theorem dX6_of_4 : decode cX6_of 4 = .ok (.bipush 36, 2) := by decide +kernel
theorem dX6_of_6 : decode cX6_of 6 = .ok (.bipush 6, 2) := by decide +kernel
theorem dX6_of_8 : decode cX6_of 8 = .ok (.iload_n 1, 1) := by decide +kernel
theorem dX6_of_9 : decode cX6_of 9 = .ok (.imul, 1) := by decide +kernel
theorem dX6_of_10 : decode cX6_of 10 = .ok (.iadd, 1) := by decide +kernel
theorem dX6_of_11 : decode cX6_of 11 = .ok (.iload_n 2, 1) := by decide +kernel
theorem dX6_of_12 : decode cX6_of 12 = .ok (.iadd, 1) := by decide +kernel
theorem dX6_of_13 : decode cX6_of 13 = .ok (.iaload, 1) := by decide +kernel
theorem dX6_of_14 : decode cX6_of 14 = .ok (.ireturn, 1) := by decide +kernel
theorem dX6_puts_0 : decode cX6_puts 0 = .ok (.aload_n 0, 1) := by decide +kernel
theorem dX6_puts_1 : decode cX6_puts 1 = .ok (.getfield 7, 3) := by decide +kernel
theorem dX6_puts_4 : decode cX6_puts 4 = .ok (.bipush 36, 2) := by decide +kernel
theorem dX6_puts_6 : decode cX6_puts 6 = .ok (.bipush 6, 2) := by decide +kernel
theorem dX6_puts_8 : decode cX6_puts 8 = .ok (.iload_n 1, 1) := by decide +kernel
theorem dX6_puts_9 : decode cX6_puts 9 = .ok (.imul, 1) := by decide +kernel
theorem dX6_puts_10 : decode cX6_puts 10 = .ok (.iadd, 1) := by decide +kernel
theorem dX6_puts_11 : decode cX6_puts 11 = .ok (.iload_n 2, 1) := by decide +kernel
theorem dX6_puts_12 : decode cX6_puts 12 = .ok (.iadd, 1) := by decide +kernel
theorem dX6_puts_13 : decode cX6_puts 13 = .ok (.iload_n 3, 1) := by decide +kernel
theorem dX6_puts_14 : decode cX6_puts 14 = .ok (.iastore, 1) := by decide +kernel
theorem dX6_puts_15 : decode cX6_puts 15 = .ok (.return_, 1) := by decide +kernel
theorem dX6_setParent_0 : decode cX6_setParent 0 = .ok (.aload_n 0, 1) := by decide +kernel
theorem dX6_setParent_1 : decode cX6_setParent 1 = .ok (.iload_n 1, 1) := by decide +kernel
theorem dX6_setParent_2 : decode cX6_setParent 2 = .ok (.iconst 1, 1) := by decide +kernel
theorem dX6_setParent_3 : decode cX6_setParent 3 = .ok (.iconst 5, 1) := by decide +kernel
theorem dX6_setParent_4 : decode cX6_setParent 4 = .ok (.invokestatic 43, 3) := by decide +kernel
theorem dX6_setParent_7 : decode cX6_setParent 7 = .ok (.ifCond .ne 7, 3) := by decide +kernel
theorem dX6_setParent_10 : decode cX6_setParent 10 = .ok (.iconst 1, 1) := by decide +kernel
theorem dX6_setParent_11 : decode cX6_setParent 11 = .ok (.goto 19, 3) := by decide +kernel
theorem dX6_setParent_14 : decode cX6_setParent 14 = .ok (.iload_n 2, 1) := by decide +kernel
theorem dX6_setParent_15 : decode cX6_setParent 15 = .ok (.iconst 0, 1) := by decide +kernel
theorem dX6_setParent_16 : decode cX6_setParent 16 = .ok (.iload_n 1, 1) := by decide +kernel
theorem dX6_setParent_17 : decode cX6_setParent 17 = .ok (.iconst 1, 1) := by decide +kernel
theorem dX6_setParent_18 : decode cX6_setParent 18 = .ok (.isub, 1) := by decide +kernel
theorem dX6_setParent_19 : decode cX6_setParent 19 = .ok (.invokestatic 43, 3) := by decide +kernel
theorem dX6_setParent_22 : decode cX6_setParent 22 = .ok (.ifCond .eq 7, 3) := by decide +kernel
theorem dX6_setParent_25 : decode cX6_setParent 25 = .ok (.iconst 0, 1) := by decide +kernel
theorem dX6_setParent_26 : decode cX6_setParent 26 = .ok (.goto 4, 3) := by decide +kernel
theorem dX6_setParent_29 : decode cX6_setParent 29 = .ok (.iconst 2, 1) := by decide +kernel
theorem dX6_setParent_30 : decode cX6_setParent 30 = .ok (.putfield 32, 3) := by decide +kernel
theorem dX6_setParent_33 : decode cX6_setParent 33 = .ok (.aload_n 0, 1) := by decide +kernel
theorem dX6_setParent_34 : decode cX6_setParent 34 = .ok (.getfield 32, 3) := by decide +kernel
theorem dX6_setParent_37 : decode cX6_setParent 37 = .ok (.ifCond .le 5, 3) := by decide +kernel
theorem dX6_setParent_40 : decode cX6_setParent 40 = .ok (.iconst 0, 1) := by decide +kernel
theorem dX6_setParent_41 : decode cX6_setParent 41 = .ok (.ireturn, 1) := by decide +kernel
theorem dX6_setParent_42 : decode cX6_setParent 42 = .ok (.aload_n 0, 1) := by decide +kernel
theorem dX6_setParent_43 : decode cX6_setParent 43 = .ok (.invokevirtual 47, 3) := by decide +kernel
theorem dX6_setParent_46 : decode cX6_setParent 46 = .ok (.aload_n 0, 1) := by decide +kernel
theorem dX6_setParent_47 : decode cX6_setParent 47 = .ok (.iload_n 1, 1) := by decide +kernel
theorem dX6_setParent_48 : decode cX6_setParent 48 = .ok (.iconst 0, 1) := by decide +kernel
theorem dX6_setParent_49 : decode cX6_setParent 49 = .ok (.invokevirtual 50, 3) := by decide +kernel
theorem dX6_setParent_52 : decode cX6_setParent 52 = .ok (.istore_n 3, 1) := by decide +kernel
theorem dX6_setParent_53 : decode cX6_setParent 53 = .ok (.aload_n 0, 1) := by decide +kernel
theorem dX6_setParent_54 : decode cX6_setParent 54 = .ok (.iload_n 1, 1) := by decide +kernel
theorem dX6_setParent_55 : decode cX6_setParent 55 = .ok (.iconst 0, 1) := by decide +kernel
theorem dX6_setParent_56 : decode cX6_setParent 56 = .ok (.iload_n 2, 1) := by decide +kernel
theorem dX6_setParent_57 : decode cX6_setParent 57 = .ok (.invokevirtual 25, 3) := by decide +kernel
theorem dX6_setParent_60 : decode cX6_setParent 60 = .ok (.iload_n 3, 1) := by decide +kernel
theorem dX6_setParent_61 : decode cX6_setParent 61 = .ok (.ireturn, 1) := by decide +kernel
theorem dX6_setAges_0 : decode cX6_setAges 0 = .ok (.aload_n 0, 1) := by decide +kernel
theorem dX6_setAges_1 : decode cX6_setAges 1 = .ok (.iload_n 1, 1) := by decide +kernel
theorem dX6_setAges_2 : decode cX6_setAges 2 = .ok (.invokestatic 54, 3) := by decide +kernel
theorem dX6_setAges_5 : decode cX6_setAges 5 = .ok (.ifCond .ne 7, 3) := by decide +kernel
theorem dX6_setAges_8 : decode cX6_setAges 8 = .ok (.iconst 1, 1) := by decide +kernel
theorem dX6_setAges_9 : decode cX6_setAges 9 = .ok (.goto 22, 3) := by decide +kernel
theorem dX6_setAges_12 : decode cX6_setAges 12 = .ok (.iload_n 2, 1) := by decide +kernel
theorem dX6_setAges_13 : decode cX6_setAges 13 = .ok (.invokestatic 58, 3) := by decide +kernel
theorem dX6_setAges_16 : decode cX6_setAges 16 = .ok (.ifCond .eq 14, 3) := by decide +kernel
theorem dX6_setAges_19 : decode cX6_setAges 19 = .ok (.iload_n 3, 1) := by decide +kernel
theorem dX6_setAges_20 : decode cX6_setAges 20 = .ok (.invokestatic 58, 3) := by decide +kernel
theorem dX6_setAges_23 : decode cX6_setAges 23 = .ok (.ifCond .eq 7, 3) := by decide +kernel
theorem dX6_setAges_26 : decode cX6_setAges 26 = .ok (.iconst 0, 1) := by decide +kernel
theorem dX6_setAges_27 : decode cX6_setAges 27 = .ok (.goto 4, 3) := by decide +kernel
theorem dX6_setAges_30 : decode cX6_setAges 30 = .ok (.iconst 2, 1) := by decide +kernel
theorem dX6_setAges_31 : decode cX6_setAges 31 = .ok (.putfield 32, 3) := by decide +kernel
theorem dX6_setAges_34 : decode cX6_setAges 34 = .ok (.aload_n 0, 1) := by decide +kernel
theorem dX6_setAges_35 : decode cX6_setAges 35 = .ok (.getfield 32, 3) := by decide +kernel
theorem dX6_setAges_38 : decode cX6_setAges 38 = .ok (.ifCond .le 5, 3) := by decide +kernel
theorem dX6_setAges_41 : decode cX6_setAges 41 = .ok (.iconst 0, 1) := by decide +kernel
theorem dX6_setAges_42 : decode cX6_setAges 42 = .ok (.ireturn, 1) := by decide +kernel
theorem dX6_setAges_43 : decode cX6_setAges 43 = .ok (.aload_n 0, 1) := by decide +kernel
theorem dX6_setAges_44 : decode cX6_setAges 44 = .ok (.invokevirtual 47, 3) := by decide +kernel
theorem dX6_setAges_47 : decode cX6_setAges 47 = .ok (.aload_n 0, 1) := by decide +kernel
theorem dX6_setAges_48 : decode cX6_setAges 48 = .ok (.iload_n 1, 1) := by decide +kernel
theorem dX6_setAges_49 : decode cX6_setAges 49 = .ok (.iconst 1, 1) := by decide +kernel
theorem dX6_setAges_50 : decode cX6_setAges 50 = .ok (.invokevirtual 50, 3) := by decide +kernel
theorem dX6_setAges_53 : decode cX6_setAges 53 = .ok (.istore 4, 2) := by decide +kernel
theorem dX6_setAges_55 : decode cX6_setAges 55 = .ok (.aload_n 0, 1) := by decide +kernel
theorem dX6_setAges_56 : decode cX6_setAges 56 = .ok (.iload_n 1, 1) := by decide +kernel
theorem dX6_setAges_57 : decode cX6_setAges 57 = .ok (.iconst 1, 1) := by decide +kernel
theorem dX6_setAges_58 : decode cX6_setAges 58 = .ok (.iload_n 2, 1) := by decide +kernel
theorem dX6_setAges_59 : decode cX6_setAges 59 = .ok (.invokevirtual 25, 3) := by decide +kernel
theorem dX6_setAges_62 : decode cX6_setAges 62 = .ok (.aload_n 0, 1) := by decide +kernel
theorem dX6_setAges_63 : decode cX6_setAges 63 = .ok (.iload_n 1, 1) := by decide +kernel
theorem dX6_setAges_64 : decode cX6_setAges 64 = .ok (.iconst 2, 1) := by decide +kernel
theorem dX6_setAges_65 : decode cX6_setAges 65 = .ok (.iload_n 3, 1) := by decide +kernel
theorem dX6_setAges_66 : decode cX6_setAges 66 = .ok (.invokevirtual 25, 3) := by decide +kernel
theorem dX6_setAges_69 : decode cX6_setAges 69 = .ok (.iload 4, 2) := by decide +kernel
theorem dX6_setAges_71 : decode cX6_setAges 71 = .ok (.ireturn, 1) := by decide +kernel
theorem dX6_gives_0 : decode cX6_gives 0 = .ok (.aload_n 0, 1) := by decide +kernel
theorem dX6_gives_1 : decode cX6_gives 1 = .ok (.invokevirtual 47, 3) := by decide +kernel
theorem dX6_gives_4 : decode cX6_gives 4 = .ok (.aload_n 0, 1) := by decide +kernel
theorem dX6_gives_5 : decode cX6_gives 5 = .ok (.iload_n 1, 1) := by decide +kernel
theorem dX6_gives_6 : decode cX6_gives 6 = .ok (.iconst 0, 1) := by decide +kernel
theorem dX6_gives_7 : decode cX6_gives 7 = .ok (.invokevirtual 61, 3) := by decide +kernel
theorem dX6_gives_10 : decode cX6_gives 10 = .ok (.istore 5, 2) := by decide +kernel
theorem dX6_gives_12 : decode cX6_gives 12 = .ok (.aload_n 0, 1) := by decide +kernel
theorem dX6_gives_13 : decode cX6_gives 13 = .ok (.iload_n 1, 1) := by decide +kernel
theorem dX6_gives_14 : decode cX6_gives 14 = .ok (.iconst 0, 1) := by decide +kernel
theorem dX6_gives_15 : decode cX6_gives 15 = .ok (.iload_n 2, 1) := by decide +kernel
theorem dX6_gives_16 : decode cX6_gives 16 = .ok (.invokevirtual 29, 3) := by decide +kernel
theorem dX6_gives_19 : decode cX6_gives 19 = .ok (.aload_n 0, 1) := by decide +kernel
theorem dX6_gives_20 : decode cX6_gives 20 = .ok (.iload_n 1, 1) := by decide +kernel
theorem dX6_gives_21 : decode cX6_gives 21 = .ok (.iconst 1, 1) := by decide +kernel
theorem dX6_gives_22 : decode cX6_gives 22 = .ok (.iload_n 3, 1) := by decide +kernel
theorem dX6_gives_23 : decode cX6_gives 23 = .ok (.invokevirtual 29, 3) := by decide +kernel
theorem dX6_gives_26 : decode cX6_gives 26 = .ok (.aload_n 0, 1) := by decide +kernel
theorem dX6_gives_27 : decode cX6_gives 27 = .ok (.iload_n 1, 1) := by decide +kernel
theorem dX6_gives_28 : decode cX6_gives 28 = .ok (.iconst 2, 1) := by decide +kernel
theorem dX6_gives_29 : decode cX6_gives 29 = .ok (.iload 4, 2) := by decide +kernel
theorem dX6_gives_31 : decode cX6_gives 31 = .ok (.invokevirtual 29, 3) := by decide +kernel
theorem dX6_gives_34 : decode cX6_gives 34 = .ok (.iload 5, 2) := by decide +kernel
theorem dX6_gives_36 : decode cX6_gives 36 = .ok (.ireturn, 1) := by decide +kernel
theorem dX6_setAnswer_0 : decode cX6_setAnswer 0 = .ok (.aload_n 0, 1) := by decide +kernel
theorem dX6_setAnswer_1 : decode cX6_setAnswer 1 = .ok (.iload_n 1, 1) := by decide +kernel
theorem dX6_setAnswer_2 : decode cX6_setAnswer 2 = .ok (.invokestatic 64, 3) := by decide +kernel
theorem dX6_setAnswer_5 : decode cX6_setAnswer 5 = .ok (.ifCond .ne 7, 3) := by decide +kernel
theorem dX6_setAnswer_8 : decode cX6_setAnswer 8 = .ok (.iconst 1, 1) := by decide +kernel
theorem dX6_setAnswer_9 : decode cX6_setAnswer 9 = .ok (.goto 25, 3) := by decide +kernel
theorem dX6_setAnswer_12 : decode cX6_setAnswer 12 = .ok (.iload_n 2, 1) := by decide +kernel
theorem dX6_setAnswer_13 : decode cX6_setAnswer 13 = .ok (.iconst 0, 1) := by decide +kernel
theorem dX6_setAnswer_14 : decode cX6_setAnswer 14 = .ok (.bipush 99, 2) := by decide +kernel
theorem dX6_setAnswer_16 : decode cX6_setAnswer 16 = .ok (.invokestatic 43, 3) := by decide +kernel
theorem dX6_setAnswer_19 : decode cX6_setAnswer 19 = .ok (.ifCond .eq 14, 3) := by decide +kernel
theorem dX6_setAnswer_22 : decode cX6_setAnswer 22 = .ok (.iload_n 3, 1) := by decide +kernel
theorem dX6_setAnswer_23 : decode cX6_setAnswer 23 = .ok (.invokestatic 58, 3) := by decide +kernel
theorem dX6_setAnswer_26 : decode cX6_setAnswer 26 = .ok (.ifCond .eq 7, 3) := by decide +kernel
theorem dX6_setAnswer_29 : decode cX6_setAnswer 29 = .ok (.iconst 0, 1) := by decide +kernel
theorem dX6_setAnswer_30 : decode cX6_setAnswer 30 = .ok (.goto 4, 3) := by decide +kernel
theorem dX6_setAnswer_33 : decode cX6_setAnswer 33 = .ok (.iconst 2, 1) := by decide +kernel
theorem dX6_setAnswer_34 : decode cX6_setAnswer 34 = .ok (.putfield 32, 3) := by decide +kernel
theorem dX6_setAnswer_37 : decode cX6_setAnswer 37 = .ok (.aload_n 0, 1) := by decide +kernel
theorem dX6_setAnswer_38 : decode cX6_setAnswer 38 = .ok (.getfield 32, 3) := by decide +kernel
theorem dX6_setAnswer_41 : decode cX6_setAnswer 41 = .ok (.ifCond .le 7, 3) := by decide +kernel
theorem dX6_setAnswer_44 : decode cX6_setAnswer 44 = .ok (.iconst 0, 1) := by decide +kernel
theorem dX6_setAnswer_45 : decode cX6_setAnswer 45 = .ok (.goto 11, 3) := by decide +kernel
theorem dX6_setAnswer_48 : decode cX6_setAnswer 48 = .ok (.aload_n 0, 1) := by decide +kernel
theorem dX6_setAnswer_49 : decode cX6_setAnswer 49 = .ok (.iload_n 1, 1) := by decide +kernel
theorem dX6_setAnswer_50 : decode cX6_setAnswer 50 = .ok (.iconst 1, 1) := by decide +kernel
theorem dX6_setAnswer_51 : decode cX6_setAnswer 51 = .ok (.iload_n 2, 1) := by decide +kernel
theorem dX6_setAnswer_52 : decode cX6_setAnswer 52 = .ok (.iload_n 3, 1) := by decide +kernel
theorem dX6_setAnswer_53 : decode cX6_setAnswer 53 = .ok (.invokevirtual 67, 3) := by decide +kernel
theorem dX6_setAnswer_56 : decode cX6_setAnswer 56 = .ok (.ireturn, 1) := by decide +kernel
theorem dX6_setReference_0 : decode cX6_setReference 0 = .ok (.aload_n 0, 1) := by decide +kernel
theorem dX6_setReference_1 : decode cX6_setReference 1 = .ok (.iload_n 1, 1) := by decide +kernel
theorem dX6_setReference_2 : decode cX6_setReference 2 = .ok (.invokestatic 64, 3) := by decide +kernel
theorem dX6_setReference_5 : decode cX6_setReference 5 = .ok (.ifCond .eq 10, 3) := by decide +kernel
theorem dX6_setReference_8 : decode cX6_setReference 8 = .ok (.iload_n 2, 1) := by decide +kernel
theorem dX6_setReference_9 : decode cX6_setReference 9 = .ok (.invokestatic 64, 3) := by decide +kernel
theorem dX6_setReference_12 : decode cX6_setReference 12 = .ok (.ifCond .ne 7, 3) := by decide +kernel
theorem dX6_setReference_15 : decode cX6_setReference 15 = .ok (.iconst 1, 1) := by decide +kernel
theorem dX6_setReference_16 : decode cX6_setReference 16 = .ok (.goto 20, 3) := by decide +kernel
theorem dX6_setReference_19 : decode cX6_setReference 19 = .ok (.iload_n 1, 1) := by decide +kernel
theorem dX6_setReference_20 : decode cX6_setReference 20 = .ok (.iload_n 2, 1) := by decide +kernel
theorem dX6_setReference_21 : decode cX6_setReference 21 = .ok (.if_icmp .eq 14, 3) := by decide +kernel
theorem dX6_setReference_24 : decode cX6_setReference 24 = .ok (.iload_n 3, 1) := by decide +kernel
theorem dX6_setReference_25 : decode cX6_setReference 25 = .ok (.invokestatic 58, 3) := by decide +kernel
theorem dX6_setReference_28 : decode cX6_setReference 28 = .ok (.ifCond .eq 7, 3) := by decide +kernel
theorem dX6_setReference_31 : decode cX6_setReference 31 = .ok (.iconst 0, 1) := by decide +kernel
theorem dX6_setReference_32 : decode cX6_setReference 32 = .ok (.goto 4, 3) := by decide +kernel
theorem dX6_setReference_35 : decode cX6_setReference 35 = .ok (.iconst 2, 1) := by decide +kernel
theorem dX6_setReference_36 : decode cX6_setReference 36 = .ok (.putfield 32, 3) := by decide +kernel
theorem dX6_setReference_39 : decode cX6_setReference 39 = .ok (.aload_n 0, 1) := by decide +kernel
theorem dX6_setReference_40 : decode cX6_setReference 40 = .ok (.getfield 32, 3) := by decide +kernel
theorem dX6_setReference_43 : decode cX6_setReference 43 = .ok (.ifCond .le 7, 3) := by decide +kernel
theorem dX6_setReference_46 : decode cX6_setReference 46 = .ok (.iconst 0, 1) := by decide +kernel
theorem dX6_setReference_47 : decode cX6_setReference 47 = .ok (.goto 11, 3) := by decide +kernel
theorem dX6_setReference_50 : decode cX6_setReference 50 = .ok (.aload_n 0, 1) := by decide +kernel
theorem dX6_setReference_51 : decode cX6_setReference 51 = .ok (.iload_n 1, 1) := by decide +kernel
theorem dX6_setReference_52 : decode cX6_setReference 52 = .ok (.iconst 2, 1) := by decide +kernel
theorem dX6_setReference_53 : decode cX6_setReference 53 = .ok (.iload_n 2, 1) := by decide +kernel
theorem dX6_setReference_54 : decode cX6_setReference 54 = .ok (.iload_n 3, 1) := by decide +kernel
theorem dX6_setReference_55 : decode cX6_setReference 55 = .ok (.invokevirtual 67, 3) := by decide +kernel
theorem dX6_setReference_58 : decode cX6_setReference 58 = .ok (.ireturn, 1) := by decide +kernel
theorem dX6_takeAway_0 : decode cX6_takeAway 0 = .ok (.aload_n 0, 1) := by decide +kernel
theorem dX6_takeAway_1 : decode cX6_takeAway 1 = .ok (.iload_n 1, 1) := by decide +kernel
theorem dX6_takeAway_2 : decode cX6_takeAway 2 = .ok (.invokestatic 64, 3) := by decide +kernel
theorem dX6_takeAway_5 : decode cX6_takeAway 5 = .ok (.ifCond .ne 7, 3) := by decide +kernel
theorem dX6_takeAway_8 : decode cX6_takeAway 8 = .ok (.iconst 1, 1) := by decide +kernel
theorem dX6_takeAway_9 : decode cX6_takeAway 9 = .ok (.goto 17, 3) := by decide +kernel
theorem dX6_takeAway_12 : decode cX6_takeAway 12 = .ok (.aload_n 0, 1) := by decide +kernel
theorem dX6_takeAway_13 : decode cX6_takeAway 13 = .ok (.iload_n 1, 1) := by decide +kernel
theorem dX6_takeAway_14 : decode cX6_takeAway 14 = .ok (.iconst 0, 1) := by decide +kernel
theorem dX6_takeAway_15 : decode cX6_takeAway 15 = .ok (.invokevirtual 61, 3) := by decide +kernel
theorem dX6_takeAway_18 : decode cX6_takeAway 18 = .ok (.ifCond .ne 7, 3) := by decide +kernel
theorem dX6_takeAway_21 : decode cX6_takeAway 21 = .ok (.iconst 2, 1) := by decide +kernel
theorem dX6_takeAway_22 : decode cX6_takeAway 22 = .ok (.goto 4, 3) := by decide +kernel
theorem dX6_takeAway_25 : decode cX6_takeAway 25 = .ok (.iconst 0, 1) := by decide +kernel
theorem dX6_takeAway_26 : decode cX6_takeAway 26 = .ok (.putfield 32, 3) := by decide +kernel
theorem dX6_takeAway_29 : decode cX6_takeAway 29 = .ok (.aload_n 0, 1) := by decide +kernel
theorem dX6_takeAway_30 : decode cX6_takeAway 30 = .ok (.getfield 32, 3) := by decide +kernel
theorem dX6_takeAway_33 : decode cX6_takeAway 33 = .ok (.ifCond .le 7, 3) := by decide +kernel
theorem dX6_takeAway_36 : decode cX6_takeAway 36 = .ok (.iconst 0, 1) := by decide +kernel
theorem dX6_takeAway_37 : decode cX6_takeAway 37 = .ok (.goto 11, 3) := by decide +kernel
theorem dX6_takeAway_40 : decode cX6_takeAway 40 = .ok (.aload_n 0, 1) := by decide +kernel
theorem dX6_takeAway_41 : decode cX6_takeAway 41 = .ok (.iload_n 1, 1) := by decide +kernel
theorem dX6_takeAway_42 : decode cX6_takeAway 42 = .ok (.iconst 0, 1) := by decide +kernel
theorem dX6_takeAway_43 : decode cX6_takeAway 43 = .ok (.iconst (-1), 1) := by decide +kernel
theorem dX6_takeAway_44 : decode cX6_takeAway 44 = .ok (.iconst 0, 1) := by decide +kernel
theorem dX6_takeAway_45 : decode cX6_takeAway 45 = .ok (.invokevirtual 67, 3) := by decide +kernel
theorem dX6_takeAway_48 : decode cX6_takeAway 48 = .ok (.ireturn, 1) := by decide +kernel
theorem dX6_costs_0 : decode cX6_costs 0 = .ok (.aload_n 0, 1) := by decide +kernel
theorem dX6_costs_1 : decode cX6_costs 1 = .ok (.getfield 7, 3) := by decide +kernel
theorem dX6_costs_4 : decode cX6_costs 4 = .ok (.iconst 2, 1) := by decide +kernel
theorem dX6_costs_5 : decode cX6_costs 5 = .ok (.dup2, 1) := by decide +kernel
theorem dX6_costs_6 : decode cX6_costs 6 = .ok (.iaload, 1) := by decide +kernel
theorem dX6_costs_7 : decode cX6_costs 7 = .ok (.iconst 1, 1) := by decide +kernel
theorem dX6_costs_8 : decode cX6_costs 8 = .ok (.iadd, 1) := by decide +kernel
theorem dX6_costs_9 : decode cX6_costs 9 = .ok (.iastore, 1) := by decide +kernel
theorem dX6_costs_10 : decode cX6_costs 10 = .ok (.aload_n 0, 1) := by decide +kernel
theorem dX6_costs_11 : decode cX6_costs 11 = .ok (.iload_n 1, 1) := by decide +kernel
theorem dX6_costs_12 : decode cX6_costs 12 = .ok (.iconst 4, 1) := by decide +kernel
theorem dX6_costs_13 : decode cX6_costs 13 = .ok (.aload_n 0, 1) := by decide +kernel
theorem dX6_costs_14 : decode cX6_costs 14 = .ok (.iload_n 1, 1) := by decide +kernel
theorem dX6_costs_15 : decode cX6_costs 15 = .ok (.iconst 4, 1) := by decide +kernel
theorem dX6_costs_16 : decode cX6_costs 16 = .ok (.invokevirtual 50, 3) := by decide +kernel
theorem dX6_costs_19 : decode cX6_costs 19 = .ok (.iconst 1, 1) := by decide +kernel
theorem dX6_costs_20 : decode cX6_costs 20 = .ok (.iadd, 1) := by decide +kernel
theorem dX6_costs_21 : decode cX6_costs 21 = .ok (.invokevirtual 25, 3) := by decide +kernel
theorem dX6_costs_24 : decode cX6_costs 24 = .ok (.return_, 1) := by decide +kernel
theorem dX6_comesTo_0 : decode cX6_comesTo 0 = .ok (.iconst 0, 1) := by decide +kernel
theorem dX6_comesTo_1 : decode cX6_comesTo 1 = .ok (.istore_n 2, 1) := by decide +kernel
theorem dX6_comesTo_2 : decode cX6_comesTo 2 = .ok (.iload_n 1, 1) := by decide +kernel
theorem dX6_comesTo_3 : decode cX6_comesTo 3 = .ok (.istore_n 3, 1) := by decide +kernel
theorem dX6_comesTo_4 : decode cX6_comesTo 4 = .ok (.iload_n 3, 1) := by decide +kernel
theorem dX6_comesTo_5 : decode cX6_comesTo 5 = .ok (.ifCond .eq 32, 3) := by decide +kernel
theorem dX6_comesTo_8 : decode cX6_comesTo 8 = .ok (.aload_n 0, 1) := by decide +kernel
theorem dX6_comesTo_9 : decode cX6_comesTo 9 = .ok (.iload_n 3, 1) := by decide +kernel
theorem dX6_comesTo_10 : decode cX6_comesTo 10 = .ok (.iconst 3, 1) := by decide +kernel
theorem dX6_comesTo_11 : decode cX6_comesTo 11 = .ok (.invokevirtual 50, 3) := by decide +kernel
theorem dX6_comesTo_14 : decode cX6_comesTo 14 = .ok (.ifCond .ne 23, 3) := by decide +kernel
theorem dX6_comesTo_17 : decode cX6_comesTo 17 = .ok (.aload_n 0, 1) := by decide +kernel
theorem dX6_comesTo_18 : decode cX6_comesTo 18 = .ok (.getfield 22, 3) := by decide +kernel
theorem dX6_comesTo_21 : decode cX6_comesTo 21 = .ok (.iload_n 2, 1) := by decide +kernel
theorem dX6_comesTo_22 : decode cX6_comesTo 22 = .ok (.iload_n 3, 1) := by decide +kernel
theorem dX6_comesTo_23 : decode cX6_comesTo 23 = .ok (.iastore, 1) := by decide +kernel
theorem dX6_comesTo_24 : decode cX6_comesTo 24 = .ok (.iinc 2 1, 3) := by decide +kernel
theorem dX6_comesTo_27 : decode cX6_comesTo 27 = .ok (.aload_n 0, 1) := by decide +kernel
theorem dX6_comesTo_28 : decode cX6_comesTo 28 = .ok (.iload_n 3, 1) := by decide +kernel
theorem dX6_comesTo_29 : decode cX6_comesTo 29 = .ok (.iconst 0, 1) := by decide +kernel
theorem dX6_comesTo_30 : decode cX6_comesTo 30 = .ok (.invokevirtual 50, 3) := by decide +kernel
theorem dX6_comesTo_33 : decode cX6_comesTo 33 = .ok (.istore_n 3, 1) := by decide +kernel
theorem dX6_comesTo_34 : decode cX6_comesTo 34 = .ok (.goto (-30), 3) := by decide +kernel
theorem dX6_comesTo_37 : decode cX6_comesTo 37 = .ok (.iload_n 2, 1) := by decide +kernel
theorem dX6_comesTo_38 : decode cX6_comesTo 38 = .ok (.iconst 1, 1) := by decide +kernel
theorem dX6_comesTo_39 : decode cX6_comesTo 39 = .ok (.isub, 1) := by decide +kernel
theorem dX6_comesTo_40 : decode cX6_comesTo 40 = .ok (.istore 4, 2) := by decide +kernel
theorem dX6_comesTo_42 : decode cX6_comesTo 42 = .ok (.iload 4, 2) := by decide +kernel
theorem dX6_comesTo_44 : decode cX6_comesTo 44 = .ok (.ifCond .lt 57, 3) := by decide +kernel
theorem dX6_comesTo_47 : decode cX6_comesTo 47 = .ok (.aload_n 0, 1) := by decide +kernel
theorem dX6_comesTo_48 : decode cX6_comesTo 48 = .ok (.iload_n 3, 1) := by decide +kernel
theorem dX6_comesTo_49 : decode cX6_comesTo 49 = .ok (.invokevirtual 71, 3) := by decide +kernel
theorem dX6_comesTo_52 : decode cX6_comesTo 52 = .ok (.aload_n 0, 1) := by decide +kernel
theorem dX6_comesTo_53 : decode cX6_comesTo 53 = .ok (.aload_n 0, 1) := by decide +kernel
theorem dX6_comesTo_54 : decode cX6_comesTo 54 = .ok (.getfield 22, 3) := by decide +kernel
theorem dX6_comesTo_57 : decode cX6_comesTo 57 = .ok (.iload 4, 2) := by decide +kernel
theorem dX6_comesTo_59 : decode cX6_comesTo 59 = .ok (.iaload, 1) := by decide +kernel
theorem dX6_comesTo_60 : decode cX6_comesTo 60 = .ok (.iconst 3, 1) := by decide +kernel
theorem dX6_comesTo_61 : decode cX6_comesTo 61 = .ok (.aload_n 0, 1) := by decide +kernel
theorem dX6_comesTo_62 : decode cX6_comesTo 62 = .ok (.getfield 7, 3) := by decide +kernel
theorem dX6_comesTo_65 : decode cX6_comesTo 65 = .ok (.iconst 0, 1) := by decide +kernel
theorem dX6_comesTo_66 : decode cX6_comesTo 66 = .ok (.iaload, 1) := by decide +kernel
theorem dX6_comesTo_67 : decode cX6_comesTo 67 = .ok (.aload_n 0, 1) := by decide +kernel
theorem dX6_comesTo_68 : decode cX6_comesTo 68 = .ok (.iload_n 3, 1) := by decide +kernel
theorem dX6_comesTo_69 : decode cX6_comesTo 69 = .ok (.iconst 1, 1) := by decide +kernel
theorem dX6_comesTo_70 : decode cX6_comesTo 70 = .ok (.invokevirtual 50, 3) := by decide +kernel
theorem dX6_comesTo_73 : decode cX6_comesTo 73 = .ok (.iadd, 1) := by decide +kernel
theorem dX6_comesTo_74 : decode cX6_comesTo 74 = .ok (.invokevirtual 25, 3) := by decide +kernel
theorem dX6_comesTo_77 : decode cX6_comesTo 77 = .ok (.aload_n 0, 1) := by decide +kernel
theorem dX6_comesTo_78 : decode cX6_comesTo 78 = .ok (.getfield 7, 3) := by decide +kernel
theorem dX6_comesTo_81 : decode cX6_comesTo 81 = .ok (.iconst 4, 1) := by decide +kernel
theorem dX6_comesTo_82 : decode cX6_comesTo 82 = .ok (.dup2, 1) := by decide +kernel
theorem dX6_comesTo_83 : decode cX6_comesTo 83 = .ok (.iaload, 1) := by decide +kernel
theorem dX6_comesTo_84 : decode cX6_comesTo 84 = .ok (.iconst 1, 1) := by decide +kernel
theorem dX6_comesTo_85 : decode cX6_comesTo 85 = .ok (.iadd, 1) := by decide +kernel
theorem dX6_comesTo_86 : decode cX6_comesTo 86 = .ok (.iastore, 1) := by decide +kernel
theorem dX6_comesTo_87 : decode cX6_comesTo 87 = .ok (.aload_n 0, 1) := by decide +kernel
theorem dX6_comesTo_88 : decode cX6_comesTo 88 = .ok (.getfield 22, 3) := by decide +kernel
theorem dX6_comesTo_91 : decode cX6_comesTo 91 = .ok (.iload 4, 2) := by decide +kernel
theorem dX6_comesTo_93 : decode cX6_comesTo 93 = .ok (.iaload, 1) := by decide +kernel
theorem dX6_comesTo_94 : decode cX6_comesTo 94 = .ok (.istore_n 3, 1) := by decide +kernel
theorem dX6_comesTo_95 : decode cX6_comesTo 95 = .ok (.iinc 4 (-1), 3) := by decide +kernel
theorem dX6_comesTo_98 : decode cX6_comesTo 98 = .ok (.goto (-56), 3) := by decide +kernel
theorem dX6_comesTo_101 : decode cX6_comesTo 101 = .ok (.return_, 1) := by decide +kernel
theorem dX6_asks_0 : decode cX6_asks 0 = .ok (.iload_n 1, 1) := by decide +kernel
theorem dX6_asks_1 : decode cX6_asks 1 = .ok (.bipush 6, 2) := by decide +kernel
theorem dX6_asks_3 : decode cX6_asks 3 = .ok (.idiv, 1) := by decide +kernel
theorem dX6_asks_4 : decode cX6_asks 4 = .ok (.istore_n 2, 1) := by decide +kernel
theorem dX6_asks_5 : decode cX6_asks 5 = .ok (.aload_n 0, 1) := by decide +kernel
theorem dX6_asks_6 : decode cX6_asks 6 = .ok (.iload_n 2, 1) := by decide +kernel
theorem dX6_asks_7 : decode cX6_asks 7 = .ok (.invokevirtual 75, 3) := by decide +kernel
theorem dX6_asks_10 : decode cX6_asks 10 = .ok (.aload_n 0, 1) := by decide +kernel
theorem dX6_asks_11 : decode cX6_asks 11 = .ok (.iload_n 2, 1) := by decide +kernel
theorem dX6_asks_12 : decode cX6_asks 12 = .ok (.invokevirtual 71, 3) := by decide +kernel
theorem dX6_asks_15 : decode cX6_asks 15 = .ok (.aload_n 0, 1) := by decide +kernel
theorem dX6_asks_16 : decode cX6_asks 16 = .ok (.iload_n 1, 1) := by decide +kernel
theorem dX6_asks_17 : decode cX6_asks 17 = .ok (.iconst 0, 1) := by decide +kernel
theorem dX6_asks_18 : decode cX6_asks 18 = .ok (.invokevirtual 61, 3) := by decide +kernel
theorem dX6_asks_21 : decode cX6_asks 21 = .ok (.ifCond .eq 7, 3) := by decide +kernel
theorem dX6_asks_24 : decode cX6_asks 24 = .ok (.iconst 1, 1) := by decide +kernel
theorem dX6_asks_25 : decode cX6_asks 25 = .ok (.goto 4, 3) := by decide +kernel
theorem dX6_asks_28 : decode cX6_asks 28 = .ok (.iconst 0, 1) := by decide +kernel
theorem dX6_asks_29 : decode cX6_asks 29 = .ok (.istore_n 3, 1) := by decide +kernel
theorem dX6_asks_30 : decode cX6_asks 30 = .ok (.aload_n 0, 1) := by decide +kernel
theorem dX6_asks_31 : decode cX6_asks 31 = .ok (.iload_n 1, 1) := by decide +kernel
theorem dX6_asks_32 : decode cX6_asks 32 = .ok (.iconst 3, 1) := by decide +kernel
theorem dX6_asks_33 : decode cX6_asks 33 = .ok (.iload_n 3, 1) := by decide +kernel
theorem dX6_asks_34 : decode cX6_asks 34 = .ok (.ifCond .eq 12, 3) := by decide +kernel
theorem dX6_asks_37 : decode cX6_asks 37 = .ok (.aload_n 0, 1) := by decide +kernel
theorem dX6_asks_38 : decode cX6_asks 38 = .ok (.iload_n 1, 1) := by decide +kernel
theorem dX6_asks_39 : decode cX6_asks 39 = .ok (.iconst 0, 1) := by decide +kernel
theorem dX6_asks_40 : decode cX6_asks 40 = .ok (.invokevirtual 61, 3) := by decide +kernel
theorem dX6_asks_43 : decode cX6_asks 43 = .ok (.goto 4, 3) := by decide +kernel
theorem dX6_asks_46 : decode cX6_asks 46 = .ok (.iconst 3, 1) := by decide +kernel
theorem dX6_asks_47 : decode cX6_asks 47 = .ok (.invokevirtual 29, 3) := by decide +kernel
theorem dX6_asks_50 : decode cX6_asks 50 = .ok (.aload_n 0, 1) := by decide +kernel
theorem dX6_asks_51 : decode cX6_asks 51 = .ok (.iload_n 1, 1) := by decide +kernel
theorem dX6_asks_52 : decode cX6_asks 52 = .ok (.iconst 4, 1) := by decide +kernel
theorem dX6_asks_53 : decode cX6_asks 53 = .ok (.aload_n 0, 1) := by decide +kernel
theorem dX6_asks_54 : decode cX6_asks 54 = .ok (.iload_n 1, 1) := by decide +kernel
theorem dX6_asks_55 : decode cX6_asks 55 = .ok (.iconst 1, 1) := by decide +kernel
theorem dX6_asks_56 : decode cX6_asks 56 = .ok (.invokevirtual 61, 3) := by decide +kernel
theorem dX6_asks_59 : decode cX6_asks 59 = .ok (.invokevirtual 29, 3) := by decide +kernel
theorem dX6_asks_62 : decode cX6_asks 62 = .ok (.aload_n 0, 1) := by decide +kernel
theorem dX6_asks_63 : decode cX6_asks 63 = .ok (.iload_n 1, 1) := by decide +kernel
theorem dX6_asks_64 : decode cX6_asks 64 = .ok (.iconst 5, 1) := by decide +kernel
theorem dX6_asks_65 : decode cX6_asks 65 = .ok (.aload_n 0, 1) := by decide +kernel
theorem dX6_asks_66 : decode cX6_asks 66 = .ok (.getfield 7, 3) := by decide +kernel
theorem dX6_asks_69 : decode cX6_asks 69 = .ok (.iconst 0, 1) := by decide +kernel
theorem dX6_asks_70 : decode cX6_asks 70 = .ok (.iaload, 1) := by decide +kernel
theorem dX6_asks_71 : decode cX6_asks 71 = .ok (.iload_n 3, 1) := by decide +kernel
theorem dX6_asks_72 : decode cX6_asks 72 = .ok (.ifCond .eq 12, 3) := by decide +kernel
theorem dX6_asks_75 : decode cX6_asks 75 = .ok (.aload_n 0, 1) := by decide +kernel
theorem dX6_asks_76 : decode cX6_asks 76 = .ok (.iload_n 1, 1) := by decide +kernel
theorem dX6_asks_77 : decode cX6_asks 77 = .ok (.iconst 2, 1) := by decide +kernel
theorem dX6_asks_78 : decode cX6_asks 78 = .ok (.invokevirtual 61, 3) := by decide +kernel
theorem dX6_asks_81 : decode cX6_asks 81 = .ok (.goto 9, 3) := by decide +kernel
theorem dX6_asks_84 : decode cX6_asks 84 = .ok (.aload_n 0, 1) := by decide +kernel
theorem dX6_asks_85 : decode cX6_asks 85 = .ok (.iload_n 2, 1) := by decide +kernel
theorem dX6_asks_86 : decode cX6_asks 86 = .ok (.iconst 2, 1) := by decide +kernel
theorem dX6_asks_87 : decode cX6_asks 87 = .ok (.invokevirtual 50, 3) := by decide +kernel
theorem dX6_asks_90 : decode cX6_asks 90 = .ok (.iadd, 1) := by decide +kernel
theorem dX6_asks_91 : decode cX6_asks 91 = .ok (.invokevirtual 29, 3) := by decide +kernel
theorem dX6_asks_94 : decode cX6_asks 94 = .ok (.aload_n 0, 1) := by decide +kernel
theorem dX6_asks_95 : decode cX6_asks 95 = .ok (.getfield 7, 3) := by decide +kernel
theorem dX6_asks_98 : decode cX6_asks 98 = .ok (.iconst 4, 1) := by decide +kernel
theorem dX6_asks_99 : decode cX6_asks 99 = .ok (.dup2, 1) := by decide +kernel
theorem dX6_asks_100 : decode cX6_asks 100 = .ok (.iaload, 1) := by decide +kernel
theorem dX6_asks_101 : decode cX6_asks 101 = .ok (.iconst 1, 1) := by decide +kernel
theorem dX6_asks_102 : decode cX6_asks 102 = .ok (.iadd, 1) := by decide +kernel
theorem dX6_asks_103 : decode cX6_asks 103 = .ok (.iastore, 1) := by decide +kernel
theorem dX6_asks_104 : decode cX6_asks 104 = .ok (.return_, 1) := by decide +kernel
theorem dX6_solves_0 : decode cX6_solves 0 = .ok (.iload_n 1, 1) := by decide +kernel
theorem dX6_solves_1 : decode cX6_solves 1 = .ok (.istore_n 2, 1) := by decide +kernel
theorem dX6_solves_2 : decode cX6_solves 2 = .ok (.iconst 0, 1) := by decide +kernel
theorem dX6_solves_3 : decode cX6_solves 3 = .ok (.istore_n 3, 1) := by decide +kernel
theorem dX6_solves_4 : decode cX6_solves 4 = .ok (.aload_n 0, 1) := by decide +kernel
theorem dX6_solves_5 : decode cX6_solves 5 = .ok (.iload_n 2, 1) := by decide +kernel
theorem dX6_solves_6 : decode cX6_solves 6 = .ok (.iconst 3, 1) := by decide +kernel
theorem dX6_solves_7 : decode cX6_solves 7 = .ok (.invokevirtual 61, 3) := by decide +kernel
theorem dX6_solves_10 : decode cX6_solves 10 = .ok (.ifCond .ne 11, 3) := by decide +kernel
theorem dX6_solves_13 : decode cX6_solves 13 = .ok (.aload_n 0, 1) := by decide +kernel
theorem dX6_solves_14 : decode cX6_solves 14 = .ok (.iload_n 2, 1) := by decide +kernel
theorem dX6_solves_15 : decode cX6_solves 15 = .ok (.invokevirtual 78, 3) := by decide +kernel
theorem dX6_solves_18 : decode cX6_solves 18 = .ok (.goto 13, 3) := by decide +kernel
theorem dX6_solves_21 : decode cX6_solves 21 = .ok (.aload_n 0, 1) := by decide +kernel
theorem dX6_solves_22 : decode cX6_solves 22 = .ok (.getfield 7, 3) := by decide +kernel
theorem dX6_solves_25 : decode cX6_solves 25 = .ok (.iconst 3, 1) := by decide +kernel
theorem dX6_solves_26 : decode cX6_solves 26 = .ok (.dup2, 1) := by decide +kernel
theorem dX6_solves_27 : decode cX6_solves 27 = .ok (.iaload, 1) := by decide +kernel
theorem dX6_solves_28 : decode cX6_solves 28 = .ok (.iconst 1, 1) := by decide +kernel
theorem dX6_solves_29 : decode cX6_solves 29 = .ok (.iadd, 1) := by decide +kernel
theorem dX6_solves_30 : decode cX6_solves 30 = .ok (.iastore, 1) := by decide +kernel
theorem dX6_solves_31 : decode cX6_solves 31 = .ok (.aload_n 0, 1) := by decide +kernel
theorem dX6_solves_32 : decode cX6_solves 32 = .ok (.iload_n 2, 1) := by decide +kernel
theorem dX6_solves_33 : decode cX6_solves 33 = .ok (.iconst 3, 1) := by decide +kernel
theorem dX6_solves_34 : decode cX6_solves 34 = .ok (.invokevirtual 61, 3) := by decide +kernel
theorem dX6_solves_37 : decode cX6_solves 37 = .ok (.iconst 2, 1) := by decide +kernel
theorem dX6_solves_38 : decode cX6_solves 38 = .ok (.if_icmp .eq 24, 3) := by decide +kernel
theorem dX6_solves_41 : decode cX6_solves 41 = .ok (.aload_n 0, 1) := by decide +kernel
theorem dX6_solves_42 : decode cX6_solves 42 = .ok (.iload_n 2, 1) := by decide +kernel
theorem dX6_solves_43 : decode cX6_solves 43 = .ok (.iconst 3, 1) := by decide +kernel
theorem dX6_solves_44 : decode cX6_solves 44 = .ok (.invokevirtual 61, 3) := by decide +kernel
theorem dX6_solves_47 : decode cX6_solves 47 = .ok (.iconst 1, 1) := by decide +kernel
theorem dX6_solves_48 : decode cX6_solves 48 = .ok (.if_icmp .ne 12, 3) := by decide +kernel
theorem dX6_solves_51 : decode cX6_solves 51 = .ok (.aload_n 0, 1) := by decide +kernel
theorem dX6_solves_52 : decode cX6_solves 52 = .ok (.iload_n 2, 1) := by decide +kernel
theorem dX6_solves_53 : decode cX6_solves 53 = .ok (.iconst 4, 1) := by decide +kernel
theorem dX6_solves_54 : decode cX6_solves 54 = .ok (.invokevirtual 61, 3) := by decide +kernel
theorem dX6_solves_57 : decode cX6_solves 57 = .ok (.goto 4, 3) := by decide +kernel
theorem dX6_solves_60 : decode cX6_solves 60 = .ok (.iconst (-1), 1) := by decide +kernel
theorem dX6_solves_61 : decode cX6_solves 61 = .ok (.ireturn, 1) := by decide +kernel
theorem dX6_solves_62 : decode cX6_solves 62 = .ok (.iload_n 3, 1) := by decide +kernel
theorem dX6_solves_63 : decode cX6_solves 63 = .ok (.bipush 6, 2) := by decide +kernel
theorem dX6_solves_65 : decode cX6_solves 65 = .ok (.if_icmp .ne 6, 3) := by decide +kernel
theorem dX6_solves_68 : decode cX6_solves 68 = .ok (.bipush (-2), 2) := by decide +kernel
theorem dX6_solves_70 : decode cX6_solves 70 = .ok (.ireturn, 1) := by decide +kernel
theorem dX6_solves_71 : decode cX6_solves 71 = .ok (.iinc 3 1, 3) := by decide +kernel
theorem dX6_solves_74 : decode cX6_solves 74 = .ok (.aload_n 0, 1) := by decide +kernel
theorem dX6_solves_75 : decode cX6_solves 75 = .ok (.iload_n 2, 1) := by decide +kernel
theorem dX6_solves_76 : decode cX6_solves 76 = .ok (.iconst 4, 1) := by decide +kernel
theorem dX6_solves_77 : decode cX6_solves 77 = .ok (.invokevirtual 61, 3) := by decide +kernel
theorem dX6_solves_80 : decode cX6_solves 80 = .ok (.istore_n 2, 1) := by decide +kernel
theorem dX6_solves_81 : decode cX6_solves 81 = .ok (.goto (-77), 3) := by decide +kernel
theorem dX6_solvesFirst_0 : decode cX6_solvesFirst 0 = .ok (.aload_n 0, 1) := by decide +kernel
theorem dX6_solvesFirst_1 : decode cX6_solvesFirst 1 = .ok (.getfield 7, 3) := by decide +kernel
theorem dX6_solvesFirst_4 : decode cX6_solvesFirst 4 = .ok (.iconst 1, 1) := by decide +kernel
theorem dX6_solvesFirst_5 : decode cX6_solvesFirst 5 = .ok (.dup2, 1) := by decide +kernel
theorem dX6_solvesFirst_6 : decode cX6_solvesFirst 6 = .ok (.iaload, 1) := by decide +kernel
theorem dX6_solvesFirst_7 : decode cX6_solvesFirst 7 = .ok (.iconst 1, 1) := by decide +kernel
theorem dX6_solvesFirst_8 : decode cX6_solvesFirst 8 = .ok (.iadd, 1) := by decide +kernel
theorem dX6_solvesFirst_9 : decode cX6_solvesFirst 9 = .ok (.iastore, 1) := by decide +kernel
theorem dX6_solvesFirst_10 : decode cX6_solvesFirst 10 = .ok (.aload_n 0, 1) := by decide +kernel
theorem dX6_solvesFirst_11 : decode cX6_solvesFirst 11 = .ok (.iload_n 1, 1) := by decide +kernel
theorem dX6_solvesFirst_12 : decode cX6_solvesFirst 12 = .ok (.invokevirtual 81, 3) := by decide +kernel
theorem dX6_solvesFirst_15 : decode cX6_solvesFirst 15 = .ok (.ireturn, 1) := by decide +kernel
theorem dX6_solve_0 : decode cX6_solve 0 = .ok (.aload_n 0, 1) := by decide +kernel
theorem dX6_solve_1 : decode cX6_solve 1 = .ok (.iload_n 1, 1) := by decide +kernel
theorem dX6_solve_2 : decode cX6_solve 2 = .ok (.invokestatic 64, 3) := by decide +kernel
theorem dX6_solve_5 : decode cX6_solve 5 = .ok (.ifCond .eq 7, 3) := by decide +kernel
theorem dX6_solve_8 : decode cX6_solve 8 = .ok (.iconst 0, 1) := by decide +kernel
theorem dX6_solve_9 : decode cX6_solve 9 = .ok (.goto 4, 3) := by decide +kernel
theorem dX6_solve_12 : decode cX6_solve 12 = .ok (.iconst 1, 1) := by decide +kernel
theorem dX6_solve_13 : decode cX6_solve 13 = .ok (.putfield 32, 3) := by decide +kernel
theorem dX6_solve_16 : decode cX6_solve 16 = .ok (.aload_n 0, 1) := by decide +kernel
theorem dX6_solve_17 : decode cX6_solve 17 = .ok (.getfield 32, 3) := by decide +kernel
theorem dX6_solve_20 : decode cX6_solve 20 = .ok (.ifCond .le 5, 3) := by decide +kernel
theorem dX6_solve_23 : decode cX6_solve 23 = .ok (.iconst 0, 1) := by decide +kernel
theorem dX6_solve_24 : decode cX6_solve 24 = .ok (.ireturn, 1) := by decide +kernel
theorem dX6_solve_25 : decode cX6_solve 25 = .ok (.aload_n 0, 1) := by decide +kernel
theorem dX6_solve_26 : decode cX6_solve 26 = .ok (.invokevirtual 47, 3) := by decide +kernel
theorem dX6_solve_29 : decode cX6_solve 29 = .ok (.aload_n 0, 1) := by decide +kernel
theorem dX6_solve_30 : decode cX6_solve 30 = .ok (.iload_n 1, 1) := by decide +kernel
theorem dX6_solve_31 : decode cX6_solve 31 = .ok (.invokevirtual 85, 3) := by decide +kernel
theorem dX6_solve_34 : decode cX6_solve 34 = .ok (.ireturn, 1) := by decide +kernel
theorem dX6_forgets_0 : decode cX6_forgets 0 = .ok (.aload_n 0, 1) := by decide +kernel
theorem dX6_forgets_1 : decode cX6_forgets 1 = .ok (.iload_n 1, 1) := by decide +kernel
theorem dX6_forgets_2 : decode cX6_forgets 2 = .ok (.iconst 3, 1) := by decide +kernel
theorem dX6_forgets_3 : decode cX6_forgets 3 = .ok (.iconst 0, 1) := by decide +kernel
theorem dX6_forgets_4 : decode cX6_forgets 4 = .ok (.invokevirtual 29, 3) := by decide +kernel
theorem dX6_forgets_7 : decode cX6_forgets 7 = .ok (.aload_n 0, 1) := by decide +kernel
theorem dX6_forgets_8 : decode cX6_forgets 8 = .ok (.iload_n 1, 1) := by decide +kernel
theorem dX6_forgets_9 : decode cX6_forgets 9 = .ok (.iconst 4, 1) := by decide +kernel
theorem dX6_forgets_10 : decode cX6_forgets 10 = .ok (.iconst 0, 1) := by decide +kernel
theorem dX6_forgets_11 : decode cX6_forgets 11 = .ok (.invokevirtual 29, 3) := by decide +kernel
theorem dX6_forgets_14 : decode cX6_forgets 14 = .ok (.aload_n 0, 1) := by decide +kernel
theorem dX6_forgets_15 : decode cX6_forgets 15 = .ok (.iload_n 1, 1) := by decide +kernel
theorem dX6_forgets_16 : decode cX6_forgets 16 = .ok (.iconst 5, 1) := by decide +kernel
theorem dX6_forgets_17 : decode cX6_forgets 17 = .ok (.iconst 0, 1) := by decide +kernel
theorem dX6_forgets_18 : decode cX6_forgets 18 = .ok (.invokevirtual 29, 3) := by decide +kernel
theorem dX6_forgets_21 : decode cX6_forgets 21 = .ok (.aload_n 0, 1) := by decide +kernel
theorem dX6_forgets_22 : decode cX6_forgets 22 = .ok (.getfield 7, 3) := by decide +kernel
theorem dX6_forgets_25 : decode cX6_forgets 25 = .ok (.iconst 5, 1) := by decide +kernel
theorem dX6_forgets_26 : decode cX6_forgets 26 = .ok (.dup2, 1) := by decide +kernel
theorem dX6_forgets_27 : decode cX6_forgets 27 = .ok (.iaload, 1) := by decide +kernel
theorem dX6_forgets_28 : decode cX6_forgets 28 = .ok (.iconst 1, 1) := by decide +kernel
theorem dX6_forgets_29 : decode cX6_forgets 29 = .ok (.iadd, 1) := by decide +kernel
theorem dX6_forgets_30 : decode cX6_forgets 30 = .ok (.iastore, 1) := by decide +kernel
theorem dX6_forgets_31 : decode cX6_forgets 31 = .ok (.return_, 1) := by decide +kernel
theorem dX6_forget_0 : decode cX6_forget 0 = .ok (.aload_n 0, 1) := by decide +kernel
theorem dX6_forget_1 : decode cX6_forget 1 = .ok (.iload_n 1, 1) := by decide +kernel
theorem dX6_forget_2 : decode cX6_forget 2 = .ok (.invokestatic 64, 3) := by decide +kernel
theorem dX6_forget_5 : decode cX6_forget 5 = .ok (.ifCond .ne 7, 3) := by decide +kernel
theorem dX6_forget_8 : decode cX6_forget 8 = .ok (.iconst 1, 1) := by decide +kernel
theorem dX6_forget_9 : decode cX6_forget 9 = .ok (.goto 17, 3) := by decide +kernel
theorem dX6_forget_12 : decode cX6_forget 12 = .ok (.aload_n 0, 1) := by decide +kernel
theorem dX6_forget_13 : decode cX6_forget 13 = .ok (.iload_n 1, 1) := by decide +kernel
theorem dX6_forget_14 : decode cX6_forget 14 = .ok (.iconst 3, 1) := by decide +kernel
theorem dX6_forget_15 : decode cX6_forget 15 = .ok (.invokevirtual 61, 3) := by decide +kernel
theorem dX6_forget_18 : decode cX6_forget 18 = .ok (.ifCond .ne 7, 3) := by decide +kernel
theorem dX6_forget_21 : decode cX6_forget 21 = .ok (.iconst 2, 1) := by decide +kernel
theorem dX6_forget_22 : decode cX6_forget 22 = .ok (.goto 4, 3) := by decide +kernel
theorem dX6_forget_25 : decode cX6_forget 25 = .ok (.iconst 0, 1) := by decide +kernel
theorem dX6_forget_26 : decode cX6_forget 26 = .ok (.putfield 32, 3) := by decide +kernel
theorem dX6_forget_29 : decode cX6_forget 29 = .ok (.aload_n 0, 1) := by decide +kernel
theorem dX6_forget_30 : decode cX6_forget 30 = .ok (.getfield 32, 3) := by decide +kernel
theorem dX6_forget_33 : decode cX6_forget 33 = .ok (.ifCond .le 5, 3) := by decide +kernel
theorem dX6_forget_36 : decode cX6_forget 36 = .ok (.iconst 0, 1) := by decide +kernel
theorem dX6_forget_37 : decode cX6_forget 37 = .ok (.ireturn, 1) := by decide +kernel
theorem dX6_forget_38 : decode cX6_forget 38 = .ok (.aload_n 0, 1) := by decide +kernel
theorem dX6_forget_39 : decode cX6_forget 39 = .ok (.invokevirtual 47, 3) := by decide +kernel
theorem dX6_forget_42 : decode cX6_forget 42 = .ok (.aload_n 0, 1) := by decide +kernel
theorem dX6_forget_43 : decode cX6_forget 43 = .ok (.iload_n 1, 1) := by decide +kernel
theorem dX6_forget_44 : decode cX6_forget 44 = .ok (.iconst 3, 1) := by decide +kernel
theorem dX6_forget_45 : decode cX6_forget 45 = .ok (.invokevirtual 61, 3) := by decide +kernel
theorem dX6_forget_48 : decode cX6_forget 48 = .ok (.istore_n 2, 1) := by decide +kernel
theorem dX6_forget_49 : decode cX6_forget 49 = .ok (.aload_n 0, 1) := by decide +kernel
theorem dX6_forget_50 : decode cX6_forget 50 = .ok (.iload_n 1, 1) := by decide +kernel
theorem dX6_forget_51 : decode cX6_forget 51 = .ok (.invokevirtual 88, 3) := by decide +kernel
theorem dX6_forget_54 : decode cX6_forget 54 = .ok (.iload_n 2, 1) := by decide +kernel
theorem dX6_forget_55 : decode cX6_forget 55 = .ok (.ireturn, 1) := by decide +kernel
theorem dX6_passes_0 : decode cX6_passes 0 = .ok (.aload_n 0, 1) := by decide +kernel
theorem dX6_passes_1 : decode cX6_passes 1 = .ok (.getfield 7, 3) := by decide +kernel
theorem dX6_passes_4 : decode cX6_passes 4 = .ok (.iconst 5, 1) := by decide +kernel
theorem dX6_passes_5 : decode cX6_passes 5 = .ok (.iaload, 1) := by decide +kernel
theorem dX6_passes_6 : decode cX6_passes 6 = .ok (.istore_n 2, 1) := by decide +kernel
theorem dX6_passes_7 : decode cX6_passes 7 = .ok (.aload_n 0, 1) := by decide +kernel
theorem dX6_passes_8 : decode cX6_passes 8 = .ok (.getfield 7, 3) := by decide +kernel
theorem dX6_passes_11 : decode cX6_passes 11 = .ok (.iconst 0, 1) := by decide +kernel
theorem dX6_passes_12 : decode cX6_passes 12 = .ok (.dup2, 1) := by decide +kernel
theorem dX6_passes_13 : decode cX6_passes 13 = .ok (.iaload, 1) := by decide +kernel
theorem dX6_passes_14 : decode cX6_passes 14 = .ok (.iload_n 1, 1) := by decide +kernel
theorem dX6_passes_15 : decode cX6_passes 15 = .ok (.iadd, 1) := by decide +kernel
theorem dX6_passes_16 : decode cX6_passes 16 = .ok (.iastore, 1) := by decide +kernel
theorem dX6_passes_17 : decode cX6_passes 17 = .ok (.iconst 1, 1) := by decide +kernel
theorem dX6_passes_18 : decode cX6_passes 18 = .ok (.istore_n 3, 1) := by decide +kernel
theorem dX6_passes_19 : decode cX6_passes 19 = .ok (.iload_n 3, 1) := by decide +kernel
theorem dX6_passes_20 : decode cX6_passes 20 = .ok (.bipush 6, 2) := by decide +kernel
theorem dX6_passes_22 : decode cX6_passes 22 = .ok (.if_icmp .ge 50, 3) := by decide +kernel
theorem dX6_passes_25 : decode cX6_passes 25 = .ok (.aload_n 0, 1) := by decide +kernel
theorem dX6_passes_26 : decode cX6_passes 26 = .ok (.iload_n 3, 1) := by decide +kernel
theorem dX6_passes_27 : decode cX6_passes 27 = .ok (.iconst 3, 1) := by decide +kernel
theorem dX6_passes_28 : decode cX6_passes 28 = .ok (.invokevirtual 50, 3) := by decide +kernel
theorem dX6_passes_31 : decode cX6_passes 31 = .ok (.ifCond .le 35, 3) := by decide +kernel
theorem dX6_passes_34 : decode cX6_passes 34 = .ok (.aload_n 0, 1) := by decide +kernel
theorem dX6_passes_35 : decode cX6_passes 35 = .ok (.iload_n 3, 1) := by decide +kernel
theorem dX6_passes_36 : decode cX6_passes 36 = .ok (.iconst 3, 1) := by decide +kernel
theorem dX6_passes_37 : decode cX6_passes 37 = .ok (.invokevirtual 50, 3) := by decide +kernel
theorem dX6_passes_40 : decode cX6_passes 40 = .ok (.aload_n 0, 1) := by decide +kernel
theorem dX6_passes_41 : decode cX6_passes 41 = .ok (.getfield 7, 3) := by decide +kernel
theorem dX6_passes_44 : decode cX6_passes 44 = .ok (.iconst 0, 1) := by decide +kernel
theorem dX6_passes_45 : decode cX6_passes 45 = .ok (.iaload, 1) := by decide +kernel
theorem dX6_passes_46 : decode cX6_passes 46 = .ok (.if_icmp .gt 20, 3) := by decide +kernel
theorem dX6_passes_49 : decode cX6_passes 49 = .ok (.aload_n 0, 1) := by decide +kernel
theorem dX6_passes_50 : decode cX6_passes 50 = .ok (.iload_n 3, 1) := by decide +kernel
theorem dX6_passes_51 : decode cX6_passes 51 = .ok (.iconst 3, 1) := by decide +kernel
theorem dX6_passes_52 : decode cX6_passes 52 = .ok (.iconst 0, 1) := by decide +kernel
theorem dX6_passes_53 : decode cX6_passes 53 = .ok (.invokevirtual 25, 3) := by decide +kernel
theorem dX6_passes_56 : decode cX6_passes 56 = .ok (.aload_n 0, 1) := by decide +kernel
theorem dX6_passes_57 : decode cX6_passes 57 = .ok (.getfield 7, 3) := by decide +kernel
theorem dX6_passes_60 : decode cX6_passes 60 = .ok (.iconst 5, 1) := by decide +kernel
theorem dX6_passes_61 : decode cX6_passes 61 = .ok (.dup2, 1) := by decide +kernel
theorem dX6_passes_62 : decode cX6_passes 62 = .ok (.iaload, 1) := by decide +kernel
theorem dX6_passes_63 : decode cX6_passes 63 = .ok (.iconst 1, 1) := by decide +kernel
theorem dX6_passes_64 : decode cX6_passes 64 = .ok (.iadd, 1) := by decide +kernel
theorem dX6_passes_65 : decode cX6_passes 65 = .ok (.iastore, 1) := by decide +kernel
theorem dX6_passes_66 : decode cX6_passes 66 = .ok (.iinc 3 1, 3) := by decide +kernel
theorem dX6_passes_69 : decode cX6_passes 69 = .ok (.goto (-50), 3) := by decide +kernel
theorem dX6_passes_72 : decode cX6_passes 72 = .ok (.iconst 0, 1) := by decide +kernel
theorem dX6_passes_73 : decode cX6_passes 73 = .ok (.istore_n 3, 1) := by decide +kernel
theorem dX6_passes_74 : decode cX6_passes 74 = .ok (.iload_n 3, 1) := by decide +kernel
theorem dX6_passes_75 : decode cX6_passes 75 = .ok (.bipush 36, 2) := by decide +kernel
theorem dX6_passes_77 : decode cX6_passes 77 = .ok (.if_icmp .ge 38, 3) := by decide +kernel
theorem dX6_passes_80 : decode cX6_passes 80 = .ok (.aload_n 0, 1) := by decide +kernel
theorem dX6_passes_81 : decode cX6_passes 81 = .ok (.iload_n 3, 1) := by decide +kernel
theorem dX6_passes_82 : decode cX6_passes 82 = .ok (.iconst 3, 1) := by decide +kernel
theorem dX6_passes_83 : decode cX6_passes 83 = .ok (.invokevirtual 61, 3) := by decide +kernel
theorem dX6_passes_86 : decode cX6_passes 86 = .ok (.ifCond .eq 23, 3) := by decide +kernel
theorem dX6_passes_89 : decode cX6_passes 89 = .ok (.aload_n 0, 1) := by decide +kernel
theorem dX6_passes_90 : decode cX6_passes 90 = .ok (.iload_n 3, 1) := by decide +kernel
theorem dX6_passes_91 : decode cX6_passes 91 = .ok (.iconst 5, 1) := by decide +kernel
theorem dX6_passes_92 : decode cX6_passes 92 = .ok (.invokevirtual 61, 3) := by decide +kernel
theorem dX6_passes_95 : decode cX6_passes 95 = .ok (.aload_n 0, 1) := by decide +kernel
theorem dX6_passes_96 : decode cX6_passes 96 = .ok (.getfield 7, 3) := by decide +kernel
theorem dX6_passes_99 : decode cX6_passes 99 = .ok (.iconst 0, 1) := by decide +kernel
theorem dX6_passes_100 : decode cX6_passes 100 = .ok (.iaload, 1) := by decide +kernel
theorem dX6_passes_101 : decode cX6_passes 101 = .ok (.if_icmp .gt 8, 3) := by decide +kernel
theorem dX6_passes_104 : decode cX6_passes 104 = .ok (.aload_n 0, 1) := by decide +kernel
theorem dX6_passes_105 : decode cX6_passes 105 = .ok (.iload_n 3, 1) := by decide +kernel
theorem dX6_passes_106 : decode cX6_passes 106 = .ok (.invokevirtual 88, 3) := by decide +kernel
theorem dX6_passes_109 : decode cX6_passes 109 = .ok (.iinc 3 1, 3) := by decide +kernel
theorem dX6_passes_112 : decode cX6_passes 112 = .ok (.goto (-38), 3) := by decide +kernel
theorem dX6_passes_115 : decode cX6_passes 115 = .ok (.aload_n 0, 1) := by decide +kernel
theorem dX6_passes_116 : decode cX6_passes 116 = .ok (.getfield 7, 3) := by decide +kernel
theorem dX6_passes_119 : decode cX6_passes 119 = .ok (.iconst 5, 1) := by decide +kernel
theorem dX6_passes_120 : decode cX6_passes 120 = .ok (.iaload, 1) := by decide +kernel
theorem dX6_passes_121 : decode cX6_passes 121 = .ok (.iload_n 2, 1) := by decide +kernel
theorem dX6_passes_122 : decode cX6_passes 122 = .ok (.isub, 1) := by decide +kernel
theorem dX6_passes_123 : decode cX6_passes 123 = .ok (.ireturn, 1) := by decide +kernel
theorem dX6_pass_0 : decode cX6_pass 0 = .ok (.aload_n 0, 1) := by decide +kernel
theorem dX6_pass_1 : decode cX6_pass 1 = .ok (.iload_n 1, 1) := by decide +kernel
theorem dX6_pass_2 : decode cX6_pass 2 = .ok (.iconst 1, 1) := by decide +kernel
theorem dX6_pass_3 : decode cX6_pass 3 = .ok (.bipush 99, 2) := by decide +kernel
theorem dX6_pass_5 : decode cX6_pass 5 = .ok (.invokestatic 43, 3) := by decide +kernel
theorem dX6_pass_8 : decode cX6_pass 8 = .ok (.ifCond .ne 7, 3) := by decide +kernel
theorem dX6_pass_11 : decode cX6_pass 11 = .ok (.iconst 1, 1) := by decide +kernel
theorem dX6_pass_12 : decode cX6_pass 12 = .ok (.goto 22, 3) := by decide +kernel
theorem dX6_pass_15 : decode cX6_pass 15 = .ok (.aload_n 0, 1) := by decide +kernel
theorem dX6_pass_16 : decode cX6_pass 16 = .ok (.getfield 7, 3) := by decide +kernel
theorem dX6_pass_19 : decode cX6_pass 19 = .ok (.iconst 0, 1) := by decide +kernel
theorem dX6_pass_20 : decode cX6_pass 20 = .ok (.iaload, 1) := by decide +kernel
theorem dX6_pass_21 : decode cX6_pass 21 = .ok (.iload_n 1, 1) := by decide +kernel
theorem dX6_pass_22 : decode cX6_pass 22 = .ok (.iadd, 1) := by decide +kernel
theorem dX6_pass_23 : decode cX6_pass 23 = .ok (.sipush 9999, 3) := by decide +kernel
theorem dX6_pass_26 : decode cX6_pass 26 = .ok (.if_icmp .le 7, 3) := by decide +kernel
theorem dX6_pass_29 : decode cX6_pass 29 = .ok (.iconst 2, 1) := by decide +kernel
theorem dX6_pass_30 : decode cX6_pass 30 = .ok (.goto 4, 3) := by decide +kernel
theorem dX6_pass_33 : decode cX6_pass 33 = .ok (.iconst 0, 1) := by decide +kernel
theorem dX6_pass_34 : decode cX6_pass 34 = .ok (.putfield 32, 3) := by decide +kernel
theorem dX6_pass_37 : decode cX6_pass 37 = .ok (.aload_n 0, 1) := by decide +kernel
theorem dX6_pass_38 : decode cX6_pass 38 = .ok (.getfield 32, 3) := by decide +kernel
theorem dX6_pass_41 : decode cX6_pass 41 = .ok (.ifCond .le 5, 3) := by decide +kernel
theorem dX6_pass_44 : decode cX6_pass 44 = .ok (.iconst 0, 1) := by decide +kernel
theorem dX6_pass_45 : decode cX6_pass 45 = .ok (.ireturn, 1) := by decide +kernel
theorem dX6_pass_46 : decode cX6_pass 46 = .ok (.aload_n 0, 1) := by decide +kernel
theorem dX6_pass_47 : decode cX6_pass 47 = .ok (.invokevirtual 47, 3) := by decide +kernel
theorem dX6_pass_50 : decode cX6_pass 50 = .ok (.aload_n 0, 1) := by decide +kernel
theorem dX6_pass_51 : decode cX6_pass 51 = .ok (.iload_n 1, 1) := by decide +kernel
theorem dX6_pass_52 : decode cX6_pass 52 = .ok (.invokevirtual 91, 3) := by decide +kernel
theorem dX6_pass_55 : decode cX6_pass 55 = .ok (.ireturn, 1) := by decide +kernel
theorem dX6_tells_0 : decode cX6_tells 0 = .ok (.aload_n 0, 1) := by decide +kernel
theorem dX6_tells_1 : decode cX6_tells 1 = .ok (.iconst 0, 1) := by decide +kernel
theorem dX6_tells_2 : decode cX6_tells 2 = .ok (.putfield 32, 3) := by decide +kernel
theorem dX6_tells_5 : decode cX6_tells 5 = .ok (.iload_n 1, 1) := by decide +kernel
theorem dX6_tells_6 : decode cX6_tells 6 = .ok (.ireturn, 1) := by decide +kernel
theorem dX6_time_0 : decode cX6_time 0 = .ok (.aload_n 0, 1) := by decide +kernel
theorem dX6_time_1 : decode cX6_time 1 = .ok (.aload_n 0, 1) := by decide +kernel
theorem dX6_time_2 : decode cX6_time 2 = .ok (.getfield 7, 3) := by decide +kernel
theorem dX6_time_5 : decode cX6_time 5 = .ok (.iconst 0, 1) := by decide +kernel
theorem dX6_time_6 : decode cX6_time 6 = .ok (.iaload, 1) := by decide +kernel
theorem dX6_time_7 : decode cX6_time 7 = .ok (.invokevirtual 94, 3) := by decide +kernel
theorem dX6_time_10 : decode cX6_time 10 = .ok (.ireturn, 1) := by decide +kernel
theorem dX6_tellsZone_0 : decode cX6_tellsZone 0 = .ok (.aload_n 0, 1) := by decide +kernel
theorem dX6_tellsZone_1 : decode cX6_tellsZone 1 = .ok (.iload_n 1, 1) := by decide +kernel
theorem dX6_tellsZone_2 : decode cX6_tellsZone 2 = .ok (.invokestatic 54, 3) := by decide +kernel
theorem dX6_tellsZone_5 : decode cX6_tellsZone 5 = .ok (.ifCond .eq 7, 3) := by decide +kernel
theorem dX6_tellsZone_8 : decode cX6_tellsZone 8 = .ok (.iconst 0, 1) := by decide +kernel
theorem dX6_tellsZone_9 : decode cX6_tellsZone 9 = .ok (.goto 4, 3) := by decide +kernel
theorem dX6_tellsZone_12 : decode cX6_tellsZone 12 = .ok (.iconst 1, 1) := by decide +kernel
theorem dX6_tellsZone_13 : decode cX6_tellsZone 13 = .ok (.putfield 32, 3) := by decide +kernel
theorem dX6_tellsZone_16 : decode cX6_tellsZone 16 = .ok (.aload_n 0, 1) := by decide +kernel
theorem dX6_tellsZone_17 : decode cX6_tellsZone 17 = .ok (.getfield 32, 3) := by decide +kernel
theorem dX6_tellsZone_20 : decode cX6_tellsZone 20 = .ok (.ifCond .le 7, 3) := by decide +kernel
theorem dX6_tellsZone_23 : decode cX6_tellsZone 23 = .ok (.iconst 0, 1) := by decide +kernel
theorem dX6_tellsZone_24 : decode cX6_tellsZone 24 = .ok (.goto 9, 3) := by decide +kernel
theorem dX6_tellsZone_27 : decode cX6_tellsZone 27 = .ok (.aload_n 0, 1) := by decide +kernel
theorem dX6_tellsZone_28 : decode cX6_tellsZone 28 = .ok (.iload_n 1, 1) := by decide +kernel
theorem dX6_tellsZone_29 : decode cX6_tellsZone 29 = .ok (.iload_n 2, 1) := by decide +kernel
theorem dX6_tellsZone_30 : decode cX6_tellsZone 30 = .ok (.invokevirtual 50, 3) := by decide +kernel
theorem dX6_tellsZone_33 : decode cX6_tellsZone 33 = .ok (.ireturn, 1) := by decide +kernel
theorem dX6_parentOf_0 : decode cX6_parentOf 0 = .ok (.aload_n 0, 1) := by decide +kernel
theorem dX6_parentOf_1 : decode cX6_parentOf 1 = .ok (.iload_n 1, 1) := by decide +kernel
theorem dX6_parentOf_2 : decode cX6_parentOf 2 = .ok (.iconst 0, 1) := by decide +kernel
theorem dX6_parentOf_3 : decode cX6_parentOf 3 = .ok (.invokevirtual 97, 3) := by decide +kernel
theorem dX6_parentOf_6 : decode cX6_parentOf 6 = .ok (.ireturn, 1) := by decide +kernel
theorem dX6_depth_0 : decode cX6_depth 0 = .ok (.iconst 0, 1) := by decide +kernel
theorem dX6_depth_1 : decode cX6_depth 1 = .ok (.istore_n 2, 1) := by decide +kernel
theorem dX6_depth_2 : decode cX6_depth 2 = .ok (.iload_n 1, 1) := by decide +kernel
theorem dX6_depth_3 : decode cX6_depth 3 = .ok (.istore_n 3, 1) := by decide +kernel
theorem dX6_depth_4 : decode cX6_depth 4 = .ok (.iload_n 3, 1) := by decide +kernel
theorem dX6_depth_5 : decode cX6_depth 5 = .ok (.ifCond .eq 16, 3) := by decide +kernel
theorem dX6_depth_8 : decode cX6_depth 8 = .ok (.iinc 2 1, 3) := by decide +kernel
theorem dX6_depth_11 : decode cX6_depth 11 = .ok (.aload_n 0, 1) := by decide +kernel
theorem dX6_depth_12 : decode cX6_depth 12 = .ok (.iload_n 3, 1) := by decide +kernel
theorem dX6_depth_13 : decode cX6_depth 13 = .ok (.iconst 0, 1) := by decide +kernel
theorem dX6_depth_14 : decode cX6_depth 14 = .ok (.invokevirtual 50, 3) := by decide +kernel
theorem dX6_depth_17 : decode cX6_depth 17 = .ok (.istore_n 3, 1) := by decide +kernel
theorem dX6_depth_18 : decode cX6_depth 18 = .ok (.goto (-14), 3) := by decide +kernel
theorem dX6_depth_21 : decode cX6_depth 21 = .ok (.iload_n 2, 1) := by decide +kernel
theorem dX6_depth_22 : decode cX6_depth 22 = .ok (.ireturn, 1) := by decide +kernel
theorem dX6_depthOf_0 : decode cX6_depthOf 0 = .ok (.aload_n 0, 1) := by decide +kernel
theorem dX6_depthOf_1 : decode cX6_depthOf 1 = .ok (.iload_n 1, 1) := by decide +kernel
theorem dX6_depthOf_2 : decode cX6_depthOf 2 = .ok (.invokestatic 54, 3) := by decide +kernel
theorem dX6_depthOf_5 : decode cX6_depthOf 5 = .ok (.ifCond .eq 7, 3) := by decide +kernel
theorem dX6_depthOf_8 : decode cX6_depthOf 8 = .ok (.iconst 0, 1) := by decide +kernel
theorem dX6_depthOf_9 : decode cX6_depthOf 9 = .ok (.goto 4, 3) := by decide +kernel
theorem dX6_depthOf_12 : decode cX6_depthOf 12 = .ok (.iconst 1, 1) := by decide +kernel
theorem dX6_depthOf_13 : decode cX6_depthOf 13 = .ok (.putfield 32, 3) := by decide +kernel
theorem dX6_depthOf_16 : decode cX6_depthOf 16 = .ok (.aload_n 0, 1) := by decide +kernel
theorem dX6_depthOf_17 : decode cX6_depthOf 17 = .ok (.getfield 32, 3) := by decide +kernel
theorem dX6_depthOf_20 : decode cX6_depthOf 20 = .ok (.ifCond .le 7, 3) := by decide +kernel
theorem dX6_depthOf_23 : decode cX6_depthOf 23 = .ok (.iconst 0, 1) := by decide +kernel
theorem dX6_depthOf_24 : decode cX6_depthOf 24 = .ok (.goto 8, 3) := by decide +kernel
theorem dX6_depthOf_27 : decode cX6_depthOf 27 = .ok (.aload_n 0, 1) := by decide +kernel
theorem dX6_depthOf_28 : decode cX6_depthOf 28 = .ok (.iload_n 1, 1) := by decide +kernel
theorem dX6_depthOf_29 : decode cX6_depthOf 29 = .ok (.invokevirtual 100, 3) := by decide +kernel
theorem dX6_depthOf_32 : decode cX6_depthOf 32 = .ok (.ireturn, 1) := by decide +kernel
theorem dX6_tellsRiddle_0 : decode cX6_tellsRiddle 0 = .ok (.aload_n 0, 1) := by decide +kernel
theorem dX6_tellsRiddle_1 : decode cX6_tellsRiddle 1 = .ok (.iload_n 1, 1) := by decide +kernel
theorem dX6_tellsRiddle_2 : decode cX6_tellsRiddle 2 = .ok (.invokestatic 64, 3) := by decide +kernel
theorem dX6_tellsRiddle_5 : decode cX6_tellsRiddle 5 = .ok (.ifCond .eq 7, 3) := by decide +kernel
theorem dX6_tellsRiddle_8 : decode cX6_tellsRiddle 8 = .ok (.iconst 0, 1) := by decide +kernel
theorem dX6_tellsRiddle_9 : decode cX6_tellsRiddle 9 = .ok (.goto 4, 3) := by decide +kernel
theorem dX6_tellsRiddle_12 : decode cX6_tellsRiddle 12 = .ok (.iconst 1, 1) := by decide +kernel
theorem dX6_tellsRiddle_13 : decode cX6_tellsRiddle 13 = .ok (.putfield 32, 3) := by decide +kernel
theorem dX6_tellsRiddle_16 : decode cX6_tellsRiddle 16 = .ok (.aload_n 0, 1) := by decide +kernel
theorem dX6_tellsRiddle_17 : decode cX6_tellsRiddle 17 = .ok (.getfield 32, 3) := by decide +kernel
theorem dX6_tellsRiddle_20 : decode cX6_tellsRiddle 20 = .ok (.ifCond .le 7, 3) := by decide +kernel
theorem dX6_tellsRiddle_23 : decode cX6_tellsRiddle 23 = .ok (.iconst 0, 1) := by decide +kernel
theorem dX6_tellsRiddle_24 : decode cX6_tellsRiddle 24 = .ok (.goto 9, 3) := by decide +kernel
theorem dX6_tellsRiddle_27 : decode cX6_tellsRiddle 27 = .ok (.aload_n 0, 1) := by decide +kernel
theorem dX6_tellsRiddle_28 : decode cX6_tellsRiddle 28 = .ok (.iload_n 1, 1) := by decide +kernel
theorem dX6_tellsRiddle_29 : decode cX6_tellsRiddle 29 = .ok (.iload_n 2, 1) := by decide +kernel
theorem dX6_tellsRiddle_30 : decode cX6_tellsRiddle 30 = .ok (.invokevirtual 61, 3) := by decide +kernel
theorem dX6_tellsRiddle_33 : decode cX6_tellsRiddle 33 = .ok (.ireturn, 1) := by decide +kernel
theorem dX6_kindOf_0 : decode cX6_kindOf 0 = .ok (.aload_n 0, 1) := by decide +kernel
theorem dX6_kindOf_1 : decode cX6_kindOf 1 = .ok (.iload_n 1, 1) := by decide +kernel
theorem dX6_kindOf_2 : decode cX6_kindOf 2 = .ok (.iconst 0, 1) := by decide +kernel
theorem dX6_kindOf_3 : decode cX6_kindOf 3 = .ok (.invokevirtual 103, 3) := by decide +kernel
theorem dX6_kindOf_6 : decode cX6_kindOf 6 = .ok (.ireturn, 1) := by decide +kernel
theorem dX6_valueOf_0 : decode cX6_valueOf 0 = .ok (.aload_n 0, 1) := by decide +kernel
theorem dX6_valueOf_1 : decode cX6_valueOf 1 = .ok (.iload_n 1, 1) := by decide +kernel
theorem dX6_valueOf_2 : decode cX6_valueOf 2 = .ok (.iconst 1, 1) := by decide +kernel
theorem dX6_valueOf_3 : decode cX6_valueOf 3 = .ok (.invokevirtual 103, 3) := by decide +kernel
theorem dX6_valueOf_6 : decode cX6_valueOf 6 = .ok (.ireturn, 1) := by decide +kernel
theorem dX6_truth_0 : decode cX6_truth 0 = .ok (.iload_n 1, 1) := by decide +kernel
theorem dX6_truth_1 : decode cX6_truth 1 = .ok (.istore_n 2, 1) := by decide +kernel
theorem dX6_truth_2 : decode cX6_truth 2 = .ok (.iconst 0, 1) := by decide +kernel
theorem dX6_truth_3 : decode cX6_truth 3 = .ok (.istore_n 3, 1) := by decide +kernel
theorem dX6_truth_4 : decode cX6_truth 4 = .ok (.aload_n 0, 1) := by decide +kernel
theorem dX6_truth_5 : decode cX6_truth 5 = .ok (.iload_n 2, 1) := by decide +kernel
theorem dX6_truth_6 : decode cX6_truth 6 = .ok (.iconst 0, 1) := by decide +kernel
theorem dX6_truth_7 : decode cX6_truth 7 = .ok (.invokevirtual 61, 3) := by decide +kernel
theorem dX6_truth_10 : decode cX6_truth 10 = .ok (.iconst 2, 1) := by decide +kernel
theorem dX6_truth_11 : decode cX6_truth 11 = .ok (.if_icmp .ne 25, 3) := by decide +kernel
theorem dX6_truth_14 : decode cX6_truth 14 = .ok (.iload_n 3, 1) := by decide +kernel
theorem dX6_truth_15 : decode cX6_truth 15 = .ok (.bipush 6, 2) := by decide +kernel
theorem dX6_truth_17 : decode cX6_truth 17 = .ok (.if_icmp .ne 6, 3) := by decide +kernel
theorem dX6_truth_20 : decode cX6_truth 20 = .ok (.bipush (-2), 2) := by decide +kernel
theorem dX6_truth_22 : decode cX6_truth 22 = .ok (.ireturn, 1) := by decide +kernel
theorem dX6_truth_23 : decode cX6_truth 23 = .ok (.aload_n 0, 1) := by decide +kernel
theorem dX6_truth_24 : decode cX6_truth 24 = .ok (.iload_n 2, 1) := by decide +kernel
theorem dX6_truth_25 : decode cX6_truth 25 = .ok (.iconst 1, 1) := by decide +kernel
theorem dX6_truth_26 : decode cX6_truth 26 = .ok (.invokevirtual 61, 3) := by decide +kernel
theorem dX6_truth_29 : decode cX6_truth 29 = .ok (.istore_n 2, 1) := by decide +kernel
theorem dX6_truth_30 : decode cX6_truth 30 = .ok (.iinc 3 1, 3) := by decide +kernel
theorem dX6_truth_33 : decode cX6_truth 33 = .ok (.goto (-29), 3) := by decide +kernel
theorem dX6_truth_36 : decode cX6_truth 36 = .ok (.aload_n 0, 1) := by decide +kernel
theorem dX6_truth_37 : decode cX6_truth 37 = .ok (.iload_n 2, 1) := by decide +kernel
theorem dX6_truth_38 : decode cX6_truth 38 = .ok (.iconst 1, 1) := by decide +kernel
theorem dX6_truth_39 : decode cX6_truth 39 = .ok (.invokevirtual 61, 3) := by decide +kernel
theorem dX6_truth_42 : decode cX6_truth 42 = .ok (.ireturn, 1) := by decide +kernel
theorem dX6_truthOf_0 : decode cX6_truthOf 0 = .ok (.aload_n 0, 1) := by decide +kernel
theorem dX6_truthOf_1 : decode cX6_truthOf 1 = .ok (.iload_n 1, 1) := by decide +kernel
theorem dX6_truthOf_2 : decode cX6_truthOf 2 = .ok (.invokestatic 64, 3) := by decide +kernel
theorem dX6_truthOf_5 : decode cX6_truthOf 5 = .ok (.ifCond .eq 7, 3) := by decide +kernel
theorem dX6_truthOf_8 : decode cX6_truthOf 8 = .ok (.iconst 0, 1) := by decide +kernel
theorem dX6_truthOf_9 : decode cX6_truthOf 9 = .ok (.goto 4, 3) := by decide +kernel
theorem dX6_truthOf_12 : decode cX6_truthOf 12 = .ok (.iconst 1, 1) := by decide +kernel
theorem dX6_truthOf_13 : decode cX6_truthOf 13 = .ok (.putfield 32, 3) := by decide +kernel
theorem dX6_truthOf_16 : decode cX6_truthOf 16 = .ok (.aload_n 0, 1) := by decide +kernel
theorem dX6_truthOf_17 : decode cX6_truthOf 17 = .ok (.getfield 32, 3) := by decide +kernel
theorem dX6_truthOf_20 : decode cX6_truthOf 20 = .ok (.ifCond .le 7, 3) := by decide +kernel
theorem dX6_truthOf_23 : decode cX6_truthOf 23 = .ok (.iconst 0, 1) := by decide +kernel
theorem dX6_truthOf_24 : decode cX6_truthOf 24 = .ok (.goto 8, 3) := by decide +kernel
theorem dX6_truthOf_27 : decode cX6_truthOf 27 = .ok (.aload_n 0, 1) := by decide +kernel
theorem dX6_truthOf_28 : decode cX6_truthOf 28 = .ok (.iload_n 1, 1) := by decide +kernel
theorem dX6_truthOf_29 : decode cX6_truthOf 29 = .ok (.invokevirtual 106, 3) := by decide +kernel
theorem dX6_truthOf_32 : decode cX6_truthOf 32 = .ok (.ireturn, 1) := by decide +kernel
theorem dX6_rememberedOf_0 : decode cX6_rememberedOf 0 = .ok (.aload_n 0, 1) := by decide +kernel
theorem dX6_rememberedOf_1 : decode cX6_rememberedOf 1 = .ok (.iload_n 1, 1) := by decide +kernel
theorem dX6_rememberedOf_2 : decode cX6_rememberedOf 2 = .ok (.iconst 3, 1) := by decide +kernel
theorem dX6_rememberedOf_3 : decode cX6_rememberedOf 3 = .ok (.invokevirtual 103, 3) := by decide +kernel
theorem dX6_rememberedOf_6 : decode cX6_rememberedOf 6 = .ok (.ireturn, 1) := by decide +kernel
theorem dX6_leftUntil_0 : decode cX6_leftUntil 0 = .ok (.iload_n 1, 1) := by decide +kernel
theorem dX6_leftUntil_1 : decode cX6_leftUntil 1 = .ok (.ifCond .ne 7, 3) := by decide +kernel
theorem dX6_leftUntil_4 : decode cX6_leftUntil 4 = .ok (.iconst (-1), 1) := by decide +kernel
theorem dX6_leftUntil_5 : decode cX6_leftUntil 5 = .ok (.goto 11, 3) := by decide +kernel
theorem dX6_leftUntil_8 : decode cX6_leftUntil 8 = .ok (.iload_n 1, 1) := by decide +kernel
theorem dX6_leftUntil_9 : decode cX6_leftUntil 9 = .ok (.aload_n 0, 1) := by decide +kernel
theorem dX6_leftUntil_10 : decode cX6_leftUntil 10 = .ok (.getfield 7, 3) := by decide +kernel
theorem dX6_leftUntil_13 : decode cX6_leftUntil 13 = .ok (.iconst 0, 1) := by decide +kernel
theorem dX6_leftUntil_14 : decode cX6_leftUntil 14 = .ok (.iaload, 1) := by decide +kernel
theorem dX6_leftUntil_15 : decode cX6_leftUntil 15 = .ok (.isub, 1) := by decide +kernel
theorem dX6_leftUntil_16 : decode cX6_leftUntil 16 = .ok (.ireturn, 1) := by decide +kernel
theorem dX6_ticksLeftOf_0 : decode cX6_ticksLeftOf 0 = .ok (.aload_n 0, 1) := by decide +kernel
theorem dX6_ticksLeftOf_1 : decode cX6_ticksLeftOf 1 = .ok (.iload_n 1, 1) := by decide +kernel
theorem dX6_ticksLeftOf_2 : decode cX6_ticksLeftOf 2 = .ok (.invokestatic 64, 3) := by decide +kernel
theorem dX6_ticksLeftOf_5 : decode cX6_ticksLeftOf 5 = .ok (.ifCond .eq 7, 3) := by decide +kernel
theorem dX6_ticksLeftOf_8 : decode cX6_ticksLeftOf 8 = .ok (.iconst 0, 1) := by decide +kernel
theorem dX6_ticksLeftOf_9 : decode cX6_ticksLeftOf 9 = .ok (.goto 4, 3) := by decide +kernel
theorem dX6_ticksLeftOf_12 : decode cX6_ticksLeftOf 12 = .ok (.iconst 1, 1) := by decide +kernel
theorem dX6_ticksLeftOf_13 : decode cX6_ticksLeftOf 13 = .ok (.putfield 32, 3) := by decide +kernel
theorem dX6_ticksLeftOf_16 : decode cX6_ticksLeftOf 16 = .ok (.aload_n 0, 1) := by decide +kernel
theorem dX6_ticksLeftOf_17 : decode cX6_ticksLeftOf 17 = .ok (.getfield 32, 3) := by decide +kernel
theorem dX6_ticksLeftOf_20 : decode cX6_ticksLeftOf 20 = .ok (.ifCond .le 7, 3) := by decide +kernel
theorem dX6_ticksLeftOf_23 : decode cX6_ticksLeftOf 23 = .ok (.iconst 0, 1) := by decide +kernel
theorem dX6_ticksLeftOf_24 : decode cX6_ticksLeftOf 24 = .ok (.goto 13, 3) := by decide +kernel
theorem dX6_ticksLeftOf_27 : decode cX6_ticksLeftOf 27 = .ok (.aload_n 0, 1) := by decide +kernel
theorem dX6_ticksLeftOf_28 : decode cX6_ticksLeftOf 28 = .ok (.aload_n 0, 1) := by decide +kernel
theorem dX6_ticksLeftOf_29 : decode cX6_ticksLeftOf 29 = .ok (.iload_n 1, 1) := by decide +kernel
theorem dX6_ticksLeftOf_30 : decode cX6_ticksLeftOf 30 = .ok (.iconst 5, 1) := by decide +kernel
theorem dX6_ticksLeftOf_31 : decode cX6_ticksLeftOf 31 = .ok (.invokevirtual 61, 3) := by decide +kernel
theorem dX6_ticksLeftOf_34 : decode cX6_ticksLeftOf 34 = .ok (.invokevirtual 109, 3) := by decide +kernel
theorem dX6_ticksLeftOf_37 : decode cX6_ticksLeftOf 37 = .ok (.ireturn, 1) := by decide +kernel
theorem dX6_referralLeft_0 : decode cX6_referralLeft 0 = .ok (.aload_n 0, 1) := by decide +kernel
theorem dX6_referralLeft_1 : decode cX6_referralLeft 1 = .ok (.iload_n 1, 1) := by decide +kernel
theorem dX6_referralLeft_2 : decode cX6_referralLeft 2 = .ok (.invokestatic 54, 3) := by decide +kernel
theorem dX6_referralLeft_5 : decode cX6_referralLeft 5 = .ok (.ifCond .eq 7, 3) := by decide +kernel
theorem dX6_referralLeft_8 : decode cX6_referralLeft 8 = .ok (.iconst 0, 1) := by decide +kernel
theorem dX6_referralLeft_9 : decode cX6_referralLeft 9 = .ok (.goto 4, 3) := by decide +kernel
theorem dX6_referralLeft_12 : decode cX6_referralLeft 12 = .ok (.iconst 1, 1) := by decide +kernel
theorem dX6_referralLeft_13 : decode cX6_referralLeft 13 = .ok (.putfield 32, 3) := by decide +kernel
theorem dX6_referralLeft_16 : decode cX6_referralLeft 16 = .ok (.aload_n 0, 1) := by decide +kernel
theorem dX6_referralLeft_17 : decode cX6_referralLeft 17 = .ok (.getfield 32, 3) := by decide +kernel
theorem dX6_referralLeft_20 : decode cX6_referralLeft 20 = .ok (.ifCond .le 7, 3) := by decide +kernel
theorem dX6_referralLeft_23 : decode cX6_referralLeft 23 = .ok (.iconst 0, 1) := by decide +kernel
theorem dX6_referralLeft_24 : decode cX6_referralLeft 24 = .ok (.goto 13, 3) := by decide +kernel
theorem dX6_referralLeft_27 : decode cX6_referralLeft 27 = .ok (.aload_n 0, 1) := by decide +kernel
theorem dX6_referralLeft_28 : decode cX6_referralLeft 28 = .ok (.aload_n 0, 1) := by decide +kernel
theorem dX6_referralLeft_29 : decode cX6_referralLeft 29 = .ok (.iload_n 1, 1) := by decide +kernel
theorem dX6_referralLeft_30 : decode cX6_referralLeft 30 = .ok (.iconst 3, 1) := by decide +kernel
theorem dX6_referralLeft_31 : decode cX6_referralLeft 31 = .ok (.invokevirtual 50, 3) := by decide +kernel
theorem dX6_referralLeft_34 : decode cX6_referralLeft 34 = .ok (.invokevirtual 109, 3) := by decide +kernel
theorem dX6_referralLeft_37 : decode cX6_referralLeft 37 = .ok (.ireturn, 1) := by decide +kernel
theorem dX6_memories_0 : decode cX6_memories 0 = .ok (.iconst 0, 1) := by decide +kernel
theorem dX6_memories_1 : decode cX6_memories 1 = .ok (.istore_n 1, 1) := by decide +kernel
theorem dX6_memories_2 : decode cX6_memories 2 = .ok (.iconst 0, 1) := by decide +kernel
theorem dX6_memories_3 : decode cX6_memories 3 = .ok (.istore_n 2, 1) := by decide +kernel
theorem dX6_memories_4 : decode cX6_memories 4 = .ok (.iload_n 2, 1) := by decide +kernel
theorem dX6_memories_5 : decode cX6_memories 5 = .ok (.bipush 6, 2) := by decide +kernel
theorem dX6_memories_7 : decode cX6_memories 7 = .ok (.if_icmp .ge 26, 3) := by decide +kernel
theorem dX6_memories_10 : decode cX6_memories 10 = .ok (.iload_n 1, 1) := by decide +kernel
theorem dX6_memories_11 : decode cX6_memories 11 = .ok (.aload_n 0, 1) := by decide +kernel
theorem dX6_memories_12 : decode cX6_memories 12 = .ok (.iload_n 2, 1) := by decide +kernel
theorem dX6_memories_13 : decode cX6_memories 13 = .ok (.iconst 3, 1) := by decide +kernel
theorem dX6_memories_14 : decode cX6_memories 14 = .ok (.invokevirtual 50, 3) := by decide +kernel
theorem dX6_memories_17 : decode cX6_memories 17 = .ok (.ifCond .le 7, 3) := by decide +kernel
theorem dX6_memories_20 : decode cX6_memories 20 = .ok (.iconst 1, 1) := by decide +kernel
theorem dX6_memories_21 : decode cX6_memories 21 = .ok (.goto 4, 3) := by decide +kernel
theorem dX6_memories_24 : decode cX6_memories 24 = .ok (.iconst 0, 1) := by decide +kernel
theorem dX6_memories_25 : decode cX6_memories 25 = .ok (.iadd, 1) := by decide +kernel
theorem dX6_memories_26 : decode cX6_memories 26 = .ok (.istore_n 1, 1) := by decide +kernel
theorem dX6_memories_27 : decode cX6_memories 27 = .ok (.iinc 2 1, 3) := by decide +kernel
theorem dX6_memories_30 : decode cX6_memories 30 = .ok (.goto (-26), 3) := by decide +kernel
theorem dX6_memories_33 : decode cX6_memories 33 = .ok (.iconst 0, 1) := by decide +kernel
theorem dX6_memories_34 : decode cX6_memories 34 = .ok (.istore_n 2, 1) := by decide +kernel
theorem dX6_memories_35 : decode cX6_memories 35 = .ok (.iload_n 2, 1) := by decide +kernel
theorem dX6_memories_36 : decode cX6_memories 36 = .ok (.bipush 36, 2) := by decide +kernel
theorem dX6_memories_38 : decode cX6_memories 38 = .ok (.if_icmp .ge 26, 3) := by decide +kernel
theorem dX6_memories_41 : decode cX6_memories 41 = .ok (.iload_n 1, 1) := by decide +kernel
theorem dX6_memories_42 : decode cX6_memories 42 = .ok (.aload_n 0, 1) := by decide +kernel
theorem dX6_memories_43 : decode cX6_memories 43 = .ok (.iload_n 2, 1) := by decide +kernel
theorem dX6_memories_44 : decode cX6_memories 44 = .ok (.iconst 5, 1) := by decide +kernel
theorem dX6_memories_45 : decode cX6_memories 45 = .ok (.invokevirtual 61, 3) := by decide +kernel
theorem dX6_memories_48 : decode cX6_memories 48 = .ok (.ifCond .le 7, 3) := by decide +kernel
theorem dX6_memories_51 : decode cX6_memories 51 = .ok (.iconst 1, 1) := by decide +kernel
theorem dX6_memories_52 : decode cX6_memories 52 = .ok (.goto 4, 3) := by decide +kernel
theorem dX6_memories_55 : decode cX6_memories 55 = .ok (.iconst 0, 1) := by decide +kernel
theorem dX6_memories_56 : decode cX6_memories 56 = .ok (.iadd, 1) := by decide +kernel
theorem dX6_memories_57 : decode cX6_memories 57 = .ok (.istore_n 1, 1) := by decide +kernel
theorem dX6_memories_58 : decode cX6_memories 58 = .ok (.iinc 2 1, 3) := by decide +kernel
theorem dX6_memories_61 : decode cX6_memories 61 = .ok (.goto (-26), 3) := by decide +kernel
theorem dX6_memories_64 : decode cX6_memories 64 = .ok (.iload_n 1, 1) := by decide +kernel
theorem dX6_memories_65 : decode cX6_memories 65 = .ok (.ireturn, 1) := by decide +kernel
theorem dX6_remembered_0 : decode cX6_remembered 0 = .ok (.aload_n 0, 1) := by decide +kernel
theorem dX6_remembered_1 : decode cX6_remembered 1 = .ok (.aload_n 0, 1) := by decide +kernel
theorem dX6_remembered_2 : decode cX6_remembered 2 = .ok (.invokevirtual 112, 3) := by decide +kernel
theorem dX6_remembered_5 : decode cX6_remembered 5 = .ok (.invokevirtual 94, 3) := by decide +kernel
theorem dX6_remembered_8 : decode cX6_remembered 8 = .ok (.ireturn, 1) := by decide +kernel
theorem dX6_rememberedByAccount_0 : decode cX6_rememberedByAccount 0 = .ok (.aload_n 0, 1) := by decide +kernel
theorem dX6_rememberedByAccount_1 : decode cX6_rememberedByAccount 1 = .ok (.aload_n 0, 1) := by decide +kernel
theorem dX6_rememberedByAccount_2 : decode cX6_rememberedByAccount 2 = .ok (.getfield 7, 3) := by decide +kernel
theorem dX6_rememberedByAccount_5 : decode cX6_rememberedByAccount 5 = .ok (.iconst 4, 1) := by decide +kernel
theorem dX6_rememberedByAccount_6 : decode cX6_rememberedByAccount 6 = .ok (.iaload, 1) := by decide +kernel
theorem dX6_rememberedByAccount_7 : decode cX6_rememberedByAccount 7 = .ok (.aload_n 0, 1) := by decide +kernel
theorem dX6_rememberedByAccount_8 : decode cX6_rememberedByAccount 8 = .ok (.getfield 7, 3) := by decide +kernel
theorem dX6_rememberedByAccount_11 : decode cX6_rememberedByAccount 11 = .ok (.iconst 5, 1) := by decide +kernel
theorem dX6_rememberedByAccount_12 : decode cX6_rememberedByAccount 12 = .ok (.iaload, 1) := by decide +kernel
theorem dX6_rememberedByAccount_13 : decode cX6_rememberedByAccount 13 = .ok (.isub, 1) := by decide +kernel
theorem dX6_rememberedByAccount_14 : decode cX6_rememberedByAccount 14 = .ok (.invokevirtual 94, 3) := by decide +kernel
theorem dX6_rememberedByAccount_17 : decode cX6_rememberedByAccount 17 = .ok (.ireturn, 1) := by decide +kernel
theorem dX6_sooner_0 : decode cX6_sooner 0 = .ok (.iload_n 0, 1) := by decide +kernel
theorem dX6_sooner_1 : decode cX6_sooner 1 = .ok (.iconst (-1), 1) := by decide +kernel
theorem dX6_sooner_2 : decode cX6_sooner 2 = .ok (.if_icmp .eq 13, 3) := by decide +kernel
theorem dX6_sooner_5 : decode cX6_sooner 5 = .ok (.iload_n 1, 1) := by decide +kernel
theorem dX6_sooner_6 : decode cX6_sooner 6 = .ok (.iconst (-1), 1) := by decide +kernel
theorem dX6_sooner_7 : decode cX6_sooner 7 = .ok (.if_icmp .eq 12, 3) := by decide +kernel
theorem dX6_sooner_10 : decode cX6_sooner 10 = .ok (.iload_n 1, 1) := by decide +kernel
theorem dX6_sooner_11 : decode cX6_sooner 11 = .ok (.iload_n 0, 1) := by decide +kernel
theorem dX6_sooner_12 : decode cX6_sooner 12 = .ok (.if_icmp .ge 7, 3) := by decide +kernel
theorem dX6_sooner_15 : decode cX6_sooner 15 = .ok (.iload_n 1, 1) := by decide +kernel
theorem dX6_sooner_16 : decode cX6_sooner 16 = .ok (.goto 4, 3) := by decide +kernel
theorem dX6_sooner_19 : decode cX6_sooner 19 = .ok (.iload_n 0, 1) := by decide +kernel
theorem dX6_sooner_20 : decode cX6_sooner 20 = .ok (.ireturn, 1) := by decide +kernel
theorem dX6_untilForgetting_0 : decode cX6_untilForgetting 0 = .ok (.iconst (-1), 1) := by decide +kernel
theorem dX6_untilForgetting_1 : decode cX6_untilForgetting 1 = .ok (.istore_n 1, 1) := by decide +kernel
theorem dX6_untilForgetting_2 : decode cX6_untilForgetting 2 = .ok (.iconst 0, 1) := by decide +kernel
theorem dX6_untilForgetting_3 : decode cX6_untilForgetting 3 = .ok (.istore_n 2, 1) := by decide +kernel
theorem dX6_untilForgetting_4 : decode cX6_untilForgetting 4 = .ok (.iload_n 2, 1) := by decide +kernel
theorem dX6_untilForgetting_5 : decode cX6_untilForgetting 5 = .ok (.bipush 6, 2) := by decide +kernel
theorem dX6_untilForgetting_7 : decode cX6_untilForgetting 7 = .ok (.if_icmp .ge 24, 3) := by decide +kernel
theorem dX6_untilForgetting_10 : decode cX6_untilForgetting 10 = .ok (.iload_n 1, 1) := by decide +kernel
theorem dX6_untilForgetting_11 : decode cX6_untilForgetting 11 = .ok (.aload_n 0, 1) := by decide +kernel
theorem dX6_untilForgetting_12 : decode cX6_untilForgetting 12 = .ok (.aload_n 0, 1) := by decide +kernel
theorem dX6_untilForgetting_13 : decode cX6_untilForgetting 13 = .ok (.iload_n 2, 1) := by decide +kernel
theorem dX6_untilForgetting_14 : decode cX6_untilForgetting 14 = .ok (.iconst 3, 1) := by decide +kernel
theorem dX6_untilForgetting_15 : decode cX6_untilForgetting 15 = .ok (.invokevirtual 50, 3) := by decide +kernel
theorem dX6_untilForgetting_18 : decode cX6_untilForgetting 18 = .ok (.invokevirtual 109, 3) := by decide +kernel
theorem dX6_untilForgetting_21 : decode cX6_untilForgetting 21 = .ok (.invokestatic 116, 3) := by decide +kernel
theorem dX6_untilForgetting_24 : decode cX6_untilForgetting 24 = .ok (.istore_n 1, 1) := by decide +kernel
theorem dX6_untilForgetting_25 : decode cX6_untilForgetting 25 = .ok (.iinc 2 1, 3) := by decide +kernel
theorem dX6_untilForgetting_28 : decode cX6_untilForgetting 28 = .ok (.goto (-24), 3) := by decide +kernel
theorem dX6_untilForgetting_31 : decode cX6_untilForgetting 31 = .ok (.iconst 0, 1) := by decide +kernel
theorem dX6_untilForgetting_32 : decode cX6_untilForgetting 32 = .ok (.istore_n 2, 1) := by decide +kernel
theorem dX6_untilForgetting_33 : decode cX6_untilForgetting 33 = .ok (.iload_n 2, 1) := by decide +kernel
theorem dX6_untilForgetting_34 : decode cX6_untilForgetting 34 = .ok (.bipush 36, 2) := by decide +kernel
theorem dX6_untilForgetting_36 : decode cX6_untilForgetting 36 = .ok (.if_icmp .ge 24, 3) := by decide +kernel
theorem dX6_untilForgetting_39 : decode cX6_untilForgetting 39 = .ok (.iload_n 1, 1) := by decide +kernel
theorem dX6_untilForgetting_40 : decode cX6_untilForgetting 40 = .ok (.aload_n 0, 1) := by decide +kernel
theorem dX6_untilForgetting_41 : decode cX6_untilForgetting 41 = .ok (.aload_n 0, 1) := by decide +kernel
theorem dX6_untilForgetting_42 : decode cX6_untilForgetting 42 = .ok (.iload_n 2, 1) := by decide +kernel
theorem dX6_untilForgetting_43 : decode cX6_untilForgetting 43 = .ok (.iconst 5, 1) := by decide +kernel
theorem dX6_untilForgetting_44 : decode cX6_untilForgetting 44 = .ok (.invokevirtual 61, 3) := by decide +kernel
theorem dX6_untilForgetting_47 : decode cX6_untilForgetting 47 = .ok (.invokevirtual 109, 3) := by decide +kernel
theorem dX6_untilForgetting_50 : decode cX6_untilForgetting 50 = .ok (.invokestatic 116, 3) := by decide +kernel
theorem dX6_untilForgetting_53 : decode cX6_untilForgetting 53 = .ok (.istore_n 1, 1) := by decide +kernel
theorem dX6_untilForgetting_54 : decode cX6_untilForgetting 54 = .ok (.iinc 2 1, 3) := by decide +kernel
theorem dX6_untilForgetting_57 : decode cX6_untilForgetting 57 = .ok (.goto (-24), 3) := by decide +kernel
theorem dX6_untilForgetting_60 : decode cX6_untilForgetting 60 = .ok (.iload_n 1, 1) := by decide +kernel
theorem dX6_untilForgetting_61 : decode cX6_untilForgetting 61 = .ok (.ireturn, 1) := by decide +kernel
theorem dX6_ticksUntilForgetting_0 : decode cX6_ticksUntilForgetting 0 = .ok (.aload_n 0, 1) := by decide +kernel
theorem dX6_ticksUntilForgetting_1 : decode cX6_ticksUntilForgetting 1 = .ok (.aload_n 0, 1) := by decide +kernel
theorem dX6_ticksUntilForgetting_2 : decode cX6_ticksUntilForgetting 2 = .ok (.invokevirtual 119, 3) := by decide +kernel
theorem dX6_ticksUntilForgetting_5 : decode cX6_ticksUntilForgetting 5 = .ok (.invokevirtual 94, 3) := by decide +kernel
theorem dX6_ticksUntilForgetting_8 : decode cX6_ticksUntilForgetting 8 = .ok (.ireturn, 1) := by decide +kernel
theorem dX6_isOld_0 : decode cX6_isOld 0 = .ok (.aload_n 0, 1) := by decide +kernel
theorem dX6_isOld_1 : decode cX6_isOld 1 = .ok (.iload_n 1, 1) := by decide +kernel
theorem dX6_isOld_2 : decode cX6_isOld 2 = .ok (.iconst 3, 1) := by decide +kernel
theorem dX6_isOld_3 : decode cX6_isOld 3 = .ok (.invokevirtual 61, 3) := by decide +kernel
theorem dX6_isOld_6 : decode cX6_isOld 6 = .ok (.istore_n 2, 1) := by decide +kernel
theorem dX6_isOld_7 : decode cX6_isOld 7 = .ok (.iload_n 2, 1) := by decide +kernel
theorem dX6_isOld_8 : decode cX6_isOld 8 = .ok (.iconst 3, 1) := by decide +kernel
theorem dX6_isOld_9 : decode cX6_isOld 9 = .ok (.if_icmp .ne 20, 3) := by decide +kernel
theorem dX6_isOld_12 : decode cX6_isOld 12 = .ok (.aload_n 0, 1) := by decide +kernel
theorem dX6_isOld_13 : decode cX6_isOld 13 = .ok (.iload_n 1, 1) := by decide +kernel
theorem dX6_isOld_14 : decode cX6_isOld 14 = .ok (.iconst 0, 1) := by decide +kernel
theorem dX6_isOld_15 : decode cX6_isOld 15 = .ok (.invokevirtual 61, 3) := by decide +kernel
theorem dX6_isOld_18 : decode cX6_isOld 18 = .ok (.ifCond .ne 7, 3) := by decide +kernel
theorem dX6_isOld_21 : decode cX6_isOld 21 = .ok (.iconst 1, 1) := by decide +kernel
theorem dX6_isOld_22 : decode cX6_isOld 22 = .ok (.goto 37, 3) := by decide +kernel
theorem dX6_isOld_25 : decode cX6_isOld 25 = .ok (.iconst 0, 1) := by decide +kernel
theorem dX6_isOld_26 : decode cX6_isOld 26 = .ok (.goto 33, 3) := by decide +kernel
theorem dX6_isOld_29 : decode cX6_isOld 29 = .ok (.iload_n 2, 1) := by decide +kernel
theorem dX6_isOld_30 : decode cX6_isOld 30 = .ok (.aload_n 0, 1) := by decide +kernel
theorem dX6_isOld_31 : decode cX6_isOld 31 = .ok (.iload_n 1, 1) := by decide +kernel
theorem dX6_isOld_32 : decode cX6_isOld 32 = .ok (.iconst 0, 1) := by decide +kernel
theorem dX6_isOld_33 : decode cX6_isOld 33 = .ok (.invokevirtual 61, 3) := by decide +kernel
theorem dX6_isOld_36 : decode cX6_isOld 36 = .ok (.if_icmp .ne 22, 3) := by decide +kernel
theorem dX6_isOld_39 : decode cX6_isOld 39 = .ok (.aload_n 0, 1) := by decide +kernel
theorem dX6_isOld_40 : decode cX6_isOld 40 = .ok (.iload_n 1, 1) := by decide +kernel
theorem dX6_isOld_41 : decode cX6_isOld 41 = .ok (.iconst 4, 1) := by decide +kernel
theorem dX6_isOld_42 : decode cX6_isOld 42 = .ok (.invokevirtual 61, 3) := by decide +kernel
theorem dX6_isOld_45 : decode cX6_isOld 45 = .ok (.aload_n 0, 1) := by decide +kernel
theorem dX6_isOld_46 : decode cX6_isOld 46 = .ok (.iload_n 1, 1) := by decide +kernel
theorem dX6_isOld_47 : decode cX6_isOld 47 = .ok (.iconst 1, 1) := by decide +kernel
theorem dX6_isOld_48 : decode cX6_isOld 48 = .ok (.invokevirtual 61, 3) := by decide +kernel
theorem dX6_isOld_51 : decode cX6_isOld 51 = .ok (.if_icmp .ne 7, 3) := by decide +kernel
theorem dX6_isOld_54 : decode cX6_isOld 54 = .ok (.iconst 1, 1) := by decide +kernel
theorem dX6_isOld_55 : decode cX6_isOld 55 = .ok (.goto 4, 3) := by decide +kernel
theorem dX6_isOld_58 : decode cX6_isOld 58 = .ok (.iconst 0, 1) := by decide +kernel
theorem dX6_isOld_59 : decode cX6_isOld 59 = .ok (.istore_n 3, 1) := by decide +kernel
theorem dX6_isOld_60 : decode cX6_isOld 60 = .ok (.iload_n 2, 1) := by decide +kernel
theorem dX6_isOld_61 : decode cX6_isOld 61 = .ok (.ifCond .eq 11, 3) := by decide +kernel
theorem dX6_isOld_64 : decode cX6_isOld 64 = .ok (.iload_n 3, 1) := by decide +kernel
theorem dX6_isOld_65 : decode cX6_isOld 65 = .ok (.ifCond .ne 7, 3) := by decide +kernel
theorem dX6_isOld_68 : decode cX6_isOld 68 = .ok (.iconst 1, 1) := by decide +kernel
theorem dX6_isOld_69 : decode cX6_isOld 69 = .ok (.goto 4, 3) := by decide +kernel
theorem dX6_isOld_72 : decode cX6_isOld 72 = .ok (.iconst 0, 1) := by decide +kernel
theorem dX6_isOld_73 : decode cX6_isOld 73 = .ok (.ireturn, 1) := by decide +kernel
theorem dX6_isOutOfDate_0 : decode cX6_isOutOfDate 0 = .ok (.aload_n 0, 1) := by decide +kernel
theorem dX6_isOutOfDate_1 : decode cX6_isOutOfDate 1 = .ok (.iload_n 1, 1) := by decide +kernel
theorem dX6_isOutOfDate_2 : decode cX6_isOutOfDate 2 = .ok (.invokestatic 64, 3) := by decide +kernel
theorem dX6_isOutOfDate_5 : decode cX6_isOutOfDate 5 = .ok (.ifCond .eq 7, 3) := by decide +kernel
theorem dX6_isOutOfDate_8 : decode cX6_isOutOfDate 8 = .ok (.iconst 0, 1) := by decide +kernel
theorem dX6_isOutOfDate_9 : decode cX6_isOutOfDate 9 = .ok (.goto 4, 3) := by decide +kernel
theorem dX6_isOutOfDate_12 : decode cX6_isOutOfDate 12 = .ok (.iconst 1, 1) := by decide +kernel
theorem dX6_isOutOfDate_13 : decode cX6_isOutOfDate 13 = .ok (.putfield 32, 3) := by decide +kernel
theorem dX6_isOutOfDate_16 : decode cX6_isOutOfDate 16 = .ok (.aload_n 0, 1) := by decide +kernel
theorem dX6_isOutOfDate_17 : decode cX6_isOutOfDate 17 = .ok (.getfield 32, 3) := by decide +kernel
theorem dX6_isOutOfDate_20 : decode cX6_isOutOfDate 20 = .ok (.ifCond .ne 15, 3) := by decide +kernel
theorem dX6_isOutOfDate_23 : decode cX6_isOutOfDate 23 = .ok (.aload_n 0, 1) := by decide +kernel
theorem dX6_isOutOfDate_24 : decode cX6_isOutOfDate 24 = .ok (.iload_n 1, 1) := by decide +kernel
theorem dX6_isOutOfDate_25 : decode cX6_isOutOfDate 25 = .ok (.invokevirtual 122, 3) := by decide +kernel
theorem dX6_isOutOfDate_28 : decode cX6_isOutOfDate 28 = .ok (.ifCond .eq 7, 3) := by decide +kernel
theorem dX6_isOutOfDate_31 : decode cX6_isOutOfDate 31 = .ok (.iconst 1, 1) := by decide +kernel
theorem dX6_isOutOfDate_32 : decode cX6_isOutOfDate 32 = .ok (.goto 4, 3) := by decide +kernel
theorem dX6_isOutOfDate_35 : decode cX6_isOutOfDate 35 = .ok (.iconst 0, 1) := by decide +kernel
theorem dX6_isOutOfDate_36 : decode cX6_isOutOfDate 36 = .ok (.ireturn, 1) := by decide +kernel
theorem dX6_solved_0 : decode cX6_solved 0 = .ok (.aload_n 0, 1) := by decide +kernel
theorem dX6_solved_1 : decode cX6_solved 1 = .ok (.aload_n 0, 1) := by decide +kernel
theorem dX6_solved_2 : decode cX6_solved 2 = .ok (.getfield 7, 3) := by decide +kernel
theorem dX6_solved_5 : decode cX6_solved 5 = .ok (.iconst 1, 1) := by decide +kernel
theorem dX6_solved_6 : decode cX6_solved 6 = .ok (.iaload, 1) := by decide +kernel
theorem dX6_solved_7 : decode cX6_solved 7 = .ok (.invokevirtual 94, 3) := by decide +kernel
theorem dX6_solved_10 : decode cX6_solved 10 = .ok (.ireturn, 1) := by decide +kernel
theorem dX6_questions_0 : decode cX6_questions 0 = .ok (.aload_n 0, 1) := by decide +kernel
theorem dX6_questions_1 : decode cX6_questions 1 = .ok (.aload_n 0, 1) := by decide +kernel
theorem dX6_questions_2 : decode cX6_questions 2 = .ok (.getfield 7, 3) := by decide +kernel
theorem dX6_questions_5 : decode cX6_questions 5 = .ok (.iconst 2, 1) := by decide +kernel
theorem dX6_questions_6 : decode cX6_questions 6 = .ok (.iaload, 1) := by decide +kernel
theorem dX6_questions_7 : decode cX6_questions 7 = .ok (.invokevirtual 94, 3) := by decide +kernel
theorem dX6_questions_10 : decode cX6_questions 10 = .ok (.ireturn, 1) := by decide +kernel
theorem dX6_hits_0 : decode cX6_hits 0 = .ok (.aload_n 0, 1) := by decide +kernel
theorem dX6_hits_1 : decode cX6_hits 1 = .ok (.aload_n 0, 1) := by decide +kernel
theorem dX6_hits_2 : decode cX6_hits 2 = .ok (.getfield 7, 3) := by decide +kernel
theorem dX6_hits_5 : decode cX6_hits 5 = .ok (.iconst 3, 1) := by decide +kernel
theorem dX6_hits_6 : decode cX6_hits 6 = .ok (.iaload, 1) := by decide +kernel
theorem dX6_hits_7 : decode cX6_hits 7 = .ok (.invokevirtual 94, 3) := by decide +kernel
theorem dX6_hits_10 : decode cX6_hits 10 = .ok (.ireturn, 1) := by decide +kernel
theorem dX6_questionsTo_0 : decode cX6_questionsTo 0 = .ok (.aload_n 0, 1) := by decide +kernel
theorem dX6_questionsTo_1 : decode cX6_questionsTo 1 = .ok (.iload_n 1, 1) := by decide +kernel
theorem dX6_questionsTo_2 : decode cX6_questionsTo 2 = .ok (.iconst 4, 1) := by decide +kernel
theorem dX6_questionsTo_3 : decode cX6_questionsTo 3 = .ok (.invokevirtual 97, 3) := by decide +kernel
theorem dX6_questionsTo_6 : decode cX6_questionsTo 6 = .ok (.ireturn, 1) := by decide +kernel
theorem dX6_meanQuestions_0 : decode cX6_meanQuestions 0 = .ok (.aload_n 0, 1) := by decide +kernel
theorem dX6_meanQuestions_1 : decode cX6_meanQuestions 1 = .ok (.iconst 0, 1) := by decide +kernel
theorem dX6_meanQuestions_2 : decode cX6_meanQuestions 2 = .ok (.putfield 32, 3) := by decide +kernel
theorem dX6_meanQuestions_5 : decode cX6_meanQuestions 5 = .ok (.aload_n 0, 1) := by decide +kernel
theorem dX6_meanQuestions_6 : decode cX6_meanQuestions 6 = .ok (.getfield 7, 3) := by decide +kernel
theorem dX6_meanQuestions_9 : decode cX6_meanQuestions 9 = .ok (.iconst 1, 1) := by decide +kernel
theorem dX6_meanQuestions_10 : decode cX6_meanQuestions 10 = .ok (.iaload, 1) := by decide +kernel
theorem dX6_meanQuestions_11 : decode cX6_meanQuestions 11 = .ok (.ifCond .ne 7, 3) := by decide +kernel
theorem dX6_meanQuestions_14 : decode cX6_meanQuestions 14 = .ok (.dconst 0, 1) := by decide +kernel
theorem dX6_meanQuestions_15 : decode cX6_meanQuestions 15 = .ok (.goto 18, 3) := by decide +kernel
theorem dX6_meanQuestions_18 : decode cX6_meanQuestions 18 = .ok (.aload_n 0, 1) := by decide +kernel
theorem dX6_meanQuestions_19 : decode cX6_meanQuestions 19 = .ok (.getfield 7, 3) := by decide +kernel
theorem dX6_meanQuestions_22 : decode cX6_meanQuestions 22 = .ok (.iconst 2, 1) := by decide +kernel
theorem dX6_meanQuestions_23 : decode cX6_meanQuestions 23 = .ok (.iaload, 1) := by decide +kernel
theorem dX6_meanQuestions_24 : decode cX6_meanQuestions 24 = .ok (.i2d, 1) := by decide +kernel
theorem dX6_meanQuestions_25 : decode cX6_meanQuestions 25 = .ok (.aload_n 0, 1) := by decide +kernel
theorem dX6_meanQuestions_26 : decode cX6_meanQuestions 26 = .ok (.getfield 7, 3) := by decide +kernel
theorem dX6_meanQuestions_29 : decode cX6_meanQuestions 29 = .ok (.iconst 1, 1) := by decide +kernel
theorem dX6_meanQuestions_30 : decode cX6_meanQuestions 30 = .ok (.iaload, 1) := by decide +kernel
theorem dX6_meanQuestions_31 : decode cX6_meanQuestions 31 = .ok (.i2d, 1) := by decide +kernel
theorem dX6_meanQuestions_32 : decode cX6_meanQuestions 32 = .ok (.ddiv, 1) := by decide +kernel
theorem dX6_meanQuestions_33 : decode cX6_meanQuestions 33 = .ok (.dreturn, 1) := by decide +kernel
theorem dX6_would_0 : decode cX6_would 0 = .ok (.aload_n 0, 1) := by decide +kernel
theorem dX6_would_1 : decode cX6_would 1 = .ok (.getfield 7, 3) := by decide +kernel
theorem dX6_would_4 : decode cX6_would 4 = .ok (.iconst 0, 1) := by decide +kernel
theorem dX6_would_5 : decode cX6_would 5 = .ok (.aload_n 0, 1) := by decide +kernel
theorem dX6_would_6 : decode cX6_would 6 = .ok (.getfield 16, 3) := by decide +kernel
theorem dX6_would_9 : decode cX6_would 9 = .ok (.iconst 0, 1) := by decide +kernel
theorem dX6_would_10 : decode cX6_would 10 = .ok (.invokestatic 39, 3) := by decide +kernel
theorem dX6_would_13 : decode cX6_would 13 = .ok (.aload_n 0, 1) := by decide +kernel
theorem dX6_would_14 : decode cX6_would 14 = .ok (.iload_n 1, 1) := by decide +kernel
theorem dX6_would_15 : decode cX6_would 15 = .ok (.invokevirtual 81, 3) := by decide +kernel
theorem dX6_would_18 : decode cX6_would 18 = .ok (.istore_n 2, 1) := by decide +kernel
theorem dX6_would_19 : decode cX6_would 19 = .ok (.aload_n 0, 1) := by decide +kernel
theorem dX6_would_20 : decode cX6_would 20 = .ok (.getfield 16, 3) := by decide +kernel
theorem dX6_would_23 : decode cX6_would 23 = .ok (.iconst 0, 1) := by decide +kernel
theorem dX6_would_24 : decode cX6_would 24 = .ok (.aload_n 0, 1) := by decide +kernel
theorem dX6_would_25 : decode cX6_would 25 = .ok (.getfield 7, 3) := by decide +kernel
theorem dX6_would_28 : decode cX6_would 28 = .ok (.iconst 0, 1) := by decide +kernel
theorem dX6_would_29 : decode cX6_would 29 = .ok (.invokestatic 39, 3) := by decide +kernel
theorem dX6_would_32 : decode cX6_would 32 = .ok (.iload_n 2, 1) := by decide +kernel
theorem dX6_would_33 : decode cX6_would 33 = .ok (.ireturn, 1) := by decide +kernel
theorem dX6_wouldSolve_0 : decode cX6_wouldSolve 0 = .ok (.aload_n 0, 1) := by decide +kernel
theorem dX6_wouldSolve_1 : decode cX6_wouldSolve 1 = .ok (.iload_n 1, 1) := by decide +kernel
theorem dX6_wouldSolve_2 : decode cX6_wouldSolve 2 = .ok (.invokestatic 64, 3) := by decide +kernel
theorem dX6_wouldSolve_5 : decode cX6_wouldSolve 5 = .ok (.ifCond .eq 7, 3) := by decide +kernel
theorem dX6_wouldSolve_8 : decode cX6_wouldSolve 8 = .ok (.iconst 0, 1) := by decide +kernel
theorem dX6_wouldSolve_9 : decode cX6_wouldSolve 9 = .ok (.goto 4, 3) := by decide +kernel
theorem dX6_wouldSolve_12 : decode cX6_wouldSolve 12 = .ok (.iconst 1, 1) := by decide +kernel
theorem dX6_wouldSolve_13 : decode cX6_wouldSolve 13 = .ok (.putfield 32, 3) := by decide +kernel
theorem dX6_wouldSolve_16 : decode cX6_wouldSolve 16 = .ok (.aload_n 0, 1) := by decide +kernel
theorem dX6_wouldSolve_17 : decode cX6_wouldSolve 17 = .ok (.getfield 32, 3) := by decide +kernel
theorem dX6_wouldSolve_20 : decode cX6_wouldSolve 20 = .ok (.ifCond .le 7, 3) := by decide +kernel
theorem dX6_wouldSolve_23 : decode cX6_wouldSolve 23 = .ok (.iconst 0, 1) := by decide +kernel
theorem dX6_wouldSolve_24 : decode cX6_wouldSolve 24 = .ok (.goto 8, 3) := by decide +kernel
theorem dX6_wouldSolve_27 : decode cX6_wouldSolve 27 = .ok (.aload_n 0, 1) := by decide +kernel
theorem dX6_wouldSolve_28 : decode cX6_wouldSolve 28 = .ok (.iload_n 1, 1) := by decide +kernel
theorem dX6_wouldSolve_29 : decode cX6_wouldSolve 29 = .ok (.invokevirtual 125, 3) := by decide +kernel
theorem dX6_wouldSolve_32 : decode cX6_wouldSolve 32 = .ok (.ireturn, 1) := by decide +kernel
theorem dX6_cost_0 : decode cX6_cost 0 = .ok (.aload_n 0, 1) := by decide +kernel
theorem dX6_cost_1 : decode cX6_cost 1 = .ok (.getfield 7, 3) := by decide +kernel
theorem dX6_cost_4 : decode cX6_cost 4 = .ok (.iconst 0, 1) := by decide +kernel
theorem dX6_cost_5 : decode cX6_cost 5 = .ok (.aload_n 0, 1) := by decide +kernel
theorem dX6_cost_6 : decode cX6_cost 6 = .ok (.getfield 16, 3) := by decide +kernel
theorem dX6_cost_9 : decode cX6_cost 9 = .ok (.iconst 0, 1) := by decide +kernel
theorem dX6_cost_10 : decode cX6_cost 10 = .ok (.invokestatic 39, 3) := by decide +kernel
theorem dX6_cost_13 : decode cX6_cost 13 = .ok (.aload_n 0, 1) := by decide +kernel
theorem dX6_cost_14 : decode cX6_cost 14 = .ok (.iload_n 1, 1) := by decide +kernel
theorem dX6_cost_15 : decode cX6_cost 15 = .ok (.invokevirtual 81, 3) := by decide +kernel
theorem dX6_cost_18 : decode cX6_cost 18 = .ok (.pop, 1) := by decide +kernel
theorem dX6_cost_19 : decode cX6_cost 19 = .ok (.aload_n 0, 1) := by decide +kernel
theorem dX6_cost_20 : decode cX6_cost 20 = .ok (.getfield 7, 3) := by decide +kernel
theorem dX6_cost_23 : decode cX6_cost 23 = .ok (.iconst 2, 1) := by decide +kernel
theorem dX6_cost_24 : decode cX6_cost 24 = .ok (.iaload, 1) := by decide +kernel
theorem dX6_cost_25 : decode cX6_cost 25 = .ok (.istore_n 2, 1) := by decide +kernel
theorem dX6_cost_26 : decode cX6_cost 26 = .ok (.aload_n 0, 1) := by decide +kernel
theorem dX6_cost_27 : decode cX6_cost 27 = .ok (.getfield 16, 3) := by decide +kernel
theorem dX6_cost_30 : decode cX6_cost 30 = .ok (.iconst 0, 1) := by decide +kernel
theorem dX6_cost_31 : decode cX6_cost 31 = .ok (.aload_n 0, 1) := by decide +kernel
theorem dX6_cost_32 : decode cX6_cost 32 = .ok (.getfield 7, 3) := by decide +kernel
theorem dX6_cost_35 : decode cX6_cost 35 = .ok (.iconst 0, 1) := by decide +kernel
theorem dX6_cost_36 : decode cX6_cost 36 = .ok (.invokestatic 39, 3) := by decide +kernel
theorem dX6_cost_39 : decode cX6_cost 39 = .ok (.iload_n 2, 1) := by decide +kernel
theorem dX6_cost_40 : decode cX6_cost 40 = .ok (.aload_n 0, 1) := by decide +kernel
theorem dX6_cost_41 : decode cX6_cost 41 = .ok (.getfield 7, 3) := by decide +kernel
theorem dX6_cost_44 : decode cX6_cost 44 = .ok (.iconst 2, 1) := by decide +kernel
theorem dX6_cost_45 : decode cX6_cost 45 = .ok (.iaload, 1) := by decide +kernel
theorem dX6_cost_46 : decode cX6_cost 46 = .ok (.isub, 1) := by decide +kernel
theorem dX6_cost_47 : decode cX6_cost 47 = .ok (.ireturn, 1) := by decide +kernel
theorem dX6_costOf_0 : decode cX6_costOf 0 = .ok (.aload_n 0, 1) := by decide +kernel
theorem dX6_costOf_1 : decode cX6_costOf 1 = .ok (.iload_n 1, 1) := by decide +kernel
theorem dX6_costOf_2 : decode cX6_costOf 2 = .ok (.invokestatic 64, 3) := by decide +kernel
theorem dX6_costOf_5 : decode cX6_costOf 5 = .ok (.ifCond .eq 7, 3) := by decide +kernel
theorem dX6_costOf_8 : decode cX6_costOf 8 = .ok (.iconst 0, 1) := by decide +kernel
theorem dX6_costOf_9 : decode cX6_costOf 9 = .ok (.goto 4, 3) := by decide +kernel
theorem dX6_costOf_12 : decode cX6_costOf 12 = .ok (.iconst 1, 1) := by decide +kernel
theorem dX6_costOf_13 : decode cX6_costOf 13 = .ok (.putfield 32, 3) := by decide +kernel
theorem dX6_costOf_16 : decode cX6_costOf 16 = .ok (.aload_n 0, 1) := by decide +kernel
theorem dX6_costOf_17 : decode cX6_costOf 17 = .ok (.getfield 32, 3) := by decide +kernel
theorem dX6_costOf_20 : decode cX6_costOf 20 = .ok (.ifCond .le 7, 3) := by decide +kernel
theorem dX6_costOf_23 : decode cX6_costOf 23 = .ok (.iconst 0, 1) := by decide +kernel
theorem dX6_costOf_24 : decode cX6_costOf 24 = .ok (.goto 8, 3) := by decide +kernel
theorem dX6_costOf_27 : decode cX6_costOf 27 = .ok (.aload_n 0, 1) := by decide +kernel
theorem dX6_costOf_28 : decode cX6_costOf 28 = .ok (.iload_n 1, 1) := by decide +kernel
theorem dX6_costOf_29 : decode cX6_costOf 29 = .ok (.invokevirtual 128, 3) := by decide +kernel
theorem dX6_costOf_32 : decode cX6_costOf 32 = .ok (.ireturn, 1) := by decide +kernel
theorem dX6_ticksUntilTruth_0 : decode cX6_ticksUntilTruth 0 = .ok (.aload_n 0, 1) := by decide +kernel
theorem dX6_ticksUntilTruth_1 : decode cX6_ticksUntilTruth 1 = .ok (.iload_n 1, 1) := by decide +kernel
theorem dX6_ticksUntilTruth_2 : decode cX6_ticksUntilTruth 2 = .ok (.invokestatic 64, 3) := by decide +kernel
theorem dX6_ticksUntilTruth_5 : decode cX6_ticksUntilTruth 5 = .ok (.ifCond .eq 7, 3) := by decide +kernel
theorem dX6_ticksUntilTruth_8 : decode cX6_ticksUntilTruth 8 = .ok (.iconst 0, 1) := by decide +kernel
theorem dX6_ticksUntilTruth_9 : decode cX6_ticksUntilTruth 9 = .ok (.goto 4, 3) := by decide +kernel
theorem dX6_ticksUntilTruth_12 : decode cX6_ticksUntilTruth 12 = .ok (.iconst 1, 1) := by decide +kernel
theorem dX6_ticksUntilTruth_13 : decode cX6_ticksUntilTruth 13 = .ok (.putfield 32, 3) := by decide +kernel
theorem dX6_ticksUntilTruth_16 : decode cX6_ticksUntilTruth 16 = .ok (.aload_n 0, 1) := by decide +kernel
theorem dX6_ticksUntilTruth_17 : decode cX6_ticksUntilTruth 17 = .ok (.getfield 32, 3) := by decide +kernel
theorem dX6_ticksUntilTruth_20 : decode cX6_ticksUntilTruth 20 = .ok (.ifCond .le 5, 3) := by decide +kernel
theorem dX6_ticksUntilTruth_23 : decode cX6_ticksUntilTruth 23 = .ok (.iconst 0, 1) := by decide +kernel
theorem dX6_ticksUntilTruth_24 : decode cX6_ticksUntilTruth 24 = .ok (.ireturn, 1) := by decide +kernel
theorem dX6_ticksUntilTruth_25 : decode cX6_ticksUntilTruth 25 = .ok (.aload_n 0, 1) := by decide +kernel
theorem dX6_ticksUntilTruth_26 : decode cX6_ticksUntilTruth 26 = .ok (.iload_n 1, 1) := by decide +kernel
theorem dX6_ticksUntilTruth_27 : decode cX6_ticksUntilTruth 27 = .ok (.invokevirtual 106, 3) := by decide +kernel
theorem dX6_ticksUntilTruth_30 : decode cX6_ticksUntilTruth 30 = .ok (.istore_n 2, 1) := by decide +kernel
theorem dX6_ticksUntilTruth_31 : decode cX6_ticksUntilTruth 31 = .ok (.iconst 0, 1) := by decide +kernel
theorem dX6_ticksUntilTruth_32 : decode cX6_ticksUntilTruth 32 = .ok (.istore_n 3, 1) := by decide +kernel
theorem dX6_ticksUntilTruth_33 : decode cX6_ticksUntilTruth 33 = .ok (.aload_n 0, 1) := by decide +kernel
theorem dX6_ticksUntilTruth_34 : decode cX6_ticksUntilTruth 34 = .ok (.iload_n 1, 1) := by decide +kernel
theorem dX6_ticksUntilTruth_35 : decode cX6_ticksUntilTruth 35 = .ok (.iload_n 3, 1) := by decide +kernel
theorem dX6_ticksUntilTruth_36 : decode cX6_ticksUntilTruth 36 = .ok (.invokevirtual 131, 3) := by decide +kernel
theorem dX6_ticksUntilTruth_39 : decode cX6_ticksUntilTruth 39 = .ok (.iload_n 2, 1) := by decide +kernel
theorem dX6_ticksUntilTruth_40 : decode cX6_ticksUntilTruth 40 = .ok (.if_icmp .eq 9, 3) := by decide +kernel
theorem dX6_ticksUntilTruth_43 : decode cX6_ticksUntilTruth 43 = .ok (.iinc 3 1, 3) := by decide +kernel
theorem dX6_ticksUntilTruth_46 : decode cX6_ticksUntilTruth 46 = .ok (.goto (-13), 3) := by decide +kernel
theorem dX6_ticksUntilTruth_49 : decode cX6_ticksUntilTruth 49 = .ok (.iload_n 3, 1) := by decide +kernel
theorem dX6_ticksUntilTruth_50 : decode cX6_ticksUntilTruth 50 = .ok (.ireturn, 1) := by decide +kernel
theorem dX6_wouldIn_0 : decode cX6_wouldIn 0 = .ok (.aload_n 0, 1) := by decide +kernel
theorem dX6_wouldIn_1 : decode cX6_wouldIn 1 = .ok (.getfield 7, 3) := by decide +kernel
theorem dX6_wouldIn_4 : decode cX6_wouldIn 4 = .ok (.iconst 0, 1) := by decide +kernel
theorem dX6_wouldIn_5 : decode cX6_wouldIn 5 = .ok (.aload_n 0, 1) := by decide +kernel
theorem dX6_wouldIn_6 : decode cX6_wouldIn 6 = .ok (.getfield 16, 3) := by decide +kernel
theorem dX6_wouldIn_9 : decode cX6_wouldIn 9 = .ok (.iconst 0, 1) := by decide +kernel
theorem dX6_wouldIn_10 : decode cX6_wouldIn 10 = .ok (.invokestatic 39, 3) := by decide +kernel
theorem dX6_wouldIn_13 : decode cX6_wouldIn 13 = .ok (.aload_n 0, 1) := by decide +kernel
theorem dX6_wouldIn_14 : decode cX6_wouldIn 14 = .ok (.iload_n 2, 1) := by decide +kernel
theorem dX6_wouldIn_15 : decode cX6_wouldIn 15 = .ok (.invokevirtual 91, 3) := by decide +kernel
theorem dX6_wouldIn_18 : decode cX6_wouldIn 18 = .ok (.pop, 1) := by decide +kernel
theorem dX6_wouldIn_19 : decode cX6_wouldIn 19 = .ok (.aload_n 0, 1) := by decide +kernel
theorem dX6_wouldIn_20 : decode cX6_wouldIn 20 = .ok (.iload_n 1, 1) := by decide +kernel
theorem dX6_wouldIn_21 : decode cX6_wouldIn 21 = .ok (.invokevirtual 81, 3) := by decide +kernel
theorem dX6_wouldIn_24 : decode cX6_wouldIn 24 = .ok (.istore_n 3, 1) := by decide +kernel
theorem dX6_wouldIn_25 : decode cX6_wouldIn 25 = .ok (.aload_n 0, 1) := by decide +kernel
theorem dX6_wouldIn_26 : decode cX6_wouldIn 26 = .ok (.getfield 16, 3) := by decide +kernel
theorem dX6_wouldIn_29 : decode cX6_wouldIn 29 = .ok (.iconst 0, 1) := by decide +kernel
theorem dX6_wouldIn_30 : decode cX6_wouldIn 30 = .ok (.aload_n 0, 1) := by decide +kernel
theorem dX6_wouldIn_31 : decode cX6_wouldIn 31 = .ok (.getfield 7, 3) := by decide +kernel
theorem dX6_wouldIn_34 : decode cX6_wouldIn 34 = .ok (.iconst 0, 1) := by decide +kernel
theorem dX6_wouldIn_35 : decode cX6_wouldIn 35 = .ok (.invokestatic 39, 3) := by decide +kernel
theorem dX6_wouldIn_38 : decode cX6_wouldIn 38 = .ok (.iload_n 3, 1) := by decide +kernel
theorem dX6_wouldIn_39 : decode cX6_wouldIn 39 = .ok (.ireturn, 1) := by decide +kernel
theorem dX6_append_0 : decode cX6_append 0 = .ok (.aload_n 0, 1) := by decide +kernel
theorem dX6_append_1 : decode cX6_append 1 = .ok (.iload_n 1, 1) := by decide +kernel
theorem dX6_append_2 : decode cX6_append 2 = .ok (.bipush 33, 2) := by decide +kernel
theorem dX6_append_4 : decode cX6_append 4 = .ok (.bipush 126, 2) := by decide +kernel
theorem dX6_append_6 : decode cX6_append 6 = .ok (.invokestatic 43, 3) := by decide +kernel
theorem dX6_append_9 : decode cX6_append 9 = .ok (.ifCond .ne 7, 3) := by decide +kernel
theorem dX6_append_12 : decode cX6_append 12 = .ok (.iconst 1, 1) := by decide +kernel
theorem dX6_append_13 : decode cX6_append 13 = .ok (.goto 17, 3) := by decide +kernel
theorem dX6_append_16 : decode cX6_append 16 = .ok (.aload_n 0, 1) := by decide +kernel
theorem dX6_append_17 : decode cX6_append 17 = .ok (.getfield 134, 3) := by decide +kernel
theorem dX6_append_20 : decode cX6_append 20 = .ok (.bipush 60, 2) := by decide +kernel
theorem dX6_append_22 : decode cX6_append 22 = .ok (.if_icmp .ne 7, 3) := by decide +kernel
theorem dX6_append_25 : decode cX6_append 25 = .ok (.iconst 2, 1) := by decide +kernel
theorem dX6_append_26 : decode cX6_append 26 = .ok (.goto 4, 3) := by decide +kernel
theorem dX6_append_29 : decode cX6_append 29 = .ok (.iconst 0, 1) := by decide +kernel
theorem dX6_append_30 : decode cX6_append 30 = .ok (.putfield 32, 3) := by decide +kernel
theorem dX6_append_33 : decode cX6_append 33 = .ok (.aload_n 0, 1) := by decide +kernel
theorem dX6_append_34 : decode cX6_append 34 = .ok (.getfield 32, 3) := by decide +kernel
theorem dX6_append_37 : decode cX6_append 37 = .ok (.ifCond .le 5, 3) := by decide +kernel
theorem dX6_append_40 : decode cX6_append 40 = .ok (.iconst 0, 1) := by decide +kernel
theorem dX6_append_41 : decode cX6_append 41 = .ok (.ireturn, 1) := by decide +kernel
theorem dX6_append_42 : decode cX6_append 42 = .ok (.aload_n 0, 1) := by decide +kernel
theorem dX6_append_43 : decode cX6_append 43 = .ok (.getfield 19, 3) := by decide +kernel
theorem dX6_append_46 : decode cX6_append 46 = .ok (.aload_n 0, 1) := by decide +kernel
theorem dX6_append_47 : decode cX6_append 47 = .ok (.getfield 134, 3) := by decide +kernel
theorem dX6_append_50 : decode cX6_append 50 = .ok (.iload_n 1, 1) := by decide +kernel
theorem dX6_append_51 : decode cX6_append 51 = .ok (.iastore, 1) := by decide +kernel
theorem dX6_append_52 : decode cX6_append 52 = .ok (.aload_n 0, 1) := by decide +kernel
theorem dX6_append_53 : decode cX6_append 53 = .ok (.dup, 1) := by decide +kernel
theorem dX6_append_54 : decode cX6_append 54 = .ok (.getfield 134, 3) := by decide +kernel
theorem dX6_append_57 : decode cX6_append 57 = .ok (.iconst 1, 1) := by decide +kernel
theorem dX6_append_58 : decode cX6_append 58 = .ok (.iadd, 1) := by decide +kernel
theorem dX6_append_59 : decode cX6_append 59 = .ok (.putfield 134, 3) := by decide +kernel
theorem dX6_append_62 : decode cX6_append 62 = .ok (.aload_n 0, 1) := by decide +kernel
theorem dX6_append_63 : decode cX6_append 63 = .ok (.getfield 134, 3) := by decide +kernel
theorem dX6_append_66 : decode cX6_append 66 = .ok (.ireturn, 1) := by decide +kernel
theorem dX6_clearText_0 : decode cX6_clearText 0 = .ok (.aload_n 0, 1) := by decide +kernel
theorem dX6_clearText_1 : decode cX6_clearText 1 = .ok (.iconst 0, 1) := by decide +kernel
theorem dX6_clearText_2 : decode cX6_clearText 2 = .ok (.putfield 32, 3) := by decide +kernel
theorem dX6_clearText_5 : decode cX6_clearText 5 = .ok (.aload_n 0, 1) := by decide +kernel
theorem dX6_clearText_6 : decode cX6_clearText 6 = .ok (.getfield 134, 3) := by decide +kernel
theorem dX6_clearText_9 : decode cX6_clearText 9 = .ok (.istore_n 1, 1) := by decide +kernel
theorem dX6_clearText_10 : decode cX6_clearText 10 = .ok (.aload_n 0, 1) := by decide +kernel
theorem dX6_clearText_11 : decode cX6_clearText 11 = .ok (.iconst 0, 1) := by decide +kernel
theorem dX6_clearText_12 : decode cX6_clearText 12 = .ok (.putfield 134, 3) := by decide +kernel
theorem dX6_clearText_15 : decode cX6_clearText 15 = .ok (.iload_n 1, 1) := by decide +kernel
theorem dX6_clearText_16 : decode cX6_clearText 16 = .ok (.ireturn, 1) := by decide +kernel
theorem dX6_accepts_0 : decode cX6_accepts 0 = .ok (.aload_n 0, 1) := by decide +kernel
theorem dX6_accepts_1 : decode cX6_accepts 1 = .ok (.getfield 137, 3) := by decide +kernel
theorem dX6_accepts_4 : decode cX6_accepts 4 = .ok (.aload_n 0, 1) := by decide +kernel
theorem dX6_accepts_5 : decode cX6_accepts 5 = .ok (.getfield 134, 3) := by decide +kernel
theorem dX6_accepts_8 : decode cX6_accepts 8 = .ok (.if_icmp .ge 24, 3) := by decide +kernel
theorem dX6_accepts_11 : decode cX6_accepts 11 = .ok (.aload_n 0, 1) := by decide +kernel
theorem dX6_accepts_12 : decode cX6_accepts 12 = .ok (.getfield 19, 3) := by decide +kernel
theorem dX6_accepts_15 : decode cX6_accepts 15 = .ok (.aload_n 0, 1) := by decide +kernel
theorem dX6_accepts_16 : decode cX6_accepts 16 = .ok (.getfield 137, 3) := by decide +kernel
theorem dX6_accepts_19 : decode cX6_accepts 19 = .ok (.iaload, 1) := by decide +kernel
theorem dX6_accepts_20 : decode cX6_accepts 20 = .ok (.iload_n 1, 1) := by decide +kernel
theorem dX6_accepts_21 : decode cX6_accepts 21 = .ok (.iload_n 2, 1) := by decide +kernel
theorem dX6_accepts_22 : decode cX6_accepts 22 = .ok (.invokestatic 43, 3) := by decide +kernel
theorem dX6_accepts_25 : decode cX6_accepts 25 = .ok (.ifCond .eq 7, 3) := by decide +kernel
theorem dX6_accepts_28 : decode cX6_accepts 28 = .ok (.iconst 1, 1) := by decide +kernel
theorem dX6_accepts_29 : decode cX6_accepts 29 = .ok (.goto 4, 3) := by decide +kernel
theorem dX6_accepts_32 : decode cX6_accepts 32 = .ok (.iconst 0, 1) := by decide +kernel
theorem dX6_accepts_33 : decode cX6_accepts 33 = .ok (.istore_n 3, 1) := by decide +kernel
theorem dX6_accepts_34 : decode cX6_accepts 34 = .ok (.aload_n 0, 1) := by decide +kernel
theorem dX6_accepts_35 : decode cX6_accepts 35 = .ok (.dup, 1) := by decide +kernel
theorem dX6_accepts_36 : decode cX6_accepts 36 = .ok (.getfield 137, 3) := by decide +kernel
theorem dX6_accepts_39 : decode cX6_accepts 39 = .ok (.iload_n 3, 1) := by decide +kernel
theorem dX6_accepts_40 : decode cX6_accepts 40 = .ok (.ifCond .eq 7, 3) := by decide +kernel
theorem dX6_accepts_43 : decode cX6_accepts 43 = .ok (.iconst 1, 1) := by decide +kernel
theorem dX6_accepts_44 : decode cX6_accepts 44 = .ok (.goto 4, 3) := by decide +kernel
theorem dX6_accepts_47 : decode cX6_accepts 47 = .ok (.iconst 0, 1) := by decide +kernel
theorem dX6_accepts_48 : decode cX6_accepts 48 = .ok (.iadd, 1) := by decide +kernel
theorem dX6_accepts_49 : decode cX6_accepts 49 = .ok (.putfield 137, 3) := by decide +kernel
theorem dX6_accepts_52 : decode cX6_accepts 52 = .ok (.iload_n 3, 1) := by decide +kernel
theorem dX6_accepts_53 : decode cX6_accepts 53 = .ok (.ireturn, 1) := by decide +kernel
theorem dX6_readsNumber_0 : decode cX6_readsNumber 0 = .ok (.aload_n 0, 1) := by decide +kernel
theorem dX6_readsNumber_1 : decode cX6_readsNumber 1 = .ok (.iload_n 1, 1) := by decide +kernel
theorem dX6_readsNumber_2 : decode cX6_readsNumber 2 = .ok (.ifCond .ne 8, 3) := by decide +kernel
theorem dX6_readsNumber_5 : decode cX6_readsNumber 5 = .ok (.bipush 48, 2) := by decide +kernel
theorem dX6_readsNumber_7 : decode cX6_readsNumber 7 = .ok (.goto 5, 3) := by decide +kernel
theorem dX6_readsNumber_10 : decode cX6_readsNumber 10 = .ok (.bipush 49, 2) := by decide +kernel
theorem dX6_readsNumber_12 : decode cX6_readsNumber 12 = .ok (.bipush 57, 2) := by decide +kernel
theorem dX6_readsNumber_14 : decode cX6_readsNumber 14 = .ok (.invokevirtual 140, 3) := by decide +kernel
theorem dX6_readsNumber_17 : decode cX6_readsNumber 17 = .ok (.ifCond .ne 5, 3) := by decide +kernel
theorem dX6_readsNumber_20 : decode cX6_readsNumber 20 = .ok (.iconst 0, 1) := by decide +kernel
theorem dX6_readsNumber_21 : decode cX6_readsNumber 21 = .ok (.ireturn, 1) := by decide +kernel
theorem dX6_readsNumber_22 : decode cX6_readsNumber 22 = .ok (.aload_n 0, 1) := by decide +kernel
theorem dX6_readsNumber_23 : decode cX6_readsNumber 23 = .ok (.aload_n 0, 1) := by decide +kernel
theorem dX6_readsNumber_24 : decode cX6_readsNumber 24 = .ok (.getfield 19, 3) := by decide +kernel
theorem dX6_readsNumber_27 : decode cX6_readsNumber 27 = .ok (.aload_n 0, 1) := by decide +kernel
theorem dX6_readsNumber_28 : decode cX6_readsNumber 28 = .ok (.getfield 137, 3) := by decide +kernel
theorem dX6_readsNumber_31 : decode cX6_readsNumber 31 = .ok (.iconst 1, 1) := by decide +kernel
theorem dX6_readsNumber_32 : decode cX6_readsNumber 32 = .ok (.isub, 1) := by decide +kernel
theorem dX6_readsNumber_33 : decode cX6_readsNumber 33 = .ok (.iaload, 1) := by decide +kernel
theorem dX6_readsNumber_34 : decode cX6_readsNumber 34 = .ok (.bipush 48, 2) := by decide +kernel
theorem dX6_readsNumber_36 : decode cX6_readsNumber 36 = .ok (.isub, 1) := by decide +kernel
theorem dX6_readsNumber_37 : decode cX6_readsNumber 37 = .ok (.putfield 144, 3) := by decide +kernel
theorem dX6_readsNumber_40 : decode cX6_readsNumber 40 = .ok (.aload_n 0, 1) := by decide +kernel
theorem dX6_readsNumber_41 : decode cX6_readsNumber 41 = .ok (.getfield 144, 3) := by decide +kernel
theorem dX6_readsNumber_44 : decode cX6_readsNumber 44 = .ok (.ifCond .le 94, 3) := by decide +kernel
theorem dX6_readsNumber_47 : decode cX6_readsNumber 47 = .ok (.aload_n 0, 1) := by decide +kernel
theorem dX6_readsNumber_48 : decode cX6_readsNumber 48 = .ok (.getfield 137, 3) := by decide +kernel
theorem dX6_readsNumber_51 : decode cX6_readsNumber 51 = .ok (.aload_n 0, 1) := by decide +kernel
theorem dX6_readsNumber_52 : decode cX6_readsNumber 52 = .ok (.getfield 134, 3) := by decide +kernel
theorem dX6_readsNumber_55 : decode cX6_readsNumber 55 = .ok (.if_icmp .ge 83, 3) := by decide +kernel
theorem dX6_readsNumber_58 : decode cX6_readsNumber 58 = .ok (.aload_n 0, 1) := by decide +kernel
theorem dX6_readsNumber_59 : decode cX6_readsNumber 59 = .ok (.getfield 19, 3) := by decide +kernel
theorem dX6_readsNumber_62 : decode cX6_readsNumber 62 = .ok (.aload_n 0, 1) := by decide +kernel
theorem dX6_readsNumber_63 : decode cX6_readsNumber 63 = .ok (.getfield 137, 3) := by decide +kernel
theorem dX6_readsNumber_66 : decode cX6_readsNumber 66 = .ok (.iaload, 1) := by decide +kernel
theorem dX6_readsNumber_67 : decode cX6_readsNumber 67 = .ok (.bipush 48, 2) := by decide +kernel
theorem dX6_readsNumber_69 : decode cX6_readsNumber 69 = .ok (.bipush 57, 2) := by decide +kernel
theorem dX6_readsNumber_71 : decode cX6_readsNumber 71 = .ok (.invokestatic 43, 3) := by decide +kernel
theorem dX6_readsNumber_74 : decode cX6_readsNumber 74 = .ok (.ifCond .eq 64, 3) := by decide +kernel
theorem dX6_readsNumber_77 : decode cX6_readsNumber 77 = .ok (.bipush 10, 2) := by decide +kernel
theorem dX6_readsNumber_79 : decode cX6_readsNumber 79 = .ok (.aload_n 0, 1) := by decide +kernel
theorem dX6_readsNumber_80 : decode cX6_readsNumber 80 = .ok (.getfield 144, 3) := by decide +kernel
theorem dX6_readsNumber_83 : decode cX6_readsNumber 83 = .ok (.imul, 1) := by decide +kernel
theorem dX6_readsNumber_84 : decode cX6_readsNumber 84 = .ok (.aload_n 0, 1) := by decide +kernel
theorem dX6_readsNumber_85 : decode cX6_readsNumber 85 = .ok (.getfield 19, 3) := by decide +kernel
theorem dX6_readsNumber_88 : decode cX6_readsNumber 88 = .ok (.aload_n 0, 1) := by decide +kernel
theorem dX6_readsNumber_89 : decode cX6_readsNumber 89 = .ok (.getfield 137, 3) := by decide +kernel
theorem dX6_readsNumber_92 : decode cX6_readsNumber 92 = .ok (.iaload, 1) := by decide +kernel
theorem dX6_readsNumber_93 : decode cX6_readsNumber 93 = .ok (.iadd, 1) := by decide +kernel
theorem dX6_readsNumber_94 : decode cX6_readsNumber 94 = .ok (.bipush 48, 2) := by decide +kernel
theorem dX6_readsNumber_96 : decode cX6_readsNumber 96 = .ok (.isub, 1) := by decide +kernel
theorem dX6_readsNumber_97 : decode cX6_readsNumber 97 = .ok (.iload_n 2, 1) := by decide +kernel
theorem dX6_readsNumber_98 : decode cX6_readsNumber 98 = .ok (.if_icmp .gt 40, 3) := by decide +kernel
theorem dX6_readsNumber_101 : decode cX6_readsNumber 101 = .ok (.aload_n 0, 1) := by decide +kernel
theorem dX6_readsNumber_102 : decode cX6_readsNumber 102 = .ok (.bipush 10, 2) := by decide +kernel
theorem dX6_readsNumber_104 : decode cX6_readsNumber 104 = .ok (.aload_n 0, 1) := by decide +kernel
theorem dX6_readsNumber_105 : decode cX6_readsNumber 105 = .ok (.getfield 144, 3) := by decide +kernel
theorem dX6_readsNumber_108 : decode cX6_readsNumber 108 = .ok (.imul, 1) := by decide +kernel
theorem dX6_readsNumber_109 : decode cX6_readsNumber 109 = .ok (.aload_n 0, 1) := by decide +kernel
theorem dX6_readsNumber_110 : decode cX6_readsNumber 110 = .ok (.getfield 19, 3) := by decide +kernel
theorem dX6_readsNumber_113 : decode cX6_readsNumber 113 = .ok (.aload_n 0, 1) := by decide +kernel
theorem dX6_readsNumber_114 : decode cX6_readsNumber 114 = .ok (.getfield 137, 3) := by decide +kernel
theorem dX6_readsNumber_117 : decode cX6_readsNumber 117 = .ok (.iaload, 1) := by decide +kernel
theorem dX6_readsNumber_118 : decode cX6_readsNumber 118 = .ok (.iadd, 1) := by decide +kernel
theorem dX6_readsNumber_119 : decode cX6_readsNumber 119 = .ok (.bipush 48, 2) := by decide +kernel
theorem dX6_readsNumber_121 : decode cX6_readsNumber 121 = .ok (.isub, 1) := by decide +kernel
theorem dX6_readsNumber_122 : decode cX6_readsNumber 122 = .ok (.putfield 144, 3) := by decide +kernel
theorem dX6_readsNumber_125 : decode cX6_readsNumber 125 = .ok (.aload_n 0, 1) := by decide +kernel
theorem dX6_readsNumber_126 : decode cX6_readsNumber 126 = .ok (.dup, 1) := by decide +kernel
theorem dX6_readsNumber_127 : decode cX6_readsNumber 127 = .ok (.getfield 137, 3) := by decide +kernel
theorem dX6_readsNumber_130 : decode cX6_readsNumber 130 = .ok (.iconst 1, 1) := by decide +kernel
theorem dX6_readsNumber_131 : decode cX6_readsNumber 131 = .ok (.iadd, 1) := by decide +kernel
theorem dX6_readsNumber_132 : decode cX6_readsNumber 132 = .ok (.putfield 137, 3) := by decide +kernel
theorem dX6_readsNumber_135 : decode cX6_readsNumber 135 = .ok (.goto (-95), 3) := by decide +kernel
theorem dX6_readsNumber_138 : decode cX6_readsNumber 138 = .ok (.iconst 1, 1) := by decide +kernel
theorem dX6_readsNumber_139 : decode cX6_readsNumber 139 = .ok (.ireturn, 1) := by decide +kernel
theorem dX6_readsAct_0 : decode cX6_readsAct 0 = .ok (.aload_n 0, 1) := by decide +kernel
theorem dX6_readsAct_1 : decode cX6_readsAct 1 = .ok (.aload_n 0, 1) := by decide +kernel
theorem dX6_readsAct_2 : decode cX6_readsAct 2 = .ok (.getfield 137, 3) := by decide +kernel
theorem dX6_readsAct_5 : decode cX6_readsAct 5 = .ok (.aload_n 0, 1) := by decide +kernel
theorem dX6_readsAct_6 : decode cX6_readsAct 6 = .ok (.getfield 134, 3) := by decide +kernel
theorem dX6_readsAct_9 : decode cX6_readsAct 9 = .ok (.if_icmp .ge 15, 3) := by decide +kernel
theorem dX6_readsAct_12 : decode cX6_readsAct 12 = .ok (.aload_n 0, 1) := by decide +kernel
theorem dX6_readsAct_13 : decode cX6_readsAct 13 = .ok (.getfield 19, 3) := by decide +kernel
theorem dX6_readsAct_16 : decode cX6_readsAct 16 = .ok (.aload_n 0, 1) := by decide +kernel
theorem dX6_readsAct_17 : decode cX6_readsAct 17 = .ok (.getfield 137, 3) := by decide +kernel
theorem dX6_readsAct_20 : decode cX6_readsAct 20 = .ok (.iaload, 1) := by decide +kernel
theorem dX6_readsAct_21 : decode cX6_readsAct 21 = .ok (.goto 4, 3) := by decide +kernel
theorem dX6_readsAct_24 : decode cX6_readsAct 24 = .ok (.iconst (-1), 1) := by decide +kernel
theorem dX6_readsAct_25 : decode cX6_readsAct 25 = .ok (.putfield 147, 3) := by decide +kernel
theorem dX6_readsAct_28 : decode cX6_readsAct 28 = .ok (.aload_n 0, 1) := by decide +kernel
theorem dX6_readsAct_29 : decode cX6_readsAct 29 = .ok (.bipush 43, 2) := by decide +kernel
theorem dX6_readsAct_31 : decode cX6_readsAct 31 = .ok (.bipush 43, 2) := by decide +kernel
theorem dX6_readsAct_33 : decode cX6_readsAct 33 = .ok (.invokevirtual 140, 3) := by decide +kernel
theorem dX6_readsAct_36 : decode cX6_readsAct 36 = .ok (.ifCond .eq 11, 3) := by decide +kernel
theorem dX6_readsAct_39 : decode cX6_readsAct 39 = .ok (.aload_n 0, 1) := by decide +kernel
theorem dX6_readsAct_40 : decode cX6_readsAct 40 = .ok (.iconst 1, 1) := by decide +kernel
theorem dX6_readsAct_41 : decode cX6_readsAct 41 = .ok (.bipush 99, 2) := by decide +kernel
theorem dX6_readsAct_43 : decode cX6_readsAct 43 = .ok (.invokevirtual 150, 3) := by decide +kernel
theorem dX6_readsAct_46 : decode cX6_readsAct 46 = .ok (.ireturn, 1) := by decide +kernel
theorem dX6_readsAct_47 : decode cX6_readsAct 47 = .ok (.aload_n 0, 1) := by decide +kernel
theorem dX6_readsAct_48 : decode cX6_readsAct 48 = .ok (.bipush 63, 2) := by decide +kernel
theorem dX6_readsAct_50 : decode cX6_readsAct 50 = .ok (.bipush 63, 2) := by decide +kernel
theorem dX6_readsAct_52 : decode cX6_readsAct 52 = .ok (.invokevirtual 140, 3) := by decide +kernel
theorem dX6_readsAct_55 : decode cX6_readsAct 55 = .ok (.ifCond .eq 17, 3) := by decide +kernel
theorem dX6_readsAct_58 : decode cX6_readsAct 58 = .ok (.aload_n 0, 1) := by decide +kernel
theorem dX6_readsAct_59 : decode cX6_readsAct 59 = .ok (.iconst 0, 1) := by decide +kernel
theorem dX6_readsAct_60 : decode cX6_readsAct 60 = .ok (.bipush 35, 2) := by decide +kernel
theorem dX6_readsAct_62 : decode cX6_readsAct 62 = .ok (.invokevirtual 150, 3) := by decide +kernel
theorem dX6_readsAct_65 : decode cX6_readsAct 65 = .ok (.ifCond .eq 7, 3) := by decide +kernel
theorem dX6_readsAct_68 : decode cX6_readsAct 68 = .ok (.iconst 1, 1) := by decide +kernel
theorem dX6_readsAct_69 : decode cX6_readsAct 69 = .ok (.goto 4, 3) := by decide +kernel
theorem dX6_readsAct_72 : decode cX6_readsAct 72 = .ok (.iconst 0, 1) := by decide +kernel
theorem dX6_readsAct_73 : decode cX6_readsAct 73 = .ok (.ireturn, 1) := by decide +kernel
theorem dX6_findError_0 : decode cX6_findError 0 = .ok (.aload_n 0, 1) := by decide +kernel
theorem dX6_findError_1 : decode cX6_findError 1 = .ok (.iconst 0, 1) := by decide +kernel
theorem dX6_findError_2 : decode cX6_findError 2 = .ok (.putfield 137, 3) := by decide +kernel
theorem dX6_findError_5 : decode cX6_findError 5 = .ok (.aload_n 0, 1) := by decide +kernel
theorem dX6_findError_6 : decode cX6_findError 6 = .ok (.invokevirtual 153, 3) := by decide +kernel
theorem dX6_findError_9 : decode cX6_findError 9 = .ok (.ifCond .ne 8, 3) := by decide +kernel
theorem dX6_findError_12 : decode cX6_findError 12 = .ok (.aload_n 0, 1) := by decide +kernel
theorem dX6_findError_13 : decode cX6_findError 13 = .ok (.getfield 137, 3) := by decide +kernel
theorem dX6_findError_16 : decode cX6_findError 16 = .ok (.ireturn, 1) := by decide +kernel
theorem dX6_findError_17 : decode cX6_findError 17 = .ok (.aload_n 0, 1) := by decide +kernel
theorem dX6_findError_18 : decode cX6_findError 18 = .ok (.getfield 137, 3) := by decide +kernel
theorem dX6_findError_21 : decode cX6_findError 21 = .ok (.aload_n 0, 1) := by decide +kernel
theorem dX6_findError_22 : decode cX6_findError 22 = .ok (.getfield 134, 3) := by decide +kernel
theorem dX6_findError_25 : decode cX6_findError 25 = .ok (.if_icmp .ne 5, 3) := by decide +kernel
theorem dX6_findError_28 : decode cX6_findError 28 = .ok (.iconst (-1), 1) := by decide +kernel
theorem dX6_findError_29 : decode cX6_findError 29 = .ok (.ireturn, 1) := by decide +kernel
theorem dX6_findError_30 : decode cX6_findError 30 = .ok (.aload_n 0, 1) := by decide +kernel
theorem dX6_findError_31 : decode cX6_findError 31 = .ok (.getfield 19, 3) := by decide +kernel
theorem dX6_findError_34 : decode cX6_findError 34 = .ok (.aload_n 0, 1) := by decide +kernel
theorem dX6_findError_35 : decode cX6_findError 35 = .ok (.getfield 137, 3) := by decide +kernel
theorem dX6_findError_38 : decode cX6_findError 38 = .ok (.iaload, 1) := by decide +kernel
theorem dX6_findError_39 : decode cX6_findError 39 = .ok (.bipush 44, 2) := by decide +kernel
theorem dX6_findError_41 : decode cX6_findError 41 = .ok (.if_icmp .eq 8, 3) := by decide +kernel
theorem dX6_findError_44 : decode cX6_findError 44 = .ok (.aload_n 0, 1) := by decide +kernel
theorem dX6_findError_45 : decode cX6_findError 45 = .ok (.getfield 137, 3) := by decide +kernel
theorem dX6_findError_48 : decode cX6_findError 48 = .ok (.ireturn, 1) := by decide +kernel
theorem dX6_findError_49 : decode cX6_findError 49 = .ok (.aload_n 0, 1) := by decide +kernel
theorem dX6_findError_50 : decode cX6_findError 50 = .ok (.dup, 1) := by decide +kernel
theorem dX6_findError_51 : decode cX6_findError 51 = .ok (.getfield 137, 3) := by decide +kernel
theorem dX6_findError_54 : decode cX6_findError 54 = .ok (.iconst 1, 1) := by decide +kernel
theorem dX6_findError_55 : decode cX6_findError 55 = .ok (.iadd, 1) := by decide +kernel
theorem dX6_findError_56 : decode cX6_findError 56 = .ok (.putfield 137, 3) := by decide +kernel
theorem dX6_findError_59 : decode cX6_findError 59 = .ok (.goto (-54), 3) := by decide +kernel
theorem dX6_firstError_0 : decode cX6_firstError 0 = .ok (.aload_n 0, 1) := by decide +kernel
theorem dX6_firstError_1 : decode cX6_firstError 1 = .ok (.iconst 0, 1) := by decide +kernel
theorem dX6_firstError_2 : decode cX6_firstError 2 = .ok (.putfield 32, 3) := by decide +kernel
theorem dX6_firstError_5 : decode cX6_firstError 5 = .ok (.aload_n 0, 1) := by decide +kernel
theorem dX6_firstError_6 : decode cX6_firstError 6 = .ok (.invokevirtual 157, 3) := by decide +kernel
theorem dX6_firstError_9 : decode cX6_firstError 9 = .ok (.ireturn, 1) := by decide +kernel
theorem dX6_happens_0 : decode cX6_happens 0 = .ok (.aload_n 0, 1) := by decide +kernel
theorem dX6_happens_1 : decode cX6_happens 1 = .ok (.getfield 147, 3) := by decide +kernel
theorem dX6_happens_4 : decode cX6_happens 4 = .ok (.bipush 63, 2) := by decide +kernel
theorem dX6_happens_6 : decode cX6_happens 6 = .ok (.if_icmp .ne 14, 3) := by decide +kernel
theorem dX6_happens_9 : decode cX6_happens 9 = .ok (.aload_n 0, 1) := by decide +kernel
theorem dX6_happens_10 : decode cX6_happens 10 = .ok (.aload_n 0, 1) := by decide +kernel
theorem dX6_happens_11 : decode cX6_happens 11 = .ok (.getfield 144, 3) := by decide +kernel
theorem dX6_happens_14 : decode cX6_happens 14 = .ok (.invokevirtual 85, 3) := by decide +kernel
theorem dX6_happens_17 : decode cX6_happens 17 = .ok (.pop, 1) := by decide +kernel
theorem dX6_happens_18 : decode cX6_happens 18 = .ok (.iconst 1, 1) := by decide +kernel
theorem dX6_happens_19 : decode cX6_happens 19 = .ok (.ireturn, 1) := by decide +kernel
theorem dX6_happens_20 : decode cX6_happens 20 = .ok (.aload_n 0, 1) := by decide +kernel
theorem dX6_happens_21 : decode cX6_happens 21 = .ok (.getfield 7, 3) := by decide +kernel
theorem dX6_happens_24 : decode cX6_happens 24 = .ok (.iconst 0, 1) := by decide +kernel
theorem dX6_happens_25 : decode cX6_happens 25 = .ok (.iaload, 1) := by decide +kernel
theorem dX6_happens_26 : decode cX6_happens 26 = .ok (.aload_n 0, 1) := by decide +kernel
theorem dX6_happens_27 : decode cX6_happens 27 = .ok (.getfield 144, 3) := by decide +kernel
theorem dX6_happens_30 : decode cX6_happens 30 = .ok (.iadd, 1) := by decide +kernel
theorem dX6_happens_31 : decode cX6_happens 31 = .ok (.sipush 9999, 3) := by decide +kernel
theorem dX6_happens_34 : decode cX6_happens 34 = .ok (.if_icmp .gt 7, 3) := by decide +kernel
theorem dX6_happens_37 : decode cX6_happens 37 = .ok (.iconst 1, 1) := by decide +kernel
theorem dX6_happens_38 : decode cX6_happens 38 = .ok (.goto 4, 3) := by decide +kernel
theorem dX6_happens_41 : decode cX6_happens 41 = .ok (.iconst 0, 1) := by decide +kernel
theorem dX6_happens_42 : decode cX6_happens 42 = .ok (.istore_n 1, 1) := by decide +kernel
theorem dX6_happens_43 : decode cX6_happens 43 = .ok (.iload_n 1, 1) := by decide +kernel
theorem dX6_happens_44 : decode cX6_happens 44 = .ok (.ifCond .eq 12, 3) := by decide +kernel
theorem dX6_happens_47 : decode cX6_happens 47 = .ok (.aload_n 0, 1) := by decide +kernel
theorem dX6_happens_48 : decode cX6_happens 48 = .ok (.aload_n 0, 1) := by decide +kernel
theorem dX6_happens_49 : decode cX6_happens 49 = .ok (.getfield 144, 3) := by decide +kernel
theorem dX6_happens_52 : decode cX6_happens 52 = .ok (.invokevirtual 91, 3) := by decide +kernel
theorem dX6_happens_55 : decode cX6_happens 55 = .ok (.pop, 1) := by decide +kernel
theorem dX6_happens_56 : decode cX6_happens 56 = .ok (.iload_n 1, 1) := by decide +kernel
theorem dX6_happens_57 : decode cX6_happens 57 = .ok (.ireturn, 1) := by decide +kernel
theorem dX6_runActs_0 : decode cX6_runActs 0 = .ok (.aload_n 0, 1) := by decide +kernel
theorem dX6_runActs_1 : decode cX6_runActs 1 = .ok (.aload_n 0, 1) := by decide +kernel
theorem dX6_runActs_2 : decode cX6_runActs 2 = .ok (.invokevirtual 157, 3) := by decide +kernel
theorem dX6_runActs_5 : decode cX6_runActs 5 = .ok (.iconst (-1), 1) := by decide +kernel
theorem dX6_runActs_6 : decode cX6_runActs 6 = .ok (.if_icmp .ne 7, 3) := by decide +kernel
theorem dX6_runActs_9 : decode cX6_runActs 9 = .ok (.iconst 0, 1) := by decide +kernel
theorem dX6_runActs_10 : decode cX6_runActs 10 = .ok (.goto 4, 3) := by decide +kernel
theorem dX6_runActs_13 : decode cX6_runActs 13 = .ok (.iconst 1, 1) := by decide +kernel
theorem dX6_runActs_14 : decode cX6_runActs 14 = .ok (.putfield 32, 3) := by decide +kernel
theorem dX6_runActs_17 : decode cX6_runActs 17 = .ok (.aload_n 0, 1) := by decide +kernel
theorem dX6_runActs_18 : decode cX6_runActs 18 = .ok (.getfield 32, 3) := by decide +kernel
theorem dX6_runActs_21 : decode cX6_runActs 21 = .ok (.ifCond .le 5, 3) := by decide +kernel
theorem dX6_runActs_24 : decode cX6_runActs 24 = .ok (.iconst 0, 1) := by decide +kernel
theorem dX6_runActs_25 : decode cX6_runActs 25 = .ok (.ireturn, 1) := by decide +kernel
theorem dX6_runActs_26 : decode cX6_runActs 26 = .ok (.aload_n 0, 1) := by decide +kernel
theorem dX6_runActs_27 : decode cX6_runActs 27 = .ok (.invokevirtual 47, 3) := by decide +kernel
theorem dX6_runActs_30 : decode cX6_runActs 30 = .ok (.iconst 0, 1) := by decide +kernel
theorem dX6_runActs_31 : decode cX6_runActs 31 = .ok (.istore_n 1, 1) := by decide +kernel
theorem dX6_runActs_32 : decode cX6_runActs 32 = .ok (.aload_n 0, 1) := by decide +kernel
theorem dX6_runActs_33 : decode cX6_runActs 33 = .ok (.iconst 0, 1) := by decide +kernel
theorem dX6_runActs_34 : decode cX6_runActs 34 = .ok (.putfield 137, 3) := by decide +kernel
theorem dX6_runActs_37 : decode cX6_runActs 37 = .ok (.iconst 1, 1) := by decide +kernel
theorem dX6_runActs_38 : decode cX6_runActs 38 = .ok (.istore_n 2, 1) := by decide +kernel
theorem dX6_runActs_39 : decode cX6_runActs 39 = .ok (.iload_n 2, 1) := by decide +kernel
theorem dX6_runActs_40 : decode cX6_runActs 40 = .ok (.ifCond .eq 49, 3) := by decide +kernel
theorem dX6_runActs_43 : decode cX6_runActs 43 = .ok (.aload_n 0, 1) := by decide +kernel
theorem dX6_runActs_44 : decode cX6_runActs 44 = .ok (.getfield 137, 3) := by decide +kernel
theorem dX6_runActs_47 : decode cX6_runActs 47 = .ok (.aload_n 0, 1) := by decide +kernel
theorem dX6_runActs_48 : decode cX6_runActs 48 = .ok (.getfield 134, 3) := by decide +kernel
theorem dX6_runActs_51 : decode cX6_runActs 51 = .ok (.if_icmp .ge 38, 3) := by decide +kernel
theorem dX6_runActs_54 : decode cX6_runActs 54 = .ok (.aload_n 0, 1) := by decide +kernel
theorem dX6_runActs_55 : decode cX6_runActs 55 = .ok (.invokevirtual 153, 3) := by decide +kernel
theorem dX6_runActs_58 : decode cX6_runActs 58 = .ok (.pop, 1) := by decide +kernel
theorem dX6_runActs_59 : decode cX6_runActs 59 = .ok (.aload_n 0, 1) := by decide +kernel
theorem dX6_runActs_60 : decode cX6_runActs 60 = .ok (.dup, 1) := by decide +kernel
theorem dX6_runActs_61 : decode cX6_runActs 61 = .ok (.getfield 137, 3) := by decide +kernel
theorem dX6_runActs_64 : decode cX6_runActs 64 = .ok (.iconst 1, 1) := by decide +kernel
theorem dX6_runActs_65 : decode cX6_runActs 65 = .ok (.iadd, 1) := by decide +kernel
theorem dX6_runActs_66 : decode cX6_runActs 66 = .ok (.putfield 137, 3) := by decide +kernel
theorem dX6_runActs_69 : decode cX6_runActs 69 = .ok (.aload_n 0, 1) := by decide +kernel
theorem dX6_runActs_70 : decode cX6_runActs 70 = .ok (.invokevirtual 160, 3) := by decide +kernel
theorem dX6_runActs_73 : decode cX6_runActs 73 = .ok (.istore_n 2, 1) := by decide +kernel
theorem dX6_runActs_74 : decode cX6_runActs 74 = .ok (.iload_n 1, 1) := by decide +kernel
theorem dX6_runActs_75 : decode cX6_runActs 75 = .ok (.iload_n 2, 1) := by decide +kernel
theorem dX6_runActs_76 : decode cX6_runActs 76 = .ok (.ifCond .eq 7, 3) := by decide +kernel
theorem dX6_runActs_79 : decode cX6_runActs 79 = .ok (.iconst 1, 1) := by decide +kernel
theorem dX6_runActs_80 : decode cX6_runActs 80 = .ok (.goto 4, 3) := by decide +kernel
theorem dX6_runActs_83 : decode cX6_runActs 83 = .ok (.iconst 0, 1) := by decide +kernel
theorem dX6_runActs_84 : decode cX6_runActs 84 = .ok (.iadd, 1) := by decide +kernel
theorem dX6_runActs_85 : decode cX6_runActs 85 = .ok (.istore_n 1, 1) := by decide +kernel
theorem dX6_runActs_86 : decode cX6_runActs 86 = .ok (.goto (-47), 3) := by decide +kernel
theorem dX6_runActs_89 : decode cX6_runActs 89 = .ok (.aload_n 0, 1) := by decide +kernel
theorem dX6_runActs_90 : decode cX6_runActs 90 = .ok (.iconst 0, 1) := by decide +kernel
theorem dX6_runActs_91 : decode cX6_runActs 91 = .ok (.putfield 134, 3) := by decide +kernel
theorem dX6_runActs_94 : decode cX6_runActs 94 = .ok (.iload_n 1, 1) := by decide +kernel
theorem dX6_runActs_95 : decode cX6_runActs 95 = .ok (.ireturn, 1) := by decide +kernel
theorem dX6_undo_0 : decode cX6_undo 0 = .ok (.aload_n 0, 1) := by decide +kernel
theorem dX6_undo_1 : decode cX6_undo 1 = .ok (.aload_n 0, 1) := by decide +kernel
theorem dX6_undo_2 : decode cX6_undo 2 = .ok (.getfield 36, 3) := by decide +kernel
theorem dX6_undo_5 : decode cX6_undo 5 = .ok (.ifCond .ne 7, 3) := by decide +kernel
theorem dX6_undo_8 : decode cX6_undo 8 = .ok (.iconst 1, 1) := by decide +kernel
theorem dX6_undo_9 : decode cX6_undo 9 = .ok (.goto 4, 3) := by decide +kernel
theorem dX6_undo_12 : decode cX6_undo 12 = .ok (.iconst 0, 1) := by decide +kernel
theorem dX6_undo_13 : decode cX6_undo 13 = .ok (.putfield 32, 3) := by decide +kernel
theorem dX6_undo_16 : decode cX6_undo 16 = .ok (.aload_n 0, 1) := by decide +kernel
theorem dX6_undo_17 : decode cX6_undo 17 = .ok (.getfield 32, 3) := by decide +kernel
theorem dX6_undo_20 : decode cX6_undo 20 = .ok (.ifCond .le 5, 3) := by decide +kernel
theorem dX6_undo_23 : decode cX6_undo 23 = .ok (.iconst 0, 1) := by decide +kernel
theorem dX6_undo_24 : decode cX6_undo 24 = .ok (.ireturn, 1) := by decide +kernel
theorem dX6_undo_25 : decode cX6_undo 25 = .ok (.aload_n 0, 1) := by decide +kernel
theorem dX6_undo_26 : decode cX6_undo 26 = .ok (.dup, 1) := by decide +kernel
theorem dX6_undo_27 : decode cX6_undo 27 = .ok (.getfield 36, 3) := by decide +kernel
theorem dX6_undo_30 : decode cX6_undo 30 = .ok (.iconst 1, 1) := by decide +kernel
theorem dX6_undo_31 : decode cX6_undo 31 = .ok (.isub, 1) := by decide +kernel
theorem dX6_undo_32 : decode cX6_undo 32 = .ok (.putfield 36, 3) := by decide +kernel
theorem dX6_undo_35 : decode cX6_undo 35 = .ok (.aload_n 0, 1) := by decide +kernel
theorem dX6_undo_36 : decode cX6_undo 36 = .ok (.getfield 13, 3) := by decide +kernel
theorem dX6_undo_39 : decode cX6_undo 39 = .ok (.aload_n 0, 1) := by decide +kernel
theorem dX6_undo_40 : decode cX6_undo 40 = .ok (.getfield 36, 3) := by decide +kernel
theorem dX6_undo_43 : decode cX6_undo 43 = .ok (.sipush 252, 3) := by decide +kernel
theorem dX6_undo_46 : decode cX6_undo 46 = .ok (.imul, 1) := by decide +kernel
theorem dX6_undo_47 : decode cX6_undo 47 = .ok (.aload_n 0, 1) := by decide +kernel
theorem dX6_undo_48 : decode cX6_undo 48 = .ok (.getfield 7, 3) := by decide +kernel
theorem dX6_undo_51 : decode cX6_undo 51 = .ok (.iconst 0, 1) := by decide +kernel
theorem dX6_undo_52 : decode cX6_undo 52 = .ok (.invokestatic 39, 3) := by decide +kernel
theorem dX6_undo_55 : decode cX6_undo 55 = .ok (.aload_n 0, 1) := by decide +kernel
theorem dX6_undo_56 : decode cX6_undo 56 = .ok (.getfield 36, 3) := by decide +kernel
theorem dX6_undo_59 : decode cX6_undo 59 = .ok (.ireturn, 1) := by decide +kernel
theorem dX6_digest_0 : decode cX6_digest 0 = .ok (.aload_n 0, 1) := by decide +kernel
theorem dX6_digest_1 : decode cX6_digest 1 = .ok (.iconst 0, 1) := by decide +kernel
theorem dX6_digest_2 : decode cX6_digest 2 = .ok (.putfield 32, 3) := by decide +kernel
theorem dX6_digest_5 : decode cX6_digest 5 = .ok (.ldc2_w 163, 3) := by decide +kernel
theorem dX6_digest_8 : decode cX6_digest 8 = .ok (.lstore_n 1, 1) := by decide +kernel
theorem dX6_digest_9 : decode cX6_digest 9 = .ok (.ldc2_w 165, 3) := by decide +kernel
theorem dX6_digest_12 : decode cX6_digest 12 = .ok (.lload_n 1, 1) := by decide +kernel
theorem dX6_digest_13 : decode cX6_digest 13 = .ok (.lmul, 1) := by decide +kernel
theorem dX6_digest_14 : decode cX6_digest 14 = .ok (.aload_n 0, 1) := by decide +kernel
theorem dX6_digest_15 : decode cX6_digest 15 = .ok (.getfield 7, 3) := by decide +kernel
theorem dX6_digest_18 : decode cX6_digest 18 = .ok (.iconst 0, 1) := by decide +kernel
theorem dX6_digest_19 : decode cX6_digest 19 = .ok (.iaload, 1) := by decide +kernel
theorem dX6_digest_20 : decode cX6_digest 20 = .ok (.i2l, 1) := by decide +kernel
theorem dX6_digest_21 : decode cX6_digest 21 = .ok (.ladd, 1) := by decide +kernel
theorem dX6_digest_22 : decode cX6_digest 22 = .ok (.lstore_n 1, 1) := by decide +kernel
theorem dX6_digest_23 : decode cX6_digest 23 = .ok (.ldc2_w 165, 3) := by decide +kernel
theorem dX6_digest_26 : decode cX6_digest 26 = .ok (.lload_n 1, 1) := by decide +kernel
theorem dX6_digest_27 : decode cX6_digest 27 = .ok (.lmul, 1) := by decide +kernel
theorem dX6_digest_28 : decode cX6_digest 28 = .ok (.aload_n 0, 1) := by decide +kernel
theorem dX6_digest_29 : decode cX6_digest 29 = .ok (.invokevirtual 112, 3) := by decide +kernel
theorem dX6_digest_32 : decode cX6_digest 32 = .ok (.i2l, 1) := by decide +kernel
theorem dX6_digest_33 : decode cX6_digest 33 = .ok (.ladd, 1) := by decide +kernel
theorem dX6_digest_34 : decode cX6_digest 34 = .ok (.lstore_n 1, 1) := by decide +kernel
theorem dX6_digest_35 : decode cX6_digest 35 = .ok (.ldc2_w 165, 3) := by decide +kernel
theorem dX6_digest_38 : decode cX6_digest 38 = .ok (.lload_n 1, 1) := by decide +kernel
theorem dX6_digest_39 : decode cX6_digest 39 = .ok (.lmul, 1) := by decide +kernel
theorem dX6_digest_40 : decode cX6_digest 40 = .ok (.aload_n 0, 1) := by decide +kernel
theorem dX6_digest_41 : decode cX6_digest 41 = .ok (.invokevirtual 119, 3) := by decide +kernel
theorem dX6_digest_44 : decode cX6_digest 44 = .ok (.i2l, 1) := by decide +kernel
theorem dX6_digest_45 : decode cX6_digest 45 = .ok (.ladd, 1) := by decide +kernel
theorem dX6_digest_46 : decode cX6_digest 46 = .ok (.lstore_n 1, 1) := by decide +kernel
theorem dX6_digest_47 : decode cX6_digest 47 = .ok (.ldc2_w 165, 3) := by decide +kernel
theorem dX6_digest_50 : decode cX6_digest 50 = .ok (.lload_n 1, 1) := by decide +kernel
theorem dX6_digest_51 : decode cX6_digest 51 = .ok (.lmul, 1) := by decide +kernel
theorem dX6_digest_52 : decode cX6_digest 52 = .ok (.aload_n 0, 1) := by decide +kernel
theorem dX6_digest_53 : decode cX6_digest 53 = .ok (.getfield 7, 3) := by decide +kernel
theorem dX6_digest_56 : decode cX6_digest 56 = .ok (.iconst 1, 1) := by decide +kernel
theorem dX6_digest_57 : decode cX6_digest 57 = .ok (.iaload, 1) := by decide +kernel
theorem dX6_digest_58 : decode cX6_digest 58 = .ok (.i2l, 1) := by decide +kernel
theorem dX6_digest_59 : decode cX6_digest 59 = .ok (.ladd, 1) := by decide +kernel
theorem dX6_digest_60 : decode cX6_digest 60 = .ok (.lstore_n 1, 1) := by decide +kernel
theorem dX6_digest_61 : decode cX6_digest 61 = .ok (.ldc2_w 165, 3) := by decide +kernel
theorem dX6_digest_64 : decode cX6_digest 64 = .ok (.lload_n 1, 1) := by decide +kernel
theorem dX6_digest_65 : decode cX6_digest 65 = .ok (.lmul, 1) := by decide +kernel
theorem dX6_digest_66 : decode cX6_digest 66 = .ok (.aload_n 0, 1) := by decide +kernel
theorem dX6_digest_67 : decode cX6_digest 67 = .ok (.getfield 7, 3) := by decide +kernel
theorem dX6_digest_70 : decode cX6_digest 70 = .ok (.iconst 2, 1) := by decide +kernel
theorem dX6_digest_71 : decode cX6_digest 71 = .ok (.iaload, 1) := by decide +kernel
theorem dX6_digest_72 : decode cX6_digest 72 = .ok (.i2l, 1) := by decide +kernel
theorem dX6_digest_73 : decode cX6_digest 73 = .ok (.ladd, 1) := by decide +kernel
theorem dX6_digest_74 : decode cX6_digest 74 = .ok (.lstore_n 1, 1) := by decide +kernel
theorem dX6_digest_75 : decode cX6_digest 75 = .ok (.ldc2_w 165, 3) := by decide +kernel
theorem dX6_digest_78 : decode cX6_digest 78 = .ok (.lload_n 1, 1) := by decide +kernel
theorem dX6_digest_79 : decode cX6_digest 79 = .ok (.lmul, 1) := by decide +kernel
theorem dX6_digest_80 : decode cX6_digest 80 = .ok (.aload_n 0, 1) := by decide +kernel
theorem dX6_digest_81 : decode cX6_digest 81 = .ok (.getfield 7, 3) := by decide +kernel
theorem dX6_digest_84 : decode cX6_digest 84 = .ok (.iconst 3, 1) := by decide +kernel
theorem dX6_digest_85 : decode cX6_digest 85 = .ok (.iaload, 1) := by decide +kernel
theorem dX6_digest_86 : decode cX6_digest 86 = .ok (.i2l, 1) := by decide +kernel
theorem dX6_digest_87 : decode cX6_digest 87 = .ok (.ladd, 1) := by decide +kernel
theorem dX6_digest_88 : decode cX6_digest 88 = .ok (.lstore_n 1, 1) := by decide +kernel
theorem dX6_digest_89 : decode cX6_digest 89 = .ok (.iconst 0, 1) := by decide +kernel
theorem dX6_digest_90 : decode cX6_digest 90 = .ok (.istore_n 3, 1) := by decide +kernel
theorem dX6_digest_91 : decode cX6_digest 91 = .ok (.iload_n 3, 1) := by decide +kernel
theorem dX6_digest_92 : decode cX6_digest 92 = .ok (.bipush 6, 2) := by decide +kernel
theorem dX6_digest_94 : decode cX6_digest 94 = .ok (.if_icmp .ge 68, 3) := by decide +kernel
theorem dX6_digest_97 : decode cX6_digest 97 = .ok (.ldc2_w 165, 3) := by decide +kernel
theorem dX6_digest_100 : decode cX6_digest 100 = .ok (.lload_n 1, 1) := by decide +kernel
theorem dX6_digest_101 : decode cX6_digest 101 = .ok (.lmul, 1) := by decide +kernel
theorem dX6_digest_102 : decode cX6_digest 102 = .ok (.aload_n 0, 1) := by decide +kernel
theorem dX6_digest_103 : decode cX6_digest 103 = .ok (.iload_n 3, 1) := by decide +kernel
theorem dX6_digest_104 : decode cX6_digest 104 = .ok (.iconst 0, 1) := by decide +kernel
theorem dX6_digest_105 : decode cX6_digest 105 = .ok (.invokevirtual 50, 3) := by decide +kernel
theorem dX6_digest_108 : decode cX6_digest 108 = .ok (.i2l, 1) := by decide +kernel
theorem dX6_digest_109 : decode cX6_digest 109 = .ok (.ladd, 1) := by decide +kernel
theorem dX6_digest_110 : decode cX6_digest 110 = .ok (.lstore_n 1, 1) := by decide +kernel
theorem dX6_digest_111 : decode cX6_digest 111 = .ok (.ldc2_w 165, 3) := by decide +kernel
theorem dX6_digest_114 : decode cX6_digest 114 = .ok (.lload_n 1, 1) := by decide +kernel
theorem dX6_digest_115 : decode cX6_digest 115 = .ok (.lmul, 1) := by decide +kernel
theorem dX6_digest_116 : decode cX6_digest 116 = .ok (.aload_n 0, 1) := by decide +kernel
theorem dX6_digest_117 : decode cX6_digest 117 = .ok (.iload_n 3, 1) := by decide +kernel
theorem dX6_digest_118 : decode cX6_digest 118 = .ok (.invokevirtual 100, 3) := by decide +kernel
theorem dX6_digest_121 : decode cX6_digest 121 = .ok (.i2l, 1) := by decide +kernel
theorem dX6_digest_122 : decode cX6_digest 122 = .ok (.ladd, 1) := by decide +kernel
theorem dX6_digest_123 : decode cX6_digest 123 = .ok (.lstore_n 1, 1) := by decide +kernel
theorem dX6_digest_124 : decode cX6_digest 124 = .ok (.ldc2_w 165, 3) := by decide +kernel
theorem dX6_digest_127 : decode cX6_digest 127 = .ok (.lload_n 1, 1) := by decide +kernel
theorem dX6_digest_128 : decode cX6_digest 128 = .ok (.lmul, 1) := by decide +kernel
theorem dX6_digest_129 : decode cX6_digest 129 = .ok (.aload_n 0, 1) := by decide +kernel
theorem dX6_digest_130 : decode cX6_digest 130 = .ok (.aload_n 0, 1) := by decide +kernel
theorem dX6_digest_131 : decode cX6_digest 131 = .ok (.iload_n 3, 1) := by decide +kernel
theorem dX6_digest_132 : decode cX6_digest 132 = .ok (.iconst 3, 1) := by decide +kernel
theorem dX6_digest_133 : decode cX6_digest 133 = .ok (.invokevirtual 50, 3) := by decide +kernel
theorem dX6_digest_136 : decode cX6_digest 136 = .ok (.invokevirtual 109, 3) := by decide +kernel
theorem dX6_digest_139 : decode cX6_digest 139 = .ok (.i2l, 1) := by decide +kernel
theorem dX6_digest_140 : decode cX6_digest 140 = .ok (.ladd, 1) := by decide +kernel
theorem dX6_digest_141 : decode cX6_digest 141 = .ok (.lstore_n 1, 1) := by decide +kernel
theorem dX6_digest_142 : decode cX6_digest 142 = .ok (.ldc2_w 165, 3) := by decide +kernel
theorem dX6_digest_145 : decode cX6_digest 145 = .ok (.lload_n 1, 1) := by decide +kernel
theorem dX6_digest_146 : decode cX6_digest 146 = .ok (.lmul, 1) := by decide +kernel
theorem dX6_digest_147 : decode cX6_digest 147 = .ok (.aload_n 0, 1) := by decide +kernel
theorem dX6_digest_148 : decode cX6_digest 148 = .ok (.iload_n 3, 1) := by decide +kernel
theorem dX6_digest_149 : decode cX6_digest 149 = .ok (.iconst 4, 1) := by decide +kernel
theorem dX6_digest_150 : decode cX6_digest 150 = .ok (.invokevirtual 50, 3) := by decide +kernel
theorem dX6_digest_153 : decode cX6_digest 153 = .ok (.i2l, 1) := by decide +kernel
theorem dX6_digest_154 : decode cX6_digest 154 = .ok (.ladd, 1) := by decide +kernel
theorem dX6_digest_155 : decode cX6_digest 155 = .ok (.lstore_n 1, 1) := by decide +kernel
theorem dX6_digest_156 : decode cX6_digest 156 = .ok (.iinc 3 1, 3) := by decide +kernel
theorem dX6_digest_159 : decode cX6_digest 159 = .ok (.goto (-68), 3) := by decide +kernel
theorem dX6_digest_162 : decode cX6_digest 162 = .ok (.iconst 0, 1) := by decide +kernel
theorem dX6_digest_163 : decode cX6_digest 163 = .ok (.istore_n 3, 1) := by decide +kernel
theorem dX6_digest_164 : decode cX6_digest 164 = .ok (.iload_n 3, 1) := by decide +kernel
theorem dX6_digest_165 : decode cX6_digest 165 = .ok (.bipush 36, 2) := by decide +kernel
theorem dX6_digest_167 : decode cX6_digest 167 = .ok (.if_icmp .ge 129, 3) := by decide +kernel
theorem dX6_digest_170 : decode cX6_digest 170 = .ok (.ldc2_w 165, 3) := by decide +kernel
theorem dX6_digest_173 : decode cX6_digest 173 = .ok (.lload_n 1, 1) := by decide +kernel
theorem dX6_digest_174 : decode cX6_digest 174 = .ok (.lmul, 1) := by decide +kernel
theorem dX6_digest_175 : decode cX6_digest 175 = .ok (.aload_n 0, 1) := by decide +kernel
theorem dX6_digest_176 : decode cX6_digest 176 = .ok (.iload_n 3, 1) := by decide +kernel
theorem dX6_digest_177 : decode cX6_digest 177 = .ok (.iconst 0, 1) := by decide +kernel
theorem dX6_digest_178 : decode cX6_digest 178 = .ok (.invokevirtual 61, 3) := by decide +kernel
theorem dX6_digest_181 : decode cX6_digest 181 = .ok (.i2l, 1) := by decide +kernel
theorem dX6_digest_182 : decode cX6_digest 182 = .ok (.ladd, 1) := by decide +kernel
theorem dX6_digest_183 : decode cX6_digest 183 = .ok (.lstore_n 1, 1) := by decide +kernel
theorem dX6_digest_184 : decode cX6_digest 184 = .ok (.ldc2_w 165, 3) := by decide +kernel
theorem dX6_digest_187 : decode cX6_digest 187 = .ok (.lload_n 1, 1) := by decide +kernel
theorem dX6_digest_188 : decode cX6_digest 188 = .ok (.lmul, 1) := by decide +kernel
theorem dX6_digest_189 : decode cX6_digest 189 = .ok (.aload_n 0, 1) := by decide +kernel
theorem dX6_digest_190 : decode cX6_digest 190 = .ok (.iload_n 3, 1) := by decide +kernel
theorem dX6_digest_191 : decode cX6_digest 191 = .ok (.iconst 1, 1) := by decide +kernel
theorem dX6_digest_192 : decode cX6_digest 192 = .ok (.invokevirtual 61, 3) := by decide +kernel
theorem dX6_digest_195 : decode cX6_digest 195 = .ok (.i2l, 1) := by decide +kernel
theorem dX6_digest_196 : decode cX6_digest 196 = .ok (.ladd, 1) := by decide +kernel
theorem dX6_digest_197 : decode cX6_digest 197 = .ok (.lstore_n 1, 1) := by decide +kernel
theorem dX6_digest_198 : decode cX6_digest 198 = .ok (.ldc2_w 165, 3) := by decide +kernel
theorem dX6_digest_201 : decode cX6_digest 201 = .ok (.lload_n 1, 1) := by decide +kernel
theorem dX6_digest_202 : decode cX6_digest 202 = .ok (.lmul, 1) := by decide +kernel
theorem dX6_digest_203 : decode cX6_digest 203 = .ok (.aload_n 0, 1) := by decide +kernel
theorem dX6_digest_204 : decode cX6_digest 204 = .ok (.iload_n 3, 1) := by decide +kernel
theorem dX6_digest_205 : decode cX6_digest 205 = .ok (.invokevirtual 106, 3) := by decide +kernel
theorem dX6_digest_208 : decode cX6_digest 208 = .ok (.i2l, 1) := by decide +kernel
theorem dX6_digest_209 : decode cX6_digest 209 = .ok (.ladd, 1) := by decide +kernel
theorem dX6_digest_210 : decode cX6_digest 210 = .ok (.lstore_n 1, 1) := by decide +kernel
theorem dX6_digest_211 : decode cX6_digest 211 = .ok (.ldc2_w 165, 3) := by decide +kernel
theorem dX6_digest_214 : decode cX6_digest 214 = .ok (.lload_n 1, 1) := by decide +kernel
theorem dX6_digest_215 : decode cX6_digest 215 = .ok (.lmul, 1) := by decide +kernel
theorem dX6_digest_216 : decode cX6_digest 216 = .ok (.aload_n 0, 1) := by decide +kernel
theorem dX6_digest_217 : decode cX6_digest 217 = .ok (.iload_n 3, 1) := by decide +kernel
theorem dX6_digest_218 : decode cX6_digest 218 = .ok (.iconst 3, 1) := by decide +kernel
theorem dX6_digest_219 : decode cX6_digest 219 = .ok (.invokevirtual 61, 3) := by decide +kernel
theorem dX6_digest_222 : decode cX6_digest 222 = .ok (.i2l, 1) := by decide +kernel
theorem dX6_digest_223 : decode cX6_digest 223 = .ok (.ladd, 1) := by decide +kernel
theorem dX6_digest_224 : decode cX6_digest 224 = .ok (.lstore_n 1, 1) := by decide +kernel
theorem dX6_digest_225 : decode cX6_digest 225 = .ok (.ldc2_w 165, 3) := by decide +kernel
theorem dX6_digest_228 : decode cX6_digest 228 = .ok (.lload_n 1, 1) := by decide +kernel
theorem dX6_digest_229 : decode cX6_digest 229 = .ok (.lmul, 1) := by decide +kernel
theorem dX6_digest_230 : decode cX6_digest 230 = .ok (.aload_n 0, 1) := by decide +kernel
theorem dX6_digest_231 : decode cX6_digest 231 = .ok (.aload_n 0, 1) := by decide +kernel
theorem dX6_digest_232 : decode cX6_digest 232 = .ok (.iload_n 3, 1) := by decide +kernel
theorem dX6_digest_233 : decode cX6_digest 233 = .ok (.iconst 5, 1) := by decide +kernel
theorem dX6_digest_234 : decode cX6_digest 234 = .ok (.invokevirtual 61, 3) := by decide +kernel
theorem dX6_digest_237 : decode cX6_digest 237 = .ok (.invokevirtual 109, 3) := by decide +kernel
theorem dX6_digest_240 : decode cX6_digest 240 = .ok (.i2l, 1) := by decide +kernel
theorem dX6_digest_241 : decode cX6_digest 241 = .ok (.ladd, 1) := by decide +kernel
theorem dX6_digest_242 : decode cX6_digest 242 = .ok (.lstore_n 1, 1) := by decide +kernel
theorem dX6_digest_243 : decode cX6_digest 243 = .ok (.ldc2_w 165, 3) := by decide +kernel
theorem dX6_digest_246 : decode cX6_digest 246 = .ok (.lload_n 1, 1) := by decide +kernel
theorem dX6_digest_247 : decode cX6_digest 247 = .ok (.lmul, 1) := by decide +kernel
theorem dX6_digest_248 : decode cX6_digest 248 = .ok (.aload_n 0, 1) := by decide +kernel
theorem dX6_digest_249 : decode cX6_digest 249 = .ok (.iload_n 3, 1) := by decide +kernel
theorem dX6_digest_250 : decode cX6_digest 250 = .ok (.invokevirtual 122, 3) := by decide +kernel
theorem dX6_digest_253 : decode cX6_digest 253 = .ok (.ifCond .eq 7, 3) := by decide +kernel
theorem dX6_digest_256 : decode cX6_digest 256 = .ok (.iconst 1, 1) := by decide +kernel
theorem dX6_digest_257 : decode cX6_digest 257 = .ok (.goto 4, 3) := by decide +kernel
theorem dX6_digest_260 : decode cX6_digest 260 = .ok (.iconst 0, 1) := by decide +kernel
theorem dX6_digest_261 : decode cX6_digest 261 = .ok (.i2l, 1) := by decide +kernel
theorem dX6_digest_262 : decode cX6_digest 262 = .ok (.ladd, 1) := by decide +kernel
theorem dX6_digest_263 : decode cX6_digest 263 = .ok (.lstore_n 1, 1) := by decide +kernel
theorem dX6_digest_264 : decode cX6_digest 264 = .ok (.ldc2_w 165, 3) := by decide +kernel
theorem dX6_digest_267 : decode cX6_digest 267 = .ok (.lload_n 1, 1) := by decide +kernel
theorem dX6_digest_268 : decode cX6_digest 268 = .ok (.lmul, 1) := by decide +kernel
theorem dX6_digest_269 : decode cX6_digest 269 = .ok (.aload_n 0, 1) := by decide +kernel
theorem dX6_digest_270 : decode cX6_digest 270 = .ok (.iload_n 3, 1) := by decide +kernel
theorem dX6_digest_271 : decode cX6_digest 271 = .ok (.invokevirtual 125, 3) := by decide +kernel
theorem dX6_digest_274 : decode cX6_digest 274 = .ok (.i2l, 1) := by decide +kernel
theorem dX6_digest_275 : decode cX6_digest 275 = .ok (.ladd, 1) := by decide +kernel
theorem dX6_digest_276 : decode cX6_digest 276 = .ok (.lstore_n 1, 1) := by decide +kernel
theorem dX6_digest_277 : decode cX6_digest 277 = .ok (.ldc2_w 165, 3) := by decide +kernel
theorem dX6_digest_280 : decode cX6_digest 280 = .ok (.lload_n 1, 1) := by decide +kernel
theorem dX6_digest_281 : decode cX6_digest 281 = .ok (.lmul, 1) := by decide +kernel
theorem dX6_digest_282 : decode cX6_digest 282 = .ok (.aload_n 0, 1) := by decide +kernel
theorem dX6_digest_283 : decode cX6_digest 283 = .ok (.iload_n 3, 1) := by decide +kernel
theorem dX6_digest_284 : decode cX6_digest 284 = .ok (.invokevirtual 128, 3) := by decide +kernel
theorem dX6_digest_287 : decode cX6_digest 287 = .ok (.i2l, 1) := by decide +kernel
theorem dX6_digest_288 : decode cX6_digest 288 = .ok (.ladd, 1) := by decide +kernel
theorem dX6_digest_289 : decode cX6_digest 289 = .ok (.lstore_n 1, 1) := by decide +kernel
theorem dX6_digest_290 : decode cX6_digest 290 = .ok (.iinc 3 1, 3) := by decide +kernel
theorem dX6_digest_293 : decode cX6_digest 293 = .ok (.goto (-129), 3) := by decide +kernel
theorem dX6_digest_296 : decode cX6_digest 296 = .ok (.lload_n 1, 1) := by decide +kernel
theorem dX6_digest_297 : decode cX6_digest 297 = .ok (.lreturn, 1) := by decide +kernel
end
section
/-! the numbers: whole numbers read as ints of the machine -/
def I (z : Int) : Int32 := Int32.ofInt z
theorem I_add (a b : Int) : I a + I b = I (a + b) := (Int32.ofInt_add a b).symm
theorem I_mul (a b : Int) : I a * I b = I (a * b) := (Int32.ofInt_mul a b).symm
theorem I_sub (a b : Int) : I a - I b = I (a - b) := (Int32.ofInt_sub a b).symm
theorem I_toInt {a : Int} (h : -2147483648 ≤ a ∧ a ≤ 2147483647) : (I a).toInt = a := by
  unfold I
  rw [Int32.toInt_ofInt]
  unfold Int.bmod
  have : (a % ((2:Nat)^32 : Nat)) = if 0 ≤ a then a else a + 4294967296 := by split <;> omega
  rw [this]
  have hz : ((Int32.size : Nat) : Int) = 4294967296 := rfl
  dsimp only
  rw [hz]
  split <;> split <;> omega
theorem I_of (x : Int32) : I x.toInt = x := Int32.ofInt_toInt x
theorem I_rng (x : Int32) : -2147483648 ≤ x.toInt ∧ x.toInt ≤ 2147483647 := by
  have h1 := Int32.le_toInt x
  have h2 := Int32.toInt_lt x
  omega
theorem I_inj {a b : Int} (ha : -2147483648 ≤ a ∧ a ≤ 2147483647) (hb : -2147483648 ≤ b ∧ b ≤ 2147483647) : I a = I b ↔ a = b := by
  constructor
  · intro h
    have := congrArg Int32.toInt h
    rwa [I_toInt ha, I_toInt hb] at this
  · intro h; rw [h]
theorem I_lt {a b : Int} (ha : -2147483648 ≤ a ∧ a ≤ 2147483647) (hb : -2147483648 ≤ b ∧ b ≤ 2147483647) : I a < I b ↔ a < b := by
  rw [Int32.lt_iff_toInt_lt, I_toInt ha, I_toInt hb]
theorem I_le {a b : Int} (ha : -2147483648 ≤ a ∧ a ≤ 2147483647) (hb : -2147483648 ≤ b ∧ b ≤ 2147483647) : I a ≤ I b ↔ a ≤ b := by
  rw [Int32.le_iff_toInt_le, I_toInt ha, I_toInt hb]
theorem I_0 : I 0 = 0 := rfl
theorem I_div {x y : Nat} (hx : x ≤ 2147483647) (hy : 0 < y ∧ y ≤ 2147483647) : I (x : Int) / I (y : Int) = I ((x / y : Nat) : Int) := by
  apply Int32.toInt_inj.mp
  have hne : I (y : Int) ≠ -1 := by
    rw [show (-1 : Int32) = I (-1) from rfl, Ne, I_inj (by omega) (by omega)]; omega
  have hle : x / y ≤ x := Nat.div_le_self x y
  obtain ⟨q, hq⟩ : ∃ q, q = x / y := ⟨_, rfl⟩
  rw [← hq] at hle ⊢
  rw [Int32.toInt_div_of_ne_right _ _ hne, I_toInt (by omega), I_toInt (by omega), I_toInt (by omega), hq]
  rfl
theorem I_nat {n : Nat} (h : n ≤ 2147483647) : (I (n : Int)).toNatClampNeg = n := by
  rw [← Int32.toNat_toInt, I_toInt (by omega)]
  simp
theorem I_in {n L : Nat} (h : n < L) (hL : L ≤ 2147483647) : vp_in (I (n : Int)) L := by
  unfold vp_in
  rw [I_nat (by omega)]
  rw [show (0 : Int32) = I 0 from rfl, I_lt (by omega) (by omega)]
  omega
def up {α : Type} (f : Nat → α) (k : Nat) (v : α) : Nat → α := fun j => if j = k then v else f j
theorem up_eq {α : Type} (f : Nat → α) (k : Nat) (v : α) : up f k v k = v := by simp [up]
theorem up_ne {α : Type} (f : Nat → α) {k j : Nat} (v : α) (h : j ≠ k) : up f k v j = f j := by simp [up, h]
theorem upd_I (g : Nat → Int) (k : Nat) (v : Int) : upd (fun i => I (g i)) k (I v) = fun i => I (up g k v i) := by
  funext j
  unfold upd up
  split <;> rfl
/-! the tables' side of a method's start: classes, array classes, private members of nest mates -/
abbrev nwL : List Cond := [.methodLinkNest RX5 9 yX3_init RX5, .methodLinkNest RX3 34 yX0_init RX5, .methodLinkNest RX5 26 yX1_init RX5,
  .methodLinkNest RX3 88 yX5_read RX5, .methodLinkNest RX2 29 yX5_read RX5, .methodLinkNest RX1 32 yX5_read RX5, .methodLinkNest RX1 25 yX5_write RX5, .methodLinkNest RX4 25 yX5_read RX5,
  .methodLinkNest RX4 21 yX5_copyRow RX5, .methodLinkNest RX2 21 yX5_copyRow RX5, .methodLinkNest RX3 50 yX5_copyRow RX5, .methodLinkNest RX0 31 yX5_copyRow RX5, .methodLinkNest RX2 25 yX5_write RX5,
  .methodLinkNest RX0 35 yX5_read RX5, .methodLinkNest RX0 39 yX5_write RX5, .methodLinkNest RX3 98 yX5_write RX5]
def nwB : Cond → Bool
  | .methodLinkNest _ _ _ _ => true
  | _ => false
def nwA (L : List Cond) (U : State) : Prop := ∀ w ∈ L, nwB w = true ∧ va_Nw w U
theorem nwA.warm {L : List Cond} {s U : State} (hW : s.WarmedH U.vm) (h : nwA L s) : nwA L U := by
  intro w hw
  obtain ⟨h1, h2⟩ := h w hw
  refine ⟨h1, ?_⟩
  cases w <;> first | exact va_Nw.warmM hW h2 | cases h1
theorem nwA.same {L : List Cond} {s U : State} (hv : s.vm = U.vm) (h : nwA L s) : nwA L U := by
  intro w hw
  obtain ⟨h1, h2⟩ := h w hw
  refine ⟨h1, ?_⟩
  cases w <;> first | (cases h1; done) | exact va_Nw.same rfl hv h2
abbrev Env3 : Type := va_G × ClassId × ClassId × ClassId
abbrev tyL (E : Env3) : List (ClassId × FieldType) := [(E.2.1, .int), (E.2.2.1, .object RX3), (E.2.2.2, .long)]
def KB (E : Env3) (U : State) : Prop := va_K E.1 vwCl (tyL E) U ∧ nwA nwL U
theorem KB.warm {E : Env3} {s U : State} (hW : s.WarmedH U.vm) (h : KB E s) : KB E U := ⟨va_K.moved hW.alike h.1, nwA.warm hW h.2⟩
theorem KB.same {E : Env3} {s U : State} (hv : s.vm = U.vm) (h : KB E s) : KB E U := ⟨va_K.moved (by rw [hv]; exact Vm.Alike.refl _) h.1, nwA.same hv h.2⟩
/-! a contract's start and ends -/
def adIn (ws : va_W) : Nat → Prop := fun q => ∃ (k : Nat) (e : va_E), ws[k]? = some (q, e)
theorem adIn_eq {a b : va_W} (h : a.map (·.1) = b.map (·.1)) {q : Nat} (hq : adIn a q) : adIn b q := by
  obtain ⟨k, e, hk⟩ := hq
  have h1 : (a.map (·.1))[k]? = some q := by rw [List.getElem?_map, hk]; rfl
  rw [h, List.getElem?_map] at h1
  cases hb : b[k]? with
  | none => rw [hb] at h1; cases h1
  | some x => rw [hb] at h1; exact ⟨k, x.2, by rw [hb]; exact congrArg some (Prod.ext (Option.some.inj h1) rfl)⟩
def pR (av : List Value) (E : Env3) (ws : va_W) : Array Value → State → Prop := fun v U => v = av.toArray ∧ va_P E.1 vwCl ws U.heap ∧ KB E U
theorem pR_blind {av : List Value} {E : Env3} {ws : va_W} : FrameBlind (pR av E ws) := fun _ U _ _ h => ⟨h.1, h.2.1, KB.same (s := U) rfl h.2.2⟩
theorem pR_S {av : List Value} {E : Env3} {ws : va_W} {s : State} {H : Heap} (hP : va_P E.1 vwCl ws H) (hK : KB E s) : PreS s H (pR av E ws) av :=
  ⟨pR_blind, fun U hU hW => ⟨rfl, by rw [hU]; exact hP, hK.warm hW⟩⟩
theorem pR_V {b : Nat} {As : List Value} {E : Env3} {ws : va_W} {s : State} {H : Heap} {ci q0 : Nat} {fs : List Value} {C : String} {T : u_T} {N : Nat} (hP : va_P E.1 vwCl ws H) (hK : KB E s) (hb : ws[q0]? = some (b, .inr (ci, fs))) (hc : vwCl[ci]? = some (C, T, N)) : PreV s H C b (pR (.ref b :: As) E ws) As :=
  ⟨pR_blind, va_recv hK.1 hP (ci := ci) (q0 := q0) hc hb, fun U hU hW => ⟨rfl, by rw [hU]; exact hP, hK.warm hW⟩⟩
/-- an answer, and nothing is written -/
def qS (v : Option Value) : Array Value → State → Outcome → State → Prop := fun _ st oc t => oc = .returned v ∧ t.heap = st.heap
/-- an answer, and the cells of ws have become ws' -/
def qW (v : Option Value) (E : Env3) (ws ws' : va_W) : Array Value → State → Outcome → State → Prop := fun _ st oc t => oc = .returned v ∧ va_P E.1 vwCl ws' t.heap ∧ va_F (adIn ws) st t
/-- the same, some of the cells are told by no one -/
def qX {σ : Type} (v : Option Value) (E : Env3) (ws : va_W) (ws' : σ → va_W) : Array Value → State → Outcome → State → Prop := fun _ st oc t => oc = .returned v ∧ (∃ g : σ, va_P E.1 vwCl (ws' g) t.heap) ∧ va_F (adIn ws) st t
theorem dm {A : Nat → Prop} {ws ws' : va_W} (h : va_D A ws) (e : ws.map (·.1) = ws'.map (·.1)) : va_D A ws' := by
  have key : ∀ (k : Nat) (q : Nat × va_E), ws'[k]? = some q → ∃ q0, ws[k]? = some q0 ∧ q0.1 = q.1 := by
    intro k q hk
    have h1 : (ws'.map (·.1))[k]? = some q.1 := by rw [List.getElem?_map, hk]; rfl
    rw [← e, List.getElem?_map] at h1
    cases hb : ws[k]? with
    | none => rw [hb] at h1; cases h1
    | some x => rw [hb] at h1; exact ⟨x, rfl, Option.some.inj h1⟩
  refine ⟨fun i j x y hi hj hxy => ?_, fun k q hk => ?_⟩
  · obtain ⟨x0, h1, h2⟩ := key i x hi
    obtain ⟨y0, h3, h4⟩ := key j y hj
    exact h.1 i j x0 y0 h1 h3 (h2.trans (hxy.trans h4.symm))
  · obtain ⟨q0, h1, h2⟩ := key k q hk
    rw [← h2]
    exact h.2 k q0 h1
theorem dself {ws : va_W} (h : va_D (fun _ => True) ws) : va_D (adIn ws) ws := ⟨h.1, fun k q hk => ⟨k, q.2, hk⟩⟩
def setAll : va_W → List Nat → va_W → va_W
  | ws, i :: is, q :: qs => setAll (ws.set i q) is qs
  | ws, _, _ => ws
/-- cells at some places are new, those at the others stay -/
theorem mj_P {D : va_G} {cl : List vw_C} {A0 : Nat → Prop} {ws wc w1 ws' : va_W} {H H1 : Heap} (is : List Nat) (hP : va_P D cl ws H) (hD : va_D A0 ws) (hC : is.map (fun i => ws[i]?) = wc.map some)
    (hk : ∀ q : Nat, q < H.size → ¬ adIn wc q → H1[q]? = H[q]?) (hP1 : va_P D cl w1 H1) (hw : setAll ws is w1 = ws') (hn : va_nd is = true) (hl : is.length = w1.length) : va_P D cl ws' H1 := by
  have rest : ∀ (k : Nat) (q : Nat × va_E), ws[k]? = some q → k ∉ is → va_at D cl q H1 := by
    intro k q hq hk'
    refine (hP k q hq).kept (hk q.1 (hP k q hq).lt fun hin => ?_)
    obtain ⟨j, e, hj⟩ := hin
    have h1 : (is.map (fun i => ws[i]?))[j]? = some (some (q.1, e)) := by rw [hC, List.getElem?_map, hj]; rfl
    rw [List.getElem?_map] at h1
    cases hi : is[j]? with
    | none => rw [hi] at h1; cases h1
    | some i =>
      rw [hi] at h1
      have := hD.1 k i q (q.1, e) hq (Option.some.inj h1) rfl
      subst this
      exact hk' (List.mem_of_getElem? hi)
  have gen : ∀ (is : List Nat) (w1 v : va_W), va_nd is = true → is.length = w1.length → (∀ (k : Nat) (q : Nat × va_E), v[k]? = some q → k ∉ is → va_at D cl q H1) → (∀ (k : Nat) (q : Nat × va_E), w1[k]? = some q → va_at D cl q H1) → va_P D cl (setAll v is w1) H1 := by
    intro is
    induction is with
    | nil =>
      intro w1 v _ hl h1 h2
      cases w1 with
      | nil => exact fun k q hk => h1 k q hk (fun h => nomatch h)
      | cons a b => simp at hl
    | cons i is ih =>
      intro w1 v hn hl h1 h2
      cases w1 with
      | nil => simp at hl
      | cons q1 w1 =>
        simp only [va_nd, Bool.and_eq_true, decide_eq_true_eq] at hn
        refine ih w1 (v.set i q1) hn.2 (by simpa using hl) (fun k q hk hni => ?_) (fun k q hk => h2 (k + 1) q (by simpa using hk))
        by_cases hki : k = i
        · subst hki
          have hlt : k < v.length := by
            have := (List.getElem?_eq_some_iff.mp hk).1
            simpa using this
          rw [List.getElem?_set_self hlt] at hk
          cases hk
          exact h2 0 _ rfl
        · rw [List.getElem?_set_ne (Ne.symm hki)] at hk
          refine h1 k q hk ?_
          intro hm
          rcases List.mem_cons.mp hm with h | h
          · exact hki h
          · exact hni h
  rw [← hw]
  exact gen is w1 ws hn hl rest hP1
theorem nwK {E : Env3} {s : State} (h : KB E s) {w : Cond} (i : Nat) (hi : nwL[i]? = some w) : va_Nw w s := (h.2 w (List.mem_of_getElem? hi)).2
theorem mk_met {l : Launch} {y : MethodName} {ws : List Cond} {rm : Room} {av : List Value} {E : Env3} {w0 : va_W} {Qc : Array Value → State → Outcome → State → Prop} {mc ms : Nat} {free : Addr → Prop} {cc : ByteArray} {maxL : Nat} {ret : Option FieldType}
    (hy : plainName y.cls = true) (hw : ws = Cond.code y cc maxL ret :: ALL) (hn : (lg_sl av).length ≤ maxL)
    (body : ∀ (p : Program) (e : Jvm.Env) (s : State) (m : MethodId) (args : Array Value) (below : List Frame) (meth : Method) (c : Code), p.tables.exec = Jvm.exec → c.code = cc → meth.sig.returnType = ret → c.maxLocals = maxL → (∀ w ∈ ALL, w.before args s = true) → s.vm.findClass y.cls = some m.cls → meth.locks = false → meth.name = y.name →
      va_P E.1 vwCl w0 s.heap → KB E s → ∀ ls : Array Slot, lv_has ls maxL (lv_args 0 av) →
      W p l e rm s m args below meth c s.heap [] 0 0 (MQ below Qc args s mc ms free) (F0 m 0 ls [])) : Met l y ws rm (pR av E w0) Qc mc ms free := by
  refine Met.ofW (cc := cc) (maxL := maxL) (ret := ret) hy hw ?_
  intro p e s m args below meth c s₁ B hml hv
  obtain ⟨rfl, hP, hK⟩ := hv
  rw [lg_entry_eq]
  have hts := atoms_spec (ws := ws) B.pre
  exact body p e s m _ below meth c B.exec B.bytes B.returns hml (fun w h => hts w (by rw [hw]; exact List.mem_cons_of_mem _ h)) (findClass_of_methodNamed B.named) B.notSynchronized (name_of_methodNamed B.named B.method).1 hP hK _ (lv_entry av hn)
theorem lv_lk {ls : Array Slot} {nL : Nat} {lv : List (Nat × Value)} (h : lv_has ls nL lv) {i : Nat} {v : Value} (hk : lv.find? (fun q => q.1 == i) = some (i, v)) : ls[i]? = some (.val v) := h.2.2 (i, v) (List.mem_of_find?_eq_some hk)
section IV
variable {p : Program} {l : Launch} {e : Jvm.Env} {R : Room} {s : State} {m : MethodId} {args : Array Value} {below : List Frame} {meth : Method} {c : Code} {H : Heap} {locs : List Loc} {cells slots : Nat} {Q : State → Prop}
variable {cc : ByteArray} {pc : Nat} {ls : Array Slot} {rest : List Value}
/-- the top number by another name -/
theorem iv_eq {a : Int} (b : Int) (h : a = b) (k : W p l e R s m args below meth c H locs cells slots Q (F0 m pc ls (.int (I b) :: rest))) : W p l e R s m args below meth c H locs cells slots Q (F0 m pc ls (.int (I a) :: rest)) := by rw [h]; exact k
theorem iv_iconst (hx : p.tables.exec = Jvm.exec) (hb : c.code = cc) {n : Int} (hdg : decode cc pc = .ok (.iconst n, 1)) (k : W p l e R s m args below meth c H locs cells slots Q (F0 m (pc + 1) ls (.int (I n) :: rest))) : W p l e R s m args below meth c H locs cells slots Q (F0 m pc ls rest) := lv_iconst hx hb hdg rfl k
theorem iv_bipush (hx : p.tables.exec = Jvm.exec) (hb : c.code = cc) {n : Int} (hdg : decode cc pc = .ok (.bipush n, 2)) (hv : (Int8.ofInt n).toInt32 = I n) (k : W p l e R s m args below meth c H locs cells slots Q (F0 m (pc + 2) ls (.int (I n) :: rest))) : W p l e R s m args below meth c H locs cells slots Q (F0 m pc ls rest) := lv_bipush hx hb hdg hv k
theorem iv_sipush (hx : p.tables.exec = Jvm.exec) (hb : c.code = cc) {n : Int} (hdg : decode cc pc = .ok (.sipush n, 3)) (hv : (Int16.ofInt n).toInt32 = I n) (k : W p l e R s m args below meth c H locs cells slots Q (F0 m (pc + 3) ls (.int (I n) :: rest))) : W p l e R s m args below meth c H locs cells slots Q (F0 m pc ls rest) := lv_sipush hx hb hdg hv k
theorem iv_iadd (hx : p.tables.exec = Jvm.exec) (hb : c.code = cc) {x y : Int} (hdg : decode cc pc = .ok (.iadd, 1)) (k : W p l e R s m args below meth c H locs cells slots Q (F0 m (pc + 1) ls (.int (I (x + y)) :: rest))) : W p l e R s m args below meth c H locs cells slots Q (F0 m pc ls (.int (I y) :: .int (I x) :: rest)) := lv_iadd hx hb hdg (by rw [I_add]; exact k)
theorem iv_isub (hx : p.tables.exec = Jvm.exec) (hb : c.code = cc) {x y : Int} (hdg : decode cc pc = .ok (.isub, 1)) (k : W p l e R s m args below meth c H locs cells slots Q (F0 m (pc + 1) ls (.int (I (x - y)) :: rest))) : W p l e R s m args below meth c H locs cells slots Q (F0 m pc ls (.int (I y) :: .int (I x) :: rest)) := lv_isub hx hb hdg (by rw [I_sub]; exact k)
theorem iv_imul (hx : p.tables.exec = Jvm.exec) (hb : c.code = cc) {x y : Int} (hdg : decode cc pc = .ok (.imul, 1)) (k : W p l e R s m args below meth c H locs cells slots Q (F0 m (pc + 1) ls (.int (I (x * y)) :: rest))) : W p l e R s m args below meth c H locs cells slots Q (F0 m pc ls (.int (I y) :: .int (I x) :: rest)) := lv_imul hx hb hdg (by rw [I_mul]; exact k)
theorem iv_idiv (hx : p.tables.exec = Jvm.exec) (hb : c.code = cc) {x y : Int} (hdg : decode cc pc = .ok (.idiv, 1)) (z : Int) (hz : I x / I y = I z) (hy : -2147483648 ≤ y ∧ y ≤ 2147483647 ∧ y ≠ 0) (k : W p l e R s m args below meth c H locs cells slots Q (F0 m (pc + 1) ls (.int (I z) :: rest))) : W p l e R s m args below meth c H locs cells slots Q (F0 m pc ls (.int (I y) :: .int (I x) :: rest)) :=
  lv_idiv hx hb hdg (by rw [← I_0, I_inj (by omega) (by omega)]; exact hy.2.2) (by rw [hz]; exact k)
theorem iv_iinc (hx : p.tables.exec = Jvm.exec) (hb : c.code = cc) {i nL k : Nat} {n x : Int} {lv : List (Nat × Value)} (hdg : decode cc pc = .ok (.iinc i n, 3)) (h : lv_has ls nL lv) (hk : lv[k]? = some (i, .int (I x))) (y : Int) (hy : x + n = y) (hn : i < nL) (lv' : List (Nat × Value)) (hl : (i, Value.int (I y)) :: lv.filter (fun q => !(q.1 == i) && !(q.1 + 1 == i && q.2.category == 2)) = lv')
    (kk : ∀ ls' : Array Slot, lv_has ls' nL lv' → W p l e R s m args below meth c H locs cells slots Q (F0 m (pc + 3) ls' rest)) : W p l e R s m args below meth c H locs cells slots Q (F0 m pc ls rest) :=
  lv_iinc (v := I y) (lv' := lv') hx hb hdg h hk (by rw [← hy, ← I_add]; rfl) hn hl kk
theorem iv_if_eq (hx : p.tables.exec = Jvm.exec) (hb : c.code = cc) {x : Int} {off : Int} {tgt : Nat} (hdg : decode cc pc = .ok (.ifCond .eq off, 3)) (ht : (pc : Int) + off = (tgt : Int)) (h1 : -2147483648 ≤ x ∧ x ≤ 2147483647)
    (kt : x = 0 → W p l e R s m args below meth c H locs cells slots Q (F0 m tgt ls rest)) (kf : ¬ x = 0 → W p l e R s m args below meth c H locs cells slots Q (F0 m (pc + 3) ls rest)) : W p l e R s m args below meth c H locs cells slots Q (F0 m pc ls (.int (I x) :: rest)) :=
  lv_if_eq hx hb hdg ht (fun h => kt ((I_inj (b := 0) h1 (by omega)).mp h)) (fun h => kf (fun q => h ((I_inj (b := 0) h1 (by omega)).mpr q)))
theorem iv_if_ne (hx : p.tables.exec = Jvm.exec) (hb : c.code = cc) {x : Int} {off : Int} {tgt : Nat} (hdg : decode cc pc = .ok (.ifCond .ne off, 3)) (ht : (pc : Int) + off = (tgt : Int)) (h1 : -2147483648 ≤ x ∧ x ≤ 2147483647)
    (kt : ¬ x = 0 → W p l e R s m args below meth c H locs cells slots Q (F0 m tgt ls rest)) (kf : x = 0 → W p l e R s m args below meth c H locs cells slots Q (F0 m (pc + 3) ls rest)) : W p l e R s m args below meth c H locs cells slots Q (F0 m pc ls (.int (I x) :: rest)) :=
  lv_if_ne hx hb hdg ht (fun h => kt (fun q => h ((I_inj (b := 0) h1 (by omega)).mpr q))) (fun h => kf ((I_inj (b := 0) h1 (by omega)).mp h))
theorem iv_if_lt (hx : p.tables.exec = Jvm.exec) (hb : c.code = cc) {x : Int} {off : Int} {tgt : Nat} (hdg : decode cc pc = .ok (.ifCond .lt off, 3)) (ht : (pc : Int) + off = (tgt : Int)) (h1 : -2147483648 ≤ x ∧ x ≤ 2147483647)
    (kt : x < 0 → W p l e R s m args below meth c H locs cells slots Q (F0 m tgt ls rest)) (kf : ¬ x < 0 → W p l e R s m args below meth c H locs cells slots Q (F0 m (pc + 3) ls rest)) : W p l e R s m args below meth c H locs cells slots Q (F0 m pc ls (.int (I x) :: rest)) :=
  lv_if_lt hx hb hdg ht (fun h => kt ((I_lt (b := 0) h1 (by omega)).mp h)) (fun h => kf (fun q => h ((I_lt (b := 0) h1 (by omega)).mpr q)))
theorem iv_if_ge (hx : p.tables.exec = Jvm.exec) (hb : c.code = cc) {x : Int} {off : Int} {tgt : Nat} (hdg : decode cc pc = .ok (.ifCond .ge off, 3)) (ht : (pc : Int) + off = (tgt : Int)) (h1 : -2147483648 ≤ x ∧ x ≤ 2147483647)
    (kt : 0 ≤ x → W p l e R s m args below meth c H locs cells slots Q (F0 m tgt ls rest)) (kf : ¬ 0 ≤ x → W p l e R s m args below meth c H locs cells slots Q (F0 m (pc + 3) ls rest)) : W p l e R s m args below meth c H locs cells slots Q (F0 m pc ls (.int (I x) :: rest)) :=
  lv_if_ge hx hb hdg ht (fun h => kt ((I_le (a := 0) (by omega) h1).mp h)) (fun h => kf (fun q => h ((I_le (a := 0) (by omega) h1).mpr q)))
theorem iv_if_gt (hx : p.tables.exec = Jvm.exec) (hb : c.code = cc) {x : Int} {off : Int} {tgt : Nat} (hdg : decode cc pc = .ok (.ifCond .gt off, 3)) (ht : (pc : Int) + off = (tgt : Int)) (h1 : -2147483648 ≤ x ∧ x ≤ 2147483647)
    (kt : 0 < x → W p l e R s m args below meth c H locs cells slots Q (F0 m tgt ls rest)) (kf : ¬ 0 < x → W p l e R s m args below meth c H locs cells slots Q (F0 m (pc + 3) ls rest)) : W p l e R s m args below meth c H locs cells slots Q (F0 m pc ls (.int (I x) :: rest)) :=
  lv_if_gt hx hb hdg ht (fun h => kt ((I_lt (a := 0) (by omega) h1).mp h)) (fun h => kf (fun q => h ((I_lt (a := 0) (by omega) h1).mpr q)))
theorem iv_if_le (hx : p.tables.exec = Jvm.exec) (hb : c.code = cc) {x : Int} {off : Int} {tgt : Nat} (hdg : decode cc pc = .ok (.ifCond .le off, 3)) (ht : (pc : Int) + off = (tgt : Int)) (h1 : -2147483648 ≤ x ∧ x ≤ 2147483647)
    (kt : x ≤ 0 → W p l e R s m args below meth c H locs cells slots Q (F0 m tgt ls rest)) (kf : ¬ x ≤ 0 → W p l e R s m args below meth c H locs cells slots Q (F0 m (pc + 3) ls rest)) : W p l e R s m args below meth c H locs cells slots Q (F0 m pc ls (.int (I x) :: rest)) :=
  lv_if_le hx hb hdg ht (fun h => kt ((I_le (b := 0) h1 (by omega)).mp h)) (fun h => kf (fun q => h ((I_le (b := 0) h1 (by omega)).mpr q)))
theorem iv_icmp_eq (hx : p.tables.exec = Jvm.exec) (hb : c.code = cc) {x y : Int} {off : Int} {tgt : Nat} (hdg : decode cc pc = .ok (.if_icmp .eq off, 3)) (ht : (pc : Int) + off = (tgt : Int)) (h1 : -2147483648 ≤ x ∧ x ≤ 2147483647) (h2 : -2147483648 ≤ y ∧ y ≤ 2147483647)
    (kt : x = y → W p l e R s m args below meth c H locs cells slots Q (F0 m tgt ls rest)) (kf : ¬ x = y → W p l e R s m args below meth c H locs cells slots Q (F0 m (pc + 3) ls rest)) : W p l e R s m args below meth c H locs cells slots Q (F0 m pc ls (.int (I y) :: .int (I x) :: rest)) :=
  lv_icmp_eq hx hb hdg ht (fun h => kt ((I_inj h1 h2).mp h)) (fun h => kf (fun q => h ((I_inj h1 h2).mpr q)))
theorem iv_icmp_ne (hx : p.tables.exec = Jvm.exec) (hb : c.code = cc) {x y : Int} {off : Int} {tgt : Nat} (hdg : decode cc pc = .ok (.if_icmp .ne off, 3)) (ht : (pc : Int) + off = (tgt : Int)) (h1 : -2147483648 ≤ x ∧ x ≤ 2147483647) (h2 : -2147483648 ≤ y ∧ y ≤ 2147483647)
    (kt : ¬ x = y → W p l e R s m args below meth c H locs cells slots Q (F0 m tgt ls rest)) (kf : x = y → W p l e R s m args below meth c H locs cells slots Q (F0 m (pc + 3) ls rest)) : W p l e R s m args below meth c H locs cells slots Q (F0 m pc ls (.int (I y) :: .int (I x) :: rest)) :=
  lv_icmp_ne hx hb hdg ht (fun h => kt (fun q => h ((I_inj h1 h2).mpr q))) (fun h => kf ((I_inj h1 h2).mp h))
theorem iv_icmp_lt (hx : p.tables.exec = Jvm.exec) (hb : c.code = cc) {x y : Int} {off : Int} {tgt : Nat} (hdg : decode cc pc = .ok (.if_icmp .lt off, 3)) (ht : (pc : Int) + off = (tgt : Int)) (h1 : -2147483648 ≤ x ∧ x ≤ 2147483647) (h2 : -2147483648 ≤ y ∧ y ≤ 2147483647)
    (kt : x < y → W p l e R s m args below meth c H locs cells slots Q (F0 m tgt ls rest)) (kf : ¬ x < y → W p l e R s m args below meth c H locs cells slots Q (F0 m (pc + 3) ls rest)) : W p l e R s m args below meth c H locs cells slots Q (F0 m pc ls (.int (I y) :: .int (I x) :: rest)) :=
  lv_icmp_lt hx hb hdg ht (fun h => kt ((I_lt h1 h2).mp h)) (fun h => kf (fun q => h ((I_lt h1 h2).mpr q)))
theorem iv_icmp_ge (hx : p.tables.exec = Jvm.exec) (hb : c.code = cc) {x y : Int} {off : Int} {tgt : Nat} (hdg : decode cc pc = .ok (.if_icmp .ge off, 3)) (ht : (pc : Int) + off = (tgt : Int)) (h1 : -2147483648 ≤ x ∧ x ≤ 2147483647) (h2 : -2147483648 ≤ y ∧ y ≤ 2147483647)
    (kt : y ≤ x → W p l e R s m args below meth c H locs cells slots Q (F0 m tgt ls rest)) (kf : ¬ y ≤ x → W p l e R s m args below meth c H locs cells slots Q (F0 m (pc + 3) ls rest)) : W p l e R s m args below meth c H locs cells slots Q (F0 m pc ls (.int (I y) :: .int (I x) :: rest)) :=
  lv_icmp_ge hx hb hdg ht (fun h => kt ((I_le h2 h1).mp h)) (fun h => kf (fun q => h ((I_le h2 h1).mpr q)))
theorem iv_icmp_gt (hx : p.tables.exec = Jvm.exec) (hb : c.code = cc) {x y : Int} {off : Int} {tgt : Nat} (hdg : decode cc pc = .ok (.if_icmp .gt off, 3)) (ht : (pc : Int) + off = (tgt : Int)) (h1 : -2147483648 ≤ x ∧ x ≤ 2147483647) (h2 : -2147483648 ≤ y ∧ y ≤ 2147483647)
    (kt : y < x → W p l e R s m args below meth c H locs cells slots Q (F0 m tgt ls rest)) (kf : ¬ y < x → W p l e R s m args below meth c H locs cells slots Q (F0 m (pc + 3) ls rest)) : W p l e R s m args below meth c H locs cells slots Q (F0 m pc ls (.int (I y) :: .int (I x) :: rest)) :=
  lv_icmp_gt hx hb hdg ht (fun h => kt ((I_lt h2 h1).mp h)) (fun h => kf (fun q => h ((I_lt h2 h1).mpr q)))
theorem iv_icmp_le (hx : p.tables.exec = Jvm.exec) (hb : c.code = cc) {x y : Int} {off : Int} {tgt : Nat} (hdg : decode cc pc = .ok (.if_icmp .le off, 3)) (ht : (pc : Int) + off = (tgt : Int)) (h1 : -2147483648 ≤ x ∧ x ≤ 2147483647) (h2 : -2147483648 ≤ y ∧ y ≤ 2147483647)
    (kt : x ≤ y → W p l e R s m args below meth c H locs cells slots Q (F0 m tgt ls rest)) (kf : ¬ x ≤ y → W p l e R s m args below meth c H locs cells slots Q (F0 m (pc + 3) ls rest)) : W p l e R s m args below meth c H locs cells slots Q (F0 m pc ls (.int (I y) :: .int (I x) :: rest)) :=
  lv_icmp_le hx hb hdg ht (fun h => kt ((I_le h1 h2).mp h)) (fun h => kf (fun q => h ((I_le h1 h2).mpr q)))
end IV
abbrev iA (E : Env3) (n : Nat) (g : Nat → Int) : va_E := .inl (E.2.1, n, .inl (fun i => I (g i)))
section IW
variable {p : Program} {l : Launch} {e : Jvm.Env} {R : Room} {s : State} {m : MethodId} {args : Array Value} {below : List Frame} {meth : Method} {c : Code} {H : Heap} {locs : List Loc} {cells slots : Nat} {Q : State → Prop}
variable {cc : ByteArray} {pc : Nat} {ls : Array Slot} {rest st0 : List Value} {E : Env3} {A : Nat → Prop} {H0 : Heap} {a : Nat} {ws : va_W}
theorem iv_iald (hx : p.tables.exec = Jvm.exec) (hb : c.code = cc) (hK : KB E s) (hP : va_P E.1 vwCl ws H) (q0 : Nat) {n : Nat} {g : Nat → Int} (ha : ws[q0]? = some (a, iA E n g)) {i : Int} (k : Nat) (hk : i = (k : Int)) (hkn : k < n ∧ n ≤ 2147483647) (hdg : decode cc pc = .ok (.iaload, 1))
    (kk : W p l e R s m args below meth c H locs cells slots Q (F0 m (pc + 1) ls (.int (I (g k)) :: rest))) : W p l e R s m args below meth c H locs cells slots Q (F0 m pc ls (.int (I i) :: .ref a :: rest)) := by
  subst hk
  refine va_iald hx hb hK.1 hP q0 0 ha rfl (I_in hkn.1 hkn.2) hdg ?_
  rw [I_nat (by omega)]
  exact kk
theorem iv_iast (hx : p.tables.exec = Jvm.exec) (hb : c.code = cc) (hK : KB E s) (hP : va_P E.1 vwCl ws H) (hD : va_D A ws) (hS : va_S A H0 H locs) (q0 : Nat) {n : Nat} {g : Nat → Int} (ha : ws[q0]? = some (a, iA E n g)) {i v : Int} (k : Nat) (hk : i = (k : Int)) (hkn : k < n ∧ n ≤ 2147483647) (hdg : decode cc pc = .ok (.iastore, 1)) (ws' : va_W) (hw : ws.set q0 (a, iA E n (up g k v)) = ws')
    (kk : ∀ (H1 : Heap) (locs1 : List Loc), va_P E.1 vwCl ws' H1 → va_S A H0 H1 locs1 → W p l e R s m args below meth c H1 locs1 cells slots Q (F0 m (pc + 1) ls rest)) : W p l e R s m args below meth c H locs cells slots Q (F0 m pc ls (.int (I v) :: .int (I i) :: .ref a :: rest)) := by
  subst hk
  refine va_iast hx hb hK.1 hP hD hS q0 0 ha rfl (I_in hkn.1 hkn.2) hdg ?_
  intro H1 locs1 hP1 _ hS1
  refine kk H1 locs1 ?_ hS1
  rw [I_nat (by omega), upd_I] at hP1
  rw [← hw]
  exact hP1
/-- a call that writes nothing -/
theorem call_S {v : Option Value} {aa : Array Value} {free : Addr → Prop} (hr : va_Run p l e R s m args below meth c H locs cells slots 0 0 (F0 m pc ls st0) rest (qS v aa) free) (hf : ∀ q, ¬ free q) (hS : va_S A H0 H locs) {st1 : List Value} (h1 : v.toList ++ rest = st1)
    (kk : ∀ locs1 : List Loc, va_S A H0 H locs1 → W p l e R s m args below meth c H locs1 cells slots Q (F0 m (pc + 3) ls st1)) : W p l e R s m args below meth c H locs cells slots Q (F0 m pc ls st0) := by
  intro T hT X
  obtain ⟨v', st₀, t, T', L, h0, X', hL, e1, e2, ⟨hv, hh⟩, st⟩ := hr T hT X
  cases hv
  subst h1
  obtain ⟨t2, a1, b1⟩ := kk (locs ++ L) ⟨hS.1, hS.2.1, fun q hq => by
      rcases List.mem_append.mp hq with h | h
      · exact hS.2.2 q h
      · exact absurd (hL q h) (hf _)⟩ T' (by rw [e1, hh, h0]) X'
  exact ⟨t2, st t2 a1, b1⟩
/-- a call that writes at some places of the world -/
theorem call_W {v : Option Value} {aa : Array Value} {wc w1 : va_W} (hr : va_Run p l e R s m args below meth c H locs cells slots 0 0 (F0 m pc ls st0) rest (qW v E wc w1 aa) (adIn wc)) (hP : va_P E.1 vwCl ws H) (hD : va_D A ws) (hS : va_S A H0 H locs) (is : List Nat) (hC : is.map (fun i => ws[i]?) = wc.map some) (hn : va_nd is = true) (hl : is.length = w1.length)
    (ws' : va_W) (hw : setAll ws is w1 = ws') {st1 : List Value} (h1 : v.toList ++ rest = st1)
    (kk : ∀ (H1 : Heap) (locs1 : List Loc), va_P E.1 vwCl ws' H1 → va_S A H0 H1 locs1 → W p l e R s m args below meth c H1 locs1 cells slots Q (F0 m (pc + 3) ls st1)) : W p l e R s m args below meth c H locs cells slots Q (F0 m pc ls st0) := by
  intro T hT X
  obtain ⟨v', st₀, t, T', L, h0, X', hL, e1, e2, ⟨hv, hP1, hz, hk⟩, st⟩ := hr T hT X
  cases hv
  subst h1
  have hA : ∀ q, adIn wc q → A q := by
    intro q hq
    obtain ⟨j, e', hj⟩ := hq
    have h9 : (is.map (fun i => ws[i]?))[j]? = some (some (q, e')) := by rw [hC, List.getElem?_map, hj]; rfl
    rw [List.getElem?_map] at h9
    cases hi : is[j]? with
    | none => rw [hi] at h9; cases h9
    | some i => rw [hi] at h9; exact hD.2 i (q, e') (Option.some.inj h9)
  rw [h0] at hz hk
  rw [← e1] at hP1 hz hk
  obtain ⟨t2, a1, b1⟩ := kk T'.heap (locs ++ L) (mj_P is hP hD hC hk hP1 hw hn hl)
    ⟨Nat.le_trans hS.1 hz, fun q h1 h2 => by rw [hk q (Nat.lt_of_lt_of_le h1 hS.1) (fun z => h2 (hA q z))]; exact hS.2.1 q h1 h2, fun q hq => by
      rcases List.mem_append.mp hq with h | h
      · exact hS.2.2 q h
      · exact hA _ (hL q h)⟩ T' rfl X'
  exact ⟨t2, st t2 a1, b1⟩
/-- the same, where the callee's world is the whole -/
theorem call_F {v : Option Value} {aa : Array Value} {w1 : va_W} (hr : va_Run p l e R s m args below meth c H locs cells slots 0 0 (F0 m pc ls st0) rest (qW v E ws w1 aa) (adIn ws)) (hD : va_D A ws) (hS : va_S A H0 H locs) {st1 : List Value} (h1 : v.toList ++ rest = st1)
    (kk : ∀ (H1 : Heap) (locs1 : List Loc), va_P E.1 vwCl w1 H1 → va_S A H0 H1 locs1 → W p l e R s m args below meth c H1 locs1 cells slots Q (F0 m (pc + 3) ls st1)) : W p l e R s m args below meth c H locs cells slots Q (F0 m pc ls st0) := by
  intro T hT X
  obtain ⟨v', st₀, t, T', L, h0, X', hL, e1, e2, ⟨hv, hP1, hz, hk⟩, st⟩ := hr T hT X
  cases hv
  subst h1
  have hA : ∀ q, adIn ws q → A q := fun q hq => by obtain ⟨j, e', hj⟩ := hq; exact hD.2 j _ hj
  rw [h0] at hz hk
  rw [← e1] at hP1 hz hk
  obtain ⟨t2, a1, b1⟩ := kk T'.heap (locs ++ L) hP1
    ⟨Nat.le_trans hS.1 hz, fun q h1 h2 => by rw [hk q (Nat.lt_of_lt_of_le h1 hS.1) (fun z => h2 (hA q z))]; exact hS.2.1 q h1 h2, fun q hq => by
      rcases List.mem_append.mp hq with h | h
      · exact hS.2.2 q h
      · exact hA _ (hL q h)⟩ T' rfl X'
  exact ⟨t2, st t2 a1, b1⟩
theorem call_X {σ : Type} {v : Option Value} {aa : Array Value} {w1 : σ → va_W} (hr : va_Run p l e R s m args below meth c H locs cells slots 0 0 (F0 m pc ls st0) rest (qX v E ws w1 aa) (adIn ws)) (hD : va_D A ws) (hS : va_S A H0 H locs) {st1 : List Value} (h1 : v.toList ++ rest = st1)
    (kk : ∀ (g : σ) (H1 : Heap) (locs1 : List Loc), va_P E.1 vwCl (w1 g) H1 → va_S A H0 H1 locs1 → W p l e R s m args below meth c H1 locs1 cells slots Q (F0 m (pc + 3) ls st1)) : W p l e R s m args below meth c H locs cells slots Q (F0 m pc ls st0) := by
  intro T hT X
  obtain ⟨v', st₀, t, T', L, h0, X', hL, e1, e2, ⟨hv, ⟨g, hP1⟩, hz, hk⟩, st⟩ := hr T hT X
  cases hv
  subst h1
  have hA : ∀ q, adIn ws q → A q := fun q hq => by obtain ⟨j, e', hj⟩ := hq; exact hD.2 j _ hj
  rw [h0] at hz hk
  rw [← e1] at hP1 hz hk
  obtain ⟨t2, a1, b1⟩ := kk g T'.heap (locs ++ L) hP1
    ⟨Nat.le_trans hS.1 hz, fun q h1 h2 => by rw [hk q (Nat.lt_of_lt_of_le h1 hS.1) (fun z => h2 (hA q z))]; exact hS.2.1 q h1 h2, fun q hq => by
      rcases List.mem_append.mp hq with h | h
      · exact hS.2.2 q h
      · exact hA _ (hL q h)⟩ T' rfl X'
  exact ⟨t2, st t2 a1, b1⟩
end IW
theorem bool_nar {c : Prop} [Decidable c] : narrow .boolean (.int (I (if c then 1 else 0))) = .int (I (if c then 1 else 0)) := by split <;> rfl
end
section
/-! the pure pictures -/
abbrev S : Type := Nat → Int
def layN (g : S) (f : Nat) (h : S) (t n : Nat) : S := fun j => if t ≤ j ∧ j < t + n then g (f + (j - t)) else h j
theorem layN_0 (g : S) (f : Nat) (h : S) (t : Nat) : layN g f h t 0 = h := by
  funext j; unfold layN; rw [if_neg (by omega)]
theorem layN_s (g : S) (f : Nat) (h : S) (t n : Nat) : up (layN g f h t n) (t + n) (g (f + n)) = layN g f h t (n + 1) := by
  funext j; unfold layN up
  by_cases h1 : j = t + n
  · subst h1; rw [if_pos rfl, if_pos (by omega)]; congr 1; omega
  · rw [if_neg h1]
    by_cases h2 : t ≤ j ∧ j < t + n <;> dsimp only
    · rw [if_pos h2, if_pos (by omega)]
    · rw [if_neg h2, if_neg (by omega)]
abbrev lay (g : S) (f : Nat) (h : S) (t : Nat) : S := layN g f h t 252
/-- the reference's cells -/
abbrev refW (E : Env3) (ρ : Nat → Nat) (th rc tl pa kd nm : Int) (st hi ke tx wy : S) : va_W :=
  [(ρ 0, .inr (6, [.int (I th), .ref (ρ 1), .ref (ρ 2), .int (I rc), .ref (ρ 3), .ref (ρ 4), .int (I tl), .ref (ρ 5), .int (I pa), .int (I kd), .int (I nm)])),
   (ρ 1, iA E 252 st), (ρ 2, iA E 1512 hi), (ρ 3, iA E 252 ke), (ρ 4, iA E 60 tx), (ρ 5, iA E 6 wy)]
def dR (ρ : Nat → Nat) (n : Nat) : Prop := ∀ i j, i < n → j < n → ρ i = ρ j → i = j
theorem D_of_dR {ρ : Nat → Nat} {n : Nat} {ws : va_W} (h : dR ρ n) (e : ws.map (·.1) = (List.range n).map ρ) : va_D (adIn ws) ws := by
  refine dself ⟨fun i j p q hp hq hpq => ?_, fun _ _ _ => trivial⟩
  have get : ∀ (i : Nat) (p : Nat × va_E), ws[i]? = some p → i < n ∧ p.1 = ρ i := by
    intro i p hp
    have h1 : (ws.map (·.1))[i]? = some p.1 := by rw [List.getElem?_map, hp]; rfl
    rw [e, List.getElem?_map] at h1
    by_cases hi : i < n
    · rw [List.getElem?_range hi] at h1
      exact ⟨hi, (Option.some.inj h1).symm⟩
    · rw [List.getElem?_eq_none (by simpa using hi)] at h1
      cases h1
  obtain ⟨a1, a2⟩ := get i p hp
  obtain ⟨b1, b2⟩ := get j q hq
  exact h i j a1 b1 (by rw [← a2, ← b2, hpq])
theorem D_2 {a b : Nat} {e1 e2 : va_E} (h : a ≠ b) : va_D (adIn [(a, e1), (b, e2)]) [(a, e1), (b, e2)] := by
  refine dself ⟨fun i j p q hp hq hpq => ?_, fun _ _ _ => trivial⟩
  match i, j, hp, hq with
  | 0, 0, _, _ => rfl
  | 1, 1, _, _ => rfl
  | 0, 1, hp, hq => cases hp; cases hq; exact absurd hpq h
  | 1, 0, hp, hq => cases hp; cases hq; exact absurd hpq.symm h
  | i + 2, _, hp, _ => simp at hp
  | 0, j + 2, _, hq => simp at hq
  | 1, j + 2, _, hq => simp at hq
theorem D_1 {a : Nat} {e1 : va_E} : va_D (adIn [(a, e1)]) [(a, e1)] := by
  refine dself ⟨fun i j p q hp hq hpq => ?_, fun _ _ _ => trivial⟩
  match i, j, hp, hq with
  | 0, 0, _, _ => rfl
  | i + 1, _, hp, _ => simp at hp
  | 0, j + 1, _, hq => simp at hq
/-! what the state's numbers say: 0 time, 1 solved, 2 questions, 3 hits, 4 came, 5 went; 6 + 5 z + k of a zone; 36 + 6 r + k of a riddle -/
def par (st : S) (z : Nat) : Nat := (st (6 + 5 * z)).toNat
def costs (st : S) (z : Nat) : S := up (up st 2 (st 2 + 1)) (6 + 5 * z + 4) (up st 2 (st 2 + 1) (6 + 5 * z + 4) + 1)
/-- the way to z is asked of p -/
def way2 (st : S) (p z : Nat) : S := up (up (costs st p) (6 + 5 * z + 3) (costs st p 0 + costs st p (6 + 5 * p + 1))) 4 (up (costs st p) (6 + 5 * z + 3) (costs st p 0 + costs st p (6 + 5 * p + 1)) 4 + 1)
def come : Nat → S → Nat → S
  | 0, st, _ => st
  | n + 1, st, z => if z = 0 ∨ st (6 + 5 * z + 3) ≠ 0 then st else way2 (come n st (par st z)) (par st z) z
def hold1 (st : S) (r : Nat) : S := up st (36 + 6 * r + 3) (if st (36 + 6 * r) = 0 then 3 else st (36 + 6 * r))
def hold2 (st : S) (r : Nat) : S := up (hold1 st r) (36 + 6 * r + 4) (hold1 st r (36 + 6 * r + 1))
def hold3 (st : S) (r z : Nat) : S := up (hold2 st r) (36 + 6 * r + 5) (hold2 st r 0 + (if st (36 + 6 * r) = 0 then hold2 st r (6 + 5 * z + 2) else hold2 st r (36 + 6 * r + 2)))
def hold (st : S) (r z : Nat) : S := up (hold3 st r z) 4 (hold3 st r z 4 + 1)
def asks (st : S) (r : Nat) : S := hold (costs (come 6 st (r / 6)) (r / 6)) r (r / 6)
def take (st : S) (r : Nat) : S := if st (36 + 6 * r + 3) = 0 then asks st r else up st 3 (st 3 + 1)
def solvesF : Nat → S → Nat → S × Int
  | 0, st, _ => (st, -2)
  | n + 1, st, r => if take st r (36 + 6 * r + 3) = 2 then solvesF n (take st r) (take st r (36 + 6 * r + 4)).toNat else (take st r, if take st r (36 + 6 * r + 3) = 1 then take st r (36 + 6 * r + 4) else -1)
def solve1 (st : S) (r : Nat) : S × Int := solvesF 7 (up st 1 (st 1 + 1)) r
def forg3 (st : S) (r : Nat) : S := up (up (up st (36 + 6 * r + 3) 0) (36 + 6 * r + 4) 0) (36 + 6 * r + 5) 0
def forg (st : S) (r : Nat) : S := up (forg3 st r) 5 (forg3 st r 5 + 1)
def iter (f : S → Nat → S) : Nat → S → S
  | 0, s => s
  | n + 1, s => f (iter f n s) n
def passZ (st : S) (z : Nat) : S := if 0 < st (6 + 5 * z + 3) ∧ st (6 + 5 * z + 3) ≤ st 0 then up (up st (6 + 5 * z + 3) 0) 5 (up st (6 + 5 * z + 3) 0 5 + 1) else st
def passR (st : S) (r : Nat) : S := if st (36 + 6 * r + 3) ≠ 0 ∧ st (36 + 6 * r + 5) ≤ st 0 then forg st r else st
def passes (st : S) (t : Int) : S := iter passR 36 (iter passZ 6 (up st 0 (st 0 + t)))
def truthF : Nat → S → Nat → Int
  | 0, _, _ => -2
  | n + 1, st, r => if st (36 + 6 * r) = 2 then truthF n st (st (36 + 6 * r + 1)).toNat else st (36 + 6 * r + 1)
def depthF : Nat → S → Nat → Int
  | 0, _, _ => 0
  | n + 1, st, z => if z = 0 then 0 else 1 + depthF n st (par st z)
def left (st : S) (e : Int) : Int := if e = 0 then -1 else e - st 0
def sumN (f : Nat → Int) : Nat → Int
  | 0 => 0
  | n + 1 => sumN f n + f n
def memo (st : S) : Int := sumN (fun z => if 0 < st (6 + 5 * z + 3) then 1 else 0) 6 + sumN (fun r => if 0 < st (36 + 6 * r + 5) then 1 else 0) 36
def sooner (a b : Int) : Int := if a = -1 ∨ (b ≠ -1 ∧ b < a) then b else a
def foldN (g : Int → Nat → Int) : Nat → Int → Int
  | 0, a => a
  | n + 1, a => g (foldN g n a) n
def untl (st : S) : Int := foldN (fun a r => sooner a (left st (st (36 + 6 * r + 5)))) 36 (foldN (fun a z => sooner a (left st (st (6 + 5 * z + 3)))) 6 (-1))
def isOld (st : S) (r : Nat) : Prop := st (36 + 6 * r + 3) ≠ 0 ∧ ¬ (if st (36 + 6 * r + 3) = 3 then st (36 + 6 * r) = 0 else st (36 + 6 * r + 3) = st (36 + 6 * r) ∧ st (36 + 6 * r + 4) = st (36 + 6 * r + 1))
def would (st : S) (r : Nat) : Int := (solvesF 7 st r).2
def cost (st : S) (r : Nat) : Int := (solvesF 7 st r).1 2 - st 2
def wouldIn (st : S) (r : Nat) (t : Int) : Int := (solvesF 7 (passes st t) r).2
def waitF : Nat → S → Nat → Nat → Nat
  | 0, _, _, k => k
  | n + 1, st, r, k => if wouldIn st r k = truthF 7 st r then k else waitF n st r (k + 1)
/-! the ranges -/
def triT (k v a : Int) : Prop := (k = 0 ∧ v = -1 ∧ a = 0) ∨ (k = 1 ∧ 0 ≤ v ∧ v ≤ 99 ∧ 1 ≤ a ∧ a ≤ 99) ∨ (k = 2 ∧ 0 ≤ v ∧ v < 36 ∧ 1 ≤ a ∧ a ≤ 99)
def triM (T k v e : Int) : Prop := (k = 0 ∧ v = 0 ∧ e = 0) ∨ (k = 1 ∧ 0 ≤ v ∧ v ≤ 99 ∧ 1 ≤ e ∧ e ≤ T + 99) ∨ (k = 2 ∧ 0 ≤ v ∧ v < 36 ∧ 1 ≤ e ∧ e ≤ T + 99) ∨ (k = 3 ∧ v = -1 ∧ 1 ≤ e ∧ e ≤ T + 99)
def zoneB (T : Int) (st : S) (z : Nat) : Prop := (1 ≤ z → 0 ≤ st (6 + 5 * z) ∧ st (6 + 5 * z) < z) ∧ 1 ≤ st (6 + 5 * z + 1) ∧ st (6 + 5 * z + 1) ≤ 99 ∧ 1 ≤ st (6 + 5 * z + 2) ∧ st (6 + 5 * z + 2) ≤ 99 ∧ 0 ≤ st (6 + 5 * z + 3) ∧ st (6 + 5 * z + 3) ≤ T + 99
def IB (T : Int) (st : S) : Prop := (0 ≤ st 0 ∧ st 0 ≤ T ∧ T ≤ 100000) ∧ (st 6 = -1 ∧ st 9 = 0) ∧ (∀ z, z < 6 → zoneB T st z) ∧ ∀ r, r < 36 → triT (st (36 + 6 * r)) (st (36 + 6 * r + 1)) (st (36 + 6 * r + 2)) ∧ triM T (st (36 + 6 * r + 3)) (st (36 + 6 * r + 4)) (st (36 + 6 * r + 5))
/-- what is remembered ends later than now, and not too late -/
def IT (st : S) : Prop := (∀ z, z < 6 → st (6 + 5 * z + 3) = 0 ∨ (st 0 < st (6 + 5 * z + 3) ∧ st (6 + 5 * z + 3) ≤ st 0 + 99)) ∧ ∀ r, r < 36 → st (36 + 6 * r + 3) = 0 ∨ (st 0 < st (36 + 6 * r + 5) ∧ st (36 + 6 * r + 5) ≤ st 0 + 99)
theorem triT_up {st : S} {i : Nat} {v : Int} {r : Nat} (h : triT (st (36 + 6 * r)) (st (36 + 6 * r + 1)) (st (36 + 6 * r + 2))) (h1 : i ≠ 36 + 6 * r) (h2 : i ≠ 36 + 6 * r + 1) (h3 : i ≠ 36 + 6 * r + 2) : triT (up st i v (36 + 6 * r)) (up st i v (36 + 6 * r + 1)) (up st i v (36 + 6 * r + 2)) := by
  rw [up_ne _ _ (Ne.symm h1), up_ne _ _ (Ne.symm h2), up_ne _ _ (Ne.symm h3)]; exact h
/-- a place that no range speaks of -/
theorem IB_free {T : Int} {st : S} (h : IB T st) (i : Nat) (v : Int) (hi : (1 ≤ i ∧ i < 6) ∨ ∃ z, z < 6 ∧ i = 6 + 5 * z + 4) : IB T (up st i v) := by
  obtain ⟨h0, h1, h2, h3⟩ := h
  have hi' : (1 ≤ i ∧ i < 6) ∨ (i % 5 = 0 ∧ 10 ≤ i ∧ i < 36) := by rcases hi with hi | ⟨z, hz, hi⟩ <;> omega
  have e : ∀ j, (j < 1 ∨ (6 ≤ j ∧ j % 5 ≠ 0) ∨ 36 ≤ j) → up st i v j = st j := fun j hj => up_ne _ _ (by omega)
  refine ⟨by rw [e 0 (by omega)]; exact h0, by rw [e 6 (by omega), e 9 (by omega)]; exact h1, fun z hz => ?_, fun r hr => ?_⟩
  · unfold zoneB
    rw [e (6 + 5 * z) (by omega), e (6 + 5 * z + 1) (by omega), e (6 + 5 * z + 2) (by omega), e (6 + 5 * z + 3) (by omega)]
    exact h2 z hz
  · rw [e (36 + 6 * r) (by omega), e (36 + 6 * r + 1) (by omega), e (36 + 6 * r + 2) (by omega), e (36 + 6 * r + 3) (by omega), e (36 + 6 * r + 4) (by omega), e (36 + 6 * r + 5) (by omega)]
    exact h3 r hr
theorem IB_ends {T : Int} {st : S} (h : IB T st) (z : Nat) (v : Int) (hz : 1 ≤ z ∧ z < 6) (hv : 0 ≤ v ∧ v ≤ T + 99) : IB T (up st (6 + 5 * z + 3) v) := by
  obtain ⟨h0, h1, h2, h3⟩ := h
  have e : ∀ j, j ≠ 6 + 5 * z + 3 → up st (6 + 5 * z + 3) v j = st j := fun j hj => up_ne _ _ hj
  refine ⟨by rw [e 0 (by omega)]; exact h0, by rw [e 6 (by omega), e 9 (by omega)]; exact h1, fun y hy => ?_, fun r hr => ?_⟩
  · have hb := h2 y hy
    unfold zoneB at hb ⊢
    rw [e (6 + 5 * y) (by omega), e (6 + 5 * y + 1) (by omega), e (6 + 5 * y + 2) (by omega)]
    by_cases hyz : y = z
    · subst hyz; rw [up_eq]; omega
    · rw [e (6 + 5 * y + 3) (by omega)]; exact hb
  · rw [e (36 + 6 * r) (by omega), e (36 + 6 * r + 1) (by omega), e (36 + 6 * r + 2) (by omega), e (36 + 6 * r + 3) (by omega), e (36 + 6 * r + 4) (by omega), e (36 + 6 * r + 5) (by omega)]
    exact h3 r hr
theorem IB_saved {T : Int} {st : S} (h : IB T st) (r : Nat) (k v e' : Int) (hr : r < 36) (hv : triM T k v e') : IB T (up (up (up st (36 + 6 * r + 3) k) (36 + 6 * r + 4) v) (36 + 6 * r + 5) e') := by
  obtain ⟨h0, h1, h2, h3⟩ := h
  have e : ∀ j, j ≠ 36 + 6 * r + 3 → j ≠ 36 + 6 * r + 4 → j ≠ 36 + 6 * r + 5 → up (up (up st (36 + 6 * r + 3) k) (36 + 6 * r + 4) v) (36 + 6 * r + 5) e' j = st j := fun j h1 h2 h3 => by rw [up_ne _ _ h3, up_ne _ _ h2, up_ne _ _ h1]
  refine ⟨by rw [e 0 (by omega) (by omega) (by omega)]; exact h0, by rw [e 6 (by omega) (by omega) (by omega), e 9 (by omega) (by omega) (by omega)]; exact h1, fun y hy => ?_, fun q hq => ?_⟩
  · unfold zoneB
    rw [e (6 + 5 * y) (by omega) (by omega) (by omega), e (6 + 5 * y + 1) (by omega) (by omega) (by omega), e (6 + 5 * y + 2) (by omega) (by omega) (by omega), e (6 + 5 * y + 3) (by omega) (by omega) (by omega)]
    exact h2 y hy
  · rw [e (36 + 6 * q) (by omega) (by omega) (by omega), e (36 + 6 * q + 1) (by omega) (by omega) (by omega), e (36 + 6 * q + 2) (by omega) (by omega) (by omega)]
    refine ⟨(h3 q hq).1, ?_⟩
    by_cases hqr : q = r
    · subst hqr
      have e3 : ∀ x y z : Int, up (up (up st (36 + 6 * q + 3) x) (36 + 6 * q + 4) y) (36 + 6 * q + 5) z (36 + 6 * q + 3) = x := fun x y z => by rw [up_ne _ _ (by omega), up_ne _ _ (by omega), up_eq]
      have e4 : ∀ x y z : Int, up (up (up st (36 + 6 * q + 3) x) (36 + 6 * q + 4) y) (36 + 6 * q + 5) z (36 + 6 * q + 4) = y := fun x y z => by rw [up_ne _ _ (by omega), up_eq]
      rw [e3, e4, up_eq]
      exact hv
    · rw [e (36 + 6 * q + 3) (by omega) (by omega) (by omega), e (36 + 6 * q + 4) (by omega) (by omega) (by omega), e (36 + 6 * q + 5) (by omega) (by omega) (by omega)]
      exact (h3 q hq).2
theorem IB_par {T : Int} {st : S} (h : IB T st) {z : Nat} (h1 : 1 ≤ z) (hz : z < 6) : st (6 + 5 * z) = (par st z : Int) ∧ par st z < z := by
  have := (h.2.2.1 z hz).1 h1
  unfold par
  omega
theorem IB_mono {T U : Int} {st : S} (h : IB T st) (hTU : T ≤ U) (hU : U ≤ 100000) : IB U st := by
  obtain ⟨h0, h1, h2, h3⟩ := h
  refine ⟨by omega, h1, fun z hz => ?_, fun r hr => ⟨(h3 r hr).1, ?_⟩⟩
  · have := h2 z hz; unfold zoneB at this ⊢; omega
  · have := (h3 r hr).2; unfold triM at this ⊢; omega
theorem IB_costs {T : Int} {st : S} (h : IB T st) {z : Nat} (hz : z < 6) : IB T (costs st z) := IB_free (IB_free h 2 _ (by omega)) _ _ (Or.inr ⟨z, hz, rfl⟩)
theorem costs_ne {st : S} {z j : Nat} (h : j ≠ 2) (h2 : j ≠ 6 + 5 * z + 4) : costs st z j = st j := by unfold costs; rw [up_ne _ _ h2, up_ne _ _ h]
theorem IB_way2 {T : Int} {st : S} (h : IB T st) {p z : Nat} (hp : p < 6) (hz : 1 ≤ z ∧ z < 6) : IB T (way2 st p z) := by
  refine IB_free (IB_ends (IB_costs h hp) z _ hz ?_) 4 _ (by omega)
  rw [costs_ne (by omega) (by omega), costs_ne (by omega) (by omega)]
  have h2 := h.2.2.1 p hp
  have h0 := h.1
  unfold zoneB at h2
  omega
theorem way2_ne {st : S} {p z j : Nat} (h2 : j ≠ 2) (h4 : j ≠ 4) (ha : j ≠ 6 + 5 * p + 4) (he : j ≠ 6 + 5 * z + 3) : way2 st p z j = st j := by
  unfold way2; rw [up_ne _ _ h4, up_ne _ _ he, costs_ne h2 ha]
theorem come_all {T : Int} : ∀ (n : Nat) {st : S} (_ : IB T st) {z : Nat} (_ : z < 6), IB T (come n st z) ∧ ∀ j, j ≠ 2 → j ≠ 4 → (∀ p, p < 6 → j ≠ 6 + 5 * p + 4 ∧ j ≠ 6 + 5 * p + 3) → come n st z j = st j
  | 0, st, h, z, hz => ⟨h, fun _ _ _ _ => rfl⟩
  | n + 1, st, h, z, hz => by
    unfold come
    split
    · exact ⟨h, fun _ _ _ _ => rfl⟩
    · rename_i hc
      have hp := IB_par h (z := z) (by omega) hz
      obtain ⟨a, b⟩ := come_all n h (z := par st z) (by omega)
      refine ⟨IB_way2 a (by omega) (by omega), fun j h2 h4 hj => ?_⟩
      rw [way2_ne h2 h4 (hj (par st z) (by omega)).1 (hj z hz).2, b j h2 h4 hj]
theorem IB_come {T : Int} {n : Nat} {st : S} (h : IB T st) {z : Nat} (hz : z < 6) : IB T (come n st z) := (come_all n h hz).1
theorem hold_eq (st : S) (r z : Nat) (hr : r < 36) (hz : z < 6) : hold st r z = up (up (up (up st (36 + 6 * r + 3) (if st (36 + 6 * r) = 0 then 3 else st (36 + 6 * r))) (36 + 6 * r + 4) (st (36 + 6 * r + 1))) (36 + 6 * r + 5) (st 0 + (if st (36 + 6 * r) = 0 then st (6 + 5 * z + 2) else st (36 + 6 * r + 2)))) 4 (st 4 + 1) := by
  unfold hold hold3 hold2 hold1
  simp only [up_ne _ _ (show 36 + 6 * r + 1 ≠ 36 + 6 * r + 3 by omega), up_ne _ _ (show 0 ≠ 36 + 6 * r + 4 by omega), up_ne _ _ (show 0 ≠ 36 + 6 * r + 3 by omega), up_ne _ _ (show 6 + 5 * z + 2 ≠ 36 + 6 * r + 4 by omega), up_ne _ _ (show 6 + 5 * z + 2 ≠ 36 + 6 * r + 3 by omega), up_ne _ _ (show 36 + 6 * r + 2 ≠ 36 + 6 * r + 4 by omega), up_ne _ _ (show 36 + 6 * r + 2 ≠ 36 + 6 * r + 3 by omega), up_ne _ _ (show 4 ≠ 36 + 6 * r + 5 by omega), up_ne _ _ (show 4 ≠ 36 + 6 * r + 4 by omega), up_ne _ _ (show 4 ≠ 36 + 6 * r + 3 by omega)]
theorem IB_hold {T : Int} {st : S} (h : IB T st) {r z : Nat} (hr : r < 36) (hz : z < 6) : IB T (hold st r z) := by
  rw [hold_eq st r z hr hz]
  refine IB_free (IB_saved h r _ _ _ hr ?_) 4 _ (by omega)
  have h3 := (h.2.2.2 r hr).1
  have h2 := h.2.2.1 z hz
  have h0 := h.1
  unfold triT at h3; unfold zoneB at h2; unfold triM
  split <;> omega
theorem IB_asks {T : Int} {st : S} (h : IB T st) {r : Nat} (hr : r < 36) : IB T (asks st r) := IB_hold (IB_costs (IB_come h (by omega)) (by omega)) hr (by omega)
theorem IB_take {T : Int} {st : S} (h : IB T st) {r : Nat} (hr : r < 36) : IB T (take st r) := by
  unfold take; split
  · exact IB_asks h hr
  · exact IB_free h 3 _ (by omega)
theorem IB_next {T : Int} {st : S} (h : IB T st) {r : Nat} (hr : r < 36) (hk : st (36 + 6 * r + 3) = 2) : st (36 + 6 * r + 4) = ((st (36 + 6 * r + 4)).toNat : Int) ∧ (st (36 + 6 * r + 4)).toNat < 36 := by
  have := (h.2.2.2 r hr).2
  unfold triM at this; omega
theorem IB_nextT {T : Int} {st : S} (h : IB T st) {r : Nat} (hr : r < 36) (hk : st (36 + 6 * r) = 2) : st (36 + 6 * r + 1) = ((st (36 + 6 * r + 1)).toNat : Int) ∧ (st (36 + 6 * r + 1)).toNat < 36 := by
  have := (h.2.2.2 r hr).1
  unfold triT at this; omega
theorem IB_solvesF {T : Int} : ∀ (n : Nat) {st : S} (_ : IB T st) {r : Nat} (_ : r < 36), IB T (solvesF n st r).1
  | 0, _, h, _, _ => h
  | n + 1, st, h, r, hr => by
    unfold solvesF
    split
    · rename_i hk
      exact IB_solvesF n (IB_take h hr) (IB_next (IB_take h hr) hr hk).2
    · exact IB_take h hr
theorem IB_forg {T : Int} {st : S} (h : IB T st) {r : Nat} (hr : r < 36) : IB T (forg st r) := IB_free (IB_saved h r 0 0 0 hr (Or.inl ⟨rfl, rfl, rfl⟩)) 5 _ (by omega)
theorem IB_passZ {T : Int} {st : S} (h : IB T st) {z : Nat} (hz : z < 6) : IB T (passZ st z) := by
  unfold passZ; split
  · rename_i hc
    have : z ≠ 0 := by rintro rfl; have h9 : st (6 + 5 * 0 + 3) = 0 := h.2.1.2; omega
    have h0 := h.1
    exact IB_free (IB_ends h z 0 (by omega) (by omega)) 5 _ (by omega)
  · exact h
theorem IB_passR {T : Int} {st : S} (h : IB T st) {r : Nat} (hr : r < 36) : IB T (passR st r) := by
  unfold passR; split
  · exact IB_forg h hr
  · exact h
theorem iter_IB {T : Int} {f : S → Nat → S} {N : Nat} (hf : ∀ st n, n < N → IB T st → IB T (f st n)) : ∀ n, n ≤ N → ∀ st, IB T st → IB T (iter f n st)
  | 0, _, _, h => h
  | n + 1, hn, st, h => hf _ n (by omega) (iter_IB hf n (by omega) st h)
theorem IB_time {T : Int} {st : S} (h : IB T st) (v : Int) (hv : 0 ≤ v) (U : Int) (hU : T ≤ U ∧ v ≤ U ∧ U ≤ 100000) : IB U (up st 0 v) := by
  obtain ⟨h0, h1, h2, h3⟩ := IB_mono h hU.1 hU.2.2
  have e : ∀ j, 0 < j → up st 0 v j = st j := fun j hj => up_ne _ _ (by omega)
  refine ⟨by rw [up_eq]; omega, by rw [e 6 (by omega), e 9 (by omega)]; exact h1, fun z hz => ?_, fun r hr => ?_⟩
  · unfold zoneB
    rw [e (6 + 5 * z) (by omega), e (6 + 5 * z + 1) (by omega), e (6 + 5 * z + 2) (by omega), e (6 + 5 * z + 3) (by omega)]
    exact h2 z hz
  · rw [e (36 + 6 * r) (by omega), e (36 + 6 * r + 1) (by omega), e (36 + 6 * r + 2) (by omega), e (36 + 6 * r + 3) (by omega), e (36 + 6 * r + 4) (by omega), e (36 + 6 * r + 5) (by omega)]
    exact h3 r hr
theorem IB_passes {T : Int} {st : S} (h : IB T st) (t : Int) (ht : 0 ≤ t) (U : Int) (hU : T + t ≤ U ∧ U ≤ 100000) : IB U (passes st t) := by
  have h0 := h.1
  have h1 : IB U (up st 0 (st 0 + t)) := IB_time h _ (by omega) U (by omega)
  exact iter_IB (N := 36) (fun st n hn h => IB_passR h hn) 36 (Nat.le_refl _) _ (iter_IB (N := 6) (fun st n hn h => IB_passZ h hn) 6 (Nat.le_refl _) _ h1)
/-! the reference's own ways -/
def shiftN (h : S) (n : Nat) : S := fun j => if j < n then h (j + 252) else h j
theorem shiftN_0 (h : S) : shiftN h 0 = h := by funext j; simp [shiftN]
theorem shiftN_s (h : S) (n : Nat) : up (shiftN h n) n (h (n + 252)) = shiftN h (n + 1) := by
  funext j; unfold shiftN up
  by_cases h1 : j = n
  · subst h1; rw [if_pos rfl, if_pos (by omega)]
  · rw [if_neg h1]
    by_cases h2 : j < n <;> dsimp only
    · rw [if_pos h2, if_pos (by omega)]
    · rw [if_neg h2, if_neg (by omega)]
def recH (st hi : S) (n : Nat) : S := if n = 6 then layN st 0 (shiftN hi 1260) 1260 252 else layN st 0 hi (252 * n) 252
def recN (n : Nat) : Nat := if n = 6 then 6 else n + 1
def cs (st : S) (z : Nat) : Nat → Nat
  | 0 => z
  | n + 1 => par st (cs st z n)
theorem come_fuel {T : Int} {st : S} (h : IB T st) : ∀ (n m z : Nat), z < n → z < m → z < 6 → come n st z = come m st z
  | 0, _, _, h1, _, _ => absurd h1 (by omega)
  | _, 0, _, _, h2, _ => absurd h2 (by omega)
  | n + 1, m + 1, z, h1, h2, hz => by
    unfold come
    split
    · rfl
    · rename_i hc
      have hp := IB_par h (z := z) (by omega) hz
      rw [come_fuel h n m (par st z) (by omega) (by omega) (by omega)]
theorem come_step {T : Int} {st : S} (h : IB T st) {z : Nat} (hz : z < 6) (h1 : z ≠ 0) (h2 : st (6 + 5 * z + 3) = 0) : come 6 st z = way2 (come 6 st (par st z)) (par st z) z := by
  have hp := IB_par h (z := z) (by omega) hz
  rw [show come 6 st z = if z = 0 ∨ st (6 + 5 * z + 3) ≠ 0 then st else way2 (come 5 st (par st z)) (par st z) z from rfl, if_neg (by omega), come_fuel h 5 6 (par st z) (by omega) (by omega) (by omega)]
theorem come_end {st : S} {z : Nat} (h : z = 0 ∨ st (6 + 5 * z + 3) ≠ 0) : come 6 st z = st := by
  rw [show come 6 st z = if z = 0 ∨ st (6 + 5 * z + 3) ≠ 0 then st else way2 (come 5 st (par st z)) (par st z) z from rfl, if_pos h]
theorem cs_le {T : Int} {st : S} (h : IB T st) {z : Nat} (hz : z < 6) : ∀ i, (∀ j, j < i → cs st z j ≠ 0) → cs st z i + i ≤ 5
  | 0, _ => by show z + 0 ≤ 5; omega
  | i + 1, hj => by
    have h1 := cs_le h hz i (fun j q => hj j (by omega))
    have h2 := hj i (by omega)
    have h3 := (IB_par h (z := cs st z i) (by omega) (by omega)).2
    show par st (cs st z i) + (i + 1) ≤ 5
    omega
def oldI (st : S) (r : Nat) : Int := if st (36 + 6 * r + 3) = 0 then 0 else if st (36 + 6 * r + 3) = 3 then (if st (36 + 6 * r) = 0 then 0 else 1) else if st (36 + 6 * r + 3) = st (36 + 6 * r) ∧ st (36 + 6 * r + 4) = st (36 + 6 * r + 1) then 0 else 1
theorem iA_ext {E : Env3} {n a : Nat} {g g' : S} {H : Heap} (h : ∀ j, j < n → g j = g' j) (hP : va_at E.1 vwCl (a, iA E n g) H) : va_at E.1 vwCl (a, iA E n g') H := by
  have e : vp_cell E.2.1 (n, .inl (fun i => I (g i))) = vp_cell E.2.1 (n, .inl (fun i => I (g' i))) := by
    rw [vp_cell_i, vp_cell_i]
    unfold arrV
    congr 1
    congr 1
    funext j
    dsimp only
    rw [h j.val j.isLt]
  show H[a]? = some (vp_cell E.2.1 (n, .inl (fun i => I (g' i))))
  rw [← e]
  exact hP
theorem ref_st {E : Env3} {ρ : Nat → Nat} {th rc tl pa kd nm : Int} {st st' hi ke tx wy : S} {H : Heap} (h : ∀ j, j < 252 → st j = st' j) (hP : va_P E.1 vwCl (refW E ρ th rc tl pa kd nm st hi ke tx wy) H) : va_P E.1 vwCl (refW E ρ th rc tl pa kd nm st' hi ke tx wy) H := by
  intro k q hk
  match k, hk with
  | 0, hk => exact hP 0 q hk
  | 1, hk => cases hk; exact iA_ext h (hP 1 _ rfl)
  | 2, hk => exact hP 2 q hk
  | 3, hk => exact hP 3 q hk
  | 4, hk => exact hP 4 q hk
  | 5, hk => exact hP 5 q hk
  | k + 6, hk => simp at hk
theorem depth_0 (n : Nat) (st : S) : depthF n st 0 = 0 := by cases n <;> simp [depthF]
theorem depth_fuel {T : Int} {st : S} (h : IB T st) : ∀ (n m z : Nat), z < n → z < m → z < 6 → depthF n st z = depthF m st z
  | 0, _, _, h1, _, _ => absurd h1 (by omega)
  | _, 0, _, _, h2, _ => absurd h2 (by omega)
  | n + 1, m + 1, z, h1, h2, hz => by
    unfold depthF
    split
    · rfl
    · rename_i hc
      have hp := IB_par h (z := z) (by omega) hz
      rw [depth_fuel h n m (par st z) (by omega) (by omega) (by omega)]
theorem depth_s {T : Int} {st : S} (h : IB T st) {z : Nat} (hz : z < 6) (h1 : z ≠ 0) : depthF 6 st z = 1 + depthF 6 st (par st z) := by
  have hp := IB_par h (z := z) (by omega) hz
  rw [show depthF 6 st z = if z = 0 then 0 else 1 + depthF 5 st (par st z) from rfl, if_neg h1, depth_fuel h 5 6 (par st z) (by omega) (by omega) (by omega)]
theorem solves_s {n : Nat} {st : S} {r : Nat} (h : take st r (36 + 6 * r + 3) = 2) : solvesF (n + 1) st r = solvesF n (take st r) (take st r (36 + 6 * r + 4)).toNat := by
  rw [solvesF, if_pos h]
theorem truth_s {n : Nat} {st : S} {r : Nat} (h : st (36 + 6 * r) = 2) : truthF (n + 1) st r = truthF n st (st (36 + 6 * r + 1)).toNat := by
  rw [truthF, if_pos h]
theorem passZ_0 {st : S} (h : st 9 = 0) : passZ st 0 = st := by
  unfold passZ; rw [if_neg]; intro hc; have : st (6 + 5 * 0 + 3) = 0 := h; omega
theorem left_rng {T : Int} {st : S} (h : IB T st) (e : Int) (he : 0 ≤ e ∧ e ≤ 1000000) : -1000000 ≤ left st e ∧ left st e ≤ 1000000 := by
  have := h.1
  unfold left; split <;> omega
theorem sooner_rng {a b : Int} (ha : -1000000 ≤ a ∧ a ≤ 1000000) (hb : -1000000 ≤ b ∧ b ≤ 1000000) : -1000000 ≤ sooner a b ∧ sooner a b ≤ 1000000 := by
  unfold sooner; split <;> assumption
theorem untl_rngZ {T : Int} {st : S} (h : IB T st) : ∀ i, i ≤ 6 → -1000000 ≤ foldN (fun a z => sooner a (left st (st (6 + 5 * z + 3)))) i (-1) ∧ foldN (fun a z => sooner a (left st (st (6 + 5 * z + 3)))) i (-1) ≤ 1000000
  | 0, _ => by show -1000000 ≤ (-1 : Int) ∧ (-1 : Int) ≤ 1000000; omega
  | i + 1, hi => by
    have z9 := (h.2.2.1 i (by omega)).2.2.2.2.2
    have z8 := h.1
    exact sooner_rng (untl_rngZ h i (by omega)) (left_rng h _ (by omega))
theorem untl_rngR {T : Int} {st : S} (h : IB T st) : ∀ i, i ≤ 36 → -1000000 ≤ foldN (fun a r => sooner a (left st (st (36 + 6 * r + 5)))) i (foldN (fun a z => sooner a (left st (st (6 + 5 * z + 3)))) 6 (-1)) ∧ foldN (fun a r => sooner a (left st (st (36 + 6 * r + 5)))) i (foldN (fun a z => sooner a (left st (st (6 + 5 * z + 3)))) 6 (-1)) ≤ 1000000
  | 0, _ => untl_rngZ h 6 (Nat.le_refl _)
  | i + 1, hi => by
    have z9 := (h.2.2.2 i (by omega)).2
    unfold triM at z9
    have z8 := h.1
    exact sooner_rng (untl_rngR h i (by omega)) (left_rng h _ (by omega))
theorem lay_back {st ke X : S} {j : Nat} (hj : j < 252) : layN (layN st 0 ke 0 252) 0 X 0 252 j = st j := by
  unfold layN
  rw [if_pos (by omega), if_pos (by omega)]
  congr 1
  omega
theorem old_nar {st : S} {r : Nat} : narrow .boolean (.int (I (oldI st r))) = .int (I (oldI st r)) := by
  unfold oldI
  split
  · rfl
  · split
    · split <;> rfl
    · split <;> rfl
theorem old_01 (st : S) (r : Nat) : oldI st r = 0 ∨ oldI st r = 1 := by
  unfold oldI
  split
  · omega
  · split
    · split <;> omega
    · split <;> omega
theorem truth_rng {T : Int} {st : S} (h : IB T st) : ∀ (n r : Nat), r < 36 → -2 ≤ truthF n st r ∧ truthF n st r ≤ 99
  | 0, _, _ => by show -2 ≤ (-2 : Int) ∧ (-2 : Int) ≤ 99; omega
  | n + 1, r, hr => by
    unfold truthF
    split
    · rename_i hk
      exact truth_rng h n _ (IB_nextT h hr hk).2
    · have := (h.2.2.2 r hr).1
      unfold triT at this; omega
theorem solves_rng {T : Int} : ∀ (n : Nat) {st : S} (_ : IB T st) (r : Nat), r < 36 → -2 ≤ (solvesF n st r).2 ∧ (solvesF n st r).2 ≤ 99
  | 0, _, _, _, _ => by show -2 ≤ (-2 : Int) ∧ (-2 : Int) ≤ 99; omega
  | n + 1, st, h, r, hr => by
    unfold solvesF
    split
    · rename_i hk
      exact solves_rng n (IB_take h hr) _ (IB_next (IB_take h hr) hr hk).2
    · have := ((IB_take h hr).2.2.2 r hr).2
      unfold triM at this
      dsimp only
      split <;> omega
theorem waitF_s {n : Nat} {st : S} {r k : Nat} (h : ¬ wouldIn st r k = truthF 7 st r) : waitF (n + 1) st r k = waitF n st r (k + 1) := by rw [waitF, if_neg h]
theorem waitF_e {n : Nat} {st : S} {r k : Nat} (h : wouldIn st r k = truthF 7 st r) : waitF (n + 1) st r k = k := by rw [waitF, if_pos h]
end
section
/-! the reference, first part; written by ref.py -/
set_option maxHeartbeats 4000000 in
set_option maxRecDepth 100000 in
theorem m_X6_within (l : Launch) (E : Env3) (v lo hi : Int) (hv : -2147483648 ≤ v ∧ v ≤ 2147483647) (hlo : -2147483648 ≤ lo ∧ lo ≤ 2147483647) (hhi : -2147483648 ≤ hi ∧ hi ≤ 2147483647) : Met l yX6_within (Cond.code yX6_within cX6_within 3 (some .boolean) :: ALL) ({ frames := 0, cells := 0, slots := 0, locals := 0 }) (pR [.int (I v), .int (I lo), .int (I hi)] E []) (qS (some (.int (I (if lo ≤ v ∧ v ≤ hi then 1 else 0))))) 0 0 (fun _ => False) := by
  refine mk_met (by decide) rfl (Nat.le_of_ble_eq_true rfl) ?_
  intro p e s m args below meth c hx hb hrt hml hts hown hlocks hnm hP hK ls hl
  have hown : s.vm.findClass RX6 = some m.cls := hown
  have hl : lv_has ls 3 [(0, .int (I v)), (1, .int (I lo)), (2, .int (I hi))] := hl
  have hS : va_S (fun _ => False) s.heap s.heap [] := va_S.rf
  refine lv_iload_n hx hb dX6_within_0 rfl (lv_lk hl rfl) ?_
  refine lv_iload_n hx hb dX6_within_1 rfl (lv_lk hl rfl) ?_
  refine iv_icmp_lt (tgt := 14) hx hb dX6_within_2 (by decide) (by omega) (by omega) (fun c_2 => ?_) (fun c_2 => ?_)
  · refine iv_iconst hx hb dX6_within_14 ?_
    refine iv_eq (if lo ≤ v ∧ v ≤ hi then 1 else 0) (by rw [if_neg (by omega)]) ?_
    exact W.zret (ty := .boolean) hx hb hrt bool_nar (fun t ht hW => ⟨rfl, ht⟩) hS.2.2 dX6_within_15 hlocks
  · refine lv_iload_n hx hb dX6_within_5 rfl (lv_lk hl rfl) ?_
    refine lv_iload_n hx hb dX6_within_6 rfl (lv_lk hl rfl) ?_
    refine iv_icmp_gt (tgt := 14) hx hb dX6_within_7 (by decide) (by omega) (by omega) (fun c_7 => ?_) (fun c_7 => ?_)
    · refine iv_iconst hx hb dX6_within_14 ?_
      refine iv_eq (if lo ≤ v ∧ v ≤ hi then 1 else 0) (by rw [if_neg (by omega)]) ?_
      exact W.zret (ty := .boolean) hx hb hrt bool_nar (fun t ht hW => ⟨rfl, ht⟩) hS.2.2 dX6_within_15 hlocks
    · refine iv_iconst hx hb dX6_within_10 ?_
      refine lv_goto (tgt := 15) hx hb dX6_within_11 (by decide) ?_
      refine iv_eq (if lo ≤ v ∧ v ≤ hi then 1 else 0) (by rw [if_pos ⟨by omega, by omega⟩]) ?_
      exact W.zret (ty := .boolean) hx hb hrt bool_nar (fun t ht hW => ⟨rfl, ht⟩) hS.2.2 dX6_within_15 hlocks
set_option maxHeartbeats 4000000 in
set_option maxRecDepth 100000 in
theorem m_X6_isZone (l : Launch) (E : Env3) (v : Int) (hv : -2147483648 ≤ v ∧ v ≤ 2147483647) : Met l yX6_isZone (Cond.code yX6_isZone cX6_isZone 1 (some .boolean) :: ALL) ({ frames := 1, cells := 0, slots := 0, locals := 22 }) (pR [.int (I v)] E []) (qS (some (.int (I (if 0 ≤ v ∧ v ≤ 5 then 1 else 0))))) 0 0 (fun _ => False) := by
  refine mk_met (by decide) rfl (Nat.le_of_ble_eq_true rfl) ?_
  intro p e s m args below meth c hx hb hrt hml hts hown hlocks hnm hP hK ls hl
  have hown : s.vm.findClass RX6 = some m.cls := hown
  have hl : lv_has ls 1 [(0, .int (I v))] := hl
  have hS : va_S (fun _ => False) s.heap s.heap [] := va_S.rf
  refine lv_iload_n hx hb dX6_isZone_0 rfl (lv_lk hl rfl) ?_
  refine iv_iconst hx hb dX6_isZone_1 ?_
  refine iv_iconst hx hb dX6_isZone_2 ?_
  refine call_S (va_runS ⟨hx, hb, hml, hown, hts⟩ (m_X6_within l E v 0 5 (by omega) (by omega) (by omega)) (va_cwS 3 hts (gi_S ml_X6_43 st_X6_within it_X6 cd_X6_within) rfl rfl rfl (by decide +kernel) ⟨Nat.le_of_ble_eq_true rfl, Nat.le_of_ble_eq_true rfl⟩) (pR_S hP hK) rfl rfl hl.1 rfl (lv_room (Nat.le_of_ble_eq_true rfl)) dX6_isZone_3 ⟨Nat.le_of_ble_eq_true rfl, Nat.le_of_ble_eq_true rfl⟩) (fun _ h => h) hS rfl (fun locs hS => ?_)
  exact W.zret (ty := .boolean) hx hb hrt bool_nar (fun t ht hW => ⟨rfl, ht⟩) hS.2.2 dX6_isZone_6 hlocks
set_option maxHeartbeats 4000000 in
set_option maxRecDepth 100000 in
theorem m_X6_isRiddle (l : Launch) (E : Env3) (v : Int) (hv : -2147483648 ≤ v ∧ v ≤ 2147483647) : Met l yX6_isRiddle (Cond.code yX6_isRiddle cX6_isRiddle 1 (some .boolean) :: ALL) ({ frames := 1, cells := 0, slots := 0, locals := 22 }) (pR [.int (I v)] E []) (qS (some (.int (I (if 0 ≤ v ∧ v ≤ 35 then 1 else 0))))) 0 0 (fun _ => False) := by
  refine mk_met (by decide) rfl (Nat.le_of_ble_eq_true rfl) ?_
  intro p e s m args below meth c hx hb hrt hml hts hown hlocks hnm hP hK ls hl
  have hown : s.vm.findClass RX6 = some m.cls := hown
  have hl : lv_has ls 1 [(0, .int (I v))] := hl
  have hS : va_S (fun _ => False) s.heap s.heap [] := va_S.rf
  refine lv_iload_n hx hb dX6_isRiddle_0 rfl (lv_lk hl rfl) ?_
  refine iv_iconst hx hb dX6_isRiddle_1 ?_
  refine iv_bipush hx hb dX6_isRiddle_2 (by decide +kernel) ?_
  refine call_S (va_runS ⟨hx, hb, hml, hown, hts⟩ (m_X6_within l E v 0 35 (by omega) (by omega) (by omega)) (va_cwS 3 hts (gi_S ml_X6_43 st_X6_within it_X6 cd_X6_within) rfl rfl rfl (by decide +kernel) ⟨Nat.le_of_ble_eq_true rfl, Nat.le_of_ble_eq_true rfl⟩) (pR_S hP hK) rfl rfl hl.1 rfl (lv_room (Nat.le_of_ble_eq_true rfl)) dX6_isRiddle_4 ⟨Nat.le_of_ble_eq_true rfl, Nat.le_of_ble_eq_true rfl⟩) (fun _ h => h) hS rfl (fun locs hS => ?_)
  exact W.zret (ty := .boolean) hx hb hrt bool_nar (fun t ht hW => ⟨rfl, ht⟩) hS.2.2 dX6_isRiddle_7 hlocks
set_option maxHeartbeats 4000000 in
set_option maxRecDepth 100000 in
theorem m_X6_isAge (l : Launch) (E : Env3) (v : Int) (hv : -2147483648 ≤ v ∧ v ≤ 2147483647) : Met l yX6_isAge (Cond.code yX6_isAge cX6_isAge 1 (some .boolean) :: ALL) ({ frames := 1, cells := 0, slots := 0, locals := 22 }) (pR [.int (I v)] E []) (qS (some (.int (I (if 1 ≤ v ∧ v ≤ 99 then 1 else 0))))) 0 0 (fun _ => False) := by
  refine mk_met (by decide) rfl (Nat.le_of_ble_eq_true rfl) ?_
  intro p e s m args below meth c hx hb hrt hml hts hown hlocks hnm hP hK ls hl
  have hown : s.vm.findClass RX6 = some m.cls := hown
  have hl : lv_has ls 1 [(0, .int (I v))] := hl
  have hS : va_S (fun _ => False) s.heap s.heap [] := va_S.rf
  refine lv_iload_n hx hb dX6_isAge_0 rfl (lv_lk hl rfl) ?_
  refine iv_iconst hx hb dX6_isAge_1 ?_
  refine iv_bipush hx hb dX6_isAge_2 (by decide +kernel) ?_
  refine call_S (va_runS ⟨hx, hb, hml, hown, hts⟩ (m_X6_within l E v 1 99 (by omega) (by omega) (by omega)) (va_cwS 3 hts (gi_S ml_X6_43 st_X6_within it_X6 cd_X6_within) rfl rfl rfl (by decide +kernel) ⟨Nat.le_of_ble_eq_true rfl, Nat.le_of_ble_eq_true rfl⟩) (pR_S hP hK) rfl rfl hl.1 rfl (lv_room (Nat.le_of_ble_eq_true rfl)) dX6_isAge_4 ⟨Nat.le_of_ble_eq_true rfl, Nat.le_of_ble_eq_true rfl⟩) (fun _ h => h) hS rfl (fun locs hS => ?_)
  exact W.zret (ty := .boolean) hx hb hrt bool_nar (fun t ht hW => ⟨rfl, ht⟩) hS.2.2 dX6_isAge_7 hlocks
set_option maxHeartbeats 4000000 in
set_option maxRecDepth 100000 in
theorem m_X6_ofZone (l : Launch) (E : Env3) (ρ : Nat → Nat) (th rc tl pa kd nm : Int) (st hi ke tx wy : S) (z k : Nat) (hz : z < 6) (hk : k < 5) : Met l yX6_ofZone (Cond.code yX6_ofZone cX6_ofZone 3 (some .int) :: ALL) ({ frames := 0, cells := 0, slots := 0, locals := 0 }) (pR [.ref (ρ 0), .int (I (z : Int)), .int (I (k : Int))] E (refW E ρ th rc tl pa kd nm st hi ke tx wy)) (qS (some (.int (I (st (6 + 5 * z + k)))))) 0 0 (fun _ => False) := by
  refine mk_met (by decide) rfl (Nat.le_of_ble_eq_true rfl) ?_
  intro p e s m args below meth c hx hb hrt hml hts hown hlocks hnm hP hK ls hl
  have hown : s.vm.findClass RX6 = some m.cls := hown
  have hl : lv_has ls 3 [(0, .ref (ρ 0)), (1, .int (I (z : Int))), (2, .int (I (k : Int)))] := hl
  have hS : va_S (fun _ => False) s.heap s.heap [] := va_S.rf
  refine lv_aload_n hx hb dX6_ofZone_0 rfl (lv_lk hl rfl) ?_
  refine va_get (D := E.1) (ci := 6) hx hb hts inX6 hown hK.1 hP 0 rfl rfl 1 (by decide) (hts _ fl_X6_7) (fun _ h9 => h9) rfl dX6_ofZone_1 ?_
  refine iv_bipush hx hb dX6_ofZone_4 (by decide +kernel) ?_
  refine iv_iconst hx hb dX6_ofZone_6 ?_
  refine lv_iload_n hx hb dX6_ofZone_7 rfl (lv_lk hl rfl) ?_
  refine iv_imul hx hb dX6_ofZone_8 ?_
  refine iv_iadd hx hb dX6_ofZone_9 ?_
  refine lv_iload_n hx hb dX6_ofZone_10 rfl (lv_lk hl rfl) ?_
  refine iv_iadd hx hb dX6_ofZone_11 ?_
  refine iv_iald hx hb hK hP 1 rfl (6 + 5 * z + k) (by omega) (by omega) dX6_ofZone_12 ?_
  exact W.iret hx hb hrt (fun t ht hW => ⟨rfl, ht⟩) hS.2.2 dX6_ofZone_13 hlocks
set_option maxHeartbeats 4000000 in
set_option maxRecDepth 100000 in
theorem m_X6_of (l : Launch) (E : Env3) (ρ : Nat → Nat) (th rc tl pa kd nm : Int) (st hi ke tx wy : S) (r k : Nat) (hr : r < 36) (hk : k < 6) : Met l yX6_of (Cond.code yX6_of cX6_of 3 (some .int) :: ALL) ({ frames := 0, cells := 0, slots := 0, locals := 0 }) (pR [.ref (ρ 0), .int (I (r : Int)), .int (I (k : Int))] E (refW E ρ th rc tl pa kd nm st hi ke tx wy)) (qS (some (.int (I (st (36 + 6 * r + k)))))) 0 0 (fun _ => False) := by
  refine mk_met (by decide) rfl (Nat.le_of_ble_eq_true rfl) ?_
  intro p e s m args below meth c hx hb hrt hml hts hown hlocks hnm hP hK ls hl
  have hown : s.vm.findClass RX6 = some m.cls := hown
  have hl : lv_has ls 3 [(0, .ref (ρ 0)), (1, .int (I (r : Int))), (2, .int (I (k : Int)))] := hl
  have hS : va_S (fun _ => False) s.heap s.heap [] := va_S.rf
  refine lv_aload_n hx hb dX6_of_0 rfl (lv_lk hl rfl) ?_
  refine va_get (D := E.1) (ci := 6) hx hb hts inX6 hown hK.1 hP 0 rfl rfl 1 (by decide) (hts _ fl_X6_7) (fun _ h9 => h9) rfl dX6_of_1 ?_
  refine iv_bipush hx hb dX6_of_4 (by decide +kernel) ?_
  refine iv_bipush hx hb dX6_of_6 (by decide +kernel) ?_
  refine lv_iload_n hx hb dX6_of_8 rfl (lv_lk hl rfl) ?_
  refine iv_imul hx hb dX6_of_9 ?_
  refine iv_iadd hx hb dX6_of_10 ?_
  refine lv_iload_n hx hb dX6_of_11 rfl (lv_lk hl rfl) ?_
  refine iv_iadd hx hb dX6_of_12 ?_
  refine iv_iald hx hb hK hP 1 rfl (36 + 6 * r + k) (by omega) (by omega) dX6_of_13 ?_
  exact W.iret hx hb hrt (fun t ht hW => ⟨rfl, ht⟩) hS.2.2 dX6_of_14 hlocks
set_option maxHeartbeats 4000000 in
set_option maxRecDepth 100000 in
theorem m_X6_putsZone (l : Launch) (E : Env3) (ρ : Nat → Nat) (th rc tl pa kd nm : Int) (st hi ke tx wy : S) (hρ : dR ρ 6) (z k : Nat) (v : Int) (hz : z < 6) (hk : k < 5) : Met l yX6_putsZone (Cond.code yX6_putsZone cX6_putsZone 4 none :: ALL) ({ frames := 0, cells := 0, slots := 0, locals := 0 }) (pR [.ref (ρ 0), .int (I (z : Int)), .int (I (k : Int)), .int (I v)] E (refW E ρ th rc tl pa kd nm st hi ke tx wy)) (qW none E (refW E ρ th rc tl pa kd nm st hi ke tx wy) (refW E ρ th rc tl pa kd nm (up st (6 + 5 * z + k) v) hi ke tx wy)) 0 0 (adIn (refW E ρ th rc tl pa kd nm st hi ke tx wy)) := by
  refine mk_met (by decide) rfl (Nat.le_of_ble_eq_true rfl) ?_
  intro p e s m args below meth c hx hb hrt hml hts hown hlocks hnm hP hK ls hl
  have hown : s.vm.findClass RX6 = some m.cls := hown
  have hl : lv_has ls 4 [(0, .ref (ρ 0)), (1, .int (I (z : Int))), (2, .int (I (k : Int))), (3, .int (I v))] := hl
  have hD : va_D (adIn (refW E ρ th rc tl pa kd nm st hi ke tx wy)) (refW E ρ th rc tl pa kd nm st hi ke tx wy) := D_of_dR hρ rfl
  have hS : va_S (adIn (refW E ρ th rc tl pa kd nm st hi ke tx wy)) s.heap s.heap [] := va_S.rf
  refine lv_aload_n hx hb dX6_putsZone_0 rfl (lv_lk hl rfl) ?_
  refine va_get (D := E.1) (ci := 6) hx hb hts inX6 hown hK.1 hP 0 rfl rfl 1 (by decide) (hts _ fl_X6_7) (fun _ h9 => h9) rfl dX6_putsZone_1 ?_
  refine iv_bipush hx hb dX6_putsZone_4 (by decide +kernel) ?_
  refine iv_iconst hx hb dX6_putsZone_6 ?_
  refine lv_iload_n hx hb dX6_putsZone_7 rfl (lv_lk hl rfl) ?_
  refine iv_imul hx hb dX6_putsZone_8 ?_
  refine iv_iadd hx hb dX6_putsZone_9 ?_
  refine lv_iload_n hx hb dX6_putsZone_10 rfl (lv_lk hl rfl) ?_
  refine iv_iadd hx hb dX6_putsZone_11 ?_
  refine lv_iload_n hx hb dX6_putsZone_12 rfl (lv_lk hl rfl) ?_
  refine iv_iast hx hb hK hP (dm hD rfl) hS 1 rfl (6 + 5 * z + k) (by omega) (by omega) dX6_putsZone_13 (refW E ρ th rc tl pa kd nm (up st (6 + 5 * z + k) v) hi ke tx wy) (rfl) (fun H locs hP hS => ?_)
  exact W.vret hx hb hrt (fun t ht hW => ⟨rfl, by rw [ht]; exact hP, hS.F ht⟩) hS.2.2 dX6_putsZone_14 hlocks
set_option maxHeartbeats 4000000 in
set_option maxRecDepth 100000 in
theorem m_X6_puts (l : Launch) (E : Env3) (ρ : Nat → Nat) (th rc tl pa kd nm : Int) (st hi ke tx wy : S) (hρ : dR ρ 6) (r k : Nat) (v : Int) (hr : r < 36) (hk : k < 6) : Met l yX6_puts (Cond.code yX6_puts cX6_puts 4 none :: ALL) ({ frames := 0, cells := 0, slots := 0, locals := 0 }) (pR [.ref (ρ 0), .int (I (r : Int)), .int (I (k : Int)), .int (I v)] E (refW E ρ th rc tl pa kd nm st hi ke tx wy)) (qW none E (refW E ρ th rc tl pa kd nm st hi ke tx wy) (refW E ρ th rc tl pa kd nm (up st (36 + 6 * r + k) v) hi ke tx wy)) 0 0 (adIn (refW E ρ th rc tl pa kd nm st hi ke tx wy)) := by
  refine mk_met (by decide) rfl (Nat.le_of_ble_eq_true rfl) ?_
  intro p e s m args below meth c hx hb hrt hml hts hown hlocks hnm hP hK ls hl
  have hown : s.vm.findClass RX6 = some m.cls := hown
  have hl : lv_has ls 4 [(0, .ref (ρ 0)), (1, .int (I (r : Int))), (2, .int (I (k : Int))), (3, .int (I v))] := hl
  have hD : va_D (adIn (refW E ρ th rc tl pa kd nm st hi ke tx wy)) (refW E ρ th rc tl pa kd nm st hi ke tx wy) := D_of_dR hρ rfl
  have hS : va_S (adIn (refW E ρ th rc tl pa kd nm st hi ke tx wy)) s.heap s.heap [] := va_S.rf
  refine lv_aload_n hx hb dX6_puts_0 rfl (lv_lk hl rfl) ?_
  refine va_get (D := E.1) (ci := 6) hx hb hts inX6 hown hK.1 hP 0 rfl rfl 1 (by decide) (hts _ fl_X6_7) (fun _ h9 => h9) rfl dX6_puts_1 ?_
  refine iv_bipush hx hb dX6_puts_4 (by decide +kernel) ?_
  refine iv_bipush hx hb dX6_puts_6 (by decide +kernel) ?_
  refine lv_iload_n hx hb dX6_puts_8 rfl (lv_lk hl rfl) ?_
  refine iv_imul hx hb dX6_puts_9 ?_
  refine iv_iadd hx hb dX6_puts_10 ?_
  refine lv_iload_n hx hb dX6_puts_11 rfl (lv_lk hl rfl) ?_
  refine iv_iadd hx hb dX6_puts_12 ?_
  refine lv_iload_n hx hb dX6_puts_13 rfl (lv_lk hl rfl) ?_
  refine iv_iast hx hb hK hP (dm hD rfl) hS 1 rfl (36 + 6 * r + k) (by omega) (by omega) dX6_puts_14 (refW E ρ th rc tl pa kd nm (up st (36 + 6 * r + k) v) hi ke tx wy) (rfl) (fun H locs hP hS => ?_)
  exact W.vret hx hb hrt (fun t ht hW => ⟨rfl, by rw [ht]; exact hP, hS.F ht⟩) hS.2.2 dX6_puts_15 hlocks
set_option maxHeartbeats 4000000 in
set_option maxRecDepth 100000 in
theorem m_X6_lays (l : Launch) (E : Env3) (a b nA nB f t : Nat) (g h : S) (hab : a ≠ b) (hf : f + 252 ≤ nA ∧ nA ≤ 2000) (ht : t + 252 ≤ nB ∧ nB ≤ 2000) : Met l yX6_lays (Cond.code yX6_lays cX6_lays 5 none :: ALL) ({ frames := 0, cells := 0, slots := 0, locals := 0 }) (pR [.ref a, .int (I (f : Int)), .ref b, .int (I (t : Int))] E [(a, iA E nA g), (b, iA E nB h)]) (qW none E [(a, iA E nA g), (b, iA E nB h)] [(a, iA E nA g), (b, iA E nB (layN g f h t 252))]) 0 0 (adIn [(a, iA E nA g), (b, iA E nB h)]) := by
  refine mk_met (by decide) rfl (Nat.le_of_ble_eq_true rfl) ?_
  intro p e s m args below meth c hx hb hrt hml hts hown hlocks hnm hP hK ls hl
  have hown : s.vm.findClass RX6 = some m.cls := hown
  have hl : lv_has ls 5 [(0, .ref a), (1, .int (I (f : Int))), (2, .ref b), (3, .int (I (t : Int)))] := hl
  have hD : va_D (adIn [(a, iA E nA g), (b, iA E nB h)]) [(a, iA E nA g), (b, iA E nB h)] := D_2 hab
  have hS : va_S (adIn [(a, iA E nA g), (b, iA E nB h)]) s.heap s.heap [] := va_S.rf
  refine iv_iconst hx hb dX6_lays_0 ?_
  refine lv_istore (lv' := [(4, .int (I _)), (0, .ref _), (1, .int (I _)), (2, .ref _), (3, .int (I _))]) hx hb dX6_lays_1 hl (by decide) rfl (fun ls hl => ?_)
  have LOOP3 : ∀ (n9 i : Nat), (i + n9 = 252) → ∀ (H : Heap) (locs : List Loc) (ls : Array Slot), va_P E.1 vwCl [(a, iA E nA g), (b, iA E nB (layN g f h t i))] H → va_S (adIn [(a, iA E nA g), (b, iA E nB h)]) s.heap H locs → lv_has ls 5 [(0, .ref a), (1, .int (I (f : Int))), (2, .ref b), (3, .int (I (t : Int))), (4, .int (I (i : Int)))] → W p l e ({ frames := 0, cells := 0, slots := 0, locals := 0 }) s m args below meth c H locs 0 0 (MQ below (qW none E [(a, iA E nA g), (b, iA E nB h)] [(a, iA E nA g), (b, iA E nB (layN g f h t 252))]) args s 0 0 (adIn [(a, iA E nA g), (b, iA E nB h)])) (F0 m 3 ls []) := by
    intro n9
    induction n9 with
    | zero =>
      intro i  hi H locs ls hP hS hl
      refine lv_iload hx hb dX6_lays_3 (lv_lk hl rfl) ?_
      refine iv_sipush hx hb dX6_lays_5 (by decide +kernel) ?_
      refine iv_icmp_ge (tgt := 29) hx hb dX6_lays_8 (by decide) (by omega) (by omega) (fun c_8 => ?_) (fun c_8 => by exfalso; omega)
      exact W.vret hx hb hrt (fun t ht hW => ⟨rfl, by rw [ht]; exact (by rw [show (252 : Nat) = i by omega]; exact hP), hS.F ht⟩) hS.2.2 dX6_lays_29 hlocks
    | succ n9 ih =>
      intro i  hi H locs ls hP hS hl
      refine lv_iload hx hb dX6_lays_3 (lv_lk hl rfl) ?_
      refine iv_sipush hx hb dX6_lays_5 (by decide +kernel) ?_
      refine iv_icmp_ge (tgt := 29) hx hb dX6_lays_8 (by decide) (by omega) (by omega) (fun c_8 => by exfalso; omega) (fun c_8 => ?_)
      refine lv_aload_n hx hb dX6_lays_11 rfl (lv_lk hl rfl) ?_
      refine lv_iload_n hx hb dX6_lays_12 rfl (lv_lk hl rfl) ?_
      refine lv_iload hx hb dX6_lays_13 (lv_lk hl rfl) ?_
      refine iv_iadd hx hb dX6_lays_15 ?_
      refine lv_aload_n hx hb dX6_lays_16 rfl (lv_lk hl rfl) ?_
      refine lv_iload_n hx hb dX6_lays_17 rfl (lv_lk hl rfl) ?_
      refine lv_iload hx hb dX6_lays_18 (lv_lk hl rfl) ?_
      refine iv_iadd hx hb dX6_lays_20 ?_
      refine iv_iald hx hb hK hP 0 rfl (f + i) (by omega) (by omega) dX6_lays_21 ?_
      refine iv_iast hx hb hK hP (dm hD rfl) hS 1 rfl (t + i) (by omega) (by omega) dX6_lays_22 [(a, iA E nA g), (b, iA E nB (layN g f h t (i + 1)))] (by rw [← layN_s]; rfl) (fun H locs hP hS => ?_)
      refine iv_iinc (k := 4) hx hb dX6_lays_23 hl rfl (((i + 1 : Nat) : Int)) (by omega) (by decide) [(4, .int (I _)), (0, .ref _), (1, .int (I _)), (2, .ref _), (3, .int (I _))] rfl (fun ls hl => ?_)
      refine lv_goto (tgt := 3) hx hb dX6_lays_26 (by decide) ?_
      exact ih (i + 1) (by omega) H locs ls hP hS (lv_sub hl [1, 2, 3, 4, 0] rfl)
  exact LOOP3 252 0 (by omega) _ _ _ (by rw [layN_0]; exact hP) hS (lv_sub hl [1, 2, 3, 4, 0] rfl)
end
section
/-! the reference, second part; written by ref.py -/
set_option maxHeartbeats 4000000 in
set_option maxRecDepth 100000 in
theorem m_X6_thrown (l : Launch) (E : Env3) (ρ : Nat → Nat) (th rc tl pa kd nm : Int) (st hi ke tx wy : S) : Met l yX6_thrown (Cond.code yX6_thrown cX6_thrown 1 (some .int) :: ALL) ({ frames := 0, cells := 0, slots := 0, locals := 0 }) (pR [.ref (ρ 0)] E (refW E ρ th rc tl pa kd nm st hi ke tx wy)) (qS (some (.int (I (th))))) 0 0 (fun _ => False) := by
  refine mk_met (by decide) rfl (Nat.le_of_ble_eq_true rfl) ?_
  intro p e s m args below meth c hx hb hrt hml hts hown hlocks hnm hP hK ls hl
  have hown : s.vm.findClass RX6 = some m.cls := hown
  have hl : lv_has ls 1 [(0, .ref (ρ 0))] := hl
  have hS : va_S (fun _ => False) s.heap s.heap [] := va_S.rf
  refine lv_aload_n hx hb dX6_thrown_0 rfl (lv_lk hl rfl) ?_
  refine va_get (D := E.1) (ci := 6) hx hb hts inX6 hown hK.1 hP 0 rfl rfl 0 (by decide) (hts _ fl_X6_32) (fun _ h9 => h9) rfl dX6_thrown_1 ?_
  exact W.iret hx hb hrt (fun t ht hW => ⟨rfl, ht⟩) hS.2.2 dX6_thrown_4 hlocks
set_option maxHeartbeats 4000000 in
set_option maxRecDepth 100000 in
theorem m_X6_costs (l : Launch) (E : Env3) (ρ : Nat → Nat) (th rc tl pa kd nm : Int) (st hi ke tx wy : S) (hρ : dR ρ 6) (z : Nat) (hz : z < 6) : Met l yX6_costs (Cond.code yX6_costs cX6_costs 2 none :: ALL) ({ frames := 1, cells := 0, slots := 0, locals := 23 }) (pR [.ref (ρ 0), .int (I (z : Int))] E (refW E ρ th rc tl pa kd nm st hi ke tx wy)) (qW none E (refW E ρ th rc tl pa kd nm st hi ke tx wy) (refW E ρ th rc tl pa kd nm (costs st z) hi ke tx wy)) 0 0 (adIn (refW E ρ th rc tl pa kd nm st hi ke tx wy)) := by
  refine mk_met (by decide) rfl (Nat.le_of_ble_eq_true rfl) ?_
  intro p e s m args below meth c hx hb hrt hml hts hown hlocks hnm hP hK ls hl
  have hown : s.vm.findClass RX6 = some m.cls := hown
  have hl : lv_has ls 2 [(0, .ref (ρ 0)), (1, .int (I (z : Int)))] := hl
  have hD : va_D (adIn (refW E ρ th rc tl pa kd nm st hi ke tx wy)) (refW E ρ th rc tl pa kd nm st hi ke tx wy) := D_of_dR hρ rfl
  have hS : va_S (adIn (refW E ρ th rc tl pa kd nm st hi ke tx wy)) s.heap s.heap [] := va_S.rf
  refine lv_aload_n hx hb dX6_costs_0 rfl (lv_lk hl rfl) ?_
  refine va_get (D := E.1) (ci := 6) hx hb hts inX6 hown hK.1 hP 0 rfl rfl 1 (by decide) (hts _ fl_X6_7) (fun _ h9 => h9) rfl dX6_costs_1 ?_
  refine iv_iconst hx hb dX6_costs_4 ?_
  refine lv_dup2_11 hx hb dX6_costs_5 rfl rfl ?_
  refine iv_iald hx hb hK hP 1 rfl (2) (by omega) (by omega) dX6_costs_6 ?_
  refine iv_iconst hx hb dX6_costs_7 ?_
  refine iv_iadd hx hb dX6_costs_8 ?_
  refine iv_iast hx hb hK hP (dm hD rfl) hS 1 rfl (2) (by omega) (by omega) dX6_costs_9 (refW E ρ th rc tl pa kd nm (up st 2 (st 2 + 1)) hi ke tx wy) (rfl) (fun H locs hP hS => ?_)
  refine lv_aload_n hx hb dX6_costs_10 rfl (lv_lk hl rfl) ?_
  refine lv_iload_n hx hb dX6_costs_11 rfl (lv_lk hl rfl) ?_
  refine iv_iconst hx hb dX6_costs_12 ?_
  refine lv_aload_n hx hb dX6_costs_13 rfl (lv_lk hl rfl) ?_
  refine lv_iload_n hx hb dX6_costs_14 rfl (lv_lk hl rfl) ?_
  refine iv_iconst hx hb dX6_costs_15 ?_
  refine call_S (va_runV ⟨hx, hb, hml, hown, hts⟩ (m_X6_ofZone l E ρ th rc tl pa kd nm (up st 2 (st 2 + 1)) hi ke tx wy z 4 hz (by decide)) (cwV 2 hts (gi_V ml_X6_50 im_X6_ofZone sl_X6_ofZone it_X6 cd_X6_ofZone) rfl rfl rfl (by decide +kernel) ⟨Nat.le_of_ble_eq_true rfl, Nat.le_of_ble_eq_true rfl⟩) (pR_V (q0 := 0) (ci := 6) hP hK rfl rfl) rfl rfl hl.1 rfl (lv_room (Nat.le_of_ble_eq_true rfl)) dX6_costs_16 ⟨Nat.le_of_ble_eq_true rfl, Nat.le_of_ble_eq_true rfl⟩) (fun _ h => h) hS rfl (fun locs hS => ?_)
  refine iv_iconst hx hb dX6_costs_19 ?_
  refine iv_iadd hx hb dX6_costs_20 ?_
  refine call_F (va_runV ⟨hx, hb, hml, hown, hts⟩ (m_X6_putsZone l E ρ th rc tl pa kd nm (up st 2 (st 2 + 1)) hi ke tx wy hρ z 4 _ hz (by decide)) (cwV 3 hts (gi_V ml_X6_25 im_X6_putsZone sl_X6_putsZone it_X6 cd_X6_putsZone) rfl rfl rfl (by decide +kernel) ⟨Nat.le_of_ble_eq_true rfl, Nat.le_of_ble_eq_true rfl⟩) (pR_V (q0 := 0) (ci := 6) hP hK rfl rfl) rfl rfl hl.1 rfl (lv_room (Nat.le_of_ble_eq_true rfl)) dX6_costs_21 ⟨Nat.le_of_ble_eq_true rfl, Nat.le_of_ble_eq_true rfl⟩) (dm hD rfl) hS rfl (fun H locs hP hS => ?_)
  have hP : va_P E.1 vwCl (refW E ρ th rc tl pa kd nm (costs st z) hi ke tx wy) H := hP
  exact W.vret hx hb hrt (fun t ht hW => ⟨rfl, by rw [ht]; exact hP, hS.F ht⟩) hS.2.2 dX6_costs_24 hlocks
set_option maxHeartbeats 4000000 in
set_option maxRecDepth 100000 in
theorem m_X6_record (l : Launch) (E : Env3) (ρ : Nat → Nat) (th tl pa kd nm : Int) (st hi ke tx wy : S) (hρ : dR ρ 6) (n : Nat) (hn : n ≤ 6) : Met l yX6_record (Cond.code yX6_record cX6_record 2 none :: ALL) ({ frames := 1, cells := 0, slots := 0, locals := 24 }) (pR [.ref (ρ 0)] E (refW E ρ th ((n : Int)) tl pa kd nm st hi ke tx wy)) (qW none E (refW E ρ th ((n : Int)) tl pa kd nm st hi ke tx wy) (refW E ρ th ((recN n : Int)) tl pa kd nm st (recH st hi n) ke tx wy)) 0 0 (adIn (refW E ρ th ((n : Int)) tl pa kd nm st hi ke tx wy)) := by
  refine mk_met (by decide) rfl (Nat.le_of_ble_eq_true rfl) ?_
  intro p e s m args below meth c hx hb hrt hml hts hown hlocks hnm hP hK ls hl
  have hown : s.vm.findClass RX6 = some m.cls := hown
  have hl : lv_has ls 2 [(0, .ref (ρ 0))] := hl
  have hD : va_D (adIn (refW E ρ th ((n : Int)) tl pa kd nm st hi ke tx wy)) (refW E ρ th ((n : Int)) tl pa kd nm st hi ke tx wy) := D_of_dR hρ rfl
  have hS : va_S (adIn (refW E ρ th ((n : Int)) tl pa kd nm st hi ke tx wy)) s.heap s.heap [] := va_S.rf
  refine lv_aload_n hx hb dX6_record_0 rfl (lv_lk hl rfl) ?_
  refine va_get (D := E.1) (ci := 6) hx hb hts inX6 hown hK.1 hP 0 rfl rfl 3 (by decide) (hts _ fl_X6_36) (fun _ h9 => h9) rfl dX6_record_1 ?_
  refine iv_bipush hx hb dX6_record_4 (by decide +kernel) ?_
  refine iv_icmp_ne (tgt := 50) hx hb dX6_record_6 (by decide) (by omega) (by omega) (fun c_6 => ?_) (fun c_6 => ?_)
  · refine lv_aload_n hx hb dX6_record_50 rfl (lv_lk hl rfl) ?_
    refine va_get (D := E.1) (ci := 6) hx hb hts inX6 hown hK.1 hP 0 rfl rfl 1 (by decide) (hts _ fl_X6_7) (fun _ h9 => h9) rfl dX6_record_51 ?_
    refine iv_iconst hx hb dX6_record_54 ?_
    refine lv_aload_n hx hb dX6_record_55 rfl (lv_lk hl rfl) ?_
    refine va_get (D := E.1) (ci := 6) hx hb hts inX6 hown hK.1 hP 0 rfl rfl 2 (by decide) (hts _ fl_X6_13) (fun _ h9 => h9) rfl dX6_record_56 ?_
    refine lv_aload_n hx hb dX6_record_59 rfl (lv_lk hl rfl) ?_
    refine va_get (D := E.1) (ci := 6) hx hb hts inX6 hown hK.1 hP 0 rfl rfl 3 (by decide) (hts _ fl_X6_36) (fun _ h9 => h9) rfl dX6_record_60 ?_
    refine iv_sipush hx hb dX6_record_63 (by decide +kernel) ?_
    refine iv_imul hx hb dX6_record_66 ?_
    refine iv_eq (((252 * n : Nat) : Int)) (by omega) ?_
    refine call_W (va_runS ⟨hx, hb, hml, hown, hts⟩ (m_X6_lays l E (ρ 1) (ρ 2) 252 1512 0 (252 * n) st hi (fun h => absurd (hρ 1 2 (by decide) (by decide) h) (by decide)) (by omega) (by omega)) (va_cwS 4 hts (gi_S ml_X6_39 st_X6_lays it_X6 cd_X6_lays) rfl rfl rfl (by decide +kernel) ⟨Nat.le_of_ble_eq_true rfl, Nat.le_of_ble_eq_true rfl⟩) (pR_S (hP.sub (ws' := [(ρ 1, iA E 252 st), (ρ 2, iA E 1512 hi)]) [1, 2] rfl) hK) rfl rfl hl.1 rfl (lv_room (Nat.le_of_ble_eq_true rfl)) dX6_record_67 ⟨Nat.le_of_ble_eq_true rfl, Nat.le_of_ble_eq_true rfl⟩) hP (dm hD rfl) hS [1, 2] rfl (by decide) rfl (refW E ρ th ((n : Int)) tl pa kd nm st (layN st 0 hi (252 * n) 252) ke tx wy) (rfl) rfl (fun H locs hP hS => ?_)
    refine lv_aload_n hx hb dX6_record_70 rfl (lv_lk hl rfl) ?_
    refine lv_dup hx hb dX6_record_71 rfl ?_
    refine va_get (D := E.1) (ci := 6) hx hb hts inX6 hown hK.1 hP 0 rfl rfl 3 (by decide) (hts _ fl_X6_36) (fun _ h9 => h9) rfl dX6_record_72 ?_
    refine iv_iconst hx hb dX6_record_75 ?_
    refine iv_iadd hx hb dX6_record_76 ?_
    refine va_put (ci := 6) (ty := .int) hx hb hts inX6 tyX6 tyX6_ok nmX6 hown hK.1 hP (dm hD rfl) hS 0 rfl rfl 3 (by decide) (hts _ fl_X6_36) (fun _ h9 => h9) rfl (by decide +kernel) rfl rfl (Nat.le_of_ble_eq_true rfl) dX6_record_77 (fun H locs hP _ hS => ?_)
    have hP : va_P E.1 vwCl (refW E ρ th ((n : Int) + 1) tl pa kd nm st (layN st 0 hi (252 * n) 252) ke tx wy) H := hP
    exact W.vret hx hb hrt (fun t ht hW => ⟨rfl, by rw [ht]; exact (by rw [recH, recN, if_neg (by omega), if_neg (by omega)]; exact hP), hS.F ht⟩) hS.2.2 dX6_record_80 hlocks
  · refine iv_iconst hx hb dX6_record_9 ?_
    refine lv_istore_n (lv' := [(1, .int (I _)), (0, .ref _)]) hx hb dX6_record_10 rfl hl (by decide) rfl (fun ls hl => ?_)
    have LOOP11 : ∀ (n9 i : Nat), (i + n9 = 1260) → ∀ (H : Heap) (locs : List Loc) (ls : Array Slot), va_P E.1 vwCl (refW E ρ th ((n : Int)) tl pa kd nm st (shiftN hi i) ke tx wy) H → va_S (adIn (refW E ρ th ((n : Int)) tl pa kd nm st hi ke tx wy)) s.heap H locs → lv_has ls 2 [(0, .ref (ρ 0)), (1, .int (I (i : Int)))] → W p l e ({ frames := 1, cells := 0, slots := 0, locals := 24 }) s m args below meth c H locs 0 0 (MQ below (qW none E (refW E ρ th ((n : Int)) tl pa kd nm st hi ke tx wy) (refW E ρ th ((recN n : Int)) tl pa kd nm st (recH st hi n) ke tx wy)) args s 0 0 (adIn (refW E ρ th ((n : Int)) tl pa kd nm st hi ke tx wy))) (F0 m 11 ls []) := by
      intro n9
      induction n9 with
      | zero =>
        intro  i hi9 H locs ls hP hS hl
        refine lv_iload_n hx hb dX6_record_11 rfl (lv_lk hl rfl) ?_
        refine iv_sipush hx hb dX6_record_12 (by decide +kernel) ?_
        refine iv_icmp_ge (tgt := 40) hx hb dX6_record_15 (by decide) (by omega) (by omega) (fun c_15 => ?_) (fun c_15 => by exfalso; omega)
        refine lv_aload_n hx hb dX6_record_40 rfl (lv_lk hl rfl) ?_
        refine lv_dup hx hb dX6_record_41 rfl ?_
        refine va_get (D := E.1) (ci := 6) hx hb hts inX6 hown hK.1 hP 0 rfl rfl 3 (by decide) (hts _ fl_X6_36) (fun _ h9 => h9) rfl dX6_record_42 ?_
        refine iv_iconst hx hb dX6_record_45 ?_
        refine iv_isub hx hb dX6_record_46 ?_
        refine iv_eq (5) (by omega) ?_
        refine va_put (ci := 6) (ty := .int) hx hb hts inX6 tyX6 tyX6_ok nmX6 hown hK.1 hP (dm hD rfl) hS 0 rfl rfl 3 (by decide) (hts _ fl_X6_36) (fun _ h9 => h9) rfl (by decide +kernel) rfl rfl (Nat.le_of_ble_eq_true rfl) dX6_record_47 (fun H locs hP _ hS => ?_)
        have hP : va_P E.1 vwCl (refW E ρ th 5 tl pa kd nm st (shiftN hi i) ke tx wy) H := hP
        refine lv_aload_n hx hb dX6_record_50 rfl (lv_lk hl rfl) ?_
        refine va_get (D := E.1) (ci := 6) hx hb hts inX6 hown hK.1 hP 0 rfl rfl 1 (by decide) (hts _ fl_X6_7) (fun _ h9 => h9) rfl dX6_record_51 ?_
        refine iv_iconst hx hb dX6_record_54 ?_
        refine lv_aload_n hx hb dX6_record_55 rfl (lv_lk hl rfl) ?_
        refine va_get (D := E.1) (ci := 6) hx hb hts inX6 hown hK.1 hP 0 rfl rfl 2 (by decide) (hts _ fl_X6_13) (fun _ h9 => h9) rfl dX6_record_56 ?_
        refine lv_aload_n hx hb dX6_record_59 rfl (lv_lk hl rfl) ?_
        refine va_get (D := E.1) (ci := 6) hx hb hts inX6 hown hK.1 hP 0 rfl rfl 3 (by decide) (hts _ fl_X6_36) (fun _ h9 => h9) rfl dX6_record_60 ?_
        refine iv_sipush hx hb dX6_record_63 (by decide +kernel) ?_
        refine iv_imul hx hb dX6_record_66 ?_
        refine iv_eq (((1260 : Nat) : Int)) (by omega) ?_
        refine call_W (va_runS ⟨hx, hb, hml, hown, hts⟩ (m_X6_lays l E (ρ 1) (ρ 2) 252 1512 0 1260 st (shiftN hi i) (fun h => absurd (hρ 1 2 (by decide) (by decide) h) (by decide)) (by omega) (by omega)) (va_cwS 4 hts (gi_S ml_X6_39 st_X6_lays it_X6 cd_X6_lays) rfl rfl rfl (by decide +kernel) ⟨Nat.le_of_ble_eq_true rfl, Nat.le_of_ble_eq_true rfl⟩) (pR_S (hP.sub (ws' := [(ρ 1, iA E 252 st), (ρ 2, iA E 1512 (shiftN hi i))]) [1, 2] rfl) hK) rfl rfl hl.1 rfl (lv_room (Nat.le_of_ble_eq_true rfl)) dX6_record_67 ⟨Nat.le_of_ble_eq_true rfl, Nat.le_of_ble_eq_true rfl⟩) hP (dm hD rfl) hS [1, 2] rfl (by decide) rfl (refW E ρ th 5 tl pa kd nm st (layN st 0 (shiftN hi i) 1260 252) ke tx wy) (rfl) rfl (fun H locs hP hS => ?_)
        refine lv_aload_n hx hb dX6_record_70 rfl (lv_lk hl rfl) ?_
        refine lv_dup hx hb dX6_record_71 rfl ?_
        refine va_get (D := E.1) (ci := 6) hx hb hts inX6 hown hK.1 hP 0 rfl rfl 3 (by decide) (hts _ fl_X6_36) (fun _ h9 => h9) rfl dX6_record_72 ?_
        refine iv_iconst hx hb dX6_record_75 ?_
        refine iv_iadd hx hb dX6_record_76 ?_
        refine va_put (ci := 6) (ty := .int) hx hb hts inX6 tyX6 tyX6_ok nmX6 hown hK.1 hP (dm hD rfl) hS 0 rfl rfl 3 (by decide) (hts _ fl_X6_36) (fun _ h9 => h9) rfl (by decide +kernel) rfl rfl (Nat.le_of_ble_eq_true rfl) dX6_record_77 (fun H locs hP _ hS => ?_)
        have hP : va_P E.1 vwCl (refW E ρ th 6 tl pa kd nm st (layN st 0 (shiftN hi i) 1260 252) ke tx wy) H := hP
        exact W.vret hx hb hrt (fun t ht hW => ⟨rfl, by rw [ht]; exact (by rw [recH, recN, if_pos (by omega), if_pos (by omega)]; rw [show i = 1260 by omega] at hP; exact hP), hS.F ht⟩) hS.2.2 dX6_record_80 hlocks
      | succ n9 ih =>
        intro  i hi9 H locs ls hP hS hl
        refine lv_iload_n hx hb dX6_record_11 rfl (lv_lk hl rfl) ?_
        refine iv_sipush hx hb dX6_record_12 (by decide +kernel) ?_
        refine iv_icmp_ge (tgt := 40) hx hb dX6_record_15 (by decide) (by omega) (by omega) (fun c_15 => by exfalso; omega) (fun c_15 => ?_)
        refine lv_aload_n hx hb dX6_record_18 rfl (lv_lk hl rfl) ?_
        refine va_get (D := E.1) (ci := 6) hx hb hts inX6 hown hK.1 hP 0 rfl rfl 2 (by decide) (hts _ fl_X6_13) (fun _ h9 => h9) rfl dX6_record_19 ?_
        refine lv_iload_n hx hb dX6_record_22 rfl (lv_lk hl rfl) ?_
        refine lv_aload_n hx hb dX6_record_23 rfl (lv_lk hl rfl) ?_
        refine va_get (D := E.1) (ci := 6) hx hb hts inX6 hown hK.1 hP 0 rfl rfl 2 (by decide) (hts _ fl_X6_13) (fun _ h9 => h9) rfl dX6_record_24 ?_
        refine lv_iload_n hx hb dX6_record_27 rfl (lv_lk hl rfl) ?_
        refine iv_sipush hx hb dX6_record_28 (by decide +kernel) ?_
        refine iv_iadd hx hb dX6_record_31 ?_
        refine iv_iald hx hb hK hP 2 rfl (i + 252) (by omega) (by omega) dX6_record_32 ?_
        refine iv_iast hx hb hK hP (dm hD rfl) hS 2 rfl (i) (by omega) (by omega) dX6_record_33 (refW E ρ th ((n : Int)) tl pa kd nm st (shiftN hi (i + 1)) ke tx wy) (by rw [← shiftN_s, show shiftN hi i (i + 252) = hi (i + 252) from if_neg (by omega)]; rfl) (fun H locs hP hS => ?_)
        refine iv_iinc (k := 1) hx hb dX6_record_34 hl rfl (((i + 1 : Nat) : Int)) (by omega) (by decide) [(1, .int (I _)), (0, .ref _)] rfl (fun ls hl => ?_)
        refine lv_goto (tgt := 11) hx hb dX6_record_37 (by decide) ?_
        exact ih (i + 1) (by omega) H locs ls hP hS (lv_sub hl [1, 0] rfl)
    exact LOOP11 1260 0 (by omega) _ _ _ (by rw [shiftN_0]; exact hP) hS (lv_sub hl [1, 0] rfl)
end
section
/-! the reference, third part; written by ref.py -/
set_option maxHeartbeats 4000000 in
set_option maxRecDepth 100000 in
theorem m_X6_comesTo (l : Launch) (E : Env3) (ρ : Nat → Nat) (th rc tl pa kd nm : Int) (st hi ke tx wy : S) (hρ : dR ρ 6) (T : Int) (hI : IB T st) (z : Nat) (hz : z < 6) : Met l yX6_comesTo (Cond.code yX6_comesTo cX6_comesTo 5 none :: ALL) ({ frames := 2, cells := 0, slots := 0, locals := 44 }) (pR [.ref (ρ 0), .int (I (z : Int))] E (refW E ρ th rc tl pa kd nm st hi ke tx wy)) (qX none E (refW E ρ th rc tl pa kd nm st hi ke tx wy) (fun wy => (refW E ρ th rc tl pa kd nm (come 6 st z) hi ke tx wy))) 0 0 (adIn (refW E ρ th rc tl pa kd nm st hi ke tx wy)) := by
  refine mk_met (by decide) rfl (Nat.le_of_ble_eq_true rfl) ?_
  intro p e s m args below meth c hx hb hrt hml hts hown hlocks hnm hP hK ls hl
  have hown : s.vm.findClass RX6 = some m.cls := hown
  have hl : lv_has ls 5 [(0, .ref (ρ 0)), (1, .int (I (z : Int)))] := hl
  have hD : va_D (adIn (refW E ρ th rc tl pa kd nm st hi ke tx wy)) (refW E ρ th rc tl pa kd nm st hi ke tx wy) := D_of_dR hρ rfl
  have hS : va_S (adIn (refW E ρ th rc tl pa kd nm st hi ke tx wy)) s.heap s.heap [] := va_S.rf
  have CUT37 : ∀ (i : Nat) (wy1 : S), (cs st z i + i ≤ 5) → (∀ j, j < i → cs st z j ≠ 0 ∧ st (6 + 5 * cs st z j + 3) = 0) → (∀ j, j < i → wy1 j = (cs st z j : Int)) → (cs st z i = 0 ∨ st (6 + 5 * cs st z i + 3) ≠ 0) → ∀ (H : Heap) (locs : List Loc) (ls : Array Slot), va_P E.1 vwCl (refW E ρ th rc tl pa kd nm st hi ke tx wy1) H → va_S (adIn (refW E ρ th rc tl pa kd nm st hi ke tx wy)) s.heap H locs → lv_has ls 5 [(0, .ref (ρ 0)), (1, .int (I (z : Int))), (2, .int (I (i : Int))), (3, .int (I (cs st z i : Int)))] → W p l e ({ frames := 2, cells := 0, slots := 0, locals := 44 }) s m args below meth c H locs 0 0 (MQ below (qX none E (refW E ρ th rc tl pa kd nm st hi ke tx wy) (fun wy => (refW E ρ th rc tl pa kd nm (come 6 st z) hi ke tx wy))) args s 0 0 (adIn (refW E ρ th rc tl pa kd nm st hi ke tx wy))) (F0 m 37 ls []) := by
    intro i wy1 h2 h3 h4 hend H locs ls hP hS hl
    refine lv_iload_n hx hb dX6_comesTo_37 rfl (lv_lk hl rfl) ?_
    refine iv_iconst hx hb dX6_comesTo_38 ?_
    refine iv_isub hx hb dX6_comesTo_39 ?_
    refine lv_istore (lv' := [(4, .int (I _)), (0, .ref _), (1, .int (I _)), (2, .int (I _)), (3, .int (I _))]) hx hb dX6_comesTo_40 hl (by decide) rfl (fun ls hl => ?_)
    have LOOP42 : ∀ (n9 : Nat), (n9 ≤ i) → ∀ (H : Heap) (locs : List Loc) (ls : Array Slot), va_P E.1 vwCl (refW E ρ th rc tl pa kd nm (come 6 st (cs st z n9)) hi ke tx wy1) H → va_S (adIn (refW E ρ th rc tl pa kd nm st hi ke tx wy)) s.heap H locs → lv_has ls 5 [(0, .ref (ρ 0)), (3, .int (I (cs st z n9 : Int))), (4, .int (I ((n9 : Int) - 1)))] → W p l e ({ frames := 2, cells := 0, slots := 0, locals := 44 }) s m args below meth c H locs 0 0 (MQ below (qX none E (refW E ρ th rc tl pa kd nm st hi ke tx wy) (fun wy => (refW E ρ th rc tl pa kd nm (come 6 st z) hi ke tx wy))) args s 0 0 (adIn (refW E ρ th rc tl pa kd nm st hi ke tx wy))) (F0 m 42 ls []) := by
      intro n9
      induction n9 with
      | zero =>
        intro   hi9 H locs ls hP hS hl
        refine lv_iload hx hb dX6_comesTo_42 (lv_lk hl rfl) ?_
        refine iv_if_lt (tgt := 101) hx hb dX6_comesTo_44 (by decide) (by omega) (fun c_44 => ?_) (fun c_44 => by exfalso; omega)
        exact W.vret hx hb hrt (fun t ht hW => ⟨rfl, ⟨wy1, by rw [ht]; exact hP⟩, hS.F ht⟩) hS.2.2 dX6_comesTo_101 hlocks
      | succ n9 ih =>
        intro   hi9 H locs ls hP hS hl
        have k2 : cs st z n9 + n9 ≤ 5 := cs_le hI hz n9 (fun j hj => (h3 j (by omega)).1)
        have k3 : cs st z (n9 + 1) + (n9 + 1) ≤ 5 := cs_le hI hz (n9 + 1) (fun j hj => (h3 j (by omega)).1)
        refine lv_iload hx hb dX6_comesTo_42 (lv_lk hl rfl) ?_
        refine iv_if_lt (tgt := 101) hx hb dX6_comesTo_44 (by decide) (by omega) (fun c_44 => by exfalso; omega) (fun c_44 => ?_)
        refine lv_aload_n hx hb dX6_comesTo_47 rfl (lv_lk hl rfl) ?_
        refine lv_iload_n hx hb dX6_comesTo_48 rfl (lv_lk hl rfl) ?_
        refine call_F (va_runV ⟨hx, hb, hml, hown, hts⟩ (m_X6_costs l E ρ th rc tl pa kd nm (come 6 st (cs st z (n9 + 1))) hi ke tx wy1 hρ (cs st z (n9 + 1)) (by omega)) (cwV 1 hts (gi_V ml_X6_71 im_X6_costs sl_X6_costs it_X6 cd_X6_costs) rfl rfl rfl (by decide +kernel) ⟨Nat.le_of_ble_eq_true rfl, Nat.le_of_ble_eq_true rfl⟩) (pR_V (q0 := 0) (ci := 6) hP hK rfl rfl) rfl rfl hl.1 rfl (lv_room (Nat.le_of_ble_eq_true rfl)) dX6_comesTo_49 ⟨Nat.le_of_ble_eq_true rfl, Nat.le_of_ble_eq_true rfl⟩) (dm hD rfl) hS rfl (fun H locs hP hS => ?_)
        have hP : va_P E.1 vwCl (refW E ρ th rc tl pa kd nm (costs (come 6 st (cs st z (n9 + 1))) (cs st z (n9 + 1))) hi ke tx wy1) H := hP
        refine lv_aload_n hx hb dX6_comesTo_52 rfl (lv_lk hl rfl) ?_
        refine lv_aload_n hx hb dX6_comesTo_53 rfl (lv_lk hl rfl) ?_
        refine va_get (D := E.1) (ci := 6) hx hb hts inX6 hown hK.1 hP 0 rfl rfl 7 (by decide) (hts _ fl_X6_22) (fun _ h9 => h9) rfl dX6_comesTo_54 ?_
        refine lv_iload hx hb dX6_comesTo_57 (lv_lk hl rfl) ?_
        refine iv_iald hx hb hK hP 5 rfl (n9) (by omega) (by omega) dX6_comesTo_59 ?_
        refine iv_eq ((cs st z n9 : Int)) (by exact h4 n9 (by omega)) ?_
        refine iv_iconst hx hb dX6_comesTo_60 ?_
        refine lv_aload_n hx hb dX6_comesTo_61 rfl (lv_lk hl rfl) ?_
        refine va_get (D := E.1) (ci := 6) hx hb hts inX6 hown hK.1 hP 0 rfl rfl 1 (by decide) (hts _ fl_X6_7) (fun _ h9 => h9) rfl dX6_comesTo_62 ?_
        refine iv_iconst hx hb dX6_comesTo_65 ?_
        refine iv_iald hx hb hK hP 1 rfl (0) (by omega) (by omega) dX6_comesTo_66 ?_
        refine lv_aload_n hx hb dX6_comesTo_67 rfl (lv_lk hl rfl) ?_
        refine lv_iload_n hx hb dX6_comesTo_68 rfl (lv_lk hl rfl) ?_
        refine iv_iconst hx hb dX6_comesTo_69 ?_
        refine call_S (va_runV ⟨hx, hb, hml, hown, hts⟩ (m_X6_ofZone l E ρ th rc tl pa kd nm (costs (come 6 st (cs st z (n9 + 1))) (cs st z (n9 + 1))) hi ke tx wy1 (cs st z (n9 + 1)) 1 (by omega) (by decide)) (cwV 2 hts (gi_V ml_X6_50 im_X6_ofZone sl_X6_ofZone it_X6 cd_X6_ofZone) rfl rfl rfl (by decide +kernel) ⟨Nat.le_of_ble_eq_true rfl, Nat.le_of_ble_eq_true rfl⟩) (pR_V (q0 := 0) (ci := 6) hP hK rfl rfl) rfl rfl hl.1 rfl (lv_room (Nat.le_of_ble_eq_true rfl)) dX6_comesTo_70 ⟨Nat.le_of_ble_eq_true rfl, Nat.le_of_ble_eq_true rfl⟩) (fun _ h => h) hS rfl (fun locs hS => ?_)
        refine iv_iadd hx hb dX6_comesTo_73 ?_
        refine call_F (va_runV ⟨hx, hb, hml, hown, hts⟩ (m_X6_putsZone l E ρ th rc tl pa kd nm (costs (come 6 st (cs st z (n9 + 1))) (cs st z (n9 + 1))) hi ke tx wy1 hρ (cs st z n9) 3 _ (by omega) (by decide)) (cwV 3 hts (gi_V ml_X6_25 im_X6_putsZone sl_X6_putsZone it_X6 cd_X6_putsZone) rfl rfl rfl (by decide +kernel) ⟨Nat.le_of_ble_eq_true rfl, Nat.le_of_ble_eq_true rfl⟩) (pR_V (q0 := 0) (ci := 6) hP hK rfl rfl) rfl rfl hl.1 rfl (lv_room (Nat.le_of_ble_eq_true rfl)) dX6_comesTo_74 ⟨Nat.le_of_ble_eq_true rfl, Nat.le_of_ble_eq_true rfl⟩) (dm hD rfl) hS rfl (fun H locs hP hS => ?_)
        have hP : va_P E.1 vwCl (refW E ρ th rc tl pa kd nm (up (costs (come 6 st (cs st z (n9 + 1))) (cs st z (n9 + 1))) (6 + 5 * cs st z n9 + 3) (costs (come 6 st (cs st z (n9 + 1))) (cs st z (n9 + 1)) 0 + costs (come 6 st (cs st z (n9 + 1))) (cs st z (n9 + 1)) (6 + 5 * cs st z (n9 + 1) + 1))) hi ke tx wy1) H := hP
        refine lv_aload_n hx hb dX6_comesTo_77 rfl (lv_lk hl rfl) ?_
        refine va_get (D := E.1) (ci := 6) hx hb hts inX6 hown hK.1 hP 0 rfl rfl 1 (by decide) (hts _ fl_X6_7) (fun _ h9 => h9) rfl dX6_comesTo_78 ?_
        refine iv_iconst hx hb dX6_comesTo_81 ?_
        refine lv_dup2_11 hx hb dX6_comesTo_82 rfl rfl ?_
        refine iv_iald hx hb hK hP 1 rfl (4) (by omega) (by omega) dX6_comesTo_83 ?_
        refine iv_iconst hx hb dX6_comesTo_84 ?_
        refine iv_iadd hx hb dX6_comesTo_85 ?_
        refine iv_iast hx hb hK hP (dm hD rfl) hS 1 rfl (4) (by omega) (by omega) dX6_comesTo_86 (refW E ρ th rc tl pa kd nm (way2 (come 6 st (cs st z (n9 + 1))) (cs st z (n9 + 1)) (cs st z n9)) hi ke tx wy1) (rfl) (fun H locs hP hS => ?_)
        refine lv_aload_n hx hb dX6_comesTo_87 rfl (lv_lk hl rfl) ?_
        refine va_get (D := E.1) (ci := 6) hx hb hts inX6 hown hK.1 hP 0 rfl rfl 7 (by decide) (hts _ fl_X6_22) (fun _ h9 => h9) rfl dX6_comesTo_88 ?_
        refine lv_iload hx hb dX6_comesTo_91 (lv_lk hl rfl) ?_
        refine iv_iald hx hb hK hP 5 rfl (n9) (by omega) (by omega) dX6_comesTo_93 ?_
        refine iv_eq ((cs st z n9 : Int)) (by exact h4 n9 (by omega)) ?_
        refine lv_istore_n (lv' := [(3, .int (I _)), (0, .ref _), (4, .int (I _))]) hx hb dX6_comesTo_94 rfl hl (by decide) rfl (fun ls hl => ?_)
        have e7 := come_step hI (z := cs st z n9) (by omega) (h3 n9 (by omega)).1 (h3 n9 (by omega)).2
        have hP : va_P E.1 vwCl (refW E ρ th rc tl pa kd nm (come 6 st (cs st z n9)) hi ke tx wy1) H := by rw [e7]; exact hP
        refine iv_iinc (k := 2) hx hb dX6_comesTo_95 hl rfl ((n9 : Int) - 1) (by omega) (by decide) [(4, .int (I _)), (3, .int (I _)), (0, .ref _)] rfl (fun ls hl => ?_)
        refine lv_goto (tgt := 42) hx hb dX6_comesTo_98 (by decide) ?_
        exact ih (by omega) H locs ls hP hS (lv_sub hl [2, 1, 0] rfl)
    exact LOOP42 i (Nat.le_refl _) _ _ _ (by rw [come_end hend]; exact hP) hS (lv_sub hl [1, 4, 0] rfl)
  refine iv_iconst hx hb dX6_comesTo_0 ?_
  refine lv_istore_n (lv' := [(2, .int (I _)), (0, .ref _), (1, .int (I _))]) hx hb dX6_comesTo_1 rfl hl (by decide) rfl (fun ls hl => ?_)
  refine lv_iload_n hx hb dX6_comesTo_2 rfl (lv_lk hl rfl) ?_
  refine lv_istore_n (lv' := [(3, .int (I _)), (2, .int (I _)), (0, .ref _), (1, .int (I _))]) hx hb dX6_comesTo_3 rfl hl (by decide) rfl (fun ls hl => ?_)
  have LOOP4 : ∀ (n9 i : Nat) (wy1 : S), (cs st z i ≤ n9) → (cs st z i + i ≤ 5) → (∀ j, j < i → cs st z j ≠ 0 ∧ st (6 + 5 * cs st z j + 3) = 0) → (∀ j, j < i → wy1 j = (cs st z j : Int)) → ∀ (H : Heap) (locs : List Loc) (ls : Array Slot), va_P E.1 vwCl (refW E ρ th rc tl pa kd nm st hi ke tx wy1) H → va_S (adIn (refW E ρ th rc tl pa kd nm st hi ke tx wy)) s.heap H locs → lv_has ls 5 [(0, .ref (ρ 0)), (1, .int (I (z : Int))), (2, .int (I (i : Int))), (3, .int (I (cs st z i : Int)))] → W p l e ({ frames := 2, cells := 0, slots := 0, locals := 44 }) s m args below meth c H locs 0 0 (MQ below (qX none E (refW E ρ th rc tl pa kd nm st hi ke tx wy) (fun wy => (refW E ρ th rc tl pa kd nm (come 6 st z) hi ke tx wy))) args s 0 0 (adIn (refW E ρ th rc tl pa kd nm st hi ke tx wy))) (F0 m 4 ls []) := by
    intro n9
    induction n9 with
    | zero =>
      intro  i wy1 h1 h2 h3 h4 H locs ls hP hS hl
      refine lv_iload_n hx hb dX6_comesTo_4 rfl (lv_lk hl rfl) ?_
      refine iv_if_eq (tgt := 37) hx hb dX6_comesTo_5 (by decide) (by omega) (fun c_5 => ?_) (fun c_5 => by exfalso; omega)
      exact CUT37 i wy1 h2 h3 h4 (Or.inl (by omega)) _ _ _ hP hS (lv_sub hl [0, 1, 2, 3] rfl)
    | succ n9 ih =>
      intro  i wy1 h1 h2 h3 h4 H locs ls hP hS hl
      have hb9 := (hI.2.2.1 (cs st z i) (by omega)).2.2.2.2.2
      have h09 := hI.1
      refine lv_iload_n hx hb dX6_comesTo_4 rfl (lv_lk hl rfl) ?_
      refine iv_if_eq (tgt := 37) hx hb dX6_comesTo_5 (by decide) (by omega) (fun c_5 => ?_) (fun c_5 => ?_)
      · exact CUT37 i wy1 h2 h3 h4 (Or.inl (by omega)) _ _ _ hP hS (lv_sub hl [0, 1, 2, 3] rfl)
      · refine lv_aload_n hx hb dX6_comesTo_8 rfl (lv_lk hl rfl) ?_
        refine lv_iload_n hx hb dX6_comesTo_9 rfl (lv_lk hl rfl) ?_
        refine iv_iconst hx hb dX6_comesTo_10 ?_
        refine call_S (va_runV ⟨hx, hb, hml, hown, hts⟩ (m_X6_ofZone l E ρ th rc tl pa kd nm st hi ke tx wy1 (cs st z i) 3 (by omega) (by decide)) (cwV 2 hts (gi_V ml_X6_50 im_X6_ofZone sl_X6_ofZone it_X6 cd_X6_ofZone) rfl rfl rfl (by decide +kernel) ⟨Nat.le_of_ble_eq_true rfl, Nat.le_of_ble_eq_true rfl⟩) (pR_V (q0 := 0) (ci := 6) hP hK rfl rfl) rfl rfl hl.1 rfl (lv_room (Nat.le_of_ble_eq_true rfl)) dX6_comesTo_11 ⟨Nat.le_of_ble_eq_true rfl, Nat.le_of_ble_eq_true rfl⟩) (fun _ h => h) hS rfl (fun locs hS => ?_)
        refine iv_if_ne (tgt := 37) hx hb dX6_comesTo_14 (by decide) (by omega) (fun c_14 => ?_) (fun c_14 => ?_)
        · exact CUT37 i wy1 h2 h3 h4 (Or.inr c_14) _ _ _ hP hS (lv_sub hl [0, 1, 2, 3] rfl)
        · refine lv_aload_n hx hb dX6_comesTo_17 rfl (lv_lk hl rfl) ?_
          refine va_get (D := E.1) (ci := 6) hx hb hts inX6 hown hK.1 hP 0 rfl rfl 7 (by decide) (hts _ fl_X6_22) (fun _ h9 => h9) rfl dX6_comesTo_18 ?_
          refine lv_iload_n hx hb dX6_comesTo_21 rfl (lv_lk hl rfl) ?_
          refine lv_iload_n hx hb dX6_comesTo_22 rfl (lv_lk hl rfl) ?_
          refine iv_iast hx hb hK hP (dm hD rfl) hS 5 rfl (i) (by omega) (by omega) dX6_comesTo_23 (refW E ρ th rc tl pa kd nm st hi ke tx (up wy1 i (cs st z i))) (rfl) (fun H locs hP hS => ?_)
          refine iv_iinc (k := 2) hx hb dX6_comesTo_24 hl rfl (((i + 1 : Nat) : Int)) (by omega) (by decide) [(2, .int (I _)), (0, .ref _), (1, .int (I _)), (3, .int (I _))] rfl (fun ls hl => ?_)
          refine lv_aload_n hx hb dX6_comesTo_27 rfl (lv_lk hl rfl) ?_
          refine lv_iload_n hx hb dX6_comesTo_28 rfl (lv_lk hl rfl) ?_
          refine iv_iconst hx hb dX6_comesTo_29 ?_
          refine call_S (va_runV ⟨hx, hb, hml, hown, hts⟩ (m_X6_ofZone l E ρ th rc tl pa kd nm st hi ke tx (up wy1 i (cs st z i)) (cs st z i) 0 (by omega) (by decide)) (cwV 2 hts (gi_V ml_X6_50 im_X6_ofZone sl_X6_ofZone it_X6 cd_X6_ofZone) rfl rfl rfl (by decide +kernel) ⟨Nat.le_of_ble_eq_true rfl, Nat.le_of_ble_eq_true rfl⟩) (pR_V (q0 := 0) (ci := 6) hP hK rfl rfl) rfl rfl hl.1 rfl (lv_room (Nat.le_of_ble_eq_true rfl)) dX6_comesTo_30 ⟨Nat.le_of_ble_eq_true rfl, Nat.le_of_ble_eq_true rfl⟩) (fun _ h => h) hS rfl (fun locs hS => ?_)
          refine iv_eq (((cs st z (i + 1) : Nat) : Int)) (by exact (IB_par hI (z := cs st z i) (by omega) (by omega)).1) ?_
          refine lv_istore_n (lv' := [(3, .int (I _)), (2, .int (I _)), (0, .ref _), (1, .int (I _))]) hx hb dX6_comesTo_33 rfl hl (by decide) rfl (fun ls hl => ?_)
          refine lv_goto (tgt := 4) hx hb dX6_comesTo_34 (by decide) ?_
          exact ih (i + 1) (up wy1 i (cs st z i)) (by have := (IB_par hI (z := cs st z i) (by omega) (by omega)).2; show par st (cs st z i) ≤ n9; omega) (by have := (IB_par hI (z := cs st z i) (by omega) (by omega)).2; show par st (cs st z i) + (i + 1) ≤ 5; omega) (lt_s h3 ⟨by omega, by omega⟩) (lt_s (fun j hj => by rw [up_ne _ _ (by omega)]; exact h4 j hj) (up_eq _ _ _)) H locs ls hP hS (lv_sub hl [2, 3, 1, 0] rfl)
  exact LOOP4 z 0 wy (Nat.le_refl _) (by show z + 0 ≤ 5; omega) (fun j hj => absurd hj (by omega)) (fun j hj => absurd hj (by omega)) _ _ _ hP hS (lv_sub hl [2, 3, 1, 0] rfl)
end
section
/-! the reference, fourth part; written by ref.py -/
set_option maxHeartbeats 4000000 in
set_option maxRecDepth 100000 in
theorem m_X6_asks (l : Launch) (E : Env3) (ρ : Nat → Nat) (th rc tl pa kd nm : Int) (st hi ke tx wy : S) (hρ : dR ρ 6) (T : Int) (hI : IB T st) (r : Nat) (hr : r < 36) : Met l yX6_asks (Cond.code yX6_asks cX6_asks 4 none :: ALL) ({ frames := 3, cells := 0, slots := 0, locals := 68 }) (pR [.ref (ρ 0), .int (I (r : Int))] E (refW E ρ th rc tl pa kd nm st hi ke tx wy)) (qX none E (refW E ρ th rc tl pa kd nm st hi ke tx wy) (fun wy => (refW E ρ th rc tl pa kd nm (asks st r) hi ke tx wy))) 0 0 (adIn (refW E ρ th rc tl pa kd nm st hi ke tx wy)) := by
  refine mk_met (by decide) rfl (Nat.le_of_ble_eq_true rfl) ?_
  intro p e s m args below meth c hx hb hrt hml hts hown hlocks hnm hP hK ls hl
  have hown : s.vm.findClass RX6 = some m.cls := hown
  have hl : lv_has ls 4 [(0, .ref (ρ 0)), (1, .int (I (r : Int)))] := hl
  have hD : va_D (adIn (refW E ρ th rc tl pa kd nm st hi ke tx wy)) (refW E ρ th rc tl pa kd nm st hi ke tx wy) := D_of_dR hρ rfl
  have hS : va_S (adIn (refW E ρ th rc tl pa kd nm st hi ke tx wy)) s.heap s.heap [] := va_S.rf
  refine lv_iload_n hx hb dX6_asks_0 rfl (lv_lk hl rfl) ?_
  refine iv_bipush hx hb dX6_asks_1 (by decide +kernel) ?_
  refine iv_idiv hx hb dX6_asks_3 (((r / 6 : Nat) : Int)) (I_div (x := r) (y := 6) (by omega) (by omega)) (by omega) ?_
  refine lv_istore_n (lv' := [(2, .int (I _)), (0, .ref _), (1, .int (I _))]) hx hb dX6_asks_4 rfl hl (by decide) rfl (fun ls hl => ?_)
  refine lv_aload_n hx hb dX6_asks_5 rfl (lv_lk hl rfl) ?_
  refine lv_iload_n hx hb dX6_asks_6 rfl (lv_lk hl rfl) ?_
  refine call_X (va_runV ⟨hx, hb, hml, hown, hts⟩ (m_X6_comesTo l E ρ th rc tl pa kd nm st hi ke tx wy hρ T hI (r / 6) (by omega)) (cwV 1 hts (gi_V ml_X6_75 im_X6_comesTo sl_X6_comesTo it_X6 cd_X6_comesTo) rfl rfl rfl (by decide +kernel) ⟨Nat.le_of_ble_eq_true rfl, Nat.le_of_ble_eq_true rfl⟩) (pR_V (q0 := 0) (ci := 6) hP hK rfl rfl) rfl rfl hl.1 rfl (lv_room (Nat.le_of_ble_eq_true rfl)) dX6_asks_7 ⟨Nat.le_of_ble_eq_true rfl, Nat.le_of_ble_eq_true rfl⟩) (dm hD rfl) hS rfl (fun wy1 H locs hP hS => ?_)
  have hP : va_P E.1 vwCl (refW E ρ th rc tl pa kd nm (come 6 st (r / 6)) hi ke tx wy1) H := hP
  refine lv_aload_n hx hb dX6_asks_10 rfl (lv_lk hl rfl) ?_
  refine lv_iload_n hx hb dX6_asks_11 rfl (lv_lk hl rfl) ?_
  refine call_F (va_runV ⟨hx, hb, hml, hown, hts⟩ (m_X6_costs l E ρ th rc tl pa kd nm (come 6 st (r / 6)) hi ke tx wy1 hρ (r / 6) (by omega)) (cwV 1 hts (gi_V ml_X6_71 im_X6_costs sl_X6_costs it_X6 cd_X6_costs) rfl rfl rfl (by decide +kernel) ⟨Nat.le_of_ble_eq_true rfl, Nat.le_of_ble_eq_true rfl⟩) (pR_V (q0 := 0) (ci := 6) hP hK rfl rfl) rfl rfl hl.1 rfl (lv_room (Nat.le_of_ble_eq_true rfl)) dX6_asks_12 ⟨Nat.le_of_ble_eq_true rfl, Nat.le_of_ble_eq_true rfl⟩) (dm hD rfl) hS rfl (fun H locs hP hS => ?_)
  have hP : va_P E.1 vwCl (refW E ρ th rc tl pa kd nm (costs (come 6 st (r / 6)) (r / 6)) hi ke tx wy1) H := hP
  obtain ⟨s1, hs1⟩ : ∃ x, x = costs (come 6 st (r / 6)) (r / 6) := ⟨_, rfl⟩
  rw [← hs1] at hP
  have hI1 : IB T s1 := by rw [hs1]; exact IB_costs (IB_come hI (by omega)) (by omega)
  have t1 := (hI1.2.2.2 r hr).1
  unfold triT at t1
  refine lv_aload_n hx hb dX6_asks_15 rfl (lv_lk hl rfl) ?_
  refine lv_iload_n hx hb dX6_asks_16 rfl (lv_lk hl rfl) ?_
  refine iv_iconst hx hb dX6_asks_17 ?_
  refine call_S (va_runV ⟨hx, hb, hml, hown, hts⟩ (m_X6_of l E ρ th rc tl pa kd nm s1 hi ke tx wy1 r 0 hr (by decide)) (cwV 2 hts (gi_V ml_X6_61 im_X6_of sl_X6_of it_X6 cd_X6_of) rfl rfl rfl (by decide +kernel) ⟨Nat.le_of_ble_eq_true rfl, Nat.le_of_ble_eq_true rfl⟩) (pR_V (q0 := 0) (ci := 6) hP hK rfl rfl) rfl rfl hl.1 rfl (lv_room (Nat.le_of_ble_eq_true rfl)) dX6_asks_18 ⟨Nat.le_of_ble_eq_true rfl, Nat.le_of_ble_eq_true rfl⟩) (fun _ h => h) hS rfl (fun locs hS => ?_)
  refine iv_eq (s1 (36 + 6 * r)) (rfl) ?_
  refine iv_if_eq (tgt := 28) hx hb dX6_asks_21 (by decide) (by omega) (fun c_21 => ?_) (fun c_21 => ?_)
  · refine iv_iconst hx hb dX6_asks_28 ?_
    refine lv_istore_n (lv' := [(3, .int (I _)), (2, .int (I _)), (0, .ref _), (1, .int (I _))]) hx hb dX6_asks_29 rfl hl (by decide) rfl (fun ls hl => ?_)
    refine lv_aload_n hx hb dX6_asks_30 rfl (lv_lk hl rfl) ?_
    refine lv_iload_n hx hb dX6_asks_31 rfl (lv_lk hl rfl) ?_
    refine iv_iconst hx hb dX6_asks_32 ?_
    refine lv_iload_n hx hb dX6_asks_33 rfl (lv_lk hl rfl) ?_
    refine iv_if_eq (tgt := 46) hx hb dX6_asks_34 (by decide) (by omega) (fun c_34 => ?_) (fun c_34 => by exfalso; omega)
    refine iv_iconst hx hb dX6_asks_46 ?_
    refine call_F (va_runV ⟨hx, hb, hml, hown, hts⟩ (m_X6_puts l E ρ th rc tl pa kd nm s1 hi ke tx wy1 hρ r 3 _ hr (by decide)) (cwV 3 hts (gi_V ml_X6_29 im_X6_puts sl_X6_puts it_X6 cd_X6_puts) rfl rfl rfl (by decide +kernel) ⟨Nat.le_of_ble_eq_true rfl, Nat.le_of_ble_eq_true rfl⟩) (pR_V (q0 := 0) (ci := 6) hP hK rfl rfl) rfl rfl hl.1 rfl (lv_room (Nat.le_of_ble_eq_true rfl)) dX6_asks_47 ⟨Nat.le_of_ble_eq_true rfl, Nat.le_of_ble_eq_true rfl⟩) (dm hD rfl) hS rfl (fun H locs hP hS => ?_)
    have hP : va_P E.1 vwCl (refW E ρ th rc tl pa kd nm (hold1 s1 r) hi ke tx wy1) H := (by rw [hold1, if_pos c_21]; exact hP)
    refine lv_aload_n hx hb dX6_asks_50 rfl (lv_lk hl rfl) ?_
    refine lv_iload_n hx hb dX6_asks_51 rfl (lv_lk hl rfl) ?_
    refine iv_iconst hx hb dX6_asks_52 ?_
    refine lv_aload_n hx hb dX6_asks_53 rfl (lv_lk hl rfl) ?_
    refine lv_iload_n hx hb dX6_asks_54 rfl (lv_lk hl rfl) ?_
    refine iv_iconst hx hb dX6_asks_55 ?_
    refine call_S (va_runV ⟨hx, hb, hml, hown, hts⟩ (m_X6_of l E ρ th rc tl pa kd nm (hold1 s1 r) hi ke tx wy1 r 1 hr (by decide)) (cwV 2 hts (gi_V ml_X6_61 im_X6_of sl_X6_of it_X6 cd_X6_of) rfl rfl rfl (by decide +kernel) ⟨Nat.le_of_ble_eq_true rfl, Nat.le_of_ble_eq_true rfl⟩) (pR_V (q0 := 0) (ci := 6) hP hK rfl rfl) rfl rfl hl.1 rfl (lv_room (Nat.le_of_ble_eq_true rfl)) dX6_asks_56 ⟨Nat.le_of_ble_eq_true rfl, Nat.le_of_ble_eq_true rfl⟩) (fun _ h => h) hS rfl (fun locs hS => ?_)
    refine call_F (va_runV ⟨hx, hb, hml, hown, hts⟩ (m_X6_puts l E ρ th rc tl pa kd nm (hold1 s1 r) hi ke tx wy1 hρ r 4 _ hr (by decide)) (cwV 3 hts (gi_V ml_X6_29 im_X6_puts sl_X6_puts it_X6 cd_X6_puts) rfl rfl rfl (by decide +kernel) ⟨Nat.le_of_ble_eq_true rfl, Nat.le_of_ble_eq_true rfl⟩) (pR_V (q0 := 0) (ci := 6) hP hK rfl rfl) rfl rfl hl.1 rfl (lv_room (Nat.le_of_ble_eq_true rfl)) dX6_asks_59 ⟨Nat.le_of_ble_eq_true rfl, Nat.le_of_ble_eq_true rfl⟩) (dm hD rfl) hS rfl (fun H locs hP hS => ?_)
    have hP : va_P E.1 vwCl (refW E ρ th rc tl pa kd nm (hold2 s1 r) hi ke tx wy1) H := hP
    refine lv_aload_n hx hb dX6_asks_62 rfl (lv_lk hl rfl) ?_
    refine lv_iload_n hx hb dX6_asks_63 rfl (lv_lk hl rfl) ?_
    refine iv_iconst hx hb dX6_asks_64 ?_
    refine lv_aload_n hx hb dX6_asks_65 rfl (lv_lk hl rfl) ?_
    refine va_get (D := E.1) (ci := 6) hx hb hts inX6 hown hK.1 hP 0 rfl rfl 1 (by decide) (hts _ fl_X6_7) (fun _ h9 => h9) rfl dX6_asks_66 ?_
    refine iv_iconst hx hb dX6_asks_69 ?_
    refine iv_iald hx hb hK hP 1 rfl (0) (by omega) (by omega) dX6_asks_70 ?_
    refine lv_iload_n hx hb dX6_asks_71 rfl (lv_lk hl rfl) ?_
    refine iv_if_eq (tgt := 84) hx hb dX6_asks_72 (by decide) (by omega) (fun c_72 => ?_) (fun c_72 => by exfalso; omega)
    refine lv_aload_n hx hb dX6_asks_84 rfl (lv_lk hl rfl) ?_
    refine lv_iload_n hx hb dX6_asks_85 rfl (lv_lk hl rfl) ?_
    refine iv_iconst hx hb dX6_asks_86 ?_
    refine call_S (va_runV ⟨hx, hb, hml, hown, hts⟩ (m_X6_ofZone l E ρ th rc tl pa kd nm (hold2 s1 r) hi ke tx wy1 (r / 6) 2 (by omega) (by decide)) (cwV 2 hts (gi_V ml_X6_50 im_X6_ofZone sl_X6_ofZone it_X6 cd_X6_ofZone) rfl rfl rfl (by decide +kernel) ⟨Nat.le_of_ble_eq_true rfl, Nat.le_of_ble_eq_true rfl⟩) (pR_V (q0 := 0) (ci := 6) hP hK rfl rfl) rfl rfl hl.1 rfl (lv_room (Nat.le_of_ble_eq_true rfl)) dX6_asks_87 ⟨Nat.le_of_ble_eq_true rfl, Nat.le_of_ble_eq_true rfl⟩) (fun _ h => h) hS rfl (fun locs hS => ?_)
    refine iv_iadd hx hb dX6_asks_90 ?_
    refine call_F (va_runV ⟨hx, hb, hml, hown, hts⟩ (m_X6_puts l E ρ th rc tl pa kd nm (hold2 s1 r) hi ke tx wy1 hρ r 5 _ hr (by decide)) (cwV 3 hts (gi_V ml_X6_29 im_X6_puts sl_X6_puts it_X6 cd_X6_puts) rfl rfl rfl (by decide +kernel) ⟨Nat.le_of_ble_eq_true rfl, Nat.le_of_ble_eq_true rfl⟩) (pR_V (q0 := 0) (ci := 6) hP hK rfl rfl) rfl rfl hl.1 rfl (lv_room (Nat.le_of_ble_eq_true rfl)) dX6_asks_91 ⟨Nat.le_of_ble_eq_true rfl, Nat.le_of_ble_eq_true rfl⟩) (dm hD rfl) hS rfl (fun H locs hP hS => ?_)
    have hP : va_P E.1 vwCl (refW E ρ th rc tl pa kd nm (hold3 s1 r (r / 6)) hi ke tx wy1) H := (by rw [hold3, if_pos c_21]; exact hP)
    refine lv_aload_n hx hb dX6_asks_94 rfl (lv_lk hl rfl) ?_
    refine va_get (D := E.1) (ci := 6) hx hb hts inX6 hown hK.1 hP 0 rfl rfl 1 (by decide) (hts _ fl_X6_7) (fun _ h9 => h9) rfl dX6_asks_95 ?_
    refine iv_iconst hx hb dX6_asks_98 ?_
    refine lv_dup2_11 hx hb dX6_asks_99 rfl rfl ?_
    refine iv_iald hx hb hK hP 1 rfl (4) (by omega) (by omega) dX6_asks_100 ?_
    refine iv_iconst hx hb dX6_asks_101 ?_
    refine iv_iadd hx hb dX6_asks_102 ?_
    refine iv_iast hx hb hK hP (dm hD rfl) hS 1 rfl (4) (by omega) (by omega) dX6_asks_103 (refW E ρ th rc tl pa kd nm (hold s1 r (r / 6)) hi ke tx wy1) (rfl) (fun H locs hP hS => ?_)
    exact W.vret hx hb hrt (fun t ht hW => ⟨rfl, ⟨wy1, by rw [ht]; exact (by rw [asks, ← hs1]; exact hP)⟩, hS.F ht⟩) hS.2.2 dX6_asks_104 hlocks
  · refine iv_iconst hx hb dX6_asks_24 ?_
    refine lv_goto (tgt := 29) hx hb dX6_asks_25 (by decide) ?_
    refine lv_istore_n (lv' := [(3, .int (I _)), (2, .int (I _)), (0, .ref _), (1, .int (I _))]) hx hb dX6_asks_29 rfl hl (by decide) rfl (fun ls hl => ?_)
    refine lv_aload_n hx hb dX6_asks_30 rfl (lv_lk hl rfl) ?_
    refine lv_iload_n hx hb dX6_asks_31 rfl (lv_lk hl rfl) ?_
    refine iv_iconst hx hb dX6_asks_32 ?_
    refine lv_iload_n hx hb dX6_asks_33 rfl (lv_lk hl rfl) ?_
    refine iv_if_eq (tgt := 46) hx hb dX6_asks_34 (by decide) (by omega) (fun c_34 => by exfalso; omega) (fun c_34 => ?_)
    refine lv_aload_n hx hb dX6_asks_37 rfl (lv_lk hl rfl) ?_
    refine lv_iload_n hx hb dX6_asks_38 rfl (lv_lk hl rfl) ?_
    refine iv_iconst hx hb dX6_asks_39 ?_
    refine call_S (va_runV ⟨hx, hb, hml, hown, hts⟩ (m_X6_of l E ρ th rc tl pa kd nm s1 hi ke tx wy1 r 0 hr (by decide)) (cwV 2 hts (gi_V ml_X6_61 im_X6_of sl_X6_of it_X6 cd_X6_of) rfl rfl rfl (by decide +kernel) ⟨Nat.le_of_ble_eq_true rfl, Nat.le_of_ble_eq_true rfl⟩) (pR_V (q0 := 0) (ci := 6) hP hK rfl rfl) rfl rfl hl.1 rfl (lv_room (Nat.le_of_ble_eq_true rfl)) dX6_asks_40 ⟨Nat.le_of_ble_eq_true rfl, Nat.le_of_ble_eq_true rfl⟩) (fun _ h => h) hS rfl (fun locs hS => ?_)
    refine lv_goto (tgt := 47) hx hb dX6_asks_43 (by decide) ?_
    refine call_F (va_runV ⟨hx, hb, hml, hown, hts⟩ (m_X6_puts l E ρ th rc tl pa kd nm s1 hi ke tx wy1 hρ r 3 _ hr (by decide)) (cwV 3 hts (gi_V ml_X6_29 im_X6_puts sl_X6_puts it_X6 cd_X6_puts) rfl rfl rfl (by decide +kernel) ⟨Nat.le_of_ble_eq_true rfl, Nat.le_of_ble_eq_true rfl⟩) (pR_V (q0 := 0) (ci := 6) hP hK rfl rfl) rfl rfl hl.1 rfl (lv_room (Nat.le_of_ble_eq_true rfl)) dX6_asks_47 ⟨Nat.le_of_ble_eq_true rfl, Nat.le_of_ble_eq_true rfl⟩) (dm hD rfl) hS rfl (fun H locs hP hS => ?_)
    have hP : va_P E.1 vwCl (refW E ρ th rc tl pa kd nm (hold1 s1 r) hi ke tx wy1) H := (by rw [hold1, if_neg c_21]; exact hP)
    refine lv_aload_n hx hb dX6_asks_50 rfl (lv_lk hl rfl) ?_
    refine lv_iload_n hx hb dX6_asks_51 rfl (lv_lk hl rfl) ?_
    refine iv_iconst hx hb dX6_asks_52 ?_
    refine lv_aload_n hx hb dX6_asks_53 rfl (lv_lk hl rfl) ?_
    refine lv_iload_n hx hb dX6_asks_54 rfl (lv_lk hl rfl) ?_
    refine iv_iconst hx hb dX6_asks_55 ?_
    refine call_S (va_runV ⟨hx, hb, hml, hown, hts⟩ (m_X6_of l E ρ th rc tl pa kd nm (hold1 s1 r) hi ke tx wy1 r 1 hr (by decide)) (cwV 2 hts (gi_V ml_X6_61 im_X6_of sl_X6_of it_X6 cd_X6_of) rfl rfl rfl (by decide +kernel) ⟨Nat.le_of_ble_eq_true rfl, Nat.le_of_ble_eq_true rfl⟩) (pR_V (q0 := 0) (ci := 6) hP hK rfl rfl) rfl rfl hl.1 rfl (lv_room (Nat.le_of_ble_eq_true rfl)) dX6_asks_56 ⟨Nat.le_of_ble_eq_true rfl, Nat.le_of_ble_eq_true rfl⟩) (fun _ h => h) hS rfl (fun locs hS => ?_)
    refine call_F (va_runV ⟨hx, hb, hml, hown, hts⟩ (m_X6_puts l E ρ th rc tl pa kd nm (hold1 s1 r) hi ke tx wy1 hρ r 4 _ hr (by decide)) (cwV 3 hts (gi_V ml_X6_29 im_X6_puts sl_X6_puts it_X6 cd_X6_puts) rfl rfl rfl (by decide +kernel) ⟨Nat.le_of_ble_eq_true rfl, Nat.le_of_ble_eq_true rfl⟩) (pR_V (q0 := 0) (ci := 6) hP hK rfl rfl) rfl rfl hl.1 rfl (lv_room (Nat.le_of_ble_eq_true rfl)) dX6_asks_59 ⟨Nat.le_of_ble_eq_true rfl, Nat.le_of_ble_eq_true rfl⟩) (dm hD rfl) hS rfl (fun H locs hP hS => ?_)
    have hP : va_P E.1 vwCl (refW E ρ th rc tl pa kd nm (hold2 s1 r) hi ke tx wy1) H := hP
    refine lv_aload_n hx hb dX6_asks_62 rfl (lv_lk hl rfl) ?_
    refine lv_iload_n hx hb dX6_asks_63 rfl (lv_lk hl rfl) ?_
    refine iv_iconst hx hb dX6_asks_64 ?_
    refine lv_aload_n hx hb dX6_asks_65 rfl (lv_lk hl rfl) ?_
    refine va_get (D := E.1) (ci := 6) hx hb hts inX6 hown hK.1 hP 0 rfl rfl 1 (by decide) (hts _ fl_X6_7) (fun _ h9 => h9) rfl dX6_asks_66 ?_
    refine iv_iconst hx hb dX6_asks_69 ?_
    refine iv_iald hx hb hK hP 1 rfl (0) (by omega) (by omega) dX6_asks_70 ?_
    refine lv_iload_n hx hb dX6_asks_71 rfl (lv_lk hl rfl) ?_
    refine iv_if_eq (tgt := 84) hx hb dX6_asks_72 (by decide) (by omega) (fun c_72 => by exfalso; omega) (fun c_72 => ?_)
    refine lv_aload_n hx hb dX6_asks_75 rfl (lv_lk hl rfl) ?_
    refine lv_iload_n hx hb dX6_asks_76 rfl (lv_lk hl rfl) ?_
    refine iv_iconst hx hb dX6_asks_77 ?_
    refine call_S (va_runV ⟨hx, hb, hml, hown, hts⟩ (m_X6_of l E ρ th rc tl pa kd nm (hold2 s1 r) hi ke tx wy1 r 2 hr (by decide)) (cwV 2 hts (gi_V ml_X6_61 im_X6_of sl_X6_of it_X6 cd_X6_of) rfl rfl rfl (by decide +kernel) ⟨Nat.le_of_ble_eq_true rfl, Nat.le_of_ble_eq_true rfl⟩) (pR_V (q0 := 0) (ci := 6) hP hK rfl rfl) rfl rfl hl.1 rfl (lv_room (Nat.le_of_ble_eq_true rfl)) dX6_asks_78 ⟨Nat.le_of_ble_eq_true rfl, Nat.le_of_ble_eq_true rfl⟩) (fun _ h => h) hS rfl (fun locs hS => ?_)
    refine lv_goto (tgt := 90) hx hb dX6_asks_81 (by decide) ?_
    refine iv_iadd hx hb dX6_asks_90 ?_
    refine call_F (va_runV ⟨hx, hb, hml, hown, hts⟩ (m_X6_puts l E ρ th rc tl pa kd nm (hold2 s1 r) hi ke tx wy1 hρ r 5 _ hr (by decide)) (cwV 3 hts (gi_V ml_X6_29 im_X6_puts sl_X6_puts it_X6 cd_X6_puts) rfl rfl rfl (by decide +kernel) ⟨Nat.le_of_ble_eq_true rfl, Nat.le_of_ble_eq_true rfl⟩) (pR_V (q0 := 0) (ci := 6) hP hK rfl rfl) rfl rfl hl.1 rfl (lv_room (Nat.le_of_ble_eq_true rfl)) dX6_asks_91 ⟨Nat.le_of_ble_eq_true rfl, Nat.le_of_ble_eq_true rfl⟩) (dm hD rfl) hS rfl (fun H locs hP hS => ?_)
    have hP : va_P E.1 vwCl (refW E ρ th rc tl pa kd nm (hold3 s1 r (r / 6)) hi ke tx wy1) H := (by rw [hold3, if_neg c_21]; exact hP)
    refine lv_aload_n hx hb dX6_asks_94 rfl (lv_lk hl rfl) ?_
    refine va_get (D := E.1) (ci := 6) hx hb hts inX6 hown hK.1 hP 0 rfl rfl 1 (by decide) (hts _ fl_X6_7) (fun _ h9 => h9) rfl dX6_asks_95 ?_
    refine iv_iconst hx hb dX6_asks_98 ?_
    refine lv_dup2_11 hx hb dX6_asks_99 rfl rfl ?_
    refine iv_iald hx hb hK hP 1 rfl (4) (by omega) (by omega) dX6_asks_100 ?_
    refine iv_iconst hx hb dX6_asks_101 ?_
    refine iv_iadd hx hb dX6_asks_102 ?_
    refine iv_iast hx hb hK hP (dm hD rfl) hS 1 rfl (4) (by omega) (by omega) dX6_asks_103 (refW E ρ th rc tl pa kd nm (hold s1 r (r / 6)) hi ke tx wy1) (rfl) (fun H locs hP hS => ?_)
    exact W.vret hx hb hrt (fun t ht hW => ⟨rfl, ⟨wy1, by rw [ht]; exact (by rw [asks, ← hs1]; exact hP)⟩, hS.F ht⟩) hS.2.2 dX6_asks_104 hlocks
set_option maxHeartbeats 4000000 in
set_option maxRecDepth 100000 in
theorem m_X6_solves (l : Launch) (E : Env3) (ρ : Nat → Nat) (th rc tl pa kd nm : Int) (st hi ke tx wy : S) (hρ : dR ρ 6) (T : Int) (hI : IB T st) (r : Nat) (hr : r < 36) : Met l yX6_solves (Cond.code yX6_solves cX6_solves 4 (some .int) :: ALL) ({ frames := 4, cells := 0, slots := 0, locals := 91 }) (pR [.ref (ρ 0), .int (I (r : Int))] E (refW E ρ th rc tl pa kd nm st hi ke tx wy)) (qX (some (.int (I (solvesF 7 st r).2))) E (refW E ρ th rc tl pa kd nm st hi ke tx wy) (fun wy => (refW E ρ th rc tl pa kd nm ((solvesF 7 st r).1) hi ke tx wy))) 0 0 (adIn (refW E ρ th rc tl pa kd nm st hi ke tx wy)) := by
  refine mk_met (by decide) rfl (Nat.le_of_ble_eq_true rfl) ?_
  intro p e s m args below meth c hx hb hrt hml hts hown hlocks hnm hP hK ls hl
  have hown : s.vm.findClass RX6 = some m.cls := hown
  have hl : lv_has ls 4 [(0, .ref (ρ 0)), (1, .int (I (r : Int)))] := hl
  have hD : va_D (adIn (refW E ρ th rc tl pa kd nm st hi ke tx wy)) (refW E ρ th rc tl pa kd nm st hi ke tx wy) := D_of_dR hρ rfl
  have hS : va_S (adIn (refW E ρ th rc tl pa kd nm st hi ke tx wy)) s.heap s.heap [] := va_S.rf
  refine lv_iload_n hx hb dX6_solves_0 rfl (lv_lk hl rfl) ?_
  refine lv_istore_n (lv' := [(2, .int (I _)), (0, .ref _), (1, .int (I _))]) hx hb dX6_solves_1 rfl hl (by decide) rfl (fun ls hl => ?_)
  refine iv_iconst hx hb dX6_solves_2 ?_
  refine lv_istore_n (lv' := [(3, .int (I _)), (2, .int (I _)), (0, .ref _), (1, .int (I _))]) hx hb dX6_solves_3 rfl hl (by decide) rfl (fun ls hl => ?_)
  have LOOP4 : ∀ (n9 i : Nat) (s1 : S) (q : Nat) (wy1 : S), (IB T s1) → (q < 36) → (i + n9 = 6) → (solvesF (n9 + 1) s1 q = solvesF 7 st r) → ∀ (H : Heap) (locs : List Loc) (ls : Array Slot), va_P E.1 vwCl (refW E ρ th rc tl pa kd nm s1 hi ke tx wy1) H → va_S (adIn (refW E ρ th rc tl pa kd nm st hi ke tx wy)) s.heap H locs → lv_has ls 4 [(0, .ref (ρ 0)), (1, .int (I (r : Int))), (2, .int (I (q : Int))), (3, .int (I (i : Int)))] → W p l e ({ frames := 4, cells := 0, slots := 0, locals := 91 }) s m args below meth c H locs 0 0 (MQ below (qX (some (.int (I (solvesF 7 st r).2))) E (refW E ρ th rc tl pa kd nm st hi ke tx wy) (fun wy => (refW E ρ th rc tl pa kd nm ((solvesF 7 st r).1) hi ke tx wy))) args s 0 0 (adIn (refW E ρ th rc tl pa kd nm st hi ke tx wy))) (F0 m 4 ls []) := by
    intro n9
    induction n9 with
    | zero =>
      intro  i s1 q wy1 hI1 hq hi9 he9 H locs ls hP hS hl
      have t3 := (hI1.2.2.2 q hq).2
      unfold triM at t3
      have hI2 : IB T (take s1 q) := IB_take hI1 hq
      have t4 := (hI2.2.2.2 q hq).2
      unfold triM at t4
      refine lv_aload_n hx hb dX6_solves_4 rfl (lv_lk hl rfl) ?_
      refine lv_iload_n hx hb dX6_solves_5 rfl (lv_lk hl rfl) ?_
      refine iv_iconst hx hb dX6_solves_6 ?_
      refine call_S (va_runV ⟨hx, hb, hml, hown, hts⟩ (m_X6_of l E ρ th rc tl pa kd nm s1 hi ke tx wy1 q 3 hq (by decide)) (cwV 2 hts (gi_V ml_X6_61 im_X6_of sl_X6_of it_X6 cd_X6_of) rfl rfl rfl (by decide +kernel) ⟨Nat.le_of_ble_eq_true rfl, Nat.le_of_ble_eq_true rfl⟩) (pR_V (q0 := 0) (ci := 6) hP hK rfl rfl) rfl rfl hl.1 rfl (lv_room (Nat.le_of_ble_eq_true rfl)) dX6_solves_7 ⟨Nat.le_of_ble_eq_true rfl, Nat.le_of_ble_eq_true rfl⟩) (fun _ h => h) hS rfl (fun locs hS => ?_)
      refine iv_if_ne (tgt := 21) hx hb dX6_solves_10 (by decide) (by omega) (fun c_10 => ?_) (fun c_10 => ?_)
      · refine lv_aload_n hx hb dX6_solves_21 rfl (lv_lk hl rfl) ?_
        refine va_get (D := E.1) (ci := 6) hx hb hts inX6 hown hK.1 hP 0 rfl rfl 1 (by decide) (hts _ fl_X6_7) (fun _ h9 => h9) rfl dX6_solves_22 ?_
        refine iv_iconst hx hb dX6_solves_25 ?_
        refine lv_dup2_11 hx hb dX6_solves_26 rfl rfl ?_
        refine iv_iald hx hb hK hP 1 rfl (3) (by omega) (by omega) dX6_solves_27 ?_
        refine iv_iconst hx hb dX6_solves_28 ?_
        refine iv_iadd hx hb dX6_solves_29 ?_
        refine iv_iast hx hb hK hP (dm hD rfl) hS 1 rfl (3) (by omega) (by omega) dX6_solves_30 (refW E ρ th rc tl pa kd nm (up s1 3 (s1 3 + 1)) hi ke tx wy1) (rfl) (fun H locs hP hS => ?_)
        have hP : va_P E.1 vwCl (refW E ρ th rc tl pa kd nm (take s1 q) hi ke tx wy1) H := (by rw [take, if_neg c_10]; exact hP)
        refine lv_aload_n hx hb dX6_solves_31 rfl (lv_lk hl rfl) ?_
        refine lv_iload_n hx hb dX6_solves_32 rfl (lv_lk hl rfl) ?_
        refine iv_iconst hx hb dX6_solves_33 ?_
        refine call_S (va_runV ⟨hx, hb, hml, hown, hts⟩ (m_X6_of l E ρ th rc tl pa kd nm (take s1 q) hi ke tx wy1 q 3 hq (by decide)) (cwV 2 hts (gi_V ml_X6_61 im_X6_of sl_X6_of it_X6 cd_X6_of) rfl rfl rfl (by decide +kernel) ⟨Nat.le_of_ble_eq_true rfl, Nat.le_of_ble_eq_true rfl⟩) (pR_V (q0 := 0) (ci := 6) hP hK rfl rfl) rfl rfl hl.1 rfl (lv_room (Nat.le_of_ble_eq_true rfl)) dX6_solves_34 ⟨Nat.le_of_ble_eq_true rfl, Nat.le_of_ble_eq_true rfl⟩) (fun _ h => h) hS rfl (fun locs hS => ?_)
        refine iv_iconst hx hb dX6_solves_37 ?_
        refine iv_icmp_eq (tgt := 62) hx hb dX6_solves_38 (by decide) (by omega) (by omega) (fun c_38 => ?_) (fun c_38 => ?_)
        · refine lv_iload_n hx hb dX6_solves_62 rfl (lv_lk hl rfl) ?_
          refine iv_bipush hx hb dX6_solves_63 (by decide +kernel) ?_
          refine iv_icmp_ne (tgt := 71) hx hb dX6_solves_65 (by decide) (by omega) (by omega) (fun c_65 => by exfalso; omega) (fun c_65 => ?_)
          refine iv_bipush hx hb dX6_solves_68 (by decide +kernel) ?_
          refine iv_eq ((solvesF 7 st r).2) (by rw [← he9, solvesF, if_pos c_38]; rfl) ?_
          exact W.iret hx hb hrt (fun t ht hW => ⟨rfl, ⟨wy1, by rw [ht]; exact (by rw [← he9, solvesF, if_pos c_38]; exact hP)⟩, hS.F ht⟩) hS.2.2 dX6_solves_70 hlocks
        · refine lv_aload_n hx hb dX6_solves_41 rfl (lv_lk hl rfl) ?_
          refine lv_iload_n hx hb dX6_solves_42 rfl (lv_lk hl rfl) ?_
          refine iv_iconst hx hb dX6_solves_43 ?_
          refine call_S (va_runV ⟨hx, hb, hml, hown, hts⟩ (m_X6_of l E ρ th rc tl pa kd nm (take s1 q) hi ke tx wy1 q 3 hq (by decide)) (cwV 2 hts (gi_V ml_X6_61 im_X6_of sl_X6_of it_X6 cd_X6_of) rfl rfl rfl (by decide +kernel) ⟨Nat.le_of_ble_eq_true rfl, Nat.le_of_ble_eq_true rfl⟩) (pR_V (q0 := 0) (ci := 6) hP hK rfl rfl) rfl rfl hl.1 rfl (lv_room (Nat.le_of_ble_eq_true rfl)) dX6_solves_44 ⟨Nat.le_of_ble_eq_true rfl, Nat.le_of_ble_eq_true rfl⟩) (fun _ h => h) hS rfl (fun locs hS => ?_)
          refine iv_iconst hx hb dX6_solves_47 ?_
          refine iv_icmp_ne (tgt := 60) hx hb dX6_solves_48 (by decide) (by omega) (by omega) (fun c_48 => ?_) (fun c_48 => ?_)
          · refine iv_iconst hx hb dX6_solves_60 ?_
            refine iv_eq ((solvesF 7 st r).2) (by rw [← he9, solvesF, if_neg c_38]; exact (if_neg c_48).symm) ?_
            exact W.iret hx hb hrt (fun t ht hW => ⟨rfl, ⟨wy1, by rw [ht]; exact (by rw [← he9, solvesF, if_neg c_38]; exact hP)⟩, hS.F ht⟩) hS.2.2 dX6_solves_61 hlocks
          · refine lv_aload_n hx hb dX6_solves_51 rfl (lv_lk hl rfl) ?_
            refine lv_iload_n hx hb dX6_solves_52 rfl (lv_lk hl rfl) ?_
            refine iv_iconst hx hb dX6_solves_53 ?_
            refine call_S (va_runV ⟨hx, hb, hml, hown, hts⟩ (m_X6_of l E ρ th rc tl pa kd nm (take s1 q) hi ke tx wy1 q 4 hq (by decide)) (cwV 2 hts (gi_V ml_X6_61 im_X6_of sl_X6_of it_X6 cd_X6_of) rfl rfl rfl (by decide +kernel) ⟨Nat.le_of_ble_eq_true rfl, Nat.le_of_ble_eq_true rfl⟩) (pR_V (q0 := 0) (ci := 6) hP hK rfl rfl) rfl rfl hl.1 rfl (lv_room (Nat.le_of_ble_eq_true rfl)) dX6_solves_54 ⟨Nat.le_of_ble_eq_true rfl, Nat.le_of_ble_eq_true rfl⟩) (fun _ h => h) hS rfl (fun locs hS => ?_)
            refine lv_goto (tgt := 61) hx hb dX6_solves_57 (by decide) ?_
            refine iv_eq ((solvesF 7 st r).2) (by rw [← he9, solvesF, if_neg c_38]; exact (if_pos c_48).symm) ?_
            exact W.iret hx hb hrt (fun t ht hW => ⟨rfl, ⟨wy1, by rw [ht]; exact (by rw [← he9, solvesF, if_neg c_38]; exact hP)⟩, hS.F ht⟩) hS.2.2 dX6_solves_61 hlocks
      · refine lv_aload_n hx hb dX6_solves_13 rfl (lv_lk hl rfl) ?_
        refine lv_iload_n hx hb dX6_solves_14 rfl (lv_lk hl rfl) ?_
        refine call_X (va_runV ⟨hx, hb, hml, hown, hts⟩ (m_X6_asks l E ρ th rc tl pa kd nm s1 hi ke tx wy1 hρ T hI1 q hq) (cwV 1 hts (gi_V ml_X6_78 im_X6_asks sl_X6_asks it_X6 cd_X6_asks) rfl rfl rfl (by decide +kernel) ⟨Nat.le_of_ble_eq_true rfl, Nat.le_of_ble_eq_true rfl⟩) (pR_V (q0 := 0) (ci := 6) hP hK rfl rfl) rfl rfl hl.1 rfl (lv_room (Nat.le_of_ble_eq_true rfl)) dX6_solves_15 ⟨Nat.le_of_ble_eq_true rfl, Nat.le_of_ble_eq_true rfl⟩) (dm hD rfl) hS rfl (fun wy2 H locs hP hS => ?_)
        have hP : va_P E.1 vwCl (refW E ρ th rc tl pa kd nm (take s1 q) hi ke tx wy2) H := (by rw [take, if_pos c_10]; exact hP)
        refine lv_goto (tgt := 31) hx hb dX6_solves_18 (by decide) ?_
        refine lv_aload_n hx hb dX6_solves_31 rfl (lv_lk hl rfl) ?_
        refine lv_iload_n hx hb dX6_solves_32 rfl (lv_lk hl rfl) ?_
        refine iv_iconst hx hb dX6_solves_33 ?_
        refine call_S (va_runV ⟨hx, hb, hml, hown, hts⟩ (m_X6_of l E ρ th rc tl pa kd nm (take s1 q) hi ke tx wy2 q 3 hq (by decide)) (cwV 2 hts (gi_V ml_X6_61 im_X6_of sl_X6_of it_X6 cd_X6_of) rfl rfl rfl (by decide +kernel) ⟨Nat.le_of_ble_eq_true rfl, Nat.le_of_ble_eq_true rfl⟩) (pR_V (q0 := 0) (ci := 6) hP hK rfl rfl) rfl rfl hl.1 rfl (lv_room (Nat.le_of_ble_eq_true rfl)) dX6_solves_34 ⟨Nat.le_of_ble_eq_true rfl, Nat.le_of_ble_eq_true rfl⟩) (fun _ h => h) hS rfl (fun locs hS => ?_)
        refine iv_iconst hx hb dX6_solves_37 ?_
        refine iv_icmp_eq (tgt := 62) hx hb dX6_solves_38 (by decide) (by omega) (by omega) (fun c_38 => ?_) (fun c_38 => ?_)
        · refine lv_iload_n hx hb dX6_solves_62 rfl (lv_lk hl rfl) ?_
          refine iv_bipush hx hb dX6_solves_63 (by decide +kernel) ?_
          refine iv_icmp_ne (tgt := 71) hx hb dX6_solves_65 (by decide) (by omega) (by omega) (fun c_65 => by exfalso; omega) (fun c_65 => ?_)
          refine iv_bipush hx hb dX6_solves_68 (by decide +kernel) ?_
          refine iv_eq ((solvesF 7 st r).2) (by rw [← he9, solvesF, if_pos c_38]; rfl) ?_
          exact W.iret hx hb hrt (fun t ht hW => ⟨rfl, ⟨wy2, by rw [ht]; exact (by rw [← he9, solvesF, if_pos c_38]; exact hP)⟩, hS.F ht⟩) hS.2.2 dX6_solves_70 hlocks
        · refine lv_aload_n hx hb dX6_solves_41 rfl (lv_lk hl rfl) ?_
          refine lv_iload_n hx hb dX6_solves_42 rfl (lv_lk hl rfl) ?_
          refine iv_iconst hx hb dX6_solves_43 ?_
          refine call_S (va_runV ⟨hx, hb, hml, hown, hts⟩ (m_X6_of l E ρ th rc tl pa kd nm (take s1 q) hi ke tx wy2 q 3 hq (by decide)) (cwV 2 hts (gi_V ml_X6_61 im_X6_of sl_X6_of it_X6 cd_X6_of) rfl rfl rfl (by decide +kernel) ⟨Nat.le_of_ble_eq_true rfl, Nat.le_of_ble_eq_true rfl⟩) (pR_V (q0 := 0) (ci := 6) hP hK rfl rfl) rfl rfl hl.1 rfl (lv_room (Nat.le_of_ble_eq_true rfl)) dX6_solves_44 ⟨Nat.le_of_ble_eq_true rfl, Nat.le_of_ble_eq_true rfl⟩) (fun _ h => h) hS rfl (fun locs hS => ?_)
          refine iv_iconst hx hb dX6_solves_47 ?_
          refine iv_icmp_ne (tgt := 60) hx hb dX6_solves_48 (by decide) (by omega) (by omega) (fun c_48 => ?_) (fun c_48 => ?_)
          · refine iv_iconst hx hb dX6_solves_60 ?_
            refine iv_eq ((solvesF 7 st r).2) (by rw [← he9, solvesF, if_neg c_38]; exact (if_neg c_48).symm) ?_
            exact W.iret hx hb hrt (fun t ht hW => ⟨rfl, ⟨wy2, by rw [ht]; exact (by rw [← he9, solvesF, if_neg c_38]; exact hP)⟩, hS.F ht⟩) hS.2.2 dX6_solves_61 hlocks
          · refine lv_aload_n hx hb dX6_solves_51 rfl (lv_lk hl rfl) ?_
            refine lv_iload_n hx hb dX6_solves_52 rfl (lv_lk hl rfl) ?_
            refine iv_iconst hx hb dX6_solves_53 ?_
            refine call_S (va_runV ⟨hx, hb, hml, hown, hts⟩ (m_X6_of l E ρ th rc tl pa kd nm (take s1 q) hi ke tx wy2 q 4 hq (by decide)) (cwV 2 hts (gi_V ml_X6_61 im_X6_of sl_X6_of it_X6 cd_X6_of) rfl rfl rfl (by decide +kernel) ⟨Nat.le_of_ble_eq_true rfl, Nat.le_of_ble_eq_true rfl⟩) (pR_V (q0 := 0) (ci := 6) hP hK rfl rfl) rfl rfl hl.1 rfl (lv_room (Nat.le_of_ble_eq_true rfl)) dX6_solves_54 ⟨Nat.le_of_ble_eq_true rfl, Nat.le_of_ble_eq_true rfl⟩) (fun _ h => h) hS rfl (fun locs hS => ?_)
            refine lv_goto (tgt := 61) hx hb dX6_solves_57 (by decide) ?_
            refine iv_eq ((solvesF 7 st r).2) (by rw [← he9, solvesF, if_neg c_38]; exact (if_pos c_48).symm) ?_
            exact W.iret hx hb hrt (fun t ht hW => ⟨rfl, ⟨wy2, by rw [ht]; exact (by rw [← he9, solvesF, if_neg c_38]; exact hP)⟩, hS.F ht⟩) hS.2.2 dX6_solves_61 hlocks
    | succ n9 ih =>
      intro  i s1 q wy1 hI1 hq hi9 he9 H locs ls hP hS hl
      have t3 := (hI1.2.2.2 q hq).2
      unfold triM at t3
      have hI2 : IB T (take s1 q) := IB_take hI1 hq
      have t4 := (hI2.2.2.2 q hq).2
      unfold triM at t4
      refine lv_aload_n hx hb dX6_solves_4 rfl (lv_lk hl rfl) ?_
      refine lv_iload_n hx hb dX6_solves_5 rfl (lv_lk hl rfl) ?_
      refine iv_iconst hx hb dX6_solves_6 ?_
      refine call_S (va_runV ⟨hx, hb, hml, hown, hts⟩ (m_X6_of l E ρ th rc tl pa kd nm s1 hi ke tx wy1 q 3 hq (by decide)) (cwV 2 hts (gi_V ml_X6_61 im_X6_of sl_X6_of it_X6 cd_X6_of) rfl rfl rfl (by decide +kernel) ⟨Nat.le_of_ble_eq_true rfl, Nat.le_of_ble_eq_true rfl⟩) (pR_V (q0 := 0) (ci := 6) hP hK rfl rfl) rfl rfl hl.1 rfl (lv_room (Nat.le_of_ble_eq_true rfl)) dX6_solves_7 ⟨Nat.le_of_ble_eq_true rfl, Nat.le_of_ble_eq_true rfl⟩) (fun _ h => h) hS rfl (fun locs hS => ?_)
      refine iv_if_ne (tgt := 21) hx hb dX6_solves_10 (by decide) (by omega) (fun c_10 => ?_) (fun c_10 => ?_)
      · refine lv_aload_n hx hb dX6_solves_21 rfl (lv_lk hl rfl) ?_
        refine va_get (D := E.1) (ci := 6) hx hb hts inX6 hown hK.1 hP 0 rfl rfl 1 (by decide) (hts _ fl_X6_7) (fun _ h9 => h9) rfl dX6_solves_22 ?_
        refine iv_iconst hx hb dX6_solves_25 ?_
        refine lv_dup2_11 hx hb dX6_solves_26 rfl rfl ?_
        refine iv_iald hx hb hK hP 1 rfl (3) (by omega) (by omega) dX6_solves_27 ?_
        refine iv_iconst hx hb dX6_solves_28 ?_
        refine iv_iadd hx hb dX6_solves_29 ?_
        refine iv_iast hx hb hK hP (dm hD rfl) hS 1 rfl (3) (by omega) (by omega) dX6_solves_30 (refW E ρ th rc tl pa kd nm (up s1 3 (s1 3 + 1)) hi ke tx wy1) (rfl) (fun H locs hP hS => ?_)
        have hP : va_P E.1 vwCl (refW E ρ th rc tl pa kd nm (take s1 q) hi ke tx wy1) H := (by rw [take, if_neg c_10]; exact hP)
        refine lv_aload_n hx hb dX6_solves_31 rfl (lv_lk hl rfl) ?_
        refine lv_iload_n hx hb dX6_solves_32 rfl (lv_lk hl rfl) ?_
        refine iv_iconst hx hb dX6_solves_33 ?_
        refine call_S (va_runV ⟨hx, hb, hml, hown, hts⟩ (m_X6_of l E ρ th rc tl pa kd nm (take s1 q) hi ke tx wy1 q 3 hq (by decide)) (cwV 2 hts (gi_V ml_X6_61 im_X6_of sl_X6_of it_X6 cd_X6_of) rfl rfl rfl (by decide +kernel) ⟨Nat.le_of_ble_eq_true rfl, Nat.le_of_ble_eq_true rfl⟩) (pR_V (q0 := 0) (ci := 6) hP hK rfl rfl) rfl rfl hl.1 rfl (lv_room (Nat.le_of_ble_eq_true rfl)) dX6_solves_34 ⟨Nat.le_of_ble_eq_true rfl, Nat.le_of_ble_eq_true rfl⟩) (fun _ h => h) hS rfl (fun locs hS => ?_)
        refine iv_iconst hx hb dX6_solves_37 ?_
        refine iv_icmp_eq (tgt := 62) hx hb dX6_solves_38 (by decide) (by omega) (by omega) (fun c_38 => ?_) (fun c_38 => ?_)
        · refine lv_iload_n hx hb dX6_solves_62 rfl (lv_lk hl rfl) ?_
          refine iv_bipush hx hb dX6_solves_63 (by decide +kernel) ?_
          refine iv_icmp_ne (tgt := 71) hx hb dX6_solves_65 (by decide) (by omega) (by omega) (fun c_65 => ?_) (fun c_65 => by exfalso; omega)
          refine iv_iinc (k := 3) hx hb dX6_solves_71 hl rfl (((i + 1 : Nat) : Int)) (by omega) (by decide) [(3, .int (I _)), (0, .ref _), (1, .int (I _)), (2, .int (I _))] rfl (fun ls hl => ?_)
          refine lv_aload_n hx hb dX6_solves_74 rfl (lv_lk hl rfl) ?_
          refine lv_iload_n hx hb dX6_solves_75 rfl (lv_lk hl rfl) ?_
          refine iv_iconst hx hb dX6_solves_76 ?_
          refine call_S (va_runV ⟨hx, hb, hml, hown, hts⟩ (m_X6_of l E ρ th rc tl pa kd nm (take s1 q) hi ke tx wy1 q 4 hq (by decide)) (cwV 2 hts (gi_V ml_X6_61 im_X6_of sl_X6_of it_X6 cd_X6_of) rfl rfl rfl (by decide +kernel) ⟨Nat.le_of_ble_eq_true rfl, Nat.le_of_ble_eq_true rfl⟩) (pR_V (q0 := 0) (ci := 6) hP hK rfl rfl) rfl rfl hl.1 rfl (lv_room (Nat.le_of_ble_eq_true rfl)) dX6_solves_77 ⟨Nat.le_of_ble_eq_true rfl, Nat.le_of_ble_eq_true rfl⟩) (fun _ h => h) hS rfl (fun locs hS => ?_)
          refine iv_eq ((((take s1 q (36 + 6 * q + 4)).toNat : Nat) : Int)) ((IB_next hI2 hq c_38).1) ?_
          refine lv_istore_n (lv' := [(2, .int (I _)), (3, .int (I _)), (0, .ref _), (1, .int (I _))]) hx hb dX6_solves_80 rfl hl (by decide) rfl (fun ls hl => ?_)
          refine lv_goto (tgt := 4) hx hb dX6_solves_81 (by decide) ?_
          exact ih (i + 1) (take s1 q) (take s1 q (36 + 6 * q + 4)).toNat wy1 hI2 (IB_next hI2 hq c_38).2 (by omega) (by rw [← he9]; exact (solves_s c_38).symm) H locs ls hP hS (lv_sub hl [2, 3, 0, 1] rfl)
        · refine lv_aload_n hx hb dX6_solves_41 rfl (lv_lk hl rfl) ?_
          refine lv_iload_n hx hb dX6_solves_42 rfl (lv_lk hl rfl) ?_
          refine iv_iconst hx hb dX6_solves_43 ?_
          refine call_S (va_runV ⟨hx, hb, hml, hown, hts⟩ (m_X6_of l E ρ th rc tl pa kd nm (take s1 q) hi ke tx wy1 q 3 hq (by decide)) (cwV 2 hts (gi_V ml_X6_61 im_X6_of sl_X6_of it_X6 cd_X6_of) rfl rfl rfl (by decide +kernel) ⟨Nat.le_of_ble_eq_true rfl, Nat.le_of_ble_eq_true rfl⟩) (pR_V (q0 := 0) (ci := 6) hP hK rfl rfl) rfl rfl hl.1 rfl (lv_room (Nat.le_of_ble_eq_true rfl)) dX6_solves_44 ⟨Nat.le_of_ble_eq_true rfl, Nat.le_of_ble_eq_true rfl⟩) (fun _ h => h) hS rfl (fun locs hS => ?_)
          refine iv_iconst hx hb dX6_solves_47 ?_
          refine iv_icmp_ne (tgt := 60) hx hb dX6_solves_48 (by decide) (by omega) (by omega) (fun c_48 => ?_) (fun c_48 => ?_)
          · refine iv_iconst hx hb dX6_solves_60 ?_
            refine iv_eq ((solvesF 7 st r).2) (by rw [← he9, solvesF, if_neg c_38]; exact (if_neg c_48).symm) ?_
            exact W.iret hx hb hrt (fun t ht hW => ⟨rfl, ⟨wy1, by rw [ht]; exact (by rw [← he9, solvesF, if_neg c_38]; exact hP)⟩, hS.F ht⟩) hS.2.2 dX6_solves_61 hlocks
          · refine lv_aload_n hx hb dX6_solves_51 rfl (lv_lk hl rfl) ?_
            refine lv_iload_n hx hb dX6_solves_52 rfl (lv_lk hl rfl) ?_
            refine iv_iconst hx hb dX6_solves_53 ?_
            refine call_S (va_runV ⟨hx, hb, hml, hown, hts⟩ (m_X6_of l E ρ th rc tl pa kd nm (take s1 q) hi ke tx wy1 q 4 hq (by decide)) (cwV 2 hts (gi_V ml_X6_61 im_X6_of sl_X6_of it_X6 cd_X6_of) rfl rfl rfl (by decide +kernel) ⟨Nat.le_of_ble_eq_true rfl, Nat.le_of_ble_eq_true rfl⟩) (pR_V (q0 := 0) (ci := 6) hP hK rfl rfl) rfl rfl hl.1 rfl (lv_room (Nat.le_of_ble_eq_true rfl)) dX6_solves_54 ⟨Nat.le_of_ble_eq_true rfl, Nat.le_of_ble_eq_true rfl⟩) (fun _ h => h) hS rfl (fun locs hS => ?_)
            refine lv_goto (tgt := 61) hx hb dX6_solves_57 (by decide) ?_
            refine iv_eq ((solvesF 7 st r).2) (by rw [← he9, solvesF, if_neg c_38]; exact (if_pos c_48).symm) ?_
            exact W.iret hx hb hrt (fun t ht hW => ⟨rfl, ⟨wy1, by rw [ht]; exact (by rw [← he9, solvesF, if_neg c_38]; exact hP)⟩, hS.F ht⟩) hS.2.2 dX6_solves_61 hlocks
      · refine lv_aload_n hx hb dX6_solves_13 rfl (lv_lk hl rfl) ?_
        refine lv_iload_n hx hb dX6_solves_14 rfl (lv_lk hl rfl) ?_
        refine call_X (va_runV ⟨hx, hb, hml, hown, hts⟩ (m_X6_asks l E ρ th rc tl pa kd nm s1 hi ke tx wy1 hρ T hI1 q hq) (cwV 1 hts (gi_V ml_X6_78 im_X6_asks sl_X6_asks it_X6 cd_X6_asks) rfl rfl rfl (by decide +kernel) ⟨Nat.le_of_ble_eq_true rfl, Nat.le_of_ble_eq_true rfl⟩) (pR_V (q0 := 0) (ci := 6) hP hK rfl rfl) rfl rfl hl.1 rfl (lv_room (Nat.le_of_ble_eq_true rfl)) dX6_solves_15 ⟨Nat.le_of_ble_eq_true rfl, Nat.le_of_ble_eq_true rfl⟩) (dm hD rfl) hS rfl (fun wy2 H locs hP hS => ?_)
        have hP : va_P E.1 vwCl (refW E ρ th rc tl pa kd nm (take s1 q) hi ke tx wy2) H := (by rw [take, if_pos c_10]; exact hP)
        refine lv_goto (tgt := 31) hx hb dX6_solves_18 (by decide) ?_
        refine lv_aload_n hx hb dX6_solves_31 rfl (lv_lk hl rfl) ?_
        refine lv_iload_n hx hb dX6_solves_32 rfl (lv_lk hl rfl) ?_
        refine iv_iconst hx hb dX6_solves_33 ?_
        refine call_S (va_runV ⟨hx, hb, hml, hown, hts⟩ (m_X6_of l E ρ th rc tl pa kd nm (take s1 q) hi ke tx wy2 q 3 hq (by decide)) (cwV 2 hts (gi_V ml_X6_61 im_X6_of sl_X6_of it_X6 cd_X6_of) rfl rfl rfl (by decide +kernel) ⟨Nat.le_of_ble_eq_true rfl, Nat.le_of_ble_eq_true rfl⟩) (pR_V (q0 := 0) (ci := 6) hP hK rfl rfl) rfl rfl hl.1 rfl (lv_room (Nat.le_of_ble_eq_true rfl)) dX6_solves_34 ⟨Nat.le_of_ble_eq_true rfl, Nat.le_of_ble_eq_true rfl⟩) (fun _ h => h) hS rfl (fun locs hS => ?_)
        refine iv_iconst hx hb dX6_solves_37 ?_
        refine iv_icmp_eq (tgt := 62) hx hb dX6_solves_38 (by decide) (by omega) (by omega) (fun c_38 => ?_) (fun c_38 => ?_)
        · refine lv_iload_n hx hb dX6_solves_62 rfl (lv_lk hl rfl) ?_
          refine iv_bipush hx hb dX6_solves_63 (by decide +kernel) ?_
          refine iv_icmp_ne (tgt := 71) hx hb dX6_solves_65 (by decide) (by omega) (by omega) (fun c_65 => ?_) (fun c_65 => by exfalso; omega)
          refine iv_iinc (k := 3) hx hb dX6_solves_71 hl rfl (((i + 1 : Nat) : Int)) (by omega) (by decide) [(3, .int (I _)), (0, .ref _), (1, .int (I _)), (2, .int (I _))] rfl (fun ls hl => ?_)
          refine lv_aload_n hx hb dX6_solves_74 rfl (lv_lk hl rfl) ?_
          refine lv_iload_n hx hb dX6_solves_75 rfl (lv_lk hl rfl) ?_
          refine iv_iconst hx hb dX6_solves_76 ?_
          refine call_S (va_runV ⟨hx, hb, hml, hown, hts⟩ (m_X6_of l E ρ th rc tl pa kd nm (take s1 q) hi ke tx wy2 q 4 hq (by decide)) (cwV 2 hts (gi_V ml_X6_61 im_X6_of sl_X6_of it_X6 cd_X6_of) rfl rfl rfl (by decide +kernel) ⟨Nat.le_of_ble_eq_true rfl, Nat.le_of_ble_eq_true rfl⟩) (pR_V (q0 := 0) (ci := 6) hP hK rfl rfl) rfl rfl hl.1 rfl (lv_room (Nat.le_of_ble_eq_true rfl)) dX6_solves_77 ⟨Nat.le_of_ble_eq_true rfl, Nat.le_of_ble_eq_true rfl⟩) (fun _ h => h) hS rfl (fun locs hS => ?_)
          refine iv_eq ((((take s1 q (36 + 6 * q + 4)).toNat : Nat) : Int)) ((IB_next hI2 hq c_38).1) ?_
          refine lv_istore_n (lv' := [(2, .int (I _)), (3, .int (I _)), (0, .ref _), (1, .int (I _))]) hx hb dX6_solves_80 rfl hl (by decide) rfl (fun ls hl => ?_)
          refine lv_goto (tgt := 4) hx hb dX6_solves_81 (by decide) ?_
          exact ih (i + 1) (take s1 q) (take s1 q (36 + 6 * q + 4)).toNat wy2 hI2 (IB_next hI2 hq c_38).2 (by omega) (by rw [← he9]; exact (solves_s c_38).symm) H locs ls hP hS (lv_sub hl [2, 3, 0, 1] rfl)
        · refine lv_aload_n hx hb dX6_solves_41 rfl (lv_lk hl rfl) ?_
          refine lv_iload_n hx hb dX6_solves_42 rfl (lv_lk hl rfl) ?_
          refine iv_iconst hx hb dX6_solves_43 ?_
          refine call_S (va_runV ⟨hx, hb, hml, hown, hts⟩ (m_X6_of l E ρ th rc tl pa kd nm (take s1 q) hi ke tx wy2 q 3 hq (by decide)) (cwV 2 hts (gi_V ml_X6_61 im_X6_of sl_X6_of it_X6 cd_X6_of) rfl rfl rfl (by decide +kernel) ⟨Nat.le_of_ble_eq_true rfl, Nat.le_of_ble_eq_true rfl⟩) (pR_V (q0 := 0) (ci := 6) hP hK rfl rfl) rfl rfl hl.1 rfl (lv_room (Nat.le_of_ble_eq_true rfl)) dX6_solves_44 ⟨Nat.le_of_ble_eq_true rfl, Nat.le_of_ble_eq_true rfl⟩) (fun _ h => h) hS rfl (fun locs hS => ?_)
          refine iv_iconst hx hb dX6_solves_47 ?_
          refine iv_icmp_ne (tgt := 60) hx hb dX6_solves_48 (by decide) (by omega) (by omega) (fun c_48 => ?_) (fun c_48 => ?_)
          · refine iv_iconst hx hb dX6_solves_60 ?_
            refine iv_eq ((solvesF 7 st r).2) (by rw [← he9, solvesF, if_neg c_38]; exact (if_neg c_48).symm) ?_
            exact W.iret hx hb hrt (fun t ht hW => ⟨rfl, ⟨wy2, by rw [ht]; exact (by rw [← he9, solvesF, if_neg c_38]; exact hP)⟩, hS.F ht⟩) hS.2.2 dX6_solves_61 hlocks
          · refine lv_aload_n hx hb dX6_solves_51 rfl (lv_lk hl rfl) ?_
            refine lv_iload_n hx hb dX6_solves_52 rfl (lv_lk hl rfl) ?_
            refine iv_iconst hx hb dX6_solves_53 ?_
            refine call_S (va_runV ⟨hx, hb, hml, hown, hts⟩ (m_X6_of l E ρ th rc tl pa kd nm (take s1 q) hi ke tx wy2 q 4 hq (by decide)) (cwV 2 hts (gi_V ml_X6_61 im_X6_of sl_X6_of it_X6 cd_X6_of) rfl rfl rfl (by decide +kernel) ⟨Nat.le_of_ble_eq_true rfl, Nat.le_of_ble_eq_true rfl⟩) (pR_V (q0 := 0) (ci := 6) hP hK rfl rfl) rfl rfl hl.1 rfl (lv_room (Nat.le_of_ble_eq_true rfl)) dX6_solves_54 ⟨Nat.le_of_ble_eq_true rfl, Nat.le_of_ble_eq_true rfl⟩) (fun _ h => h) hS rfl (fun locs hS => ?_)
            refine lv_goto (tgt := 61) hx hb dX6_solves_57 (by decide) ?_
            refine iv_eq ((solvesF 7 st r).2) (by rw [← he9, solvesF, if_neg c_38]; exact (if_pos c_48).symm) ?_
            exact W.iret hx hb hrt (fun t ht hW => ⟨rfl, ⟨wy2, by rw [ht]; exact (by rw [← he9, solvesF, if_neg c_38]; exact hP)⟩, hS.F ht⟩) hS.2.2 dX6_solves_61 hlocks
  exact LOOP4 6 0 st r wy hI hr (by omega) rfl _ _ _ hP hS (lv_sub hl [2, 3, 1, 0] rfl)
set_option maxHeartbeats 4000000 in
set_option maxRecDepth 100000 in
theorem m_X6_solvesFirst (l : Launch) (E : Env3) (ρ : Nat → Nat) (th rc tl pa kd nm : Int) (st hi ke tx wy : S) (hρ : dR ρ 6) (T : Int) (hI : IB T st) (r : Nat) (hr : r < 36) : Met l yX6_solvesFirst (Cond.code yX6_solvesFirst cX6_solvesFirst 2 (some .int) :: ALL) ({ frames := 5, cells := 0, slots := 0, locals := 114 }) (pR [.ref (ρ 0), .int (I (r : Int))] E (refW E ρ th rc tl pa kd nm st hi ke tx wy)) (qX (some (.int (I (solve1 st r).2))) E (refW E ρ th rc tl pa kd nm st hi ke tx wy) (fun wy => (refW E ρ th rc tl pa kd nm ((solve1 st r).1) hi ke tx wy))) 0 0 (adIn (refW E ρ th rc tl pa kd nm st hi ke tx wy)) := by
  refine mk_met (by decide) rfl (Nat.le_of_ble_eq_true rfl) ?_
  intro p e s m args below meth c hx hb hrt hml hts hown hlocks hnm hP hK ls hl
  have hown : s.vm.findClass RX6 = some m.cls := hown
  have hl : lv_has ls 2 [(0, .ref (ρ 0)), (1, .int (I (r : Int)))] := hl
  have hD : va_D (adIn (refW E ρ th rc tl pa kd nm st hi ke tx wy)) (refW E ρ th rc tl pa kd nm st hi ke tx wy) := D_of_dR hρ rfl
  have hS : va_S (adIn (refW E ρ th rc tl pa kd nm st hi ke tx wy)) s.heap s.heap [] := va_S.rf
  refine lv_aload_n hx hb dX6_solvesFirst_0 rfl (lv_lk hl rfl) ?_
  refine va_get (D := E.1) (ci := 6) hx hb hts inX6 hown hK.1 hP 0 rfl rfl 1 (by decide) (hts _ fl_X6_7) (fun _ h9 => h9) rfl dX6_solvesFirst_1 ?_
  refine iv_iconst hx hb dX6_solvesFirst_4 ?_
  refine lv_dup2_11 hx hb dX6_solvesFirst_5 rfl rfl ?_
  refine iv_iald hx hb hK hP 1 rfl (1) (by omega) (by omega) dX6_solvesFirst_6 ?_
  refine iv_iconst hx hb dX6_solvesFirst_7 ?_
  refine iv_iadd hx hb dX6_solvesFirst_8 ?_
  refine iv_iast hx hb hK hP (dm hD rfl) hS 1 rfl (1) (by omega) (by omega) dX6_solvesFirst_9 (refW E ρ th rc tl pa kd nm (up st 1 (st 1 + 1)) hi ke tx wy) (rfl) (fun H locs hP hS => ?_)
  refine lv_aload_n hx hb dX6_solvesFirst_10 rfl (lv_lk hl rfl) ?_
  refine lv_iload_n hx hb dX6_solvesFirst_11 rfl (lv_lk hl rfl) ?_
  refine call_X (va_runV ⟨hx, hb, hml, hown, hts⟩ (m_X6_solves l E ρ th rc tl pa kd nm (up st 1 (st 1 + 1)) hi ke tx wy hρ T (IB_free hI 1 _ (by omega)) r hr) (cwV 1 hts (gi_V ml_X6_81 im_X6_solves sl_X6_solves it_X6 cd_X6_solves) rfl rfl rfl (by decide +kernel) ⟨Nat.le_of_ble_eq_true rfl, Nat.le_of_ble_eq_true rfl⟩) (pR_V (q0 := 0) (ci := 6) hP hK rfl rfl) rfl rfl hl.1 rfl (lv_room (Nat.le_of_ble_eq_true rfl)) dX6_solvesFirst_12 ⟨Nat.le_of_ble_eq_true rfl, Nat.le_of_ble_eq_true rfl⟩) (dm hD rfl) hS rfl (fun wy1 H locs hP hS => ?_)
  have hP : va_P E.1 vwCl (refW E ρ th rc tl pa kd nm ((solve1 st r).1) hi ke tx wy1) H := hP
  exact W.iret hx hb hrt (fun t ht hW => ⟨rfl, ⟨wy1, by rw [ht]; exact hP⟩, hS.F ht⟩) hS.2.2 dX6_solvesFirst_15 hlocks
set_option maxHeartbeats 4000000 in
set_option maxRecDepth 100000 in
theorem m_X6_forgets (l : Launch) (E : Env3) (ρ : Nat → Nat) (th rc tl pa kd nm : Int) (st hi ke tx wy : S) (hρ : dR ρ 6) (r : Nat) (hr : r < 36) : Met l yX6_forgets (Cond.code yX6_forgets cX6_forgets 2 none :: ALL) ({ frames := 1, cells := 0, slots := 0, locals := 23 }) (pR [.ref (ρ 0), .int (I (r : Int))] E (refW E ρ th rc tl pa kd nm st hi ke tx wy)) (qW none E (refW E ρ th rc tl pa kd nm st hi ke tx wy) (refW E ρ th rc tl pa kd nm (forg st r) hi ke tx wy)) 0 0 (adIn (refW E ρ th rc tl pa kd nm st hi ke tx wy)) := by
  refine mk_met (by decide) rfl (Nat.le_of_ble_eq_true rfl) ?_
  intro p e s m args below meth c hx hb hrt hml hts hown hlocks hnm hP hK ls hl
  have hown : s.vm.findClass RX6 = some m.cls := hown
  have hl : lv_has ls 2 [(0, .ref (ρ 0)), (1, .int (I (r : Int)))] := hl
  have hD : va_D (adIn (refW E ρ th rc tl pa kd nm st hi ke tx wy)) (refW E ρ th rc tl pa kd nm st hi ke tx wy) := D_of_dR hρ rfl
  have hS : va_S (adIn (refW E ρ th rc tl pa kd nm st hi ke tx wy)) s.heap s.heap [] := va_S.rf
  refine lv_aload_n hx hb dX6_forgets_0 rfl (lv_lk hl rfl) ?_
  refine lv_iload_n hx hb dX6_forgets_1 rfl (lv_lk hl rfl) ?_
  refine iv_iconst hx hb dX6_forgets_2 ?_
  refine iv_iconst hx hb dX6_forgets_3 ?_
  refine call_F (va_runV ⟨hx, hb, hml, hown, hts⟩ (m_X6_puts l E ρ th rc tl pa kd nm st hi ke tx wy hρ r 3 _ hr (by decide)) (cwV 3 hts (gi_V ml_X6_29 im_X6_puts sl_X6_puts it_X6 cd_X6_puts) rfl rfl rfl (by decide +kernel) ⟨Nat.le_of_ble_eq_true rfl, Nat.le_of_ble_eq_true rfl⟩) (pR_V (q0 := 0) (ci := 6) hP hK rfl rfl) rfl rfl hl.1 rfl (lv_room (Nat.le_of_ble_eq_true rfl)) dX6_forgets_4 ⟨Nat.le_of_ble_eq_true rfl, Nat.le_of_ble_eq_true rfl⟩) (dm hD rfl) hS rfl (fun H locs hP hS => ?_)
  have hP : va_P E.1 vwCl (refW E ρ th rc tl pa kd nm (up st (36 + 6 * r + 3) 0) hi ke tx wy) H := hP
  refine lv_aload_n hx hb dX6_forgets_7 rfl (lv_lk hl rfl) ?_
  refine lv_iload_n hx hb dX6_forgets_8 rfl (lv_lk hl rfl) ?_
  refine iv_iconst hx hb dX6_forgets_9 ?_
  refine iv_iconst hx hb dX6_forgets_10 ?_
  refine call_F (va_runV ⟨hx, hb, hml, hown, hts⟩ (m_X6_puts l E ρ th rc tl pa kd nm (up st (36 + 6 * r + 3) 0) hi ke tx wy hρ r 4 _ hr (by decide)) (cwV 3 hts (gi_V ml_X6_29 im_X6_puts sl_X6_puts it_X6 cd_X6_puts) rfl rfl rfl (by decide +kernel) ⟨Nat.le_of_ble_eq_true rfl, Nat.le_of_ble_eq_true rfl⟩) (pR_V (q0 := 0) (ci := 6) hP hK rfl rfl) rfl rfl hl.1 rfl (lv_room (Nat.le_of_ble_eq_true rfl)) dX6_forgets_11 ⟨Nat.le_of_ble_eq_true rfl, Nat.le_of_ble_eq_true rfl⟩) (dm hD rfl) hS rfl (fun H locs hP hS => ?_)
  have hP : va_P E.1 vwCl (refW E ρ th rc tl pa kd nm (up (up st (36 + 6 * r + 3) 0) (36 + 6 * r + 4) 0) hi ke tx wy) H := hP
  refine lv_aload_n hx hb dX6_forgets_14 rfl (lv_lk hl rfl) ?_
  refine lv_iload_n hx hb dX6_forgets_15 rfl (lv_lk hl rfl) ?_
  refine iv_iconst hx hb dX6_forgets_16 ?_
  refine iv_iconst hx hb dX6_forgets_17 ?_
  refine call_F (va_runV ⟨hx, hb, hml, hown, hts⟩ (m_X6_puts l E ρ th rc tl pa kd nm (up (up st (36 + 6 * r + 3) 0) (36 + 6 * r + 4) 0) hi ke tx wy hρ r 5 _ hr (by decide)) (cwV 3 hts (gi_V ml_X6_29 im_X6_puts sl_X6_puts it_X6 cd_X6_puts) rfl rfl rfl (by decide +kernel) ⟨Nat.le_of_ble_eq_true rfl, Nat.le_of_ble_eq_true rfl⟩) (pR_V (q0 := 0) (ci := 6) hP hK rfl rfl) rfl rfl hl.1 rfl (lv_room (Nat.le_of_ble_eq_true rfl)) dX6_forgets_18 ⟨Nat.le_of_ble_eq_true rfl, Nat.le_of_ble_eq_true rfl⟩) (dm hD rfl) hS rfl (fun H locs hP hS => ?_)
  have hP : va_P E.1 vwCl (refW E ρ th rc tl pa kd nm (forg3 st r) hi ke tx wy) H := hP
  refine lv_aload_n hx hb dX6_forgets_21 rfl (lv_lk hl rfl) ?_
  refine va_get (D := E.1) (ci := 6) hx hb hts inX6 hown hK.1 hP 0 rfl rfl 1 (by decide) (hts _ fl_X6_7) (fun _ h9 => h9) rfl dX6_forgets_22 ?_
  refine iv_iconst hx hb dX6_forgets_25 ?_
  refine lv_dup2_11 hx hb dX6_forgets_26 rfl rfl ?_
  refine iv_iald hx hb hK hP 1 rfl (5) (by omega) (by omega) dX6_forgets_27 ?_
  refine iv_iconst hx hb dX6_forgets_28 ?_
  refine iv_iadd hx hb dX6_forgets_29 ?_
  refine iv_iast hx hb hK hP (dm hD rfl) hS 1 rfl (5) (by omega) (by omega) dX6_forgets_30 (refW E ρ th rc tl pa kd nm (forg st r) hi ke tx wy) (rfl) (fun H locs hP hS => ?_)
  exact W.vret hx hb hrt (fun t ht hW => ⟨rfl, by rw [ht]; exact hP, hS.F ht⟩) hS.2.2 dX6_forgets_31 hlocks
set_option maxHeartbeats 4000000 in
set_option maxRecDepth 100000 in
theorem m_X6_truth (l : Launch) (E : Env3) (ρ : Nat → Nat) (th rc tl pa kd nm : Int) (st hi ke tx wy : S) (T : Int) (hI : IB T st) (r : Nat) (hr : r < 36) : Met l yX6_truth (Cond.code yX6_truth cX6_truth 4 (some .int) :: ALL) ({ frames := 1, cells := 0, slots := 0, locals := 22 }) (pR [.ref (ρ 0), .int (I (r : Int))] E (refW E ρ th rc tl pa kd nm st hi ke tx wy)) (qS (some (.int (I (truthF 7 st r))))) 0 0 (fun _ => False) := by
  refine mk_met (by decide) rfl (Nat.le_of_ble_eq_true rfl) ?_
  intro p e s m args below meth c hx hb hrt hml hts hown hlocks hnm hP hK ls hl
  have hown : s.vm.findClass RX6 = some m.cls := hown
  have hl : lv_has ls 4 [(0, .ref (ρ 0)), (1, .int (I (r : Int)))] := hl
  have hS : va_S (fun _ => False) s.heap s.heap [] := va_S.rf
  refine lv_iload_n hx hb dX6_truth_0 rfl (lv_lk hl rfl) ?_
  refine lv_istore_n (lv' := [(2, .int (I _)), (0, .ref _), (1, .int (I _))]) hx hb dX6_truth_1 rfl hl (by decide) rfl (fun ls hl => ?_)
  refine iv_iconst hx hb dX6_truth_2 ?_
  refine lv_istore_n (lv' := [(3, .int (I _)), (2, .int (I _)), (0, .ref _), (1, .int (I _))]) hx hb dX6_truth_3 rfl hl (by decide) rfl (fun ls hl => ?_)
  have LOOP4 : ∀ (n9 i : Nat) (q : Nat), (q < 36) → (i + n9 = 6) → (truthF (n9 + 1) st q = truthF 7 st r) → ∀ (locs : List Loc) (ls : Array Slot), va_S (fun _ => False) s.heap s.heap locs → lv_has ls 4 [(0, .ref (ρ 0)), (1, .int (I (r : Int))), (2, .int (I (q : Int))), (3, .int (I (i : Int)))] → W p l e ({ frames := 1, cells := 0, slots := 0, locals := 22 }) s m args below meth c s.heap locs 0 0 (MQ below (qS (some (.int (I (truthF 7 st r))))) args s 0 0 (fun _ => False)) (F0 m 4 ls []) := by
    intro n9
    induction n9 with
    | zero =>
      intro  i q hq hi9 he9 locs ls hS hl
      have t1 := (hI.2.2.2 q hq).1
      unfold triT at t1
      refine lv_aload_n hx hb dX6_truth_4 rfl (lv_lk hl rfl) ?_
      refine lv_iload_n hx hb dX6_truth_5 rfl (lv_lk hl rfl) ?_
      refine iv_iconst hx hb dX6_truth_6 ?_
      refine call_S (va_runV ⟨hx, hb, hml, hown, hts⟩ (m_X6_of l E ρ th rc tl pa kd nm st hi ke tx wy q 0 hq (by decide)) (cwV 2 hts (gi_V ml_X6_61 im_X6_of sl_X6_of it_X6 cd_X6_of) rfl rfl rfl (by decide +kernel) ⟨Nat.le_of_ble_eq_true rfl, Nat.le_of_ble_eq_true rfl⟩) (pR_V (q0 := 0) (ci := 6) hP hK rfl rfl) rfl rfl hl.1 rfl (lv_room (Nat.le_of_ble_eq_true rfl)) dX6_truth_7 ⟨Nat.le_of_ble_eq_true rfl, Nat.le_of_ble_eq_true rfl⟩) (fun _ h => h) hS rfl (fun locs hS => ?_)
      refine iv_eq (st (36 + 6 * q)) (rfl) ?_
      refine iv_iconst hx hb dX6_truth_10 ?_
      refine iv_icmp_ne (tgt := 36) hx hb dX6_truth_11 (by decide) (by omega) (by omega) (fun c_11 => ?_) (fun c_11 => ?_)
      · refine lv_aload_n hx hb dX6_truth_36 rfl (lv_lk hl rfl) ?_
        refine lv_iload_n hx hb dX6_truth_37 rfl (lv_lk hl rfl) ?_
        refine iv_iconst hx hb dX6_truth_38 ?_
        refine call_S (va_runV ⟨hx, hb, hml, hown, hts⟩ (m_X6_of l E ρ th rc tl pa kd nm st hi ke tx wy q 1 hq (by decide)) (cwV 2 hts (gi_V ml_X6_61 im_X6_of sl_X6_of it_X6 cd_X6_of) rfl rfl rfl (by decide +kernel) ⟨Nat.le_of_ble_eq_true rfl, Nat.le_of_ble_eq_true rfl⟩) (pR_V (q0 := 0) (ci := 6) hP hK rfl rfl) rfl rfl hl.1 rfl (lv_room (Nat.le_of_ble_eq_true rfl)) dX6_truth_39 ⟨Nat.le_of_ble_eq_true rfl, Nat.le_of_ble_eq_true rfl⟩) (fun _ h => h) hS rfl (fun locs hS => ?_)
        refine iv_eq (truthF 7 st r) (by rw [← he9, truthF, if_neg c_11]) ?_
        exact W.iret hx hb hrt (fun t ht hW => ⟨rfl, ht⟩) hS.2.2 dX6_truth_42 hlocks
      · refine lv_iload_n hx hb dX6_truth_14 rfl (lv_lk hl rfl) ?_
        refine iv_bipush hx hb dX6_truth_15 (by decide +kernel) ?_
        refine iv_icmp_ne (tgt := 23) hx hb dX6_truth_17 (by decide) (by omega) (by omega) (fun c_17 => by exfalso; omega) (fun c_17 => ?_)
        refine iv_bipush hx hb dX6_truth_20 (by decide +kernel) ?_
        refine iv_eq (truthF 7 st r) (by rw [← he9, truthF, if_pos c_11]; rfl) ?_
        exact W.iret hx hb hrt (fun t ht hW => ⟨rfl, ht⟩) hS.2.2 dX6_truth_22 hlocks
    | succ n9 ih =>
      intro  i q hq hi9 he9 locs ls hS hl
      have t1 := (hI.2.2.2 q hq).1
      unfold triT at t1
      refine lv_aload_n hx hb dX6_truth_4 rfl (lv_lk hl rfl) ?_
      refine lv_iload_n hx hb dX6_truth_5 rfl (lv_lk hl rfl) ?_
      refine iv_iconst hx hb dX6_truth_6 ?_
      refine call_S (va_runV ⟨hx, hb, hml, hown, hts⟩ (m_X6_of l E ρ th rc tl pa kd nm st hi ke tx wy q 0 hq (by decide)) (cwV 2 hts (gi_V ml_X6_61 im_X6_of sl_X6_of it_X6 cd_X6_of) rfl rfl rfl (by decide +kernel) ⟨Nat.le_of_ble_eq_true rfl, Nat.le_of_ble_eq_true rfl⟩) (pR_V (q0 := 0) (ci := 6) hP hK rfl rfl) rfl rfl hl.1 rfl (lv_room (Nat.le_of_ble_eq_true rfl)) dX6_truth_7 ⟨Nat.le_of_ble_eq_true rfl, Nat.le_of_ble_eq_true rfl⟩) (fun _ h => h) hS rfl (fun locs hS => ?_)
      refine iv_eq (st (36 + 6 * q)) (rfl) ?_
      refine iv_iconst hx hb dX6_truth_10 ?_
      refine iv_icmp_ne (tgt := 36) hx hb dX6_truth_11 (by decide) (by omega) (by omega) (fun c_11 => ?_) (fun c_11 => ?_)
      · refine lv_aload_n hx hb dX6_truth_36 rfl (lv_lk hl rfl) ?_
        refine lv_iload_n hx hb dX6_truth_37 rfl (lv_lk hl rfl) ?_
        refine iv_iconst hx hb dX6_truth_38 ?_
        refine call_S (va_runV ⟨hx, hb, hml, hown, hts⟩ (m_X6_of l E ρ th rc tl pa kd nm st hi ke tx wy q 1 hq (by decide)) (cwV 2 hts (gi_V ml_X6_61 im_X6_of sl_X6_of it_X6 cd_X6_of) rfl rfl rfl (by decide +kernel) ⟨Nat.le_of_ble_eq_true rfl, Nat.le_of_ble_eq_true rfl⟩) (pR_V (q0 := 0) (ci := 6) hP hK rfl rfl) rfl rfl hl.1 rfl (lv_room (Nat.le_of_ble_eq_true rfl)) dX6_truth_39 ⟨Nat.le_of_ble_eq_true rfl, Nat.le_of_ble_eq_true rfl⟩) (fun _ h => h) hS rfl (fun locs hS => ?_)
        refine iv_eq (truthF 7 st r) (by rw [← he9, truthF, if_neg c_11]) ?_
        exact W.iret hx hb hrt (fun t ht hW => ⟨rfl, ht⟩) hS.2.2 dX6_truth_42 hlocks
      · refine lv_iload_n hx hb dX6_truth_14 rfl (lv_lk hl rfl) ?_
        refine iv_bipush hx hb dX6_truth_15 (by decide +kernel) ?_
        refine iv_icmp_ne (tgt := 23) hx hb dX6_truth_17 (by decide) (by omega) (by omega) (fun c_17 => ?_) (fun c_17 => by exfalso; omega)
        refine lv_aload_n hx hb dX6_truth_23 rfl (lv_lk hl rfl) ?_
        refine lv_iload_n hx hb dX6_truth_24 rfl (lv_lk hl rfl) ?_
        refine iv_iconst hx hb dX6_truth_25 ?_
        refine call_S (va_runV ⟨hx, hb, hml, hown, hts⟩ (m_X6_of l E ρ th rc tl pa kd nm st hi ke tx wy q 1 hq (by decide)) (cwV 2 hts (gi_V ml_X6_61 im_X6_of sl_X6_of it_X6 cd_X6_of) rfl rfl rfl (by decide +kernel) ⟨Nat.le_of_ble_eq_true rfl, Nat.le_of_ble_eq_true rfl⟩) (pR_V (q0 := 0) (ci := 6) hP hK rfl rfl) rfl rfl hl.1 rfl (lv_room (Nat.le_of_ble_eq_true rfl)) dX6_truth_26 ⟨Nat.le_of_ble_eq_true rfl, Nat.le_of_ble_eq_true rfl⟩) (fun _ h => h) hS rfl (fun locs hS => ?_)
        refine iv_eq ((((st (36 + 6 * q + 1)).toNat : Nat) : Int)) ((IB_nextT hI hq c_11).1) ?_
        refine lv_istore_n (lv' := [(2, .int (I _)), (0, .ref _), (1, .int (I _)), (3, .int (I _))]) hx hb dX6_truth_29 rfl hl (by decide) rfl (fun ls hl => ?_)
        refine iv_iinc (k := 3) hx hb dX6_truth_30 hl rfl (((i + 1 : Nat) : Int)) (by omega) (by decide) [(3, .int (I _)), (2, .int (I _)), (0, .ref _), (1, .int (I _))] rfl (fun ls hl => ?_)
        refine lv_goto (tgt := 4) hx hb dX6_truth_33 (by decide) ?_
        exact ih (i + 1) (st (36 + 6 * q + 1)).toNat (IB_nextT hI hq c_11).2 (by omega) (by rw [← he9]; exact (truth_s c_11).symm) locs ls hS (lv_sub hl [2, 3, 1, 0] rfl)
  exact LOOP4 6 0 r hr (by omega) rfl _ _ hS (lv_sub hl [2, 3, 1, 0] rfl)
set_option maxHeartbeats 4000000 in
set_option maxRecDepth 100000 in
theorem m_X6_depth (l : Launch) (E : Env3) (ρ : Nat → Nat) (th rc tl pa kd nm : Int) (st hi ke tx wy : S) (T : Int) (hI : IB T st) (z : Nat) (hz : z < 6) : Met l yX6_depth (Cond.code yX6_depth cX6_depth 4 (some .int) :: ALL) ({ frames := 1, cells := 0, slots := 0, locals := 22 }) (pR [.ref (ρ 0), .int (I (z : Int))] E (refW E ρ th rc tl pa kd nm st hi ke tx wy)) (qS (some (.int (I (depthF 6 st z))))) 0 0 (fun _ => False) := by
  refine mk_met (by decide) rfl (Nat.le_of_ble_eq_true rfl) ?_
  intro p e s m args below meth c hx hb hrt hml hts hown hlocks hnm hP hK ls hl
  have hown : s.vm.findClass RX6 = some m.cls := hown
  have hl : lv_has ls 4 [(0, .ref (ρ 0)), (1, .int (I (z : Int)))] := hl
  have hS : va_S (fun _ => False) s.heap s.heap [] := va_S.rf
  refine iv_iconst hx hb dX6_depth_0 ?_
  refine lv_istore_n (lv' := [(2, .int (I _)), (0, .ref _), (1, .int (I _))]) hx hb dX6_depth_1 rfl hl (by decide) rfl (fun ls hl => ?_)
  refine lv_iload_n hx hb dX6_depth_2 rfl (lv_lk hl rfl) ?_
  refine lv_istore_n (lv' := [(3, .int (I _)), (2, .int (I _)), (0, .ref _), (1, .int (I _))]) hx hb dX6_depth_3 rfl hl (by decide) rfl (fun ls hl => ?_)
  have LOOP4 : ∀ (n9 i : Nat) (y : Nat), (y ≤ n9 ∧ y < 6) → (i + y ≤ 5) → ((i : Int) + depthF 6 st y = depthF 6 st z) → ∀ (locs : List Loc) (ls : Array Slot), va_S (fun _ => False) s.heap s.heap locs → lv_has ls 4 [(0, .ref (ρ 0)), (1, .int (I (z : Int))), (2, .int (I (i : Int))), (3, .int (I (y : Int)))] → W p l e ({ frames := 1, cells := 0, slots := 0, locals := 22 }) s m args below meth c s.heap locs 0 0 (MQ below (qS (some (.int (I (depthF 6 st z))))) args s 0 0 (fun _ => False)) (F0 m 4 ls []) := by
    intro n9
    induction n9 with
    | zero =>
      intro  i y hy hi9 he9 locs ls hS hl
      refine lv_iload_n hx hb dX6_depth_4 rfl (lv_lk hl rfl) ?_
      refine iv_if_eq (tgt := 21) hx hb dX6_depth_5 (by decide) (by omega) (fun c_5 => ?_) (fun c_5 => by exfalso; omega)
      refine lv_iload_n hx hb dX6_depth_21 rfl (lv_lk hl rfl) ?_
      refine iv_eq (depthF 6 st z) (by rw [← he9, show y = 0 by omega, depth_0]; omega) ?_
      exact W.iret hx hb hrt (fun t ht hW => ⟨rfl, ht⟩) hS.2.2 dX6_depth_22 hlocks
    | succ n9 ih =>
      intro  i y hy hi9 he9 locs ls hS hl
      refine lv_iload_n hx hb dX6_depth_4 rfl (lv_lk hl rfl) ?_
      refine iv_if_eq (tgt := 21) hx hb dX6_depth_5 (by decide) (by omega) (fun c_5 => ?_) (fun c_5 => ?_)
      · refine lv_iload_n hx hb dX6_depth_21 rfl (lv_lk hl rfl) ?_
        refine iv_eq (depthF 6 st z) (by rw [← he9, show y = 0 by omega, depth_0]; omega) ?_
        exact W.iret hx hb hrt (fun t ht hW => ⟨rfl, ht⟩) hS.2.2 dX6_depth_22 hlocks
      · refine iv_iinc (k := 2) hx hb dX6_depth_8 hl rfl (((i + 1 : Nat) : Int)) (by omega) (by decide) [(2, .int (I _)), (0, .ref _), (1, .int (I _)), (3, .int (I _))] rfl (fun ls hl => ?_)
        refine lv_aload_n hx hb dX6_depth_11 rfl (lv_lk hl rfl) ?_
        refine lv_iload_n hx hb dX6_depth_12 rfl (lv_lk hl rfl) ?_
        refine iv_iconst hx hb dX6_depth_13 ?_
        refine call_S (va_runV ⟨hx, hb, hml, hown, hts⟩ (m_X6_ofZone l E ρ th rc tl pa kd nm st hi ke tx wy y 0 hy.2 (by decide)) (cwV 2 hts (gi_V ml_X6_50 im_X6_ofZone sl_X6_ofZone it_X6 cd_X6_ofZone) rfl rfl rfl (by decide +kernel) ⟨Nat.le_of_ble_eq_true rfl, Nat.le_of_ble_eq_true rfl⟩) (pR_V (q0 := 0) (ci := 6) hP hK rfl rfl) rfl rfl hl.1 rfl (lv_room (Nat.le_of_ble_eq_true rfl)) dX6_depth_14 ⟨Nat.le_of_ble_eq_true rfl, Nat.le_of_ble_eq_true rfl⟩) (fun _ h => h) hS rfl (fun locs hS => ?_)
        refine iv_eq ((par st y : Int)) ((IB_par hI (z := y) (by omega) hy.2).1) ?_
        refine lv_istore_n (lv' := [(3, .int (I _)), (2, .int (I _)), (0, .ref _), (1, .int (I _))]) hx hb dX6_depth_17 rfl hl (by decide) rfl (fun ls hl => ?_)
        refine lv_goto (tgt := 4) hx hb dX6_depth_18 (by decide) ?_
        exact ih (i + 1) (par st y) (by have := (IB_par hI (z := y) (by omega) hy.2).2; omega) (by have := (IB_par hI (z := y) (by omega) hy.2).2; omega) (by rw [← he9, depth_s hI hy.2 (by omega)]; omega) locs ls hS (lv_sub hl [2, 3, 1, 0] rfl)
  exact LOOP4 z 0 z ⟨Nat.le_refl _, hz⟩ (by omega) (by omega) _ _ hS (lv_sub hl [2, 3, 1, 0] rfl)
end
section
/-! the reference, fifth part; written by ref.py -/
set_option maxHeartbeats 4000000 in
set_option maxRecDepth 100000 in
theorem m_X6_passes (l : Launch) (E : Env3) (ρ : Nat → Nat) (th rc tl pa kd nm : Int) (st hi ke tx wy : S) (hρ : dR ρ 6) (T : Int) (hI : IB T st) (t : Int) (ht : 0 ≤ t ∧ t ≤ 100 ∧ T ≤ 99900) : Met l yX6_passes (Cond.code yX6_passes cX6_passes 4 (some .int) :: ALL) ({ frames := 2, cells := 0, slots := 0, locals := 44 }) (pR [.ref (ρ 0), .int (I t)] E (refW E ρ th rc tl pa kd nm st hi ke tx wy)) (qW (some (.int (I (passes st t 5 - st 5)))) E (refW E ρ th rc tl pa kd nm st hi ke tx wy) (refW E ρ th rc tl pa kd nm (passes st t) hi ke tx wy)) 0 0 (adIn (refW E ρ th rc tl pa kd nm st hi ke tx wy)) := by
  refine mk_met (by decide) rfl (Nat.le_of_ble_eq_true rfl) ?_
  intro p e s m args below meth c hx hb hrt hml hts hown hlocks hnm hP hK ls hl
  have hown : s.vm.findClass RX6 = some m.cls := hown
  have hl : lv_has ls 4 [(0, .ref (ρ 0)), (1, .int (I t))] := hl
  have hD : va_D (adIn (refW E ρ th rc tl pa kd nm st hi ke tx wy)) (refW E ρ th rc tl pa kd nm st hi ke tx wy) := D_of_dR hρ rfl
  have hS : va_S (adIn (refW E ρ th rc tl pa kd nm st hi ke tx wy)) s.heap s.heap [] := va_S.rf
  refine lv_aload_n hx hb dX6_passes_0 rfl (lv_lk hl rfl) ?_
  refine va_get (D := E.1) (ci := 6) hx hb hts inX6 hown hK.1 hP 0 rfl rfl 1 (by decide) (hts _ fl_X6_7) (fun _ h9 => h9) rfl dX6_passes_1 ?_
  refine iv_iconst hx hb dX6_passes_4 ?_
  refine iv_iald hx hb hK hP 1 rfl (5) (by omega) (by omega) dX6_passes_5 ?_
  refine lv_istore_n (lv' := [(2, .int (I _)), (0, .ref _), (1, .int (I _))]) hx hb dX6_passes_6 rfl hl (by decide) rfl (fun ls hl => ?_)
  refine lv_aload_n hx hb dX6_passes_7 rfl (lv_lk hl rfl) ?_
  refine va_get (D := E.1) (ci := 6) hx hb hts inX6 hown hK.1 hP 0 rfl rfl 1 (by decide) (hts _ fl_X6_7) (fun _ h9 => h9) rfl dX6_passes_8 ?_
  refine iv_iconst hx hb dX6_passes_11 ?_
  refine lv_dup2_11 hx hb dX6_passes_12 rfl rfl ?_
  refine iv_iald hx hb hK hP 1 rfl (0) (by omega) (by omega) dX6_passes_13 ?_
  refine lv_iload_n hx hb dX6_passes_14 rfl (lv_lk hl rfl) ?_
  refine iv_iadd hx hb dX6_passes_15 ?_
  refine iv_iast hx hb hK hP (dm hD rfl) hS 1 rfl (0) (by omega) (by omega) dX6_passes_16 (refW E ρ th rc tl pa kd nm (up st 0 (st 0 + t)) hi ke tx wy) (rfl) (fun H locs hP hS => ?_)
  obtain ⟨s0, hs0⟩ : ∃ x, x = up st 0 (st 0 + t) := ⟨_, rfl⟩
  rw [← hs0] at hP
  have hI0 : IB (T + 100) s0 := by rw [hs0]; exact IB_time hI _ (by have := hI.1; omega) _ (by have := hI.1; omega)
  refine iv_iconst hx hb dX6_passes_17 ?_
  refine lv_istore_n (lv' := [(3, .int (I _)), (2, .int (I _)), (0, .ref _), (1, .int (I _))]) hx hb dX6_passes_18 rfl hl (by decide) rfl (fun ls hl => ?_)
  have LOOP19 : ∀ (n9 i : Nat), (i + n9 = 6) → (1 ≤ i) → ∀ (H : Heap) (locs : List Loc) (ls : Array Slot), va_P E.1 vwCl (refW E ρ th rc tl pa kd nm (iter passZ i s0) hi ke tx wy) H → va_S (adIn (refW E ρ th rc tl pa kd nm st hi ke tx wy)) s.heap H locs → lv_has ls 4 [(0, .ref (ρ 0)), (1, .int (I t)), (2, .int (I (st 5))), (3, .int (I (i : Int)))] → W p l e ({ frames := 2, cells := 0, slots := 0, locals := 44 }) s m args below meth c H locs 0 0 (MQ below (qW (some (.int (I (passes st t 5 - st 5)))) E (refW E ρ th rc tl pa kd nm st hi ke tx wy) (refW E ρ th rc tl pa kd nm (passes st t) hi ke tx wy)) args s 0 0 (adIn (refW E ρ th rc tl pa kd nm st hi ke tx wy))) (F0 m 19 ls []) := by
    intro n9
    induction n9 with
    | zero =>
      intro  i hi9 hi8 H locs ls hP hS hl
      obtain rfl : i = 6 := by omega
      refine lv_iload_n hx hb dX6_passes_19 rfl (lv_lk hl rfl) ?_
      refine iv_bipush hx hb dX6_passes_20 (by decide +kernel) ?_
      refine iv_icmp_ge (tgt := 72) hx hb dX6_passes_22 (by decide) (by omega) (by omega) (fun c_22 => ?_) (fun c_22 => by exfalso; omega)
      obtain ⟨s1, hs1⟩ : ∃ x, x = iter passZ 6 s0 := ⟨_, rfl⟩
      rw [← hs1] at hP
      have hI1 : IB (T + 100) s1 := by rw [hs1]; exact iter_IB (N := 6) (fun st n hn h => IB_passZ h hn) 6 (Nat.le_refl _) _ hI0
      refine iv_iconst hx hb dX6_passes_72 ?_
      refine lv_istore_n (lv' := [(3, .int (I _)), (0, .ref _), (1, .int (I _)), (2, .int (I _))]) hx hb dX6_passes_73 rfl hl (by decide) rfl (fun ls hl => ?_)
      have LOOP74 : ∀ (n9 i : Nat), (i + n9 = 36) → ∀ (H : Heap) (locs : List Loc) (ls : Array Slot), va_P E.1 vwCl (refW E ρ th rc tl pa kd nm (iter passR i s1) hi ke tx wy) H → va_S (adIn (refW E ρ th rc tl pa kd nm st hi ke tx wy)) s.heap H locs → lv_has ls 4 [(0, .ref (ρ 0)), (1, .int (I t)), (2, .int (I (st 5))), (3, .int (I (i : Int)))] → W p l e ({ frames := 2, cells := 0, slots := 0, locals := 44 }) s m args below meth c H locs 0 0 (MQ below (qW (some (.int (I (passes st t 5 - st 5)))) E (refW E ρ th rc tl pa kd nm st hi ke tx wy) (refW E ρ th rc tl pa kd nm (passes st t) hi ke tx wy)) args s 0 0 (adIn (refW E ρ th rc tl pa kd nm st hi ke tx wy))) (F0 m 74 ls []) := by
        intro n9
        induction n9 with
        | zero =>
          intro  i hi9 H locs ls hP hS hl
          obtain rfl : i = 36 := by omega
          refine lv_iload_n hx hb dX6_passes_74 rfl (lv_lk hl rfl) ?_
          refine iv_bipush hx hb dX6_passes_75 (by decide +kernel) ?_
          refine iv_icmp_ge (tgt := 115) hx hb dX6_passes_77 (by decide) (by omega) (by omega) (fun c_77 => ?_) (fun c_77 => by exfalso; omega)
          refine lv_aload_n hx hb dX6_passes_115 rfl (lv_lk hl rfl) ?_
          refine va_get (D := E.1) (ci := 6) hx hb hts inX6 hown hK.1 hP 0 rfl rfl 1 (by decide) (hts _ fl_X6_7) (fun _ h9 => h9) rfl dX6_passes_116 ?_
          refine iv_iconst hx hb dX6_passes_119 ?_
          refine iv_iald hx hb hK hP 1 rfl (5) (by omega) (by omega) dX6_passes_120 ?_
          refine lv_iload_n hx hb dX6_passes_121 rfl (lv_lk hl rfl) ?_
          refine iv_isub hx hb dX6_passes_122 ?_
          refine iv_eq (passes st t 5 - st 5) (by rw [hs1, hs0]; rfl) ?_
          exact W.iret hx hb hrt (fun t ht hW => ⟨rfl, by rw [ht]; exact (by rw [hs1, hs0] at hP; exact hP), hS.F ht⟩) hS.2.2 dX6_passes_123 hlocks
        | succ n9 ih =>
          intro  i hi9 H locs ls hP hS hl
          have hI9 : IB (T + 100) (iter passR i s1) := iter_IB (N := 36) (fun st n hn h => IB_passR h hn) i (by omega) _ hI1
          have z9 := (hI9.2.2.2 i (by omega)).2
          unfold triM at z9
          have z8 := hI9.1
          refine lv_iload_n hx hb dX6_passes_74 rfl (lv_lk hl rfl) ?_
          refine iv_bipush hx hb dX6_passes_75 (by decide +kernel) ?_
          refine iv_icmp_ge (tgt := 115) hx hb dX6_passes_77 (by decide) (by omega) (by omega) (fun c_77 => by exfalso; omega) (fun c_77 => ?_)
          refine lv_aload_n hx hb dX6_passes_80 rfl (lv_lk hl rfl) ?_
          refine lv_iload_n hx hb dX6_passes_81 rfl (lv_lk hl rfl) ?_
          refine iv_iconst hx hb dX6_passes_82 ?_
          refine call_S (va_runV ⟨hx, hb, hml, hown, hts⟩ (m_X6_of l E ρ th rc tl pa kd nm (iter passR i s1) hi ke tx wy i 3 (by omega) (by decide)) (cwV 2 hts (gi_V ml_X6_61 im_X6_of sl_X6_of it_X6 cd_X6_of) rfl rfl rfl (by decide +kernel) ⟨Nat.le_of_ble_eq_true rfl, Nat.le_of_ble_eq_true rfl⟩) (pR_V (q0 := 0) (ci := 6) hP hK rfl rfl) rfl rfl hl.1 rfl (lv_room (Nat.le_of_ble_eq_true rfl)) dX6_passes_83 ⟨Nat.le_of_ble_eq_true rfl, Nat.le_of_ble_eq_true rfl⟩) (fun _ h => h) hS rfl (fun locs hS => ?_)
          refine iv_if_eq (tgt := 109) hx hb dX6_passes_86 (by decide) (by omega) (fun c_86 => ?_) (fun c_86 => ?_)
          · have hP : va_P E.1 vwCl (refW E ρ th rc tl pa kd nm (passR (iter passR i s1) i) hi ke tx wy) H := (by rw [passR, if_neg (by omega)]; exact hP)
            refine iv_iinc (k := 3) hx hb dX6_passes_109 hl rfl (((i + 1 : Nat) : Int)) (by omega) (by decide) [(3, .int (I _)), (0, .ref _), (1, .int (I _)), (2, .int (I _))] rfl (fun ls hl => ?_)
            refine lv_goto (tgt := 74) hx hb dX6_passes_112 (by decide) ?_
            exact ih (i + 1) (by omega) H locs ls hP hS (lv_sub hl [1, 2, 3, 0] rfl)
          · refine lv_aload_n hx hb dX6_passes_89 rfl (lv_lk hl rfl) ?_
            refine lv_iload_n hx hb dX6_passes_90 rfl (lv_lk hl rfl) ?_
            refine iv_iconst hx hb dX6_passes_91 ?_
            refine call_S (va_runV ⟨hx, hb, hml, hown, hts⟩ (m_X6_of l E ρ th rc tl pa kd nm (iter passR i s1) hi ke tx wy i 5 (by omega) (by decide)) (cwV 2 hts (gi_V ml_X6_61 im_X6_of sl_X6_of it_X6 cd_X6_of) rfl rfl rfl (by decide +kernel) ⟨Nat.le_of_ble_eq_true rfl, Nat.le_of_ble_eq_true rfl⟩) (pR_V (q0 := 0) (ci := 6) hP hK rfl rfl) rfl rfl hl.1 rfl (lv_room (Nat.le_of_ble_eq_true rfl)) dX6_passes_92 ⟨Nat.le_of_ble_eq_true rfl, Nat.le_of_ble_eq_true rfl⟩) (fun _ h => h) hS rfl (fun locs hS => ?_)
            refine lv_aload_n hx hb dX6_passes_95 rfl (lv_lk hl rfl) ?_
            refine va_get (D := E.1) (ci := 6) hx hb hts inX6 hown hK.1 hP 0 rfl rfl 1 (by decide) (hts _ fl_X6_7) (fun _ h9 => h9) rfl dX6_passes_96 ?_
            refine iv_iconst hx hb dX6_passes_99 ?_
            refine iv_iald hx hb hK hP 1 rfl (0) (by omega) (by omega) dX6_passes_100 ?_
            refine iv_icmp_gt (tgt := 109) hx hb dX6_passes_101 (by decide) (by omega) (by omega) (fun c_101 => ?_) (fun c_101 => ?_)
            · have hP : va_P E.1 vwCl (refW E ρ th rc tl pa kd nm (passR (iter passR i s1) i) hi ke tx wy) H := (by rw [passR, if_neg (by omega)]; exact hP)
              refine iv_iinc (k := 3) hx hb dX6_passes_109 hl rfl (((i + 1 : Nat) : Int)) (by omega) (by decide) [(3, .int (I _)), (0, .ref _), (1, .int (I _)), (2, .int (I _))] rfl (fun ls hl => ?_)
              refine lv_goto (tgt := 74) hx hb dX6_passes_112 (by decide) ?_
              exact ih (i + 1) (by omega) H locs ls hP hS (lv_sub hl [1, 2, 3, 0] rfl)
            · refine lv_aload_n hx hb dX6_passes_104 rfl (lv_lk hl rfl) ?_
              refine lv_iload_n hx hb dX6_passes_105 rfl (lv_lk hl rfl) ?_
              refine call_F (va_runV ⟨hx, hb, hml, hown, hts⟩ (m_X6_forgets l E ρ th rc tl pa kd nm (iter passR i s1) hi ke tx wy hρ i (by omega)) (cwV 1 hts (gi_V ml_X6_88 im_X6_forgets sl_X6_forgets it_X6 cd_X6_forgets) rfl rfl rfl (by decide +kernel) ⟨Nat.le_of_ble_eq_true rfl, Nat.le_of_ble_eq_true rfl⟩) (pR_V (q0 := 0) (ci := 6) hP hK rfl rfl) rfl rfl hl.1 rfl (lv_room (Nat.le_of_ble_eq_true rfl)) dX6_passes_106 ⟨Nat.le_of_ble_eq_true rfl, Nat.le_of_ble_eq_true rfl⟩) (dm hD rfl) hS rfl (fun H locs hP hS => ?_)
              have hP : va_P E.1 vwCl (refW E ρ th rc tl pa kd nm (forg (iter passR i s1) i) hi ke tx wy) H := hP
              have hP : va_P E.1 vwCl (refW E ρ th rc tl pa kd nm (passR (iter passR i s1) i) hi ke tx wy) H := (by rw [passR, if_pos (by omega)]; exact hP)
              refine iv_iinc (k := 3) hx hb dX6_passes_109 hl rfl (((i + 1 : Nat) : Int)) (by omega) (by decide) [(3, .int (I _)), (0, .ref _), (1, .int (I _)), (2, .int (I _))] rfl (fun ls hl => ?_)
              refine lv_goto (tgt := 74) hx hb dX6_passes_112 (by decide) ?_
              exact ih (i + 1) (by omega) H locs ls hP hS (lv_sub hl [1, 2, 3, 0] rfl)
      exact LOOP74 36 0 (by omega) _ _ _ hP hS (lv_sub hl [1, 2, 3, 0] rfl)
    | succ n9 ih =>
      intro  i hi9 hi8 H locs ls hP hS hl
      have hI9 : IB (T + 100) (iter passZ i s0) := iter_IB (N := 6) (fun st n hn h => IB_passZ h hn) i (by omega) _ hI0
      have z9 := (hI9.2.2.1 i (by omega)).2.2.2.2.2
      have z8 := hI9.1
      refine lv_iload_n hx hb dX6_passes_19 rfl (lv_lk hl rfl) ?_
      refine iv_bipush hx hb dX6_passes_20 (by decide +kernel) ?_
      refine iv_icmp_ge (tgt := 72) hx hb dX6_passes_22 (by decide) (by omega) (by omega) (fun c_22 => by exfalso; omega) (fun c_22 => ?_)
      refine lv_aload_n hx hb dX6_passes_25 rfl (lv_lk hl rfl) ?_
      refine lv_iload_n hx hb dX6_passes_26 rfl (lv_lk hl rfl) ?_
      refine iv_iconst hx hb dX6_passes_27 ?_
      refine call_S (va_runV ⟨hx, hb, hml, hown, hts⟩ (m_X6_ofZone l E ρ th rc tl pa kd nm (iter passZ i s0) hi ke tx wy i 3 (by omega) (by decide)) (cwV 2 hts (gi_V ml_X6_50 im_X6_ofZone sl_X6_ofZone it_X6 cd_X6_ofZone) rfl rfl rfl (by decide +kernel) ⟨Nat.le_of_ble_eq_true rfl, Nat.le_of_ble_eq_true rfl⟩) (pR_V (q0 := 0) (ci := 6) hP hK rfl rfl) rfl rfl hl.1 rfl (lv_room (Nat.le_of_ble_eq_true rfl)) dX6_passes_28 ⟨Nat.le_of_ble_eq_true rfl, Nat.le_of_ble_eq_true rfl⟩) (fun _ h => h) hS rfl (fun locs hS => ?_)
      refine iv_if_le (tgt := 66) hx hb dX6_passes_31 (by decide) (by omega) (fun c_31 => ?_) (fun c_31 => ?_)
      · have hP : va_P E.1 vwCl (refW E ρ th rc tl pa kd nm (passZ (iter passZ i s0) i) hi ke tx wy) H := (by rw [passZ, if_neg (by omega)]; exact hP)
        refine iv_iinc (k := 3) hx hb dX6_passes_66 hl rfl (((i + 1 : Nat) : Int)) (by omega) (by decide) [(3, .int (I _)), (0, .ref _), (1, .int (I _)), (2, .int (I _))] rfl (fun ls hl => ?_)
        refine lv_goto (tgt := 19) hx hb dX6_passes_69 (by decide) ?_
        exact ih (i + 1) (by omega) (by omega) H locs ls hP hS (lv_sub hl [1, 2, 3, 0] rfl)
      · refine lv_aload_n hx hb dX6_passes_34 rfl (lv_lk hl rfl) ?_
        refine lv_iload_n hx hb dX6_passes_35 rfl (lv_lk hl rfl) ?_
        refine iv_iconst hx hb dX6_passes_36 ?_
        refine call_S (va_runV ⟨hx, hb, hml, hown, hts⟩ (m_X6_ofZone l E ρ th rc tl pa kd nm (iter passZ i s0) hi ke tx wy i 3 (by omega) (by decide)) (cwV 2 hts (gi_V ml_X6_50 im_X6_ofZone sl_X6_ofZone it_X6 cd_X6_ofZone) rfl rfl rfl (by decide +kernel) ⟨Nat.le_of_ble_eq_true rfl, Nat.le_of_ble_eq_true rfl⟩) (pR_V (q0 := 0) (ci := 6) hP hK rfl rfl) rfl rfl hl.1 rfl (lv_room (Nat.le_of_ble_eq_true rfl)) dX6_passes_37 ⟨Nat.le_of_ble_eq_true rfl, Nat.le_of_ble_eq_true rfl⟩) (fun _ h => h) hS rfl (fun locs hS => ?_)
        refine lv_aload_n hx hb dX6_passes_40 rfl (lv_lk hl rfl) ?_
        refine va_get (D := E.1) (ci := 6) hx hb hts inX6 hown hK.1 hP 0 rfl rfl 1 (by decide) (hts _ fl_X6_7) (fun _ h9 => h9) rfl dX6_passes_41 ?_
        refine iv_iconst hx hb dX6_passes_44 ?_
        refine iv_iald hx hb hK hP 1 rfl (0) (by omega) (by omega) dX6_passes_45 ?_
        refine iv_icmp_gt (tgt := 66) hx hb dX6_passes_46 (by decide) (by omega) (by omega) (fun c_46 => ?_) (fun c_46 => ?_)
        · have hP : va_P E.1 vwCl (refW E ρ th rc tl pa kd nm (passZ (iter passZ i s0) i) hi ke tx wy) H := (by rw [passZ, if_neg (by omega)]; exact hP)
          refine iv_iinc (k := 3) hx hb dX6_passes_66 hl rfl (((i + 1 : Nat) : Int)) (by omega) (by decide) [(3, .int (I _)), (0, .ref _), (1, .int (I _)), (2, .int (I _))] rfl (fun ls hl => ?_)
          refine lv_goto (tgt := 19) hx hb dX6_passes_69 (by decide) ?_
          exact ih (i + 1) (by omega) (by omega) H locs ls hP hS (lv_sub hl [1, 2, 3, 0] rfl)
        · refine lv_aload_n hx hb dX6_passes_49 rfl (lv_lk hl rfl) ?_
          refine lv_iload_n hx hb dX6_passes_50 rfl (lv_lk hl rfl) ?_
          refine iv_iconst hx hb dX6_passes_51 ?_
          refine iv_iconst hx hb dX6_passes_52 ?_
          refine call_F (va_runV ⟨hx, hb, hml, hown, hts⟩ (m_X6_putsZone l E ρ th rc tl pa kd nm (iter passZ i s0) hi ke tx wy hρ i 3 _ (by omega) (by decide)) (cwV 3 hts (gi_V ml_X6_25 im_X6_putsZone sl_X6_putsZone it_X6 cd_X6_putsZone) rfl rfl rfl (by decide +kernel) ⟨Nat.le_of_ble_eq_true rfl, Nat.le_of_ble_eq_true rfl⟩) (pR_V (q0 := 0) (ci := 6) hP hK rfl rfl) rfl rfl hl.1 rfl (lv_room (Nat.le_of_ble_eq_true rfl)) dX6_passes_53 ⟨Nat.le_of_ble_eq_true rfl, Nat.le_of_ble_eq_true rfl⟩) (dm hD rfl) hS rfl (fun H locs hP hS => ?_)
          have hP : va_P E.1 vwCl (refW E ρ th rc tl pa kd nm (up (iter passZ i s0) (6 + 5 * i + 3) 0) hi ke tx wy) H := hP
          refine lv_aload_n hx hb dX6_passes_56 rfl (lv_lk hl rfl) ?_
          refine va_get (D := E.1) (ci := 6) hx hb hts inX6 hown hK.1 hP 0 rfl rfl 1 (by decide) (hts _ fl_X6_7) (fun _ h9 => h9) rfl dX6_passes_57 ?_
          refine iv_iconst hx hb dX6_passes_60 ?_
          refine lv_dup2_11 hx hb dX6_passes_61 rfl rfl ?_
          refine iv_iald hx hb hK hP 1 rfl (5) (by omega) (by omega) dX6_passes_62 ?_
          refine iv_iconst hx hb dX6_passes_63 ?_
          refine iv_iadd hx hb dX6_passes_64 ?_
          refine iv_iast hx hb hK hP (dm hD rfl) hS 1 rfl (5) (by omega) (by omega) dX6_passes_65 (refW E ρ th rc tl pa kd nm (up (up (iter passZ i s0) (6 + 5 * i + 3) 0) 5 (up (iter passZ i s0) (6 + 5 * i + 3) 0 5 + 1)) hi ke tx wy) (rfl) (fun H locs hP hS => ?_)
          have hP : va_P E.1 vwCl (refW E ρ th rc tl pa kd nm (passZ (iter passZ i s0) i) hi ke tx wy) H := (by rw [passZ, if_pos (by omega)]; exact hP)
          refine iv_iinc (k := 3) hx hb dX6_passes_66 hl rfl (((i + 1 : Nat) : Int)) (by omega) (by decide) [(3, .int (I _)), (0, .ref _), (1, .int (I _)), (2, .int (I _))] rfl (fun ls hl => ?_)
          refine lv_goto (tgt := 19) hx hb dX6_passes_69 (by decide) ?_
          exact ih (i + 1) (by omega) (by omega) H locs ls hP hS (lv_sub hl [1, 2, 3, 0] rfl)
  exact LOOP19 5 1 (by omega) (by omega) _ _ _ (by rw [show iter passZ 1 s0 = passZ s0 0 from rfl, passZ_0 (by rw [hs0, up_ne _ _ (by decide)]; exact hI.2.1.2)]; exact hP) hS (lv_sub hl [2, 3, 1, 0] rfl)
set_option maxHeartbeats 4000000 in
set_option maxRecDepth 100000 in
theorem m_X6_leftUntil (l : Launch) (E : Env3) (ρ : Nat → Nat) (th rc tl pa kd nm : Int) (st hi ke tx wy : S) (e9 : Int) (he9 : 0 ≤ e9 ∧ e9 ≤ 1000000) : Met l yX6_leftUntil (Cond.code yX6_leftUntil cX6_leftUntil 2 (some .int) :: ALL) ({ frames := 0, cells := 0, slots := 0, locals := 0 }) (pR [.ref (ρ 0), .int (I e9)] E (refW E ρ th rc tl pa kd nm st hi ke tx wy)) (qS (some (.int (I (left st e9))))) 0 0 (fun _ => False) := by
  refine mk_met (by decide) rfl (Nat.le_of_ble_eq_true rfl) ?_
  intro p e s m args below meth c hx hb hrt hml hts hown hlocks hnm hP hK ls hl
  have hown : s.vm.findClass RX6 = some m.cls := hown
  have hl : lv_has ls 2 [(0, .ref (ρ 0)), (1, .int (I e9))] := hl
  have hS : va_S (fun _ => False) s.heap s.heap [] := va_S.rf
  refine lv_iload_n hx hb dX6_leftUntil_0 rfl (lv_lk hl rfl) ?_
  refine iv_if_ne (tgt := 8) hx hb dX6_leftUntil_1 (by decide) (by omega) (fun c_1 => ?_) (fun c_1 => ?_)
  · refine lv_iload_n hx hb dX6_leftUntil_8 rfl (lv_lk hl rfl) ?_
    refine lv_aload_n hx hb dX6_leftUntil_9 rfl (lv_lk hl rfl) ?_
    refine va_get (D := E.1) (ci := 6) hx hb hts inX6 hown hK.1 hP 0 rfl rfl 1 (by decide) (hts _ fl_X6_7) (fun _ h9 => h9) rfl dX6_leftUntil_10 ?_
    refine iv_iconst hx hb dX6_leftUntil_13 ?_
    refine iv_iald hx hb hK hP 1 rfl (0) (by omega) (by omega) dX6_leftUntil_14 ?_
    refine iv_isub hx hb dX6_leftUntil_15 ?_
    refine iv_eq (left st e9) (by rw [left, if_neg c_1]) ?_
    exact W.iret hx hb hrt (fun t ht hW => ⟨rfl, ht⟩) hS.2.2 dX6_leftUntil_16 hlocks
  · refine iv_iconst hx hb dX6_leftUntil_4 ?_
    refine lv_goto (tgt := 16) hx hb dX6_leftUntil_5 (by decide) ?_
    refine iv_eq (left st e9) (by rw [left, if_pos c_1]) ?_
    exact W.iret hx hb hrt (fun t ht hW => ⟨rfl, ht⟩) hS.2.2 dX6_leftUntil_16 hlocks
set_option maxHeartbeats 4000000 in
set_option maxRecDepth 100000 in
theorem m_X6_sooner (l : Launch) (E : Env3) (a b : Int) (ha : -2147483648 ≤ a ∧ a ≤ 2147483647) (hb : -2147483648 ≤ b ∧ b ≤ 2147483647) : Met l yX6_sooner (Cond.code yX6_sooner cX6_sooner 2 (some .int) :: ALL) ({ frames := 0, cells := 0, slots := 0, locals := 0 }) (pR [.int (I a), .int (I b)] E []) (qS (some (.int (I (sooner a b))))) 0 0 (fun _ => False) := by
  refine mk_met (by decide) rfl (Nat.le_of_ble_eq_true rfl) ?_
  intro p e s m args below meth c hx hb hrt hml hts hown hlocks hnm hP hK ls hl
  have hown : s.vm.findClass RX6 = some m.cls := hown
  have hl : lv_has ls 2 [(0, .int (I a)), (1, .int (I b))] := hl
  have hS : va_S (fun _ => False) s.heap s.heap [] := va_S.rf
  refine lv_iload_n hx hb dX6_sooner_0 rfl (lv_lk hl rfl) ?_
  refine iv_iconst hx hb dX6_sooner_1 ?_
  refine iv_icmp_eq (tgt := 15) hx hb dX6_sooner_2 (by decide) (by omega) (by omega) (fun c_2 => ?_) (fun c_2 => ?_)
  · refine lv_iload_n hx hb dX6_sooner_15 rfl (lv_lk hl rfl) ?_
    refine lv_goto (tgt := 20) hx hb dX6_sooner_16 (by decide) ?_
    refine iv_eq (sooner a b) (by rw [sooner, if_pos (by omega)]) ?_
    exact W.iret hx hb hrt (fun t ht hW => ⟨rfl, ht⟩) hS.2.2 dX6_sooner_20 hlocks
  · refine lv_iload_n hx hb dX6_sooner_5 rfl (lv_lk hl rfl) ?_
    refine iv_iconst hx hb dX6_sooner_6 ?_
    refine iv_icmp_eq (tgt := 19) hx hb dX6_sooner_7 (by decide) (by omega) (by omega) (fun c_7 => ?_) (fun c_7 => ?_)
    · refine lv_iload_n hx hb dX6_sooner_19 rfl (lv_lk hl rfl) ?_
      refine iv_eq (sooner a b) (by rw [sooner, if_neg (by omega)]) ?_
      exact W.iret hx hb hrt (fun t ht hW => ⟨rfl, ht⟩) hS.2.2 dX6_sooner_20 hlocks
    · refine lv_iload_n hx hb dX6_sooner_10 rfl (lv_lk hl rfl) ?_
      refine lv_iload_n hx hb dX6_sooner_11 rfl (lv_lk hl rfl) ?_
      refine iv_icmp_ge (tgt := 19) hx hb dX6_sooner_12 (by decide) (by omega) (by omega) (fun c_12 => ?_) (fun c_12 => ?_)
      · refine lv_iload_n hx hb dX6_sooner_19 rfl (lv_lk hl rfl) ?_
        refine iv_eq (sooner a b) (by rw [sooner, if_neg (by omega)]) ?_
        exact W.iret hx hb hrt (fun t ht hW => ⟨rfl, ht⟩) hS.2.2 dX6_sooner_20 hlocks
      · refine lv_iload_n hx hb dX6_sooner_15 rfl (lv_lk hl rfl) ?_
        refine lv_goto (tgt := 20) hx hb dX6_sooner_16 (by decide) ?_
        refine iv_eq (sooner a b) (by rw [sooner, if_pos (by omega)]) ?_
        exact W.iret hx hb hrt (fun t ht hW => ⟨rfl, ht⟩) hS.2.2 dX6_sooner_20 hlocks
set_option maxHeartbeats 4000000 in
set_option maxRecDepth 100000 in
theorem m_X6_tells (l : Launch) (E : Env3) (ρ : Nat → Nat) (th rc tl pa kd nm : Int) (st hi ke tx wy : S) (hρ : dR ρ 6) (v : Int) : Met l yX6_tells (Cond.code yX6_tells cX6_tells 2 (some .int) :: ALL) ({ frames := 0, cells := 0, slots := 0, locals := 0 }) (pR [.ref (ρ 0), .int (I v)] E (refW E ρ th rc tl pa kd nm st hi ke tx wy)) (qW (some (.int (I v))) E (refW E ρ th rc tl pa kd nm st hi ke tx wy) (refW E ρ 0 rc tl pa kd nm st hi ke tx wy)) 0 0 (adIn (refW E ρ th rc tl pa kd nm st hi ke tx wy)) := by
  refine mk_met (by decide) rfl (Nat.le_of_ble_eq_true rfl) ?_
  intro p e s m args below meth c hx hb hrt hml hts hown hlocks hnm hP hK ls hl
  have hown : s.vm.findClass RX6 = some m.cls := hown
  have hl : lv_has ls 2 [(0, .ref (ρ 0)), (1, .int (I v))] := hl
  have hD : va_D (adIn (refW E ρ th rc tl pa kd nm st hi ke tx wy)) (refW E ρ th rc tl pa kd nm st hi ke tx wy) := D_of_dR hρ rfl
  have hS : va_S (adIn (refW E ρ th rc tl pa kd nm st hi ke tx wy)) s.heap s.heap [] := va_S.rf
  refine lv_aload_n hx hb dX6_tells_0 rfl (lv_lk hl rfl) ?_
  refine iv_iconst hx hb dX6_tells_1 ?_
  refine va_put (ci := 6) (ty := .int) hx hb hts inX6 tyX6 tyX6_ok nmX6 hown hK.1 hP (dm hD rfl) hS 0 rfl rfl 0 (by decide) (hts _ fl_X6_32) (fun _ h9 => h9) rfl (by decide +kernel) rfl rfl (Nat.le_of_ble_eq_true rfl) dX6_tells_2 (fun H locs hP _ hS => ?_)
  have hP : va_P E.1 vwCl (refW E ρ 0 rc tl pa kd nm st hi ke tx wy) H := hP
  refine lv_iload_n hx hb dX6_tells_5 rfl (lv_lk hl rfl) ?_
  exact W.iret hx hb hrt (fun t ht hW => ⟨rfl, by rw [ht]; exact hP, hS.F ht⟩) hS.2.2 dX6_tells_6 hlocks
set_option maxHeartbeats 4000000 in
set_option maxRecDepth 100000 in
theorem m_X6_memories (l : Launch) (E : Env3) (ρ : Nat → Nat) (th rc tl pa kd nm : Int) (st hi ke tx wy : S) (T : Int) (hI : IB T st) : Met l yX6_memories (Cond.code yX6_memories cX6_memories 3 (some .int) :: ALL) ({ frames := 1, cells := 0, slots := 0, locals := 22 }) (pR [.ref (ρ 0)] E (refW E ρ th rc tl pa kd nm st hi ke tx wy)) (qS (some (.int (I (memo st))))) 0 0 (fun _ => False) := by
  refine mk_met (by decide) rfl (Nat.le_of_ble_eq_true rfl) ?_
  intro p e s m args below meth c hx hb hrt hml hts hown hlocks hnm hP hK ls hl
  have hown : s.vm.findClass RX6 = some m.cls := hown
  have hl : lv_has ls 3 [(0, .ref (ρ 0))] := hl
  have hS : va_S (fun _ => False) s.heap s.heap [] := va_S.rf
  refine iv_iconst hx hb dX6_memories_0 ?_
  refine lv_istore_n (lv' := [(1, .int (I _)), (0, .ref _)]) hx hb dX6_memories_1 rfl hl (by decide) rfl (fun ls hl => ?_)
  refine iv_iconst hx hb dX6_memories_2 ?_
  refine lv_istore_n (lv' := [(2, .int (I _)), (1, .int (I _)), (0, .ref _)]) hx hb dX6_memories_3 rfl hl (by decide) rfl (fun ls hl => ?_)
  have LOOP4 : ∀ (n9 i : Nat), (i + n9 = 6) → ∀ (locs : List Loc) (ls : Array Slot), va_S (fun _ => False) s.heap s.heap locs → lv_has ls 3 [(0, .ref (ρ 0)), (1, .int (I (sumN (fun z => if 0 < st (6 + 5 * z + 3) then 1 else 0) i))), (2, .int (I (i : Int)))] → W p l e ({ frames := 1, cells := 0, slots := 0, locals := 22 }) s m args below meth c s.heap locs 0 0 (MQ below (qS (some (.int (I (memo st))))) args s 0 0 (fun _ => False)) (F0 m 4 ls []) := by
    intro n9
    induction n9 with
    | zero =>
      intro  i hi9 locs ls hS hl
      obtain rfl : i = 6 := by omega
      refine lv_iload_n hx hb dX6_memories_4 rfl (lv_lk hl rfl) ?_
      refine iv_bipush hx hb dX6_memories_5 (by decide +kernel) ?_
      refine iv_icmp_ge (tgt := 33) hx hb dX6_memories_7 (by decide) (by omega) (by omega) (fun c_7 => ?_) (fun c_7 => by exfalso; omega)
      have e0 : sumN (fun z => if 0 < st (6 + 5 * z + 3) then 1 else 0) 6 = sumN (fun z => if 0 < st (6 + 5 * z + 3) then 1 else 0) 6 + sumN (fun r => if 0 < st (36 + 6 * r + 5) then 1 else 0) 0 := (Int.add_zero _).symm
      rw [e0] at hl
      refine iv_iconst hx hb dX6_memories_33 ?_
      refine lv_istore_n (lv' := [(2, .int (I _)), (0, .ref _), (1, .int (I _))]) hx hb dX6_memories_34 rfl hl (by decide) rfl (fun ls hl => ?_)
      have LOOP35 : ∀ (n9 i : Nat), (i + n9 = 36) → ∀ (locs : List Loc) (ls : Array Slot), va_S (fun _ => False) s.heap s.heap locs → lv_has ls 3 [(0, .ref (ρ 0)), (1, .int (I (sumN (fun z => if 0 < st (6 + 5 * z + 3) then 1 else 0) 6 + sumN (fun r => if 0 < st (36 + 6 * r + 5) then 1 else 0) i))), (2, .int (I (i : Int)))] → W p l e ({ frames := 1, cells := 0, slots := 0, locals := 22 }) s m args below meth c s.heap locs 0 0 (MQ below (qS (some (.int (I (memo st))))) args s 0 0 (fun _ => False)) (F0 m 35 ls []) := by
        intro n9
        induction n9 with
        | zero =>
          intro  i hi9 locs ls hS hl
          obtain rfl : i = 36 := by omega
          refine lv_iload_n hx hb dX6_memories_35 rfl (lv_lk hl rfl) ?_
          refine iv_bipush hx hb dX6_memories_36 (by decide +kernel) ?_
          refine iv_icmp_ge (tgt := 64) hx hb dX6_memories_38 (by decide) (by omega) (by omega) (fun c_38 => ?_) (fun c_38 => by exfalso; omega)
          refine lv_iload_n hx hb dX6_memories_64 rfl (lv_lk hl rfl) ?_
          exact W.iret hx hb hrt (fun t ht hW => ⟨rfl, ht⟩) hS.2.2 dX6_memories_65 hlocks
        | succ n9 ih =>
          intro  i hi9 locs ls hS hl
          have z9 := (hI.2.2.2 i (by omega)).2
          unfold triM at z9
          have z8 := hI.1
          refine lv_iload_n hx hb dX6_memories_35 rfl (lv_lk hl rfl) ?_
          refine iv_bipush hx hb dX6_memories_36 (by decide +kernel) ?_
          refine iv_icmp_ge (tgt := 64) hx hb dX6_memories_38 (by decide) (by omega) (by omega) (fun c_38 => by exfalso; omega) (fun c_38 => ?_)
          refine lv_iload_n hx hb dX6_memories_41 rfl (lv_lk hl rfl) ?_
          refine lv_aload_n hx hb dX6_memories_42 rfl (lv_lk hl rfl) ?_
          refine lv_iload_n hx hb dX6_memories_43 rfl (lv_lk hl rfl) ?_
          refine iv_iconst hx hb dX6_memories_44 ?_
          refine call_S (va_runV ⟨hx, hb, hml, hown, hts⟩ (m_X6_of l E ρ th rc tl pa kd nm st hi ke tx wy i 5 (by omega) (by decide)) (cwV 2 hts (gi_V ml_X6_61 im_X6_of sl_X6_of it_X6 cd_X6_of) rfl rfl rfl (by decide +kernel) ⟨Nat.le_of_ble_eq_true rfl, Nat.le_of_ble_eq_true rfl⟩) (pR_V (q0 := 0) (ci := 6) hP hK rfl rfl) rfl rfl hl.1 rfl (lv_room (Nat.le_of_ble_eq_true rfl)) dX6_memories_45 ⟨Nat.le_of_ble_eq_true rfl, Nat.le_of_ble_eq_true rfl⟩) (fun _ h => h) hS rfl (fun locs hS => ?_)
          refine iv_if_le (tgt := 55) hx hb dX6_memories_48 (by decide) (by omega) (fun c_48 => ?_) (fun c_48 => ?_)
          · refine iv_iconst hx hb dX6_memories_55 ?_
            refine iv_iadd hx hb dX6_memories_56 ?_
            refine iv_eq (sumN (fun z => if 0 < st (6 + 5 * z + 3) then 1 else 0) 6 + sumN (fun r => if 0 < st (36 + 6 * r + 5) then 1 else 0) (i + 1)) (by show _ = sumN (fun z => if 0 < st (6 + 5 * z + 3) then 1 else 0) 6 + (sumN (fun r => if 0 < st (36 + 6 * r + 5) then 1 else 0) i + (if 0 < st (36 + 6 * i + 5) then 1 else 0)); rw [if_neg (by omega)]; omega) ?_
            refine lv_istore_n (lv' := [(1, .int (I _)), (0, .ref _), (2, .int (I _))]) hx hb dX6_memories_57 rfl hl (by decide) rfl (fun ls hl => ?_)
            refine iv_iinc (k := 2) hx hb dX6_memories_58 hl rfl (((i + 1 : Nat) : Int)) (by omega) (by decide) [(2, .int (I _)), (1, .int (I _)), (0, .ref _)] rfl (fun ls hl => ?_)
            refine lv_goto (tgt := 35) hx hb dX6_memories_61 (by decide) ?_
            exact ih (i + 1) (by omega) locs ls hS (lv_sub hl [2, 1, 0] rfl)
          · refine iv_iconst hx hb dX6_memories_51 ?_
            refine lv_goto (tgt := 56) hx hb dX6_memories_52 (by decide) ?_
            refine iv_iadd hx hb dX6_memories_56 ?_
            refine iv_eq (sumN (fun z => if 0 < st (6 + 5 * z + 3) then 1 else 0) 6 + sumN (fun r => if 0 < st (36 + 6 * r + 5) then 1 else 0) (i + 1)) (by show _ = sumN (fun z => if 0 < st (6 + 5 * z + 3) then 1 else 0) 6 + (sumN (fun r => if 0 < st (36 + 6 * r + 5) then 1 else 0) i + (if 0 < st (36 + 6 * i + 5) then 1 else 0)); rw [if_pos (by omega)]; omega) ?_
            refine lv_istore_n (lv' := [(1, .int (I _)), (0, .ref _), (2, .int (I _))]) hx hb dX6_memories_57 rfl hl (by decide) rfl (fun ls hl => ?_)
            refine iv_iinc (k := 2) hx hb dX6_memories_58 hl rfl (((i + 1 : Nat) : Int)) (by omega) (by decide) [(2, .int (I _)), (1, .int (I _)), (0, .ref _)] rfl (fun ls hl => ?_)
            refine lv_goto (tgt := 35) hx hb dX6_memories_61 (by decide) ?_
            exact ih (i + 1) (by omega) locs ls hS (lv_sub hl [2, 1, 0] rfl)
      exact LOOP35 36 0 (by omega) _ _ hS (lv_sub hl [1, 2, 0] rfl)
    | succ n9 ih =>
      intro  i hi9 locs ls hS hl
      have z9 := (hI.2.2.1 i (by omega)).2.2.2.2.2
      have z8 := hI.1
      refine lv_iload_n hx hb dX6_memories_4 rfl (lv_lk hl rfl) ?_
      refine iv_bipush hx hb dX6_memories_5 (by decide +kernel) ?_
      refine iv_icmp_ge (tgt := 33) hx hb dX6_memories_7 (by decide) (by omega) (by omega) (fun c_7 => by exfalso; omega) (fun c_7 => ?_)
      refine lv_iload_n hx hb dX6_memories_10 rfl (lv_lk hl rfl) ?_
      refine lv_aload_n hx hb dX6_memories_11 rfl (lv_lk hl rfl) ?_
      refine lv_iload_n hx hb dX6_memories_12 rfl (lv_lk hl rfl) ?_
      refine iv_iconst hx hb dX6_memories_13 ?_
      refine call_S (va_runV ⟨hx, hb, hml, hown, hts⟩ (m_X6_ofZone l E ρ th rc tl pa kd nm st hi ke tx wy i 3 (by omega) (by decide)) (cwV 2 hts (gi_V ml_X6_50 im_X6_ofZone sl_X6_ofZone it_X6 cd_X6_ofZone) rfl rfl rfl (by decide +kernel) ⟨Nat.le_of_ble_eq_true rfl, Nat.le_of_ble_eq_true rfl⟩) (pR_V (q0 := 0) (ci := 6) hP hK rfl rfl) rfl rfl hl.1 rfl (lv_room (Nat.le_of_ble_eq_true rfl)) dX6_memories_14 ⟨Nat.le_of_ble_eq_true rfl, Nat.le_of_ble_eq_true rfl⟩) (fun _ h => h) hS rfl (fun locs hS => ?_)
      refine iv_if_le (tgt := 24) hx hb dX6_memories_17 (by decide) (by omega) (fun c_17 => ?_) (fun c_17 => ?_)
      · refine iv_iconst hx hb dX6_memories_24 ?_
        refine iv_iadd hx hb dX6_memories_25 ?_
        refine iv_eq (sumN (fun z => if 0 < st (6 + 5 * z + 3) then 1 else 0) (i + 1)) (by show _ = sumN (fun z => if 0 < st (6 + 5 * z + 3) then 1 else 0) i + (if 0 < st (6 + 5 * i + 3) then 1 else 0); rw [if_neg (by omega)]) ?_
        refine lv_istore_n (lv' := [(1, .int (I _)), (0, .ref _), (2, .int (I _))]) hx hb dX6_memories_26 rfl hl (by decide) rfl (fun ls hl => ?_)
        refine iv_iinc (k := 2) hx hb dX6_memories_27 hl rfl (((i + 1 : Nat) : Int)) (by omega) (by decide) [(2, .int (I _)), (1, .int (I _)), (0, .ref _)] rfl (fun ls hl => ?_)
        refine lv_goto (tgt := 4) hx hb dX6_memories_30 (by decide) ?_
        exact ih (i + 1) (by omega) locs ls hS (lv_sub hl [2, 1, 0] rfl)
      · refine iv_iconst hx hb dX6_memories_20 ?_
        refine lv_goto (tgt := 25) hx hb dX6_memories_21 (by decide) ?_
        refine iv_iadd hx hb dX6_memories_25 ?_
        refine iv_eq (sumN (fun z => if 0 < st (6 + 5 * z + 3) then 1 else 0) (i + 1)) (by show _ = sumN (fun z => if 0 < st (6 + 5 * z + 3) then 1 else 0) i + (if 0 < st (6 + 5 * i + 3) then 1 else 0); rw [if_pos (by omega)]) ?_
        refine lv_istore_n (lv' := [(1, .int (I _)), (0, .ref _), (2, .int (I _))]) hx hb dX6_memories_26 rfl hl (by decide) rfl (fun ls hl => ?_)
        refine iv_iinc (k := 2) hx hb dX6_memories_27 hl rfl (((i + 1 : Nat) : Int)) (by omega) (by decide) [(2, .int (I _)), (1, .int (I _)), (0, .ref _)] rfl (fun ls hl => ?_)
        refine lv_goto (tgt := 4) hx hb dX6_memories_30 (by decide) ?_
        exact ih (i + 1) (by omega) locs ls hS (lv_sub hl [2, 1, 0] rfl)
  exact LOOP4 6 0 (by omega) _ _ hS (lv_sub hl [2, 1, 0] rfl)
set_option maxHeartbeats 4000000 in
set_option maxRecDepth 100000 in
theorem m_X6_remembered (l : Launch) (E : Env3) (ρ : Nat → Nat) (th rc tl pa kd nm : Int) (st hi ke tx wy : S) (hρ : dR ρ 6) (T : Int) (hI : IB T st) : Met l yX6_remembered (Cond.code yX6_remembered cX6_remembered 1 (some .int) :: ALL) ({ frames := 2, cells := 0, slots := 0, locals := 44 }) (pR [.ref (ρ 0)] E (refW E ρ th rc tl pa kd nm st hi ke tx wy)) (qW (some (.int (I (memo st)))) E (refW E ρ th rc tl pa kd nm st hi ke tx wy) (refW E ρ 0 rc tl pa kd nm st hi ke tx wy)) 0 0 (adIn (refW E ρ th rc tl pa kd nm st hi ke tx wy)) := by
  refine mk_met (by decide) rfl (Nat.le_of_ble_eq_true rfl) ?_
  intro p e s m args below meth c hx hb hrt hml hts hown hlocks hnm hP hK ls hl
  have hown : s.vm.findClass RX6 = some m.cls := hown
  have hl : lv_has ls 1 [(0, .ref (ρ 0))] := hl
  have hD : va_D (adIn (refW E ρ th rc tl pa kd nm st hi ke tx wy)) (refW E ρ th rc tl pa kd nm st hi ke tx wy) := D_of_dR hρ rfl
  have hS : va_S (adIn (refW E ρ th rc tl pa kd nm st hi ke tx wy)) s.heap s.heap [] := va_S.rf
  refine lv_aload_n hx hb dX6_remembered_0 rfl (lv_lk hl rfl) ?_
  refine lv_aload_n hx hb dX6_remembered_1 rfl (lv_lk hl rfl) ?_
  refine call_S (va_runV ⟨hx, hb, hml, hown, hts⟩ (m_X6_memories l E ρ th rc tl pa kd nm st hi ke tx wy T hI) (cwV 0 hts (gi_V ml_X6_112 im_X6_memories sl_X6_memories it_X6 cd_X6_memories) rfl rfl rfl (by decide +kernel) ⟨Nat.le_of_ble_eq_true rfl, Nat.le_of_ble_eq_true rfl⟩) (pR_V (q0 := 0) (ci := 6) hP hK rfl rfl) rfl rfl hl.1 rfl (lv_room (Nat.le_of_ble_eq_true rfl)) dX6_remembered_2 ⟨Nat.le_of_ble_eq_true rfl, Nat.le_of_ble_eq_true rfl⟩) (fun _ h => h) hS rfl (fun locs hS => ?_)
  refine call_F (va_runV ⟨hx, hb, hml, hown, hts⟩ (m_X6_tells l E ρ th rc tl pa kd nm st hi ke tx wy hρ _) (cwV 1 hts (gi_V ml_X6_94 im_X6_tells sl_X6_tells it_X6 cd_X6_tells) rfl rfl rfl (by decide +kernel) ⟨Nat.le_of_ble_eq_true rfl, Nat.le_of_ble_eq_true rfl⟩) (pR_V (q0 := 0) (ci := 6) hP hK rfl rfl) rfl rfl hl.1 rfl (lv_room (Nat.le_of_ble_eq_true rfl)) dX6_remembered_5 ⟨Nat.le_of_ble_eq_true rfl, Nat.le_of_ble_eq_true rfl⟩) (dm hD rfl) hS rfl (fun H locs hP hS => ?_)
  have hP : va_P E.1 vwCl (refW E ρ 0 rc tl pa kd nm st hi ke tx wy) H := hP
  exact W.iret hx hb hrt (fun t ht hW => ⟨rfl, by rw [ht]; exact hP, hS.F ht⟩) hS.2.2 dX6_remembered_8 hlocks
set_option maxHeartbeats 4000000 in
set_option maxRecDepth 100000 in
theorem m_X6_rememberedByAccount (l : Launch) (E : Env3) (ρ : Nat → Nat) (th rc tl pa kd nm : Int) (st hi ke tx wy : S) (hρ : dR ρ 6) : Met l yX6_rememberedByAccount (Cond.code yX6_rememberedByAccount cX6_rememberedByAccount 1 (some .int) :: ALL) ({ frames := 1, cells := 0, slots := 0, locals := 21 }) (pR [.ref (ρ 0)] E (refW E ρ th rc tl pa kd nm st hi ke tx wy)) (qW (some (.int (I (st 4 - st 5)))) E (refW E ρ th rc tl pa kd nm st hi ke tx wy) (refW E ρ 0 rc tl pa kd nm st hi ke tx wy)) 0 0 (adIn (refW E ρ th rc tl pa kd nm st hi ke tx wy)) := by
  refine mk_met (by decide) rfl (Nat.le_of_ble_eq_true rfl) ?_
  intro p e s m args below meth c hx hb hrt hml hts hown hlocks hnm hP hK ls hl
  have hown : s.vm.findClass RX6 = some m.cls := hown
  have hl : lv_has ls 1 [(0, .ref (ρ 0))] := hl
  have hD : va_D (adIn (refW E ρ th rc tl pa kd nm st hi ke tx wy)) (refW E ρ th rc tl pa kd nm st hi ke tx wy) := D_of_dR hρ rfl
  have hS : va_S (adIn (refW E ρ th rc tl pa kd nm st hi ke tx wy)) s.heap s.heap [] := va_S.rf
  refine lv_aload_n hx hb dX6_rememberedByAccount_0 rfl (lv_lk hl rfl) ?_
  refine lv_aload_n hx hb dX6_rememberedByAccount_1 rfl (lv_lk hl rfl) ?_
  refine va_get (D := E.1) (ci := 6) hx hb hts inX6 hown hK.1 hP 0 rfl rfl 1 (by decide) (hts _ fl_X6_7) (fun _ h9 => h9) rfl dX6_rememberedByAccount_2 ?_
  refine iv_iconst hx hb dX6_rememberedByAccount_5 ?_
  refine iv_iald hx hb hK hP 1 rfl (4) (by omega) (by omega) dX6_rememberedByAccount_6 ?_
  refine lv_aload_n hx hb dX6_rememberedByAccount_7 rfl (lv_lk hl rfl) ?_
  refine va_get (D := E.1) (ci := 6) hx hb hts inX6 hown hK.1 hP 0 rfl rfl 1 (by decide) (hts _ fl_X6_7) (fun _ h9 => h9) rfl dX6_rememberedByAccount_8 ?_
  refine iv_iconst hx hb dX6_rememberedByAccount_11 ?_
  refine iv_iald hx hb hK hP 1 rfl (5) (by omega) (by omega) dX6_rememberedByAccount_12 ?_
  refine iv_isub hx hb dX6_rememberedByAccount_13 ?_
  refine call_F (va_runV ⟨hx, hb, hml, hown, hts⟩ (m_X6_tells l E ρ th rc tl pa kd nm st hi ke tx wy hρ _) (cwV 1 hts (gi_V ml_X6_94 im_X6_tells sl_X6_tells it_X6 cd_X6_tells) rfl rfl rfl (by decide +kernel) ⟨Nat.le_of_ble_eq_true rfl, Nat.le_of_ble_eq_true rfl⟩) (pR_V (q0 := 0) (ci := 6) hP hK rfl rfl) rfl rfl hl.1 rfl (lv_room (Nat.le_of_ble_eq_true rfl)) dX6_rememberedByAccount_14 ⟨Nat.le_of_ble_eq_true rfl, Nat.le_of_ble_eq_true rfl⟩) (dm hD rfl) hS rfl (fun H locs hP hS => ?_)
  have hP : va_P E.1 vwCl (refW E ρ 0 rc tl pa kd nm st hi ke tx wy) H := hP
  exact W.iret hx hb hrt (fun t ht hW => ⟨rfl, by rw [ht]; exact hP, hS.F ht⟩) hS.2.2 dX6_rememberedByAccount_17 hlocks
set_option maxHeartbeats 4000000 in
set_option maxRecDepth 100000 in
theorem m_X6_untilForgetting (l : Launch) (E : Env3) (ρ : Nat → Nat) (th rc tl pa kd nm : Int) (st hi ke tx wy : S) (T : Int) (hI : IB T st) : Met l yX6_untilForgetting (Cond.code yX6_untilForgetting cX6_untilForgetting 3 (some .int) :: ALL) ({ frames := 1, cells := 0, slots := 0, locals := 22 }) (pR [.ref (ρ 0)] E (refW E ρ th rc tl pa kd nm st hi ke tx wy)) (qS (some (.int (I (untl st))))) 0 0 (fun _ => False) := by
  refine mk_met (by decide) rfl (Nat.le_of_ble_eq_true rfl) ?_
  intro p e s m args below meth c hx hb hrt hml hts hown hlocks hnm hP hK ls hl
  have hown : s.vm.findClass RX6 = some m.cls := hown
  have hl : lv_has ls 3 [(0, .ref (ρ 0))] := hl
  have hS : va_S (fun _ => False) s.heap s.heap [] := va_S.rf
  refine iv_iconst hx hb dX6_untilForgetting_0 ?_
  refine lv_istore_n (lv' := [(1, .int (I _)), (0, .ref _)]) hx hb dX6_untilForgetting_1 rfl hl (by decide) rfl (fun ls hl => ?_)
  refine iv_iconst hx hb dX6_untilForgetting_2 ?_
  refine lv_istore_n (lv' := [(2, .int (I _)), (1, .int (I _)), (0, .ref _)]) hx hb dX6_untilForgetting_3 rfl hl (by decide) rfl (fun ls hl => ?_)
  have LOOP4 : ∀ (n9 i : Nat), (i + n9 = 6) → ∀ (locs : List Loc) (ls : Array Slot), va_S (fun _ => False) s.heap s.heap locs → lv_has ls 3 [(0, .ref (ρ 0)), (1, .int (I (foldN (fun a z => sooner a (left st (st (6 + 5 * z + 3)))) i (-1)))), (2, .int (I (i : Int)))] → W p l e ({ frames := 1, cells := 0, slots := 0, locals := 22 }) s m args below meth c s.heap locs 0 0 (MQ below (qS (some (.int (I (untl st))))) args s 0 0 (fun _ => False)) (F0 m 4 ls []) := by
    intro n9
    induction n9 with
    | zero =>
      intro  i hi9 locs ls hS hl
      obtain rfl : i = 6 := by omega
      refine lv_iload_n hx hb dX6_untilForgetting_4 rfl (lv_lk hl rfl) ?_
      refine iv_bipush hx hb dX6_untilForgetting_5 (by decide +kernel) ?_
      refine iv_icmp_ge (tgt := 31) hx hb dX6_untilForgetting_7 (by decide) (by omega) (by omega) (fun c_7 => ?_) (fun c_7 => by exfalso; omega)
      refine iv_iconst hx hb dX6_untilForgetting_31 ?_
      refine lv_istore_n (lv' := [(2, .int (I _)), (0, .ref _), (1, .int (I _))]) hx hb dX6_untilForgetting_32 rfl hl (by decide) rfl (fun ls hl => ?_)
      have LOOP33 : ∀ (n9 i : Nat), (i + n9 = 36) → ∀ (locs : List Loc) (ls : Array Slot), va_S (fun _ => False) s.heap s.heap locs → lv_has ls 3 [(0, .ref (ρ 0)), (1, .int (I (foldN (fun a r => sooner a (left st (st (36 + 6 * r + 5)))) i (foldN (fun a z => sooner a (left st (st (6 + 5 * z + 3)))) 6 (-1))))), (2, .int (I (i : Int)))] → W p l e ({ frames := 1, cells := 0, slots := 0, locals := 22 }) s m args below meth c s.heap locs 0 0 (MQ below (qS (some (.int (I (untl st))))) args s 0 0 (fun _ => False)) (F0 m 33 ls []) := by
        intro n9
        induction n9 with
        | zero =>
          intro  i hi9 locs ls hS hl
          obtain rfl : i = 36 := by omega
          refine lv_iload_n hx hb dX6_untilForgetting_33 rfl (lv_lk hl rfl) ?_
          refine iv_bipush hx hb dX6_untilForgetting_34 (by decide +kernel) ?_
          refine iv_icmp_ge (tgt := 60) hx hb dX6_untilForgetting_36 (by decide) (by omega) (by omega) (fun c_36 => ?_) (fun c_36 => by exfalso; omega)
          refine lv_iload_n hx hb dX6_untilForgetting_60 rfl (lv_lk hl rfl) ?_
          exact W.iret hx hb hrt (fun t ht hW => ⟨rfl, ht⟩) hS.2.2 dX6_untilForgetting_61 hlocks
        | succ n9 ih =>
          intro  i hi9 locs ls hS hl
          have z9 := (hI.2.2.2 i (by omega)).2
          unfold triM at z9
          have z8 := hI.1
          have z7 := untl_rngR hI i (by omega)
          have z6 := left_rng hI (st (36 + 6 * i + 5)) (by omega)
          refine lv_iload_n hx hb dX6_untilForgetting_33 rfl (lv_lk hl rfl) ?_
          refine iv_bipush hx hb dX6_untilForgetting_34 (by decide +kernel) ?_
          refine iv_icmp_ge (tgt := 60) hx hb dX6_untilForgetting_36 (by decide) (by omega) (by omega) (fun c_36 => by exfalso; omega) (fun c_36 => ?_)
          refine lv_iload_n hx hb dX6_untilForgetting_39 rfl (lv_lk hl rfl) ?_
          refine lv_aload_n hx hb dX6_untilForgetting_40 rfl (lv_lk hl rfl) ?_
          refine lv_aload_n hx hb dX6_untilForgetting_41 rfl (lv_lk hl rfl) ?_
          refine lv_iload_n hx hb dX6_untilForgetting_42 rfl (lv_lk hl rfl) ?_
          refine iv_iconst hx hb dX6_untilForgetting_43 ?_
          refine call_S (va_runV ⟨hx, hb, hml, hown, hts⟩ (m_X6_of l E ρ th rc tl pa kd nm st hi ke tx wy i 5 (by omega) (by decide)) (cwV 2 hts (gi_V ml_X6_61 im_X6_of sl_X6_of it_X6 cd_X6_of) rfl rfl rfl (by decide +kernel) ⟨Nat.le_of_ble_eq_true rfl, Nat.le_of_ble_eq_true rfl⟩) (pR_V (q0 := 0) (ci := 6) hP hK rfl rfl) rfl rfl hl.1 rfl (lv_room (Nat.le_of_ble_eq_true rfl)) dX6_untilForgetting_44 ⟨Nat.le_of_ble_eq_true rfl, Nat.le_of_ble_eq_true rfl⟩) (fun _ h => h) hS rfl (fun locs hS => ?_)
          refine call_S (va_runV ⟨hx, hb, hml, hown, hts⟩ (m_X6_leftUntil l E ρ th rc tl pa kd nm st hi ke tx wy _ (by omega)) (cwV 1 hts (gi_V ml_X6_109 im_X6_leftUntil sl_X6_leftUntil it_X6 cd_X6_leftUntil) rfl rfl rfl (by decide +kernel) ⟨Nat.le_of_ble_eq_true rfl, Nat.le_of_ble_eq_true rfl⟩) (pR_V (q0 := 0) (ci := 6) hP hK rfl rfl) rfl rfl hl.1 rfl (lv_room (Nat.le_of_ble_eq_true rfl)) dX6_untilForgetting_47 ⟨Nat.le_of_ble_eq_true rfl, Nat.le_of_ble_eq_true rfl⟩) (fun _ h => h) hS rfl (fun locs hS => ?_)
          refine call_S (va_runS ⟨hx, hb, hml, hown, hts⟩ (m_X6_sooner l E _ _ (by omega) (by omega)) (va_cwS 2 hts (gi_S ml_X6_116 st_X6_sooner it_X6 cd_X6_sooner) rfl rfl rfl (by decide +kernel) ⟨Nat.le_of_ble_eq_true rfl, Nat.le_of_ble_eq_true rfl⟩) (pR_S (hP.sub (ws' := []) [] rfl) hK) rfl rfl hl.1 rfl (lv_room (Nat.le_of_ble_eq_true rfl)) dX6_untilForgetting_50 ⟨Nat.le_of_ble_eq_true rfl, Nat.le_of_ble_eq_true rfl⟩) (fun _ h => h) hS rfl (fun locs hS => ?_)
          refine lv_istore_n (lv' := [(1, .int (I _)), (0, .ref _), (2, .int (I _))]) hx hb dX6_untilForgetting_53 rfl hl (by decide) rfl (fun ls hl => ?_)
          refine iv_iinc (k := 2) hx hb dX6_untilForgetting_54 hl rfl (((i + 1 : Nat) : Int)) (by omega) (by decide) [(2, .int (I _)), (1, .int (I _)), (0, .ref _)] rfl (fun ls hl => ?_)
          refine lv_goto (tgt := 33) hx hb dX6_untilForgetting_57 (by decide) ?_
          exact ih (i + 1) (by omega) locs ls hS (lv_sub hl [2, 1, 0] rfl)
      exact LOOP33 36 0 (by omega) _ _ hS (lv_sub hl [1, 2, 0] rfl)
    | succ n9 ih =>
      intro  i hi9 locs ls hS hl
      have z9 := (hI.2.2.1 i (by omega)).2.2.2.2.2
      have z8 := hI.1
      have z7 := untl_rngZ hI i (by omega)
      have z6 := left_rng hI (st (6 + 5 * i + 3)) (by omega)
      refine lv_iload_n hx hb dX6_untilForgetting_4 rfl (lv_lk hl rfl) ?_
      refine iv_bipush hx hb dX6_untilForgetting_5 (by decide +kernel) ?_
      refine iv_icmp_ge (tgt := 31) hx hb dX6_untilForgetting_7 (by decide) (by omega) (by omega) (fun c_7 => by exfalso; omega) (fun c_7 => ?_)
      refine lv_iload_n hx hb dX6_untilForgetting_10 rfl (lv_lk hl rfl) ?_
      refine lv_aload_n hx hb dX6_untilForgetting_11 rfl (lv_lk hl rfl) ?_
      refine lv_aload_n hx hb dX6_untilForgetting_12 rfl (lv_lk hl rfl) ?_
      refine lv_iload_n hx hb dX6_untilForgetting_13 rfl (lv_lk hl rfl) ?_
      refine iv_iconst hx hb dX6_untilForgetting_14 ?_
      refine call_S (va_runV ⟨hx, hb, hml, hown, hts⟩ (m_X6_ofZone l E ρ th rc tl pa kd nm st hi ke tx wy i 3 (by omega) (by decide)) (cwV 2 hts (gi_V ml_X6_50 im_X6_ofZone sl_X6_ofZone it_X6 cd_X6_ofZone) rfl rfl rfl (by decide +kernel) ⟨Nat.le_of_ble_eq_true rfl, Nat.le_of_ble_eq_true rfl⟩) (pR_V (q0 := 0) (ci := 6) hP hK rfl rfl) rfl rfl hl.1 rfl (lv_room (Nat.le_of_ble_eq_true rfl)) dX6_untilForgetting_15 ⟨Nat.le_of_ble_eq_true rfl, Nat.le_of_ble_eq_true rfl⟩) (fun _ h => h) hS rfl (fun locs hS => ?_)
      refine call_S (va_runV ⟨hx, hb, hml, hown, hts⟩ (m_X6_leftUntil l E ρ th rc tl pa kd nm st hi ke tx wy _ (by omega)) (cwV 1 hts (gi_V ml_X6_109 im_X6_leftUntil sl_X6_leftUntil it_X6 cd_X6_leftUntil) rfl rfl rfl (by decide +kernel) ⟨Nat.le_of_ble_eq_true rfl, Nat.le_of_ble_eq_true rfl⟩) (pR_V (q0 := 0) (ci := 6) hP hK rfl rfl) rfl rfl hl.1 rfl (lv_room (Nat.le_of_ble_eq_true rfl)) dX6_untilForgetting_18 ⟨Nat.le_of_ble_eq_true rfl, Nat.le_of_ble_eq_true rfl⟩) (fun _ h => h) hS rfl (fun locs hS => ?_)
      refine call_S (va_runS ⟨hx, hb, hml, hown, hts⟩ (m_X6_sooner l E _ _ (by omega) (by omega)) (va_cwS 2 hts (gi_S ml_X6_116 st_X6_sooner it_X6 cd_X6_sooner) rfl rfl rfl (by decide +kernel) ⟨Nat.le_of_ble_eq_true rfl, Nat.le_of_ble_eq_true rfl⟩) (pR_S (hP.sub (ws' := []) [] rfl) hK) rfl rfl hl.1 rfl (lv_room (Nat.le_of_ble_eq_true rfl)) dX6_untilForgetting_21 ⟨Nat.le_of_ble_eq_true rfl, Nat.le_of_ble_eq_true rfl⟩) (fun _ h => h) hS rfl (fun locs hS => ?_)
      refine lv_istore_n (lv' := [(1, .int (I _)), (0, .ref _), (2, .int (I _))]) hx hb dX6_untilForgetting_24 rfl hl (by decide) rfl (fun ls hl => ?_)
      refine iv_iinc (k := 2) hx hb dX6_untilForgetting_25 hl rfl (((i + 1 : Nat) : Int)) (by omega) (by decide) [(2, .int (I _)), (1, .int (I _)), (0, .ref _)] rfl (fun ls hl => ?_)
      refine lv_goto (tgt := 4) hx hb dX6_untilForgetting_28 (by decide) ?_
      exact ih (i + 1) (by omega) locs ls hS (lv_sub hl [2, 1, 0] rfl)
  exact LOOP4 6 0 (by omega) _ _ hS (lv_sub hl [2, 1, 0] rfl)
set_option maxHeartbeats 4000000 in
set_option maxRecDepth 100000 in
theorem m_X6_ticksUntilForgetting (l : Launch) (E : Env3) (ρ : Nat → Nat) (th rc tl pa kd nm : Int) (st hi ke tx wy : S) (hρ : dR ρ 6) (T : Int) (hI : IB T st) : Met l yX6_ticksUntilForgetting (Cond.code yX6_ticksUntilForgetting cX6_ticksUntilForgetting 1 (some .int) :: ALL) ({ frames := 2, cells := 0, slots := 0, locals := 44 }) (pR [.ref (ρ 0)] E (refW E ρ th rc tl pa kd nm st hi ke tx wy)) (qW (some (.int (I (untl st)))) E (refW E ρ th rc tl pa kd nm st hi ke tx wy) (refW E ρ 0 rc tl pa kd nm st hi ke tx wy)) 0 0 (adIn (refW E ρ th rc tl pa kd nm st hi ke tx wy)) := by
  refine mk_met (by decide) rfl (Nat.le_of_ble_eq_true rfl) ?_
  intro p e s m args below meth c hx hb hrt hml hts hown hlocks hnm hP hK ls hl
  have hown : s.vm.findClass RX6 = some m.cls := hown
  have hl : lv_has ls 1 [(0, .ref (ρ 0))] := hl
  have hD : va_D (adIn (refW E ρ th rc tl pa kd nm st hi ke tx wy)) (refW E ρ th rc tl pa kd nm st hi ke tx wy) := D_of_dR hρ rfl
  have hS : va_S (adIn (refW E ρ th rc tl pa kd nm st hi ke tx wy)) s.heap s.heap [] := va_S.rf
  refine lv_aload_n hx hb dX6_ticksUntilForgetting_0 rfl (lv_lk hl rfl) ?_
  refine lv_aload_n hx hb dX6_ticksUntilForgetting_1 rfl (lv_lk hl rfl) ?_
  refine call_S (va_runV ⟨hx, hb, hml, hown, hts⟩ (m_X6_untilForgetting l E ρ th rc tl pa kd nm st hi ke tx wy T hI) (cwV 0 hts (gi_V ml_X6_119 im_X6_untilForgetting sl_X6_untilForgetting it_X6 cd_X6_untilForgetting) rfl rfl rfl (by decide +kernel) ⟨Nat.le_of_ble_eq_true rfl, Nat.le_of_ble_eq_true rfl⟩) (pR_V (q0 := 0) (ci := 6) hP hK rfl rfl) rfl rfl hl.1 rfl (lv_room (Nat.le_of_ble_eq_true rfl)) dX6_ticksUntilForgetting_2 ⟨Nat.le_of_ble_eq_true rfl, Nat.le_of_ble_eq_true rfl⟩) (fun _ h => h) hS rfl (fun locs hS => ?_)
  refine call_F (va_runV ⟨hx, hb, hml, hown, hts⟩ (m_X6_tells l E ρ th rc tl pa kd nm st hi ke tx wy hρ _) (cwV 1 hts (gi_V ml_X6_94 im_X6_tells sl_X6_tells it_X6 cd_X6_tells) rfl rfl rfl (by decide +kernel) ⟨Nat.le_of_ble_eq_true rfl, Nat.le_of_ble_eq_true rfl⟩) (pR_V (q0 := 0) (ci := 6) hP hK rfl rfl) rfl rfl hl.1 rfl (lv_room (Nat.le_of_ble_eq_true rfl)) dX6_ticksUntilForgetting_5 ⟨Nat.le_of_ble_eq_true rfl, Nat.le_of_ble_eq_true rfl⟩) (dm hD rfl) hS rfl (fun H locs hP hS => ?_)
  have hP : va_P E.1 vwCl (refW E ρ 0 rc tl pa kd nm st hi ke tx wy) H := hP
  exact W.iret hx hb hrt (fun t ht hW => ⟨rfl, by rw [ht]; exact hP, hS.F ht⟩) hS.2.2 dX6_ticksUntilForgetting_8 hlocks
set_option maxHeartbeats 4000000 in
set_option maxRecDepth 100000 in
theorem m_X6_time (l : Launch) (E : Env3) (ρ : Nat → Nat) (th rc tl pa kd nm : Int) (st hi ke tx wy : S) (hρ : dR ρ 6) : Met l yX6_time (Cond.code yX6_time cX6_time 1 (some .int) :: ALL) ({ frames := 1, cells := 0, slots := 0, locals := 21 }) (pR [.ref (ρ 0)] E (refW E ρ th rc tl pa kd nm st hi ke tx wy)) (qW (some (.int (I (st 0)))) E (refW E ρ th rc tl pa kd nm st hi ke tx wy) (refW E ρ 0 rc tl pa kd nm st hi ke tx wy)) 0 0 (adIn (refW E ρ th rc tl pa kd nm st hi ke tx wy)) := by
  refine mk_met (by decide) rfl (Nat.le_of_ble_eq_true rfl) ?_
  intro p e s m args below meth c hx hb hrt hml hts hown hlocks hnm hP hK ls hl
  have hown : s.vm.findClass RX6 = some m.cls := hown
  have hl : lv_has ls 1 [(0, .ref (ρ 0))] := hl
  have hD : va_D (adIn (refW E ρ th rc tl pa kd nm st hi ke tx wy)) (refW E ρ th rc tl pa kd nm st hi ke tx wy) := D_of_dR hρ rfl
  have hS : va_S (adIn (refW E ρ th rc tl pa kd nm st hi ke tx wy)) s.heap s.heap [] := va_S.rf
  refine lv_aload_n hx hb dX6_time_0 rfl (lv_lk hl rfl) ?_
  refine lv_aload_n hx hb dX6_time_1 rfl (lv_lk hl rfl) ?_
  refine va_get (D := E.1) (ci := 6) hx hb hts inX6 hown hK.1 hP 0 rfl rfl 1 (by decide) (hts _ fl_X6_7) (fun _ h9 => h9) rfl dX6_time_2 ?_
  refine iv_iconst hx hb dX6_time_5 ?_
  refine iv_iald hx hb hK hP 1 rfl (0) (by omega) (by omega) dX6_time_6 ?_
  refine call_F (va_runV ⟨hx, hb, hml, hown, hts⟩ (m_X6_tells l E ρ th rc tl pa kd nm st hi ke tx wy hρ _) (cwV 1 hts (gi_V ml_X6_94 im_X6_tells sl_X6_tells it_X6 cd_X6_tells) rfl rfl rfl (by decide +kernel) ⟨Nat.le_of_ble_eq_true rfl, Nat.le_of_ble_eq_true rfl⟩) (pR_V (q0 := 0) (ci := 6) hP hK rfl rfl) rfl rfl hl.1 rfl (lv_room (Nat.le_of_ble_eq_true rfl)) dX6_time_7 ⟨Nat.le_of_ble_eq_true rfl, Nat.le_of_ble_eq_true rfl⟩) (dm hD rfl) hS rfl (fun H locs hP hS => ?_)
  have hP : va_P E.1 vwCl (refW E ρ 0 rc tl pa kd nm st hi ke tx wy) H := hP
  exact W.iret hx hb hrt (fun t ht hW => ⟨rfl, by rw [ht]; exact hP, hS.F ht⟩) hS.2.2 dX6_time_10 hlocks
set_option maxHeartbeats 4000000 in
set_option maxRecDepth 100000 in
theorem m_X6_solved (l : Launch) (E : Env3) (ρ : Nat → Nat) (th rc tl pa kd nm : Int) (st hi ke tx wy : S) (hρ : dR ρ 6) : Met l yX6_solved (Cond.code yX6_solved cX6_solved 1 (some .int) :: ALL) ({ frames := 1, cells := 0, slots := 0, locals := 21 }) (pR [.ref (ρ 0)] E (refW E ρ th rc tl pa kd nm st hi ke tx wy)) (qW (some (.int (I (st 1)))) E (refW E ρ th rc tl pa kd nm st hi ke tx wy) (refW E ρ 0 rc tl pa kd nm st hi ke tx wy)) 0 0 (adIn (refW E ρ th rc tl pa kd nm st hi ke tx wy)) := by
  refine mk_met (by decide) rfl (Nat.le_of_ble_eq_true rfl) ?_
  intro p e s m args below meth c hx hb hrt hml hts hown hlocks hnm hP hK ls hl
  have hown : s.vm.findClass RX6 = some m.cls := hown
  have hl : lv_has ls 1 [(0, .ref (ρ 0))] := hl
  have hD : va_D (adIn (refW E ρ th rc tl pa kd nm st hi ke tx wy)) (refW E ρ th rc tl pa kd nm st hi ke tx wy) := D_of_dR hρ rfl
  have hS : va_S (adIn (refW E ρ th rc tl pa kd nm st hi ke tx wy)) s.heap s.heap [] := va_S.rf
  refine lv_aload_n hx hb dX6_solved_0 rfl (lv_lk hl rfl) ?_
  refine lv_aload_n hx hb dX6_solved_1 rfl (lv_lk hl rfl) ?_
  refine va_get (D := E.1) (ci := 6) hx hb hts inX6 hown hK.1 hP 0 rfl rfl 1 (by decide) (hts _ fl_X6_7) (fun _ h9 => h9) rfl dX6_solved_2 ?_
  refine iv_iconst hx hb dX6_solved_5 ?_
  refine iv_iald hx hb hK hP 1 rfl (1) (by omega) (by omega) dX6_solved_6 ?_
  refine call_F (va_runV ⟨hx, hb, hml, hown, hts⟩ (m_X6_tells l E ρ th rc tl pa kd nm st hi ke tx wy hρ _) (cwV 1 hts (gi_V ml_X6_94 im_X6_tells sl_X6_tells it_X6 cd_X6_tells) rfl rfl rfl (by decide +kernel) ⟨Nat.le_of_ble_eq_true rfl, Nat.le_of_ble_eq_true rfl⟩) (pR_V (q0 := 0) (ci := 6) hP hK rfl rfl) rfl rfl hl.1 rfl (lv_room (Nat.le_of_ble_eq_true rfl)) dX6_solved_7 ⟨Nat.le_of_ble_eq_true rfl, Nat.le_of_ble_eq_true rfl⟩) (dm hD rfl) hS rfl (fun H locs hP hS => ?_)
  have hP : va_P E.1 vwCl (refW E ρ 0 rc tl pa kd nm st hi ke tx wy) H := hP
  exact W.iret hx hb hrt (fun t ht hW => ⟨rfl, by rw [ht]; exact hP, hS.F ht⟩) hS.2.2 dX6_solved_10 hlocks
set_option maxHeartbeats 4000000 in
set_option maxRecDepth 100000 in
theorem m_X6_questions (l : Launch) (E : Env3) (ρ : Nat → Nat) (th rc tl pa kd nm : Int) (st hi ke tx wy : S) (hρ : dR ρ 6) : Met l yX6_questions (Cond.code yX6_questions cX6_questions 1 (some .int) :: ALL) ({ frames := 1, cells := 0, slots := 0, locals := 21 }) (pR [.ref (ρ 0)] E (refW E ρ th rc tl pa kd nm st hi ke tx wy)) (qW (some (.int (I (st 2)))) E (refW E ρ th rc tl pa kd nm st hi ke tx wy) (refW E ρ 0 rc tl pa kd nm st hi ke tx wy)) 0 0 (adIn (refW E ρ th rc tl pa kd nm st hi ke tx wy)) := by
  refine mk_met (by decide) rfl (Nat.le_of_ble_eq_true rfl) ?_
  intro p e s m args below meth c hx hb hrt hml hts hown hlocks hnm hP hK ls hl
  have hown : s.vm.findClass RX6 = some m.cls := hown
  have hl : lv_has ls 1 [(0, .ref (ρ 0))] := hl
  have hD : va_D (adIn (refW E ρ th rc tl pa kd nm st hi ke tx wy)) (refW E ρ th rc tl pa kd nm st hi ke tx wy) := D_of_dR hρ rfl
  have hS : va_S (adIn (refW E ρ th rc tl pa kd nm st hi ke tx wy)) s.heap s.heap [] := va_S.rf
  refine lv_aload_n hx hb dX6_questions_0 rfl (lv_lk hl rfl) ?_
  refine lv_aload_n hx hb dX6_questions_1 rfl (lv_lk hl rfl) ?_
  refine va_get (D := E.1) (ci := 6) hx hb hts inX6 hown hK.1 hP 0 rfl rfl 1 (by decide) (hts _ fl_X6_7) (fun _ h9 => h9) rfl dX6_questions_2 ?_
  refine iv_iconst hx hb dX6_questions_5 ?_
  refine iv_iald hx hb hK hP 1 rfl (2) (by omega) (by omega) dX6_questions_6 ?_
  refine call_F (va_runV ⟨hx, hb, hml, hown, hts⟩ (m_X6_tells l E ρ th rc tl pa kd nm st hi ke tx wy hρ _) (cwV 1 hts (gi_V ml_X6_94 im_X6_tells sl_X6_tells it_X6 cd_X6_tells) rfl rfl rfl (by decide +kernel) ⟨Nat.le_of_ble_eq_true rfl, Nat.le_of_ble_eq_true rfl⟩) (pR_V (q0 := 0) (ci := 6) hP hK rfl rfl) rfl rfl hl.1 rfl (lv_room (Nat.le_of_ble_eq_true rfl)) dX6_questions_7 ⟨Nat.le_of_ble_eq_true rfl, Nat.le_of_ble_eq_true rfl⟩) (dm hD rfl) hS rfl (fun H locs hP hS => ?_)
  have hP : va_P E.1 vwCl (refW E ρ 0 rc tl pa kd nm st hi ke tx wy) H := hP
  exact W.iret hx hb hrt (fun t ht hW => ⟨rfl, by rw [ht]; exact hP, hS.F ht⟩) hS.2.2 dX6_questions_10 hlocks
set_option maxHeartbeats 4000000 in
set_option maxRecDepth 100000 in
theorem m_X6_hits (l : Launch) (E : Env3) (ρ : Nat → Nat) (th rc tl pa kd nm : Int) (st hi ke tx wy : S) (hρ : dR ρ 6) : Met l yX6_hits (Cond.code yX6_hits cX6_hits 1 (some .int) :: ALL) ({ frames := 1, cells := 0, slots := 0, locals := 21 }) (pR [.ref (ρ 0)] E (refW E ρ th rc tl pa kd nm st hi ke tx wy)) (qW (some (.int (I (st 3)))) E (refW E ρ th rc tl pa kd nm st hi ke tx wy) (refW E ρ 0 rc tl pa kd nm st hi ke tx wy)) 0 0 (adIn (refW E ρ th rc tl pa kd nm st hi ke tx wy)) := by
  refine mk_met (by decide) rfl (Nat.le_of_ble_eq_true rfl) ?_
  intro p e s m args below meth c hx hb hrt hml hts hown hlocks hnm hP hK ls hl
  have hown : s.vm.findClass RX6 = some m.cls := hown
  have hl : lv_has ls 1 [(0, .ref (ρ 0))] := hl
  have hD : va_D (adIn (refW E ρ th rc tl pa kd nm st hi ke tx wy)) (refW E ρ th rc tl pa kd nm st hi ke tx wy) := D_of_dR hρ rfl
  have hS : va_S (adIn (refW E ρ th rc tl pa kd nm st hi ke tx wy)) s.heap s.heap [] := va_S.rf
  refine lv_aload_n hx hb dX6_hits_0 rfl (lv_lk hl rfl) ?_
  refine lv_aload_n hx hb dX6_hits_1 rfl (lv_lk hl rfl) ?_
  refine va_get (D := E.1) (ci := 6) hx hb hts inX6 hown hK.1 hP 0 rfl rfl 1 (by decide) (hts _ fl_X6_7) (fun _ h9 => h9) rfl dX6_hits_2 ?_
  refine iv_iconst hx hb dX6_hits_5 ?_
  refine iv_iald hx hb hK hP 1 rfl (3) (by omega) (by omega) dX6_hits_6 ?_
  refine call_F (va_runV ⟨hx, hb, hml, hown, hts⟩ (m_X6_tells l E ρ th rc tl pa kd nm st hi ke tx wy hρ _) (cwV 1 hts (gi_V ml_X6_94 im_X6_tells sl_X6_tells it_X6 cd_X6_tells) rfl rfl rfl (by decide +kernel) ⟨Nat.le_of_ble_eq_true rfl, Nat.le_of_ble_eq_true rfl⟩) (pR_V (q0 := 0) (ci := 6) hP hK rfl rfl) rfl rfl hl.1 rfl (lv_room (Nat.le_of_ble_eq_true rfl)) dX6_hits_7 ⟨Nat.le_of_ble_eq_true rfl, Nat.le_of_ble_eq_true rfl⟩) (dm hD rfl) hS rfl (fun H locs hP hS => ?_)
  have hP : va_P E.1 vwCl (refW E ρ 0 rc tl pa kd nm st hi ke tx wy) H := hP
  exact W.iret hx hb hrt (fun t ht hW => ⟨rfl, by rw [ht]; exact hP, hS.F ht⟩) hS.2.2 dX6_hits_10 hlocks
end
section
/-! the reference, sixth part; written by ref.py -/
theorem old_a {st : S} {r : Nat} {b9 : Int} (hb9 : b9 = if st (36 + 6 * r + 3) = 3 then (if st (36 + 6 * r) = 0 then 1 else 0) else if st (36 + 6 * r + 3) = st (36 + 6 * r) ∧ st (36 + 6 * r + 4) = st (36 + 6 * r + 1) then 1 else 0) (h : ¬ b9 = 0) : (0 : Int) = if st (36 + 6 * r + 3) = 3 then (if st (36 + 6 * r) = 0 then 0 else 1) else if st (36 + 6 * r + 3) = st (36 + 6 * r) ∧ st (36 + 6 * r + 4) = st (36 + 6 * r + 1) then 0 else 1 := by
  subst hb9
  by_cases h3 : st (36 + 6 * r + 3) = 3
  · rw [if_pos h3] at h ⊢
    by_cases h0 : st (36 + 6 * r) = 0
    · rw [if_pos h0]
    · rw [if_neg h0] at h; exact absurd rfl h
  · rw [if_neg h3] at h ⊢
    by_cases h0 : st (36 + 6 * r + 3) = st (36 + 6 * r) ∧ st (36 + 6 * r + 4) = st (36 + 6 * r + 1)
    · rw [if_pos h0]
    · rw [if_neg h0] at h; exact absurd rfl h
theorem old_b {st : S} {r : Nat} {b9 : Int} (hb9 : b9 = if st (36 + 6 * r + 3) = 3 then (if st (36 + 6 * r) = 0 then 1 else 0) else if st (36 + 6 * r + 3) = st (36 + 6 * r) ∧ st (36 + 6 * r + 4) = st (36 + 6 * r + 1) then 1 else 0) (h : b9 = 0) : (1 : Int) = if st (36 + 6 * r + 3) = 3 then (if st (36 + 6 * r) = 0 then 0 else 1) else if st (36 + 6 * r + 3) = st (36 + 6 * r) ∧ st (36 + 6 * r + 4) = st (36 + 6 * r + 1) then 0 else 1 := by
  subst hb9
  by_cases h3 : st (36 + 6 * r + 3) = 3
  · rw [if_pos h3] at h ⊢
    by_cases h0 : st (36 + 6 * r) = 0
    · rw [if_pos h0] at h; exact absurd h (by decide)
    · rw [if_neg h0]
  · rw [if_neg h3] at h ⊢
    by_cases h0 : st (36 + 6 * r + 3) = st (36 + 6 * r) ∧ st (36 + 6 * r + 4) = st (36 + 6 * r + 1)
    · rw [if_pos h0] at h; exact absurd h (by decide)
    · rw [if_neg h0]
set_option maxHeartbeats 4000000 in
set_option maxRecDepth 100000 in
theorem m_X6_isOld (l : Launch) (E : Env3) (ρ : Nat → Nat) (th rc tl pa kd nm : Int) (st hi ke tx wy : S) (T : Int) (hI : IB T st) (r : Nat) (hr : r < 36) : Met l yX6_isOld (Cond.code yX6_isOld cX6_isOld 4 (some .boolean) :: ALL) ({ frames := 1, cells := 0, slots := 0, locals := 22 }) (pR [.ref (ρ 0), .int (I (r : Int))] E (refW E ρ th rc tl pa kd nm st hi ke tx wy)) (qS (some (.int (I (oldI st r))))) 0 0 (fun _ => False) := by
  refine mk_met (by decide) rfl (Nat.le_of_ble_eq_true rfl) ?_
  intro p e s m args below meth c hx hb hrt hml hts hown hlocks hnm hP hK ls hl
  have hown : s.vm.findClass RX6 = some m.cls := hown
  have hl : lv_has ls 4 [(0, .ref (ρ 0)), (1, .int (I (r : Int)))] := hl
  have hS : va_S (fun _ => False) s.heap s.heap [] := va_S.rf
  have t1 := (hI.2.2.2 r hr).1
  unfold triT at t1
  have t3 := (hI.2.2.2 r hr).2
  unfold triM at t3
  have fin_3 : st (36 + 6 * r + 3) = 3 → (if st (36 + 6 * r + 3) = 3 then (if st (36 + 6 * r) = 0 then (1 : Int) else 0) else if st (36 + 6 * r + 3) = st (36 + 6 * r) ∧ st (36 + 6 * r + 4) = st (36 + 6 * r + 1) then 1 else 0) = if st (36 + 6 * r) = 0 then 1 else 0 := fun h => if_pos h
  have fin_t : ¬ st (36 + 6 * r + 3) = 3 → (st (36 + 6 * r + 3) = st (36 + 6 * r) ∧ st (36 + 6 * r + 4) = st (36 + 6 * r + 1)) → (if st (36 + 6 * r + 3) = 3 then (if st (36 + 6 * r) = 0 then (1 : Int) else 0) else if st (36 + 6 * r + 3) = st (36 + 6 * r) ∧ st (36 + 6 * r + 4) = st (36 + 6 * r + 1) then 1 else 0) = 1 := fun h g => by rw [if_neg h, if_pos g]
  have fin_f : ¬ st (36 + 6 * r + 3) = 3 → ¬ (st (36 + 6 * r + 3) = st (36 + 6 * r) ∧ st (36 + 6 * r + 4) = st (36 + 6 * r + 1)) → (if st (36 + 6 * r + 3) = 3 then (if st (36 + 6 * r) = 0 then (1 : Int) else 0) else if st (36 + 6 * r + 3) = st (36 + 6 * r) ∧ st (36 + 6 * r + 4) = st (36 + 6 * r + 1) then 1 else 0) = 0 := fun h g => by rw [if_neg h, if_neg g]
  have CUT59 : ∀ (b9 : Int), (b9 = if st (36 + 6 * r + 3) = 3 then (if st (36 + 6 * r) = 0 then 1 else 0) else if st (36 + 6 * r + 3) = st (36 + 6 * r) ∧ st (36 + 6 * r + 4) = st (36 + 6 * r + 1) then 1 else 0) → ∀ (locs : List Loc) (ls : Array Slot), va_S (fun _ => False) s.heap s.heap locs → lv_has ls 4 [(0, .ref (ρ 0)), (1, .int (I (r : Int))), (2, .int (I (st (36 + 6 * r + 3))))] → W p l e ({ frames := 1, cells := 0, slots := 0, locals := 22 }) s m args below meth c s.heap locs 0 0 (MQ below (qS (some (.int (I (oldI st r))))) args s 0 0 (fun _ => False)) (F0 m 59 ls [.int (I b9)]) := by
    intro b9 hb9 locs ls hS hl
    have hb8 : b9 = 0 ∨ b9 = 1 := by rw [hb9]; split <;> split <;> omega
    refine lv_istore_n (lv' := [(3, .int (I _)), (0, .ref _), (1, .int (I _)), (2, .int (I _))]) hx hb dX6_isOld_59 rfl hl (by decide) rfl (fun ls hl => ?_)
    refine lv_iload_n hx hb dX6_isOld_60 rfl (lv_lk hl rfl) ?_
    refine iv_if_eq (tgt := 72) hx hb dX6_isOld_61 (by decide) (by omega) (fun c_61 => ?_) (fun c_61 => ?_)
    · refine iv_iconst hx hb dX6_isOld_72 ?_
      refine iv_eq (oldI st r) (by rw [oldI, if_pos c_61]) ?_
      exact W.zret (ty := .boolean) hx hb hrt old_nar (fun t ht hW => ⟨rfl, ht⟩) hS.2.2 dX6_isOld_73 hlocks
    · refine lv_iload_n hx hb dX6_isOld_64 rfl (lv_lk hl rfl) ?_
      refine iv_if_ne (tgt := 72) hx hb dX6_isOld_65 (by decide) (by omega) (fun c_65 => ?_) (fun c_65 => ?_)
      · refine iv_iconst hx hb dX6_isOld_72 ?_
        refine iv_eq (oldI st r) (by rw [oldI, if_neg c_61]; exact old_a hb9 (by omega)) ?_
        exact W.zret (ty := .boolean) hx hb hrt old_nar (fun t ht hW => ⟨rfl, ht⟩) hS.2.2 dX6_isOld_73 hlocks
      · refine iv_iconst hx hb dX6_isOld_68 ?_
        refine lv_goto (tgt := 73) hx hb dX6_isOld_69 (by decide) ?_
        refine iv_eq (oldI st r) (by rw [oldI, if_neg c_61]; exact old_b hb9 (by omega)) ?_
        exact W.zret (ty := .boolean) hx hb hrt old_nar (fun t ht hW => ⟨rfl, ht⟩) hS.2.2 dX6_isOld_73 hlocks
  refine lv_aload_n hx hb dX6_isOld_0 rfl (lv_lk hl rfl) ?_
  refine lv_iload_n hx hb dX6_isOld_1 rfl (lv_lk hl rfl) ?_
  refine iv_iconst hx hb dX6_isOld_2 ?_
  refine call_S (va_runV ⟨hx, hb, hml, hown, hts⟩ (m_X6_of l E ρ th rc tl pa kd nm st hi ke tx wy r 3 hr (by decide)) (cwV 2 hts (gi_V ml_X6_61 im_X6_of sl_X6_of it_X6 cd_X6_of) rfl rfl rfl (by decide +kernel) ⟨Nat.le_of_ble_eq_true rfl, Nat.le_of_ble_eq_true rfl⟩) (pR_V (q0 := 0) (ci := 6) hP hK rfl rfl) rfl rfl hl.1 rfl (lv_room (Nat.le_of_ble_eq_true rfl)) dX6_isOld_3 ⟨Nat.le_of_ble_eq_true rfl, Nat.le_of_ble_eq_true rfl⟩) (fun _ h => h) hS rfl (fun locs hS => ?_)
  refine lv_istore_n (lv' := [(2, .int (I _)), (0, .ref _), (1, .int (I _))]) hx hb dX6_isOld_6 rfl hl (by decide) rfl (fun ls hl => ?_)
  refine lv_iload_n hx hb dX6_isOld_7 rfl (lv_lk hl rfl) ?_
  refine iv_iconst hx hb dX6_isOld_8 ?_
  refine iv_icmp_ne (tgt := 29) hx hb dX6_isOld_9 (by decide) (by omega) (by omega) (fun c_9 => ?_) (fun c_9 => ?_)
  · refine lv_iload_n hx hb dX6_isOld_29 rfl (lv_lk hl rfl) ?_
    refine lv_aload_n hx hb dX6_isOld_30 rfl (lv_lk hl rfl) ?_
    refine lv_iload_n hx hb dX6_isOld_31 rfl (lv_lk hl rfl) ?_
    refine iv_iconst hx hb dX6_isOld_32 ?_
    refine call_S (va_runV ⟨hx, hb, hml, hown, hts⟩ (m_X6_of l E ρ th rc tl pa kd nm st hi ke tx wy r 0 hr (by decide)) (cwV 2 hts (gi_V ml_X6_61 im_X6_of sl_X6_of it_X6 cd_X6_of) rfl rfl rfl (by decide +kernel) ⟨Nat.le_of_ble_eq_true rfl, Nat.le_of_ble_eq_true rfl⟩) (pR_V (q0 := 0) (ci := 6) hP hK rfl rfl) rfl rfl hl.1 rfl (lv_room (Nat.le_of_ble_eq_true rfl)) dX6_isOld_33 ⟨Nat.le_of_ble_eq_true rfl, Nat.le_of_ble_eq_true rfl⟩) (fun _ h => h) hS rfl (fun locs hS => ?_)
    refine iv_eq (st (36 + 6 * r)) (rfl) ?_
    refine iv_icmp_ne (tgt := 58) hx hb dX6_isOld_36 (by decide) (by omega) (by omega) (fun c_36 => ?_) (fun c_36 => ?_)
    · refine iv_iconst hx hb dX6_isOld_58 ?_
      exact CUT59 0 (by rw [fin_f c_9 (by omega)]) _ _ hS (lv_sub hl [1, 2, 0] rfl)
    · refine lv_aload_n hx hb dX6_isOld_39 rfl (lv_lk hl rfl) ?_
      refine lv_iload_n hx hb dX6_isOld_40 rfl (lv_lk hl rfl) ?_
      refine iv_iconst hx hb dX6_isOld_41 ?_
      refine call_S (va_runV ⟨hx, hb, hml, hown, hts⟩ (m_X6_of l E ρ th rc tl pa kd nm st hi ke tx wy r 4 hr (by decide)) (cwV 2 hts (gi_V ml_X6_61 im_X6_of sl_X6_of it_X6 cd_X6_of) rfl rfl rfl (by decide +kernel) ⟨Nat.le_of_ble_eq_true rfl, Nat.le_of_ble_eq_true rfl⟩) (pR_V (q0 := 0) (ci := 6) hP hK rfl rfl) rfl rfl hl.1 rfl (lv_room (Nat.le_of_ble_eq_true rfl)) dX6_isOld_42 ⟨Nat.le_of_ble_eq_true rfl, Nat.le_of_ble_eq_true rfl⟩) (fun _ h => h) hS rfl (fun locs hS => ?_)
      refine lv_aload_n hx hb dX6_isOld_45 rfl (lv_lk hl rfl) ?_
      refine lv_iload_n hx hb dX6_isOld_46 rfl (lv_lk hl rfl) ?_
      refine iv_iconst hx hb dX6_isOld_47 ?_
      refine call_S (va_runV ⟨hx, hb, hml, hown, hts⟩ (m_X6_of l E ρ th rc tl pa kd nm st hi ke tx wy r 1 hr (by decide)) (cwV 2 hts (gi_V ml_X6_61 im_X6_of sl_X6_of it_X6 cd_X6_of) rfl rfl rfl (by decide +kernel) ⟨Nat.le_of_ble_eq_true rfl, Nat.le_of_ble_eq_true rfl⟩) (pR_V (q0 := 0) (ci := 6) hP hK rfl rfl) rfl rfl hl.1 rfl (lv_room (Nat.le_of_ble_eq_true rfl)) dX6_isOld_48 ⟨Nat.le_of_ble_eq_true rfl, Nat.le_of_ble_eq_true rfl⟩) (fun _ h => h) hS rfl (fun locs hS => ?_)
      refine iv_icmp_ne (tgt := 58) hx hb dX6_isOld_51 (by decide) (by omega) (by omega) (fun c_51 => ?_) (fun c_51 => ?_)
      · refine iv_iconst hx hb dX6_isOld_58 ?_
        exact CUT59 0 (by rw [fin_f c_9 (by omega)]) _ _ hS (lv_sub hl [1, 2, 0] rfl)
      · refine iv_iconst hx hb dX6_isOld_54 ?_
        refine lv_goto (tgt := 59) hx hb dX6_isOld_55 (by decide) ?_
        exact CUT59 1 (by rw [fin_t c_9 ⟨by omega, by omega⟩]) _ _ hS (lv_sub hl [1, 2, 0] rfl)
  · refine lv_aload_n hx hb dX6_isOld_12 rfl (lv_lk hl rfl) ?_
    refine lv_iload_n hx hb dX6_isOld_13 rfl (lv_lk hl rfl) ?_
    refine iv_iconst hx hb dX6_isOld_14 ?_
    refine call_S (va_runV ⟨hx, hb, hml, hown, hts⟩ (m_X6_of l E ρ th rc tl pa kd nm st hi ke tx wy r 0 hr (by decide)) (cwV 2 hts (gi_V ml_X6_61 im_X6_of sl_X6_of it_X6 cd_X6_of) rfl rfl rfl (by decide +kernel) ⟨Nat.le_of_ble_eq_true rfl, Nat.le_of_ble_eq_true rfl⟩) (pR_V (q0 := 0) (ci := 6) hP hK rfl rfl) rfl rfl hl.1 rfl (lv_room (Nat.le_of_ble_eq_true rfl)) dX6_isOld_15 ⟨Nat.le_of_ble_eq_true rfl, Nat.le_of_ble_eq_true rfl⟩) (fun _ h => h) hS rfl (fun locs hS => ?_)
    refine iv_eq (st (36 + 6 * r)) (rfl) ?_
    refine iv_if_ne (tgt := 25) hx hb dX6_isOld_18 (by decide) (by omega) (fun c_18 => ?_) (fun c_18 => ?_)
    · refine iv_iconst hx hb dX6_isOld_25 ?_
      refine lv_goto (tgt := 59) hx hb dX6_isOld_26 (by decide) ?_
      exact CUT59 0 (by rw [fin_3 c_9, if_neg c_18]) _ _ hS (lv_sub hl [1, 2, 0] rfl)
    · refine iv_iconst hx hb dX6_isOld_21 ?_
      refine lv_goto (tgt := 59) hx hb dX6_isOld_22 (by decide) ?_
      exact CUT59 1 (by rw [fin_3 c_9, if_pos c_18]) _ _ hS (lv_sub hl [1, 2, 0] rfl)
set_option maxHeartbeats 4000000 in
set_option maxRecDepth 100000 in
theorem m_X6_would (l : Launch) (E : Env3) (ρ : Nat → Nat) (th rc tl pa kd nm : Int) (st hi ke tx wy : S) (hρ : dR ρ 6) (T : Int) (hI : IB T st) (r : Nat) (hr : r < 36) : Met l yX6_would (Cond.code yX6_would cX6_would 3 (some .int) :: ALL) ({ frames := 5, cells := 0, slots := 0, locals := 114 }) (pR [.ref (ρ 0), .int (I (r : Int))] E (refW E ρ th rc tl pa kd nm st hi ke tx wy)) (qX (some (.int (I (would st r)))) E (refW E ρ th rc tl pa kd nm st hi ke tx wy) (fun (g : S × S) => (refW E ρ th rc tl pa kd nm st hi g.1 tx g.2))) 0 0 (adIn (refW E ρ th rc tl pa kd nm st hi ke tx wy)) := by
  refine mk_met (by decide) rfl (Nat.le_of_ble_eq_true rfl) ?_
  intro p e s m args below meth c hx hb hrt hml hts hown hlocks hnm hP hK ls hl
  have hown : s.vm.findClass RX6 = some m.cls := hown
  have hl : lv_has ls 3 [(0, .ref (ρ 0)), (1, .int (I (r : Int)))] := hl
  have hD : va_D (adIn (refW E ρ th rc tl pa kd nm st hi ke tx wy)) (refW E ρ th rc tl pa kd nm st hi ke tx wy) := D_of_dR hρ rfl
  have hS : va_S (adIn (refW E ρ th rc tl pa kd nm st hi ke tx wy)) s.heap s.heap [] := va_S.rf
  refine lv_aload_n hx hb dX6_would_0 rfl (lv_lk hl rfl) ?_
  refine va_get (D := E.1) (ci := 6) hx hb hts inX6 hown hK.1 hP 0 rfl rfl 1 (by decide) (hts _ fl_X6_7) (fun _ h9 => h9) rfl dX6_would_1 ?_
  refine iv_iconst hx hb dX6_would_4 ?_
  refine lv_aload_n hx hb dX6_would_5 rfl (lv_lk hl rfl) ?_
  refine va_get (D := E.1) (ci := 6) hx hb hts inX6 hown hK.1 hP 0 rfl rfl 4 (by decide) (hts _ fl_X6_16) (fun _ h9 => h9) rfl dX6_would_6 ?_
  refine iv_iconst hx hb dX6_would_9 ?_
  refine call_W (va_runS ⟨hx, hb, hml, hown, hts⟩ (m_X6_lays l E (ρ 1) (ρ 3) 252 252 0 0 st ke (fun h => absurd (hρ 1 3 (by decide) (by decide) h) (by decide)) (by omega) (by omega)) (va_cwS 4 hts (gi_S ml_X6_39 st_X6_lays it_X6 cd_X6_lays) rfl rfl rfl (by decide +kernel) ⟨Nat.le_of_ble_eq_true rfl, Nat.le_of_ble_eq_true rfl⟩) (pR_S (hP.sub (ws' := [(ρ 1, iA E 252 st), (ρ 3, iA E 252 ke)]) [1, 3] rfl) hK) rfl rfl hl.1 rfl (lv_room (Nat.le_of_ble_eq_true rfl)) dX6_would_10 ⟨Nat.le_of_ble_eq_true rfl, Nat.le_of_ble_eq_true rfl⟩) hP (dm hD rfl) hS [1, 3] rfl (by decide) rfl (refW E ρ th rc tl pa kd nm st hi (layN st 0 ke 0 252) tx wy) (rfl) rfl (fun H locs hP hS => ?_)
  refine lv_aload_n hx hb dX6_would_13 rfl (lv_lk hl rfl) ?_
  refine lv_iload_n hx hb dX6_would_14 rfl (lv_lk hl rfl) ?_
  refine call_X (va_runV ⟨hx, hb, hml, hown, hts⟩ (m_X6_solves l E ρ th rc tl pa kd nm st hi (layN st 0 ke 0 252) tx wy hρ T hI r hr) (cwV 1 hts (gi_V ml_X6_81 im_X6_solves sl_X6_solves it_X6 cd_X6_solves) rfl rfl rfl (by decide +kernel) ⟨Nat.le_of_ble_eq_true rfl, Nat.le_of_ble_eq_true rfl⟩) (pR_V (q0 := 0) (ci := 6) hP hK rfl rfl) rfl rfl hl.1 rfl (lv_room (Nat.le_of_ble_eq_true rfl)) dX6_would_15 ⟨Nat.le_of_ble_eq_true rfl, Nat.le_of_ble_eq_true rfl⟩) (dm hD rfl) hS rfl (fun wy1 H locs hP hS => ?_)
  have hP : va_P E.1 vwCl (refW E ρ th rc tl pa kd nm ((solvesF 7 st r).1) hi (layN st 0 ke 0 252) tx wy1) H := hP
  refine lv_istore_n (lv' := [(2, .int (I _)), (0, .ref _), (1, .int (I _))]) hx hb dX6_would_18 rfl hl (by decide) rfl (fun ls hl => ?_)
  refine lv_aload_n hx hb dX6_would_19 rfl (lv_lk hl rfl) ?_
  refine va_get (D := E.1) (ci := 6) hx hb hts inX6 hown hK.1 hP 0 rfl rfl 4 (by decide) (hts _ fl_X6_16) (fun _ h9 => h9) rfl dX6_would_20 ?_
  refine iv_iconst hx hb dX6_would_23 ?_
  refine lv_aload_n hx hb dX6_would_24 rfl (lv_lk hl rfl) ?_
  refine va_get (D := E.1) (ci := 6) hx hb hts inX6 hown hK.1 hP 0 rfl rfl 1 (by decide) (hts _ fl_X6_7) (fun _ h9 => h9) rfl dX6_would_25 ?_
  refine iv_iconst hx hb dX6_would_28 ?_
  refine call_W (va_runS ⟨hx, hb, hml, hown, hts⟩ (m_X6_lays l E (ρ 3) (ρ 1) 252 252 0 0 (layN st 0 ke 0 252) ((solvesF 7 st r).1) (fun h => absurd (hρ 3 1 (by decide) (by decide) h) (by decide)) (by omega) (by omega)) (va_cwS 4 hts (gi_S ml_X6_39 st_X6_lays it_X6 cd_X6_lays) rfl rfl rfl (by decide +kernel) ⟨Nat.le_of_ble_eq_true rfl, Nat.le_of_ble_eq_true rfl⟩) (pR_S (hP.sub (ws' := [(ρ 3, iA E 252 (layN st 0 ke 0 252)), (ρ 1, iA E 252 ((solvesF 7 st r).1))]) [3, 1] rfl) hK) rfl rfl hl.1 rfl (lv_room (Nat.le_of_ble_eq_true rfl)) dX6_would_29 ⟨Nat.le_of_ble_eq_true rfl, Nat.le_of_ble_eq_true rfl⟩) hP (dm hD rfl) hS [3, 1] rfl (by decide) rfl (refW E ρ th rc tl pa kd nm (layN (layN st 0 ke 0 252) 0 ((solvesF 7 st r).1) 0 252) hi (layN st 0 ke 0 252) tx wy1) (rfl) rfl (fun H locs hP hS => ?_)
  have hP : va_P E.1 vwCl (refW E ρ th rc tl pa kd nm st hi (layN st 0 ke 0 252) tx wy1) H := ref_st (fun j hj => lay_back hj) hP
  refine lv_iload_n hx hb dX6_would_32 rfl (lv_lk hl rfl) ?_
  exact W.iret hx hb hrt (fun t ht hW => ⟨rfl, ⟨(layN st 0 ke 0 252, wy1), by rw [ht]; exact hP⟩, hS.F ht⟩) hS.2.2 dX6_would_33 hlocks
set_option maxHeartbeats 4000000 in
set_option maxRecDepth 100000 in
theorem m_X6_cost (l : Launch) (E : Env3) (ρ : Nat → Nat) (th rc tl pa kd nm : Int) (st hi ke tx wy : S) (hρ : dR ρ 6) (T : Int) (hI : IB T st) (r : Nat) (hr : r < 36) : Met l yX6_cost (Cond.code yX6_cost cX6_cost 3 (some .int) :: ALL) ({ frames := 5, cells := 0, slots := 0, locals := 114 }) (pR [.ref (ρ 0), .int (I (r : Int))] E (refW E ρ th rc tl pa kd nm st hi ke tx wy)) (qX (some (.int (I (cost st r)))) E (refW E ρ th rc tl pa kd nm st hi ke tx wy) (fun (g : S × S) => (refW E ρ th rc tl pa kd nm st hi g.1 tx g.2))) 0 0 (adIn (refW E ρ th rc tl pa kd nm st hi ke tx wy)) := by
  refine mk_met (by decide) rfl (Nat.le_of_ble_eq_true rfl) ?_
  intro p e s m args below meth c hx hb hrt hml hts hown hlocks hnm hP hK ls hl
  have hown : s.vm.findClass RX6 = some m.cls := hown
  have hl : lv_has ls 3 [(0, .ref (ρ 0)), (1, .int (I (r : Int)))] := hl
  have hD : va_D (adIn (refW E ρ th rc tl pa kd nm st hi ke tx wy)) (refW E ρ th rc tl pa kd nm st hi ke tx wy) := D_of_dR hρ rfl
  have hS : va_S (adIn (refW E ρ th rc tl pa kd nm st hi ke tx wy)) s.heap s.heap [] := va_S.rf
  refine lv_aload_n hx hb dX6_cost_0 rfl (lv_lk hl rfl) ?_
  refine va_get (D := E.1) (ci := 6) hx hb hts inX6 hown hK.1 hP 0 rfl rfl 1 (by decide) (hts _ fl_X6_7) (fun _ h9 => h9) rfl dX6_cost_1 ?_
  refine iv_iconst hx hb dX6_cost_4 ?_
  refine lv_aload_n hx hb dX6_cost_5 rfl (lv_lk hl rfl) ?_
  refine va_get (D := E.1) (ci := 6) hx hb hts inX6 hown hK.1 hP 0 rfl rfl 4 (by decide) (hts _ fl_X6_16) (fun _ h9 => h9) rfl dX6_cost_6 ?_
  refine iv_iconst hx hb dX6_cost_9 ?_
  refine call_W (va_runS ⟨hx, hb, hml, hown, hts⟩ (m_X6_lays l E (ρ 1) (ρ 3) 252 252 0 0 st ke (fun h => absurd (hρ 1 3 (by decide) (by decide) h) (by decide)) (by omega) (by omega)) (va_cwS 4 hts (gi_S ml_X6_39 st_X6_lays it_X6 cd_X6_lays) rfl rfl rfl (by decide +kernel) ⟨Nat.le_of_ble_eq_true rfl, Nat.le_of_ble_eq_true rfl⟩) (pR_S (hP.sub (ws' := [(ρ 1, iA E 252 st), (ρ 3, iA E 252 ke)]) [1, 3] rfl) hK) rfl rfl hl.1 rfl (lv_room (Nat.le_of_ble_eq_true rfl)) dX6_cost_10 ⟨Nat.le_of_ble_eq_true rfl, Nat.le_of_ble_eq_true rfl⟩) hP (dm hD rfl) hS [1, 3] rfl (by decide) rfl (refW E ρ th rc tl pa kd nm st hi (layN st 0 ke 0 252) tx wy) (rfl) rfl (fun H locs hP hS => ?_)
  refine lv_aload_n hx hb dX6_cost_13 rfl (lv_lk hl rfl) ?_
  refine lv_iload_n hx hb dX6_cost_14 rfl (lv_lk hl rfl) ?_
  refine call_X (va_runV ⟨hx, hb, hml, hown, hts⟩ (m_X6_solves l E ρ th rc tl pa kd nm st hi (layN st 0 ke 0 252) tx wy hρ T hI r hr) (cwV 1 hts (gi_V ml_X6_81 im_X6_solves sl_X6_solves it_X6 cd_X6_solves) rfl rfl rfl (by decide +kernel) ⟨Nat.le_of_ble_eq_true rfl, Nat.le_of_ble_eq_true rfl⟩) (pR_V (q0 := 0) (ci := 6) hP hK rfl rfl) rfl rfl hl.1 rfl (lv_room (Nat.le_of_ble_eq_true rfl)) dX6_cost_15 ⟨Nat.le_of_ble_eq_true rfl, Nat.le_of_ble_eq_true rfl⟩) (dm hD rfl) hS rfl (fun wy1 H locs hP hS => ?_)
  have hP : va_P E.1 vwCl (refW E ρ th rc tl pa kd nm ((solvesF 7 st r).1) hi (layN st 0 ke 0 252) tx wy1) H := hP
  refine lv_pop hx hb dX6_cost_18 rfl ?_
  refine lv_aload_n hx hb dX6_cost_19 rfl (lv_lk hl rfl) ?_
  refine va_get (D := E.1) (ci := 6) hx hb hts inX6 hown hK.1 hP 0 rfl rfl 1 (by decide) (hts _ fl_X6_7) (fun _ h9 => h9) rfl dX6_cost_20 ?_
  refine iv_iconst hx hb dX6_cost_23 ?_
  refine iv_iald hx hb hK hP 1 rfl (2) (by omega) (by omega) dX6_cost_24 ?_
  refine lv_istore_n (lv' := [(2, .int (I _)), (0, .ref _), (1, .int (I _))]) hx hb dX6_cost_25 rfl hl (by decide) rfl (fun ls hl => ?_)
  refine lv_aload_n hx hb dX6_cost_26 rfl (lv_lk hl rfl) ?_
  refine va_get (D := E.1) (ci := 6) hx hb hts inX6 hown hK.1 hP 0 rfl rfl 4 (by decide) (hts _ fl_X6_16) (fun _ h9 => h9) rfl dX6_cost_27 ?_
  refine iv_iconst hx hb dX6_cost_30 ?_
  refine lv_aload_n hx hb dX6_cost_31 rfl (lv_lk hl rfl) ?_
  refine va_get (D := E.1) (ci := 6) hx hb hts inX6 hown hK.1 hP 0 rfl rfl 1 (by decide) (hts _ fl_X6_7) (fun _ h9 => h9) rfl dX6_cost_32 ?_
  refine iv_iconst hx hb dX6_cost_35 ?_
  refine call_W (va_runS ⟨hx, hb, hml, hown, hts⟩ (m_X6_lays l E (ρ 3) (ρ 1) 252 252 0 0 (layN st 0 ke 0 252) ((solvesF 7 st r).1) (fun h => absurd (hρ 3 1 (by decide) (by decide) h) (by decide)) (by omega) (by omega)) (va_cwS 4 hts (gi_S ml_X6_39 st_X6_lays it_X6 cd_X6_lays) rfl rfl rfl (by decide +kernel) ⟨Nat.le_of_ble_eq_true rfl, Nat.le_of_ble_eq_true rfl⟩) (pR_S (hP.sub (ws' := [(ρ 3, iA E 252 (layN st 0 ke 0 252)), (ρ 1, iA E 252 ((solvesF 7 st r).1))]) [3, 1] rfl) hK) rfl rfl hl.1 rfl (lv_room (Nat.le_of_ble_eq_true rfl)) dX6_cost_36 ⟨Nat.le_of_ble_eq_true rfl, Nat.le_of_ble_eq_true rfl⟩) hP (dm hD rfl) hS [3, 1] rfl (by decide) rfl (refW E ρ th rc tl pa kd nm (layN (layN st 0 ke 0 252) 0 ((solvesF 7 st r).1) 0 252) hi (layN st 0 ke 0 252) tx wy1) (rfl) rfl (fun H locs hP hS => ?_)
  have hP : va_P E.1 vwCl (refW E ρ th rc tl pa kd nm st hi (layN st 0 ke 0 252) tx wy1) H := ref_st (fun j hj => lay_back hj) hP
  refine lv_iload_n hx hb dX6_cost_39 rfl (lv_lk hl rfl) ?_
  refine lv_aload_n hx hb dX6_cost_40 rfl (lv_lk hl rfl) ?_
  refine va_get (D := E.1) (ci := 6) hx hb hts inX6 hown hK.1 hP 0 rfl rfl 1 (by decide) (hts _ fl_X6_7) (fun _ h9 => h9) rfl dX6_cost_41 ?_
  refine iv_iconst hx hb dX6_cost_44 ?_
  refine iv_iald hx hb hK hP 1 rfl (2) (by omega) (by omega) dX6_cost_45 ?_
  refine iv_isub hx hb dX6_cost_46 ?_
  exact W.iret hx hb hrt (fun t ht hW => ⟨rfl, ⟨(layN st 0 ke 0 252, wy1), by rw [ht]; exact hP⟩, hS.F ht⟩) hS.2.2 dX6_cost_47 hlocks
set_option maxHeartbeats 4000000 in
set_option maxRecDepth 100000 in
theorem m_X6_wouldIn (l : Launch) (E : Env3) (ρ : Nat → Nat) (th rc tl pa kd nm : Int) (st hi ke tx wy : S) (hρ : dR ρ 6) (T : Int) (hI : IB T st) (r : Nat) (hr : r < 36) (t : Int) (ht : 0 ≤ t ∧ t ≤ 100 ∧ T ≤ 99900) : Met l yX6_wouldIn (Cond.code yX6_wouldIn cX6_wouldIn 4 (some .int) :: ALL) ({ frames := 5, cells := 0, slots := 0, locals := 114 }) (pR [.ref (ρ 0), .int (I (r : Int)), .int (I t)] E (refW E ρ th rc tl pa kd nm st hi ke tx wy)) (qX (some (.int (I (wouldIn st r t)))) E (refW E ρ th rc tl pa kd nm st hi ke tx wy) (fun (g : S × S) => (refW E ρ th rc tl pa kd nm st hi g.1 tx g.2))) 0 0 (adIn (refW E ρ th rc tl pa kd nm st hi ke tx wy)) := by
  refine mk_met (by decide) rfl (Nat.le_of_ble_eq_true rfl) ?_
  intro p e s m args below meth c hx hb hrt hml hts hown hlocks hnm hP hK ls hl
  have hown : s.vm.findClass RX6 = some m.cls := hown
  have hl : lv_has ls 4 [(0, .ref (ρ 0)), (1, .int (I (r : Int))), (2, .int (I t))] := hl
  have hD : va_D (adIn (refW E ρ th rc tl pa kd nm st hi ke tx wy)) (refW E ρ th rc tl pa kd nm st hi ke tx wy) := D_of_dR hρ rfl
  have hS : va_S (adIn (refW E ρ th rc tl pa kd nm st hi ke tx wy)) s.heap s.heap [] := va_S.rf
  refine lv_aload_n hx hb dX6_wouldIn_0 rfl (lv_lk hl rfl) ?_
  refine va_get (D := E.1) (ci := 6) hx hb hts inX6 hown hK.1 hP 0 rfl rfl 1 (by decide) (hts _ fl_X6_7) (fun _ h9 => h9) rfl dX6_wouldIn_1 ?_
  refine iv_iconst hx hb dX6_wouldIn_4 ?_
  refine lv_aload_n hx hb dX6_wouldIn_5 rfl (lv_lk hl rfl) ?_
  refine va_get (D := E.1) (ci := 6) hx hb hts inX6 hown hK.1 hP 0 rfl rfl 4 (by decide) (hts _ fl_X6_16) (fun _ h9 => h9) rfl dX6_wouldIn_6 ?_
  refine iv_iconst hx hb dX6_wouldIn_9 ?_
  refine call_W (va_runS ⟨hx, hb, hml, hown, hts⟩ (m_X6_lays l E (ρ 1) (ρ 3) 252 252 0 0 st ke (fun h => absurd (hρ 1 3 (by decide) (by decide) h) (by decide)) (by omega) (by omega)) (va_cwS 4 hts (gi_S ml_X6_39 st_X6_lays it_X6 cd_X6_lays) rfl rfl rfl (by decide +kernel) ⟨Nat.le_of_ble_eq_true rfl, Nat.le_of_ble_eq_true rfl⟩) (pR_S (hP.sub (ws' := [(ρ 1, iA E 252 st), (ρ 3, iA E 252 ke)]) [1, 3] rfl) hK) rfl rfl hl.1 rfl (lv_room (Nat.le_of_ble_eq_true rfl)) dX6_wouldIn_10 ⟨Nat.le_of_ble_eq_true rfl, Nat.le_of_ble_eq_true rfl⟩) hP (dm hD rfl) hS [1, 3] rfl (by decide) rfl (refW E ρ th rc tl pa kd nm st hi (layN st 0 ke 0 252) tx wy) (rfl) rfl (fun H locs hP hS => ?_)
  refine lv_aload_n hx hb dX6_wouldIn_13 rfl (lv_lk hl rfl) ?_
  refine lv_iload_n hx hb dX6_wouldIn_14 rfl (lv_lk hl rfl) ?_
  refine call_F (va_runV ⟨hx, hb, hml, hown, hts⟩ (m_X6_passes l E ρ th rc tl pa kd nm st hi (layN st 0 ke 0 252) tx wy hρ T hI t ht) (cwV 1 hts (gi_V ml_X6_91 im_X6_passes sl_X6_passes it_X6 cd_X6_passes) rfl rfl rfl (by decide +kernel) ⟨Nat.le_of_ble_eq_true rfl, Nat.le_of_ble_eq_true rfl⟩) (pR_V (q0 := 0) (ci := 6) hP hK rfl rfl) rfl rfl hl.1 rfl (lv_room (Nat.le_of_ble_eq_true rfl)) dX6_wouldIn_15 ⟨Nat.le_of_ble_eq_true rfl, Nat.le_of_ble_eq_true rfl⟩) (dm hD rfl) hS rfl (fun H locs hP hS => ?_)
  have hP : va_P E.1 vwCl (refW E ρ th rc tl pa kd nm (passes st t) hi (layN st 0 ke 0 252) tx wy) H := hP
  refine lv_pop hx hb dX6_wouldIn_18 rfl ?_
  refine lv_aload_n hx hb dX6_wouldIn_19 rfl (lv_lk hl rfl) ?_
  refine lv_iload_n hx hb dX6_wouldIn_20 rfl (lv_lk hl rfl) ?_
  refine call_X (va_runV ⟨hx, hb, hml, hown, hts⟩ (m_X6_solves l E ρ th rc tl pa kd nm (passes st t) hi (layN st 0 ke 0 252) tx wy hρ (T + 100) (IB_passes hI t ht.1 _ (by omega)) r hr) (cwV 1 hts (gi_V ml_X6_81 im_X6_solves sl_X6_solves it_X6 cd_X6_solves) rfl rfl rfl (by decide +kernel) ⟨Nat.le_of_ble_eq_true rfl, Nat.le_of_ble_eq_true rfl⟩) (pR_V (q0 := 0) (ci := 6) hP hK rfl rfl) rfl rfl hl.1 rfl (lv_room (Nat.le_of_ble_eq_true rfl)) dX6_wouldIn_21 ⟨Nat.le_of_ble_eq_true rfl, Nat.le_of_ble_eq_true rfl⟩) (dm hD rfl) hS rfl (fun wy1 H locs hP hS => ?_)
  have hP : va_P E.1 vwCl (refW E ρ th rc tl pa kd nm ((solvesF 7 (passes st t) r).1) hi (layN st 0 ke 0 252) tx wy1) H := hP
  refine lv_istore_n (lv' := [(3, .int (I _)), (0, .ref _), (1, .int (I _)), (2, .int (I _))]) hx hb dX6_wouldIn_24 rfl hl (by decide) rfl (fun ls hl => ?_)
  refine lv_aload_n hx hb dX6_wouldIn_25 rfl (lv_lk hl rfl) ?_
  refine va_get (D := E.1) (ci := 6) hx hb hts inX6 hown hK.1 hP 0 rfl rfl 4 (by decide) (hts _ fl_X6_16) (fun _ h9 => h9) rfl dX6_wouldIn_26 ?_
  refine iv_iconst hx hb dX6_wouldIn_29 ?_
  refine lv_aload_n hx hb dX6_wouldIn_30 rfl (lv_lk hl rfl) ?_
  refine va_get (D := E.1) (ci := 6) hx hb hts inX6 hown hK.1 hP 0 rfl rfl 1 (by decide) (hts _ fl_X6_7) (fun _ h9 => h9) rfl dX6_wouldIn_31 ?_
  refine iv_iconst hx hb dX6_wouldIn_34 ?_
  refine call_W (va_runS ⟨hx, hb, hml, hown, hts⟩ (m_X6_lays l E (ρ 3) (ρ 1) 252 252 0 0 (layN st 0 ke 0 252) ((solvesF 7 (passes st t) r).1) (fun h => absurd (hρ 3 1 (by decide) (by decide) h) (by decide)) (by omega) (by omega)) (va_cwS 4 hts (gi_S ml_X6_39 st_X6_lays it_X6 cd_X6_lays) rfl rfl rfl (by decide +kernel) ⟨Nat.le_of_ble_eq_true rfl, Nat.le_of_ble_eq_true rfl⟩) (pR_S (hP.sub (ws' := [(ρ 3, iA E 252 (layN st 0 ke 0 252)), (ρ 1, iA E 252 ((solvesF 7 (passes st t) r).1))]) [3, 1] rfl) hK) rfl rfl hl.1 rfl (lv_room (Nat.le_of_ble_eq_true rfl)) dX6_wouldIn_35 ⟨Nat.le_of_ble_eq_true rfl, Nat.le_of_ble_eq_true rfl⟩) hP (dm hD rfl) hS [3, 1] rfl (by decide) rfl (refW E ρ th rc tl pa kd nm (layN (layN st 0 ke 0 252) 0 ((solvesF 7 (passes st t) r).1) 0 252) hi (layN st 0 ke 0 252) tx wy1) (rfl) rfl (fun H locs hP hS => ?_)
  have hP : va_P E.1 vwCl (refW E ρ th rc tl pa kd nm st hi (layN st 0 ke 0 252) tx wy1) H := ref_st (fun j hj => lay_back hj) hP
  refine lv_iload_n hx hb dX6_wouldIn_38 rfl (lv_lk hl rfl) ?_
  exact W.iret hx hb hrt (fun t ht hW => ⟨rfl, ⟨(layN st 0 ke 0 252, wy1), by rw [ht]; exact hP⟩, hS.F ht⟩) hS.2.2 dX6_wouldIn_39 hlocks
set_option maxHeartbeats 4000000 in
set_option maxRecDepth 100000 in
theorem m_X6_tellsZone_ok (l : Launch) (E : Env3) (ρ : Nat → Nat) (th rc tl pa kd nm : Int) (st hi ke tx wy : S) (hρ : dR ρ 6) (z k : Nat) (hz : z < 6) (hk : k < 5) : Met l yX6_tellsZone (Cond.code yX6_tellsZone cX6_tellsZone 3 (some .int) :: ALL) ({ frames := 2, cells := 0, slots := 0, locals := 42 }) (pR [.ref (ρ 0), .int (I (z : Int)), .int (I (k : Int))] E (refW E ρ th rc tl pa kd nm st hi ke tx wy)) (qW (some (.int (I (st (6 + 5 * z + k))))) E (refW E ρ th rc tl pa kd nm st hi ke tx wy) (refW E ρ 0 rc tl pa kd nm st hi ke tx wy)) 0 0 (adIn (refW E ρ th rc tl pa kd nm st hi ke tx wy)) := by
  refine mk_met (by decide) rfl (Nat.le_of_ble_eq_true rfl) ?_
  intro p e s m args below meth c hx hb hrt hml hts hown hlocks hnm hP hK ls hl
  have hown : s.vm.findClass RX6 = some m.cls := hown
  have hl : lv_has ls 3 [(0, .ref (ρ 0)), (1, .int (I (z : Int))), (2, .int (I (k : Int)))] := hl
  have hD : va_D (adIn (refW E ρ th rc tl pa kd nm st hi ke tx wy)) (refW E ρ th rc tl pa kd nm st hi ke tx wy) := D_of_dR hρ rfl
  have hS : va_S (adIn (refW E ρ th rc tl pa kd nm st hi ke tx wy)) s.heap s.heap [] := va_S.rf
  refine lv_aload_n hx hb dX6_tellsZone_0 rfl (lv_lk hl rfl) ?_
  refine lv_iload_n hx hb dX6_tellsZone_1 rfl (lv_lk hl rfl) ?_
  refine call_S (va_runS ⟨hx, hb, hml, hown, hts⟩ (m_X6_isZone l E ((z : Int)) (by omega)) (va_cwS 1 hts (gi_S ml_X6_54 st_X6_isZone it_X6 cd_X6_isZone) rfl rfl rfl (by decide +kernel) ⟨Nat.le_of_ble_eq_true rfl, Nat.le_of_ble_eq_true rfl⟩) (pR_S (hP.sub (ws' := []) [] rfl) hK) rfl rfl hl.1 rfl (lv_room (Nat.le_of_ble_eq_true rfl)) dX6_tellsZone_2 ⟨Nat.le_of_ble_eq_true rfl, Nat.le_of_ble_eq_true rfl⟩) (fun _ h => h) hS rfl (fun locs hS => ?_)
  refine iv_eq (1) (by rw [if_pos (by omega)]) ?_
  refine iv_if_eq (tgt := 12) hx hb dX6_tellsZone_5 (by decide) (by omega) (fun c_5 => by exfalso; omega) (fun c_5 => ?_)
  refine iv_iconst hx hb dX6_tellsZone_8 ?_
  refine lv_goto (tgt := 13) hx hb dX6_tellsZone_9 (by decide) ?_
  refine va_put (ci := 6) (ty := .int) hx hb hts inX6 tyX6 tyX6_ok nmX6 hown hK.1 hP (dm hD rfl) hS 0 rfl rfl 0 (by decide) (hts _ fl_X6_32) (fun _ h9 => h9) rfl (by decide +kernel) rfl rfl (Nat.le_of_ble_eq_true rfl) dX6_tellsZone_13 (fun H locs hP _ hS => ?_)
  have hP : va_P E.1 vwCl (refW E ρ 0 rc tl pa kd nm st hi ke tx wy) H := hP
  refine lv_aload_n hx hb dX6_tellsZone_16 rfl (lv_lk hl rfl) ?_
  refine va_get (D := E.1) (ci := 6) hx hb hts inX6 hown hK.1 hP 0 rfl rfl 0 (by decide) (hts _ fl_X6_32) (fun _ h9 => h9) rfl dX6_tellsZone_17 ?_
  refine iv_if_le (tgt := 27) hx hb dX6_tellsZone_20 (by decide) (by omega) (fun c_20 => ?_) (fun c_20 => by exfalso; omega)
  refine lv_aload_n hx hb dX6_tellsZone_27 rfl (lv_lk hl rfl) ?_
  refine lv_iload_n hx hb dX6_tellsZone_28 rfl (lv_lk hl rfl) ?_
  refine lv_iload_n hx hb dX6_tellsZone_29 rfl (lv_lk hl rfl) ?_
  refine call_S (va_runV ⟨hx, hb, hml, hown, hts⟩ (m_X6_ofZone l E ρ 0 rc tl pa kd nm st hi ke tx wy z k hz hk) (cwV 2 hts (gi_V ml_X6_50 im_X6_ofZone sl_X6_ofZone it_X6 cd_X6_ofZone) rfl rfl rfl (by decide +kernel) ⟨Nat.le_of_ble_eq_true rfl, Nat.le_of_ble_eq_true rfl⟩) (pR_V (q0 := 0) (ci := 6) hP hK rfl rfl) rfl rfl hl.1 rfl (lv_room (Nat.le_of_ble_eq_true rfl)) dX6_tellsZone_30 ⟨Nat.le_of_ble_eq_true rfl, Nat.le_of_ble_eq_true rfl⟩) (fun _ h => h) hS rfl (fun locs hS => ?_)
  exact W.iret hx hb hrt (fun t ht hW => ⟨rfl, by rw [ht]; exact hP, hS.F ht⟩) hS.2.2 dX6_tellsZone_33 hlocks
set_option maxHeartbeats 4000000 in
set_option maxRecDepth 100000 in
theorem m_X6_tellsZone_bad (l : Launch) (E : Env3) (ρ : Nat → Nat) (th rc tl pa kd nm : Int) (st hi ke tx wy : S) (hρ : dR ρ 6) (v : Int) (k : Nat) (hv : -2147483648 ≤ v ∧ v ≤ 2147483647) (hv2 : ¬ (0 ≤ v ∧ v ≤ 5)) : Met l yX6_tellsZone (Cond.code yX6_tellsZone cX6_tellsZone 3 (some .int) :: ALL) ({ frames := 2, cells := 0, slots := 0, locals := 42 }) (pR [.ref (ρ 0), .int (I v), .int (I (k : Int))] E (refW E ρ th rc tl pa kd nm st hi ke tx wy)) (qW (some (.int (I 0))) E (refW E ρ th rc tl pa kd nm st hi ke tx wy) (refW E ρ 1 rc tl pa kd nm st hi ke tx wy)) 0 0 (adIn (refW E ρ th rc tl pa kd nm st hi ke tx wy)) := by
  refine mk_met (by decide) rfl (Nat.le_of_ble_eq_true rfl) ?_
  intro p e s m args below meth c hx hb hrt hml hts hown hlocks hnm hP hK ls hl
  have hown : s.vm.findClass RX6 = some m.cls := hown
  have hl : lv_has ls 3 [(0, .ref (ρ 0)), (1, .int (I v)), (2, .int (I (k : Int)))] := hl
  have hD : va_D (adIn (refW E ρ th rc tl pa kd nm st hi ke tx wy)) (refW E ρ th rc tl pa kd nm st hi ke tx wy) := D_of_dR hρ rfl
  have hS : va_S (adIn (refW E ρ th rc tl pa kd nm st hi ke tx wy)) s.heap s.heap [] := va_S.rf
  refine lv_aload_n hx hb dX6_tellsZone_0 rfl (lv_lk hl rfl) ?_
  refine lv_iload_n hx hb dX6_tellsZone_1 rfl (lv_lk hl rfl) ?_
  refine call_S (va_runS ⟨hx, hb, hml, hown, hts⟩ (m_X6_isZone l E v (by omega)) (va_cwS 1 hts (gi_S ml_X6_54 st_X6_isZone it_X6 cd_X6_isZone) rfl rfl rfl (by decide +kernel) ⟨Nat.le_of_ble_eq_true rfl, Nat.le_of_ble_eq_true rfl⟩) (pR_S (hP.sub (ws' := []) [] rfl) hK) rfl rfl hl.1 rfl (lv_room (Nat.le_of_ble_eq_true rfl)) dX6_tellsZone_2 ⟨Nat.le_of_ble_eq_true rfl, Nat.le_of_ble_eq_true rfl⟩) (fun _ h => h) hS rfl (fun locs hS => ?_)
  refine iv_eq (0) (by rw [if_neg (by omega)]) ?_
  refine iv_if_eq (tgt := 12) hx hb dX6_tellsZone_5 (by decide) (by omega) (fun c_5 => ?_) (fun c_5 => by exfalso; omega)
  refine iv_iconst hx hb dX6_tellsZone_12 ?_
  refine va_put (ci := 6) (ty := .int) hx hb hts inX6 tyX6 tyX6_ok nmX6 hown hK.1 hP (dm hD rfl) hS 0 rfl rfl 0 (by decide) (hts _ fl_X6_32) (fun _ h9 => h9) rfl (by decide +kernel) rfl rfl (Nat.le_of_ble_eq_true rfl) dX6_tellsZone_13 (fun H locs hP _ hS => ?_)
  have hP : va_P E.1 vwCl (refW E ρ 1 rc tl pa kd nm st hi ke tx wy) H := hP
  refine lv_aload_n hx hb dX6_tellsZone_16 rfl (lv_lk hl rfl) ?_
  refine va_get (D := E.1) (ci := 6) hx hb hts inX6 hown hK.1 hP 0 rfl rfl 0 (by decide) (hts _ fl_X6_32) (fun _ h9 => h9) rfl dX6_tellsZone_17 ?_
  refine iv_if_le (tgt := 27) hx hb dX6_tellsZone_20 (by decide) (by omega) (fun c_20 => by exfalso; omega) (fun c_20 => ?_)
  refine iv_iconst hx hb dX6_tellsZone_23 ?_
  refine lv_goto (tgt := 33) hx hb dX6_tellsZone_24 (by decide) ?_
  exact W.iret hx hb hrt (fun t ht hW => ⟨rfl, by rw [ht]; exact hP, hS.F ht⟩) hS.2.2 dX6_tellsZone_33 hlocks
set_option maxHeartbeats 4000000 in
set_option maxRecDepth 100000 in
theorem m_X6_tellsRiddle_ok (l : Launch) (E : Env3) (ρ : Nat → Nat) (th rc tl pa kd nm : Int) (st hi ke tx wy : S) (hρ : dR ρ 6) (r k : Nat) (hr : r < 36) (hk : k < 6) : Met l yX6_tellsRiddle (Cond.code yX6_tellsRiddle cX6_tellsRiddle 3 (some .int) :: ALL) ({ frames := 2, cells := 0, slots := 0, locals := 42 }) (pR [.ref (ρ 0), .int (I (r : Int)), .int (I (k : Int))] E (refW E ρ th rc tl pa kd nm st hi ke tx wy)) (qW (some (.int (I (st (36 + 6 * r + k))))) E (refW E ρ th rc tl pa kd nm st hi ke tx wy) (refW E ρ 0 rc tl pa kd nm st hi ke tx wy)) 0 0 (adIn (refW E ρ th rc tl pa kd nm st hi ke tx wy)) := by
  refine mk_met (by decide) rfl (Nat.le_of_ble_eq_true rfl) ?_
  intro p e s m args below meth c hx hb hrt hml hts hown hlocks hnm hP hK ls hl
  have hown : s.vm.findClass RX6 = some m.cls := hown
  have hl : lv_has ls 3 [(0, .ref (ρ 0)), (1, .int (I (r : Int))), (2, .int (I (k : Int)))] := hl
  have hD : va_D (adIn (refW E ρ th rc tl pa kd nm st hi ke tx wy)) (refW E ρ th rc tl pa kd nm st hi ke tx wy) := D_of_dR hρ rfl
  have hS : va_S (adIn (refW E ρ th rc tl pa kd nm st hi ke tx wy)) s.heap s.heap [] := va_S.rf
  refine lv_aload_n hx hb dX6_tellsRiddle_0 rfl (lv_lk hl rfl) ?_
  refine lv_iload_n hx hb dX6_tellsRiddle_1 rfl (lv_lk hl rfl) ?_
  refine call_S (va_runS ⟨hx, hb, hml, hown, hts⟩ (m_X6_isRiddle l E ((r : Int)) (by omega)) (va_cwS 1 hts (gi_S ml_X6_64 st_X6_isRiddle it_X6 cd_X6_isRiddle) rfl rfl rfl (by decide +kernel) ⟨Nat.le_of_ble_eq_true rfl, Nat.le_of_ble_eq_true rfl⟩) (pR_S (hP.sub (ws' := []) [] rfl) hK) rfl rfl hl.1 rfl (lv_room (Nat.le_of_ble_eq_true rfl)) dX6_tellsRiddle_2 ⟨Nat.le_of_ble_eq_true rfl, Nat.le_of_ble_eq_true rfl⟩) (fun _ h => h) hS rfl (fun locs hS => ?_)
  refine iv_eq (1) (by rw [if_pos (by omega)]) ?_
  refine iv_if_eq (tgt := 12) hx hb dX6_tellsRiddle_5 (by decide) (by omega) (fun c_5 => by exfalso; omega) (fun c_5 => ?_)
  refine iv_iconst hx hb dX6_tellsRiddle_8 ?_
  refine lv_goto (tgt := 13) hx hb dX6_tellsRiddle_9 (by decide) ?_
  refine va_put (ci := 6) (ty := .int) hx hb hts inX6 tyX6 tyX6_ok nmX6 hown hK.1 hP (dm hD rfl) hS 0 rfl rfl 0 (by decide) (hts _ fl_X6_32) (fun _ h9 => h9) rfl (by decide +kernel) rfl rfl (Nat.le_of_ble_eq_true rfl) dX6_tellsRiddle_13 (fun H locs hP _ hS => ?_)
  have hP : va_P E.1 vwCl (refW E ρ 0 rc tl pa kd nm st hi ke tx wy) H := hP
  refine lv_aload_n hx hb dX6_tellsRiddle_16 rfl (lv_lk hl rfl) ?_
  refine va_get (D := E.1) (ci := 6) hx hb hts inX6 hown hK.1 hP 0 rfl rfl 0 (by decide) (hts _ fl_X6_32) (fun _ h9 => h9) rfl dX6_tellsRiddle_17 ?_
  refine iv_if_le (tgt := 27) hx hb dX6_tellsRiddle_20 (by decide) (by omega) (fun c_20 => ?_) (fun c_20 => by exfalso; omega)
  refine lv_aload_n hx hb dX6_tellsRiddle_27 rfl (lv_lk hl rfl) ?_
  refine lv_iload_n hx hb dX6_tellsRiddle_28 rfl (lv_lk hl rfl) ?_
  refine lv_iload_n hx hb dX6_tellsRiddle_29 rfl (lv_lk hl rfl) ?_
  refine call_S (va_runV ⟨hx, hb, hml, hown, hts⟩ (m_X6_of l E ρ 0 rc tl pa kd nm st hi ke tx wy r k hr hk) (cwV 2 hts (gi_V ml_X6_61 im_X6_of sl_X6_of it_X6 cd_X6_of) rfl rfl rfl (by decide +kernel) ⟨Nat.le_of_ble_eq_true rfl, Nat.le_of_ble_eq_true rfl⟩) (pR_V (q0 := 0) (ci := 6) hP hK rfl rfl) rfl rfl hl.1 rfl (lv_room (Nat.le_of_ble_eq_true rfl)) dX6_tellsRiddle_30 ⟨Nat.le_of_ble_eq_true rfl, Nat.le_of_ble_eq_true rfl⟩) (fun _ h => h) hS rfl (fun locs hS => ?_)
  exact W.iret hx hb hrt (fun t ht hW => ⟨rfl, by rw [ht]; exact hP, hS.F ht⟩) hS.2.2 dX6_tellsRiddle_33 hlocks
set_option maxHeartbeats 4000000 in
set_option maxRecDepth 100000 in
theorem m_X6_tellsRiddle_bad (l : Launch) (E : Env3) (ρ : Nat → Nat) (th rc tl pa kd nm : Int) (st hi ke tx wy : S) (hρ : dR ρ 6) (v : Int) (k : Nat) (hv : -2147483648 ≤ v ∧ v ≤ 2147483647) (hv2 : ¬ (0 ≤ v ∧ v ≤ 35)) : Met l yX6_tellsRiddle (Cond.code yX6_tellsRiddle cX6_tellsRiddle 3 (some .int) :: ALL) ({ frames := 2, cells := 0, slots := 0, locals := 42 }) (pR [.ref (ρ 0), .int (I v), .int (I (k : Int))] E (refW E ρ th rc tl pa kd nm st hi ke tx wy)) (qW (some (.int (I 0))) E (refW E ρ th rc tl pa kd nm st hi ke tx wy) (refW E ρ 1 rc tl pa kd nm st hi ke tx wy)) 0 0 (adIn (refW E ρ th rc tl pa kd nm st hi ke tx wy)) := by
  refine mk_met (by decide) rfl (Nat.le_of_ble_eq_true rfl) ?_
  intro p e s m args below meth c hx hb hrt hml hts hown hlocks hnm hP hK ls hl
  have hown : s.vm.findClass RX6 = some m.cls := hown
  have hl : lv_has ls 3 [(0, .ref (ρ 0)), (1, .int (I v)), (2, .int (I (k : Int)))] := hl
  have hD : va_D (adIn (refW E ρ th rc tl pa kd nm st hi ke tx wy)) (refW E ρ th rc tl pa kd nm st hi ke tx wy) := D_of_dR hρ rfl
  have hS : va_S (adIn (refW E ρ th rc tl pa kd nm st hi ke tx wy)) s.heap s.heap [] := va_S.rf
  refine lv_aload_n hx hb dX6_tellsRiddle_0 rfl (lv_lk hl rfl) ?_
  refine lv_iload_n hx hb dX6_tellsRiddle_1 rfl (lv_lk hl rfl) ?_
  refine call_S (va_runS ⟨hx, hb, hml, hown, hts⟩ (m_X6_isRiddle l E v (by omega)) (va_cwS 1 hts (gi_S ml_X6_64 st_X6_isRiddle it_X6 cd_X6_isRiddle) rfl rfl rfl (by decide +kernel) ⟨Nat.le_of_ble_eq_true rfl, Nat.le_of_ble_eq_true rfl⟩) (pR_S (hP.sub (ws' := []) [] rfl) hK) rfl rfl hl.1 rfl (lv_room (Nat.le_of_ble_eq_true rfl)) dX6_tellsRiddle_2 ⟨Nat.le_of_ble_eq_true rfl, Nat.le_of_ble_eq_true rfl⟩) (fun _ h => h) hS rfl (fun locs hS => ?_)
  refine iv_eq (0) (by rw [if_neg (by omega)]) ?_
  refine iv_if_eq (tgt := 12) hx hb dX6_tellsRiddle_5 (by decide) (by omega) (fun c_5 => ?_) (fun c_5 => by exfalso; omega)
  refine iv_iconst hx hb dX6_tellsRiddle_12 ?_
  refine va_put (ci := 6) (ty := .int) hx hb hts inX6 tyX6 tyX6_ok nmX6 hown hK.1 hP (dm hD rfl) hS 0 rfl rfl 0 (by decide) (hts _ fl_X6_32) (fun _ h9 => h9) rfl (by decide +kernel) rfl rfl (Nat.le_of_ble_eq_true rfl) dX6_tellsRiddle_13 (fun H locs hP _ hS => ?_)
  have hP : va_P E.1 vwCl (refW E ρ 1 rc tl pa kd nm st hi ke tx wy) H := hP
  refine lv_aload_n hx hb dX6_tellsRiddle_16 rfl (lv_lk hl rfl) ?_
  refine va_get (D := E.1) (ci := 6) hx hb hts inX6 hown hK.1 hP 0 rfl rfl 0 (by decide) (hts _ fl_X6_32) (fun _ h9 => h9) rfl dX6_tellsRiddle_17 ?_
  refine iv_if_le (tgt := 27) hx hb dX6_tellsRiddle_20 (by decide) (by omega) (fun c_20 => by exfalso; omega) (fun c_20 => ?_)
  refine iv_iconst hx hb dX6_tellsRiddle_23 ?_
  refine lv_goto (tgt := 33) hx hb dX6_tellsRiddle_24 (by decide) ?_
  exact W.iret hx hb hrt (fun t ht hW => ⟨rfl, by rw [ht]; exact hP, hS.F ht⟩) hS.2.2 dX6_tellsRiddle_33 hlocks
set_option maxHeartbeats 4000000 in
set_option maxRecDepth 100000 in
theorem m_X6_parentOf_ok (l : Launch) (E : Env3) (ρ : Nat → Nat) (th rc tl pa kd nm : Int) (st hi ke tx wy : S) (hρ : dR ρ 6) (z : Nat) (hz : z < 6) : Met l yX6_parentOf (Cond.code yX6_parentOf cX6_parentOf 2 (some .int) :: ALL) ({ frames := 3, cells := 0, slots := 0, locals := 64 }) (pR [.ref (ρ 0), .int (I (z : Int))] E (refW E ρ th rc tl pa kd nm st hi ke tx wy)) (qW (some (.int (I (st (6 + 5 * z + 0))))) E (refW E ρ th rc tl pa kd nm st hi ke tx wy) (refW E ρ 0 rc tl pa kd nm st hi ke tx wy)) 0 0 (adIn (refW E ρ th rc tl pa kd nm st hi ke tx wy)) := by
  refine mk_met (by decide) rfl (Nat.le_of_ble_eq_true rfl) ?_
  intro p e s m args below meth c hx hb hrt hml hts hown hlocks hnm hP hK ls hl
  have hown : s.vm.findClass RX6 = some m.cls := hown
  have hl : lv_has ls 2 [(0, .ref (ρ 0)), (1, .int (I (z : Int)))] := hl
  have hD : va_D (adIn (refW E ρ th rc tl pa kd nm st hi ke tx wy)) (refW E ρ th rc tl pa kd nm st hi ke tx wy) := D_of_dR hρ rfl
  have hS : va_S (adIn (refW E ρ th rc tl pa kd nm st hi ke tx wy)) s.heap s.heap [] := va_S.rf
  refine lv_aload_n hx hb dX6_parentOf_0 rfl (lv_lk hl rfl) ?_
  refine lv_iload_n hx hb dX6_parentOf_1 rfl (lv_lk hl rfl) ?_
  refine iv_iconst hx hb dX6_parentOf_2 ?_
  refine call_F (va_runV ⟨hx, hb, hml, hown, hts⟩ (m_X6_tellsZone_ok l E ρ th rc tl pa kd nm st hi ke tx wy hρ z 0 hz (by decide)) (cwV 2 hts (gi_V ml_X6_97 im_X6_tellsZone sl_X6_tellsZone it_X6 cd_X6_tellsZone) rfl rfl rfl (by decide +kernel) ⟨Nat.le_of_ble_eq_true rfl, Nat.le_of_ble_eq_true rfl⟩) (pR_V (q0 := 0) (ci := 6) hP hK rfl rfl) rfl rfl hl.1 rfl (lv_room (Nat.le_of_ble_eq_true rfl)) dX6_parentOf_3 ⟨Nat.le_of_ble_eq_true rfl, Nat.le_of_ble_eq_true rfl⟩) (dm hD rfl) hS rfl (fun H locs hP hS => ?_)
  have hP : va_P E.1 vwCl (refW E ρ 0 rc tl pa kd nm st hi ke tx wy) H := hP
  exact W.iret hx hb hrt (fun t ht hW => ⟨rfl, by rw [ht]; exact hP, hS.F ht⟩) hS.2.2 dX6_parentOf_6 hlocks
set_option maxHeartbeats 4000000 in
set_option maxRecDepth 100000 in
theorem m_X6_parentOf_bad (l : Launch) (E : Env3) (ρ : Nat → Nat) (th rc tl pa kd nm : Int) (st hi ke tx wy : S) (hρ : dR ρ 6) (v : Int) (hv : -2147483648 ≤ v ∧ v ≤ 2147483647) (hv2 : ¬ (0 ≤ v ∧ v ≤ 5)) : Met l yX6_parentOf (Cond.code yX6_parentOf cX6_parentOf 2 (some .int) :: ALL) ({ frames := 3, cells := 0, slots := 0, locals := 64 }) (pR [.ref (ρ 0), .int (I v)] E (refW E ρ th rc tl pa kd nm st hi ke tx wy)) (qW (some (.int (I 0))) E (refW E ρ th rc tl pa kd nm st hi ke tx wy) (refW E ρ 1 rc tl pa kd nm st hi ke tx wy)) 0 0 (adIn (refW E ρ th rc tl pa kd nm st hi ke tx wy)) := by
  refine mk_met (by decide) rfl (Nat.le_of_ble_eq_true rfl) ?_
  intro p e s m args below meth c hx hb hrt hml hts hown hlocks hnm hP hK ls hl
  have hown : s.vm.findClass RX6 = some m.cls := hown
  have hl : lv_has ls 2 [(0, .ref (ρ 0)), (1, .int (I v))] := hl
  have hD : va_D (adIn (refW E ρ th rc tl pa kd nm st hi ke tx wy)) (refW E ρ th rc tl pa kd nm st hi ke tx wy) := D_of_dR hρ rfl
  have hS : va_S (adIn (refW E ρ th rc tl pa kd nm st hi ke tx wy)) s.heap s.heap [] := va_S.rf
  refine lv_aload_n hx hb dX6_parentOf_0 rfl (lv_lk hl rfl) ?_
  refine lv_iload_n hx hb dX6_parentOf_1 rfl (lv_lk hl rfl) ?_
  refine iv_iconst hx hb dX6_parentOf_2 ?_
  refine call_F (va_runV ⟨hx, hb, hml, hown, hts⟩ (m_X6_tellsZone_bad l E ρ th rc tl pa kd nm st hi ke tx wy hρ v 0 hv hv2) (cwV 2 hts (gi_V ml_X6_97 im_X6_tellsZone sl_X6_tellsZone it_X6 cd_X6_tellsZone) rfl rfl rfl (by decide +kernel) ⟨Nat.le_of_ble_eq_true rfl, Nat.le_of_ble_eq_true rfl⟩) (pR_V (q0 := 0) (ci := 6) hP hK rfl rfl) rfl rfl hl.1 rfl (lv_room (Nat.le_of_ble_eq_true rfl)) dX6_parentOf_3 ⟨Nat.le_of_ble_eq_true rfl, Nat.le_of_ble_eq_true rfl⟩) (dm hD rfl) hS rfl (fun H locs hP hS => ?_)
  have hP : va_P E.1 vwCl (refW E ρ 1 rc tl pa kd nm st hi ke tx wy) H := hP
  exact W.iret hx hb hrt (fun t ht hW => ⟨rfl, by rw [ht]; exact hP, hS.F ht⟩) hS.2.2 dX6_parentOf_6 hlocks
set_option maxHeartbeats 4000000 in
set_option maxRecDepth 100000 in
theorem m_X6_questionsTo_ok (l : Launch) (E : Env3) (ρ : Nat → Nat) (th rc tl pa kd nm : Int) (st hi ke tx wy : S) (hρ : dR ρ 6) (z : Nat) (hz : z < 6) : Met l yX6_questionsTo (Cond.code yX6_questionsTo cX6_questionsTo 2 (some .int) :: ALL) ({ frames := 3, cells := 0, slots := 0, locals := 64 }) (pR [.ref (ρ 0), .int (I (z : Int))] E (refW E ρ th rc tl pa kd nm st hi ke tx wy)) (qW (some (.int (I (st (6 + 5 * z + 4))))) E (refW E ρ th rc tl pa kd nm st hi ke tx wy) (refW E ρ 0 rc tl pa kd nm st hi ke tx wy)) 0 0 (adIn (refW E ρ th rc tl pa kd nm st hi ke tx wy)) := by
  refine mk_met (by decide) rfl (Nat.le_of_ble_eq_true rfl) ?_
  intro p e s m args below meth c hx hb hrt hml hts hown hlocks hnm hP hK ls hl
  have hown : s.vm.findClass RX6 = some m.cls := hown
  have hl : lv_has ls 2 [(0, .ref (ρ 0)), (1, .int (I (z : Int)))] := hl
  have hD : va_D (adIn (refW E ρ th rc tl pa kd nm st hi ke tx wy)) (refW E ρ th rc tl pa kd nm st hi ke tx wy) := D_of_dR hρ rfl
  have hS : va_S (adIn (refW E ρ th rc tl pa kd nm st hi ke tx wy)) s.heap s.heap [] := va_S.rf
  refine lv_aload_n hx hb dX6_questionsTo_0 rfl (lv_lk hl rfl) ?_
  refine lv_iload_n hx hb dX6_questionsTo_1 rfl (lv_lk hl rfl) ?_
  refine iv_iconst hx hb dX6_questionsTo_2 ?_
  refine call_F (va_runV ⟨hx, hb, hml, hown, hts⟩ (m_X6_tellsZone_ok l E ρ th rc tl pa kd nm st hi ke tx wy hρ z 4 hz (by decide)) (cwV 2 hts (gi_V ml_X6_97 im_X6_tellsZone sl_X6_tellsZone it_X6 cd_X6_tellsZone) rfl rfl rfl (by decide +kernel) ⟨Nat.le_of_ble_eq_true rfl, Nat.le_of_ble_eq_true rfl⟩) (pR_V (q0 := 0) (ci := 6) hP hK rfl rfl) rfl rfl hl.1 rfl (lv_room (Nat.le_of_ble_eq_true rfl)) dX6_questionsTo_3 ⟨Nat.le_of_ble_eq_true rfl, Nat.le_of_ble_eq_true rfl⟩) (dm hD rfl) hS rfl (fun H locs hP hS => ?_)
  have hP : va_P E.1 vwCl (refW E ρ 0 rc tl pa kd nm st hi ke tx wy) H := hP
  exact W.iret hx hb hrt (fun t ht hW => ⟨rfl, by rw [ht]; exact hP, hS.F ht⟩) hS.2.2 dX6_questionsTo_6 hlocks
set_option maxHeartbeats 4000000 in
set_option maxRecDepth 100000 in
theorem m_X6_questionsTo_bad (l : Launch) (E : Env3) (ρ : Nat → Nat) (th rc tl pa kd nm : Int) (st hi ke tx wy : S) (hρ : dR ρ 6) (v : Int) (hv : -2147483648 ≤ v ∧ v ≤ 2147483647) (hv2 : ¬ (0 ≤ v ∧ v ≤ 5)) : Met l yX6_questionsTo (Cond.code yX6_questionsTo cX6_questionsTo 2 (some .int) :: ALL) ({ frames := 3, cells := 0, slots := 0, locals := 64 }) (pR [.ref (ρ 0), .int (I v)] E (refW E ρ th rc tl pa kd nm st hi ke tx wy)) (qW (some (.int (I 0))) E (refW E ρ th rc tl pa kd nm st hi ke tx wy) (refW E ρ 1 rc tl pa kd nm st hi ke tx wy)) 0 0 (adIn (refW E ρ th rc tl pa kd nm st hi ke tx wy)) := by
  refine mk_met (by decide) rfl (Nat.le_of_ble_eq_true rfl) ?_
  intro p e s m args below meth c hx hb hrt hml hts hown hlocks hnm hP hK ls hl
  have hown : s.vm.findClass RX6 = some m.cls := hown
  have hl : lv_has ls 2 [(0, .ref (ρ 0)), (1, .int (I v))] := hl
  have hD : va_D (adIn (refW E ρ th rc tl pa kd nm st hi ke tx wy)) (refW E ρ th rc tl pa kd nm st hi ke tx wy) := D_of_dR hρ rfl
  have hS : va_S (adIn (refW E ρ th rc tl pa kd nm st hi ke tx wy)) s.heap s.heap [] := va_S.rf
  refine lv_aload_n hx hb dX6_questionsTo_0 rfl (lv_lk hl rfl) ?_
  refine lv_iload_n hx hb dX6_questionsTo_1 rfl (lv_lk hl rfl) ?_
  refine iv_iconst hx hb dX6_questionsTo_2 ?_
  refine call_F (va_runV ⟨hx, hb, hml, hown, hts⟩ (m_X6_tellsZone_bad l E ρ th rc tl pa kd nm st hi ke tx wy hρ v 4 hv hv2) (cwV 2 hts (gi_V ml_X6_97 im_X6_tellsZone sl_X6_tellsZone it_X6 cd_X6_tellsZone) rfl rfl rfl (by decide +kernel) ⟨Nat.le_of_ble_eq_true rfl, Nat.le_of_ble_eq_true rfl⟩) (pR_V (q0 := 0) (ci := 6) hP hK rfl rfl) rfl rfl hl.1 rfl (lv_room (Nat.le_of_ble_eq_true rfl)) dX6_questionsTo_3 ⟨Nat.le_of_ble_eq_true rfl, Nat.le_of_ble_eq_true rfl⟩) (dm hD rfl) hS rfl (fun H locs hP hS => ?_)
  have hP : va_P E.1 vwCl (refW E ρ 1 rc tl pa kd nm st hi ke tx wy) H := hP
  exact W.iret hx hb hrt (fun t ht hW => ⟨rfl, by rw [ht]; exact hP, hS.F ht⟩) hS.2.2 dX6_questionsTo_6 hlocks
set_option maxHeartbeats 4000000 in
set_option maxRecDepth 100000 in
theorem m_X6_kindOf_ok (l : Launch) (E : Env3) (ρ : Nat → Nat) (th rc tl pa kd nm : Int) (st hi ke tx wy : S) (hρ : dR ρ 6) (r : Nat) (hr : r < 36) : Met l yX6_kindOf (Cond.code yX6_kindOf cX6_kindOf 2 (some .int) :: ALL) ({ frames := 3, cells := 0, slots := 0, locals := 64 }) (pR [.ref (ρ 0), .int (I (r : Int))] E (refW E ρ th rc tl pa kd nm st hi ke tx wy)) (qW (some (.int (I (st (36 + 6 * r + 0))))) E (refW E ρ th rc tl pa kd nm st hi ke tx wy) (refW E ρ 0 rc tl pa kd nm st hi ke tx wy)) 0 0 (adIn (refW E ρ th rc tl pa kd nm st hi ke tx wy)) := by
  refine mk_met (by decide) rfl (Nat.le_of_ble_eq_true rfl) ?_
  intro p e s m args below meth c hx hb hrt hml hts hown hlocks hnm hP hK ls hl
  have hown : s.vm.findClass RX6 = some m.cls := hown
  have hl : lv_has ls 2 [(0, .ref (ρ 0)), (1, .int (I (r : Int)))] := hl
  have hD : va_D (adIn (refW E ρ th rc tl pa kd nm st hi ke tx wy)) (refW E ρ th rc tl pa kd nm st hi ke tx wy) := D_of_dR hρ rfl
  have hS : va_S (adIn (refW E ρ th rc tl pa kd nm st hi ke tx wy)) s.heap s.heap [] := va_S.rf
  refine lv_aload_n hx hb dX6_kindOf_0 rfl (lv_lk hl rfl) ?_
  refine lv_iload_n hx hb dX6_kindOf_1 rfl (lv_lk hl rfl) ?_
  refine iv_iconst hx hb dX6_kindOf_2 ?_
  refine call_F (va_runV ⟨hx, hb, hml, hown, hts⟩ (m_X6_tellsRiddle_ok l E ρ th rc tl pa kd nm st hi ke tx wy hρ r 0 hr (by decide)) (cwV 2 hts (gi_V ml_X6_103 im_X6_tellsRiddle sl_X6_tellsRiddle it_X6 cd_X6_tellsRiddle) rfl rfl rfl (by decide +kernel) ⟨Nat.le_of_ble_eq_true rfl, Nat.le_of_ble_eq_true rfl⟩) (pR_V (q0 := 0) (ci := 6) hP hK rfl rfl) rfl rfl hl.1 rfl (lv_room (Nat.le_of_ble_eq_true rfl)) dX6_kindOf_3 ⟨Nat.le_of_ble_eq_true rfl, Nat.le_of_ble_eq_true rfl⟩) (dm hD rfl) hS rfl (fun H locs hP hS => ?_)
  have hP : va_P E.1 vwCl (refW E ρ 0 rc tl pa kd nm st hi ke tx wy) H := hP
  exact W.iret hx hb hrt (fun t ht hW => ⟨rfl, by rw [ht]; exact hP, hS.F ht⟩) hS.2.2 dX6_kindOf_6 hlocks
set_option maxHeartbeats 4000000 in
set_option maxRecDepth 100000 in
theorem m_X6_kindOf_bad (l : Launch) (E : Env3) (ρ : Nat → Nat) (th rc tl pa kd nm : Int) (st hi ke tx wy : S) (hρ : dR ρ 6) (v : Int) (hv : -2147483648 ≤ v ∧ v ≤ 2147483647) (hv2 : ¬ (0 ≤ v ∧ v ≤ 35)) : Met l yX6_kindOf (Cond.code yX6_kindOf cX6_kindOf 2 (some .int) :: ALL) ({ frames := 3, cells := 0, slots := 0, locals := 64 }) (pR [.ref (ρ 0), .int (I v)] E (refW E ρ th rc tl pa kd nm st hi ke tx wy)) (qW (some (.int (I 0))) E (refW E ρ th rc tl pa kd nm st hi ke tx wy) (refW E ρ 1 rc tl pa kd nm st hi ke tx wy)) 0 0 (adIn (refW E ρ th rc tl pa kd nm st hi ke tx wy)) := by
  refine mk_met (by decide) rfl (Nat.le_of_ble_eq_true rfl) ?_
  intro p e s m args below meth c hx hb hrt hml hts hown hlocks hnm hP hK ls hl
  have hown : s.vm.findClass RX6 = some m.cls := hown
  have hl : lv_has ls 2 [(0, .ref (ρ 0)), (1, .int (I v))] := hl
  have hD : va_D (adIn (refW E ρ th rc tl pa kd nm st hi ke tx wy)) (refW E ρ th rc tl pa kd nm st hi ke tx wy) := D_of_dR hρ rfl
  have hS : va_S (adIn (refW E ρ th rc tl pa kd nm st hi ke tx wy)) s.heap s.heap [] := va_S.rf
  refine lv_aload_n hx hb dX6_kindOf_0 rfl (lv_lk hl rfl) ?_
  refine lv_iload_n hx hb dX6_kindOf_1 rfl (lv_lk hl rfl) ?_
  refine iv_iconst hx hb dX6_kindOf_2 ?_
  refine call_F (va_runV ⟨hx, hb, hml, hown, hts⟩ (m_X6_tellsRiddle_bad l E ρ th rc tl pa kd nm st hi ke tx wy hρ v 0 hv hv2) (cwV 2 hts (gi_V ml_X6_103 im_X6_tellsRiddle sl_X6_tellsRiddle it_X6 cd_X6_tellsRiddle) rfl rfl rfl (by decide +kernel) ⟨Nat.le_of_ble_eq_true rfl, Nat.le_of_ble_eq_true rfl⟩) (pR_V (q0 := 0) (ci := 6) hP hK rfl rfl) rfl rfl hl.1 rfl (lv_room (Nat.le_of_ble_eq_true rfl)) dX6_kindOf_3 ⟨Nat.le_of_ble_eq_true rfl, Nat.le_of_ble_eq_true rfl⟩) (dm hD rfl) hS rfl (fun H locs hP hS => ?_)
  have hP : va_P E.1 vwCl (refW E ρ 1 rc tl pa kd nm st hi ke tx wy) H := hP
  exact W.iret hx hb hrt (fun t ht hW => ⟨rfl, by rw [ht]; exact hP, hS.F ht⟩) hS.2.2 dX6_kindOf_6 hlocks
set_option maxHeartbeats 4000000 in
set_option maxRecDepth 100000 in
theorem m_X6_valueOf_ok (l : Launch) (E : Env3) (ρ : Nat → Nat) (th rc tl pa kd nm : Int) (st hi ke tx wy : S) (hρ : dR ρ 6) (r : Nat) (hr : r < 36) : Met l yX6_valueOf (Cond.code yX6_valueOf cX6_valueOf 2 (some .int) :: ALL) ({ frames := 3, cells := 0, slots := 0, locals := 64 }) (pR [.ref (ρ 0), .int (I (r : Int))] E (refW E ρ th rc tl pa kd nm st hi ke tx wy)) (qW (some (.int (I (st (36 + 6 * r + 1))))) E (refW E ρ th rc tl pa kd nm st hi ke tx wy) (refW E ρ 0 rc tl pa kd nm st hi ke tx wy)) 0 0 (adIn (refW E ρ th rc tl pa kd nm st hi ke tx wy)) := by
  refine mk_met (by decide) rfl (Nat.le_of_ble_eq_true rfl) ?_
  intro p e s m args below meth c hx hb hrt hml hts hown hlocks hnm hP hK ls hl
  have hown : s.vm.findClass RX6 = some m.cls := hown
  have hl : lv_has ls 2 [(0, .ref (ρ 0)), (1, .int (I (r : Int)))] := hl
  have hD : va_D (adIn (refW E ρ th rc tl pa kd nm st hi ke tx wy)) (refW E ρ th rc tl pa kd nm st hi ke tx wy) := D_of_dR hρ rfl
  have hS : va_S (adIn (refW E ρ th rc tl pa kd nm st hi ke tx wy)) s.heap s.heap [] := va_S.rf
  refine lv_aload_n hx hb dX6_valueOf_0 rfl (lv_lk hl rfl) ?_
  refine lv_iload_n hx hb dX6_valueOf_1 rfl (lv_lk hl rfl) ?_
  refine iv_iconst hx hb dX6_valueOf_2 ?_
  refine call_F (va_runV ⟨hx, hb, hml, hown, hts⟩ (m_X6_tellsRiddle_ok l E ρ th rc tl pa kd nm st hi ke tx wy hρ r 1 hr (by decide)) (cwV 2 hts (gi_V ml_X6_103 im_X6_tellsRiddle sl_X6_tellsRiddle it_X6 cd_X6_tellsRiddle) rfl rfl rfl (by decide +kernel) ⟨Nat.le_of_ble_eq_true rfl, Nat.le_of_ble_eq_true rfl⟩) (pR_V (q0 := 0) (ci := 6) hP hK rfl rfl) rfl rfl hl.1 rfl (lv_room (Nat.le_of_ble_eq_true rfl)) dX6_valueOf_3 ⟨Nat.le_of_ble_eq_true rfl, Nat.le_of_ble_eq_true rfl⟩) (dm hD rfl) hS rfl (fun H locs hP hS => ?_)
  have hP : va_P E.1 vwCl (refW E ρ 0 rc tl pa kd nm st hi ke tx wy) H := hP
  exact W.iret hx hb hrt (fun t ht hW => ⟨rfl, by rw [ht]; exact hP, hS.F ht⟩) hS.2.2 dX6_valueOf_6 hlocks
set_option maxHeartbeats 4000000 in
set_option maxRecDepth 100000 in
theorem m_X6_valueOf_bad (l : Launch) (E : Env3) (ρ : Nat → Nat) (th rc tl pa kd nm : Int) (st hi ke tx wy : S) (hρ : dR ρ 6) (v : Int) (hv : -2147483648 ≤ v ∧ v ≤ 2147483647) (hv2 : ¬ (0 ≤ v ∧ v ≤ 35)) : Met l yX6_valueOf (Cond.code yX6_valueOf cX6_valueOf 2 (some .int) :: ALL) ({ frames := 3, cells := 0, slots := 0, locals := 64 }) (pR [.ref (ρ 0), .int (I v)] E (refW E ρ th rc tl pa kd nm st hi ke tx wy)) (qW (some (.int (I 0))) E (refW E ρ th rc tl pa kd nm st hi ke tx wy) (refW E ρ 1 rc tl pa kd nm st hi ke tx wy)) 0 0 (adIn (refW E ρ th rc tl pa kd nm st hi ke tx wy)) := by
  refine mk_met (by decide) rfl (Nat.le_of_ble_eq_true rfl) ?_
  intro p e s m args below meth c hx hb hrt hml hts hown hlocks hnm hP hK ls hl
  have hown : s.vm.findClass RX6 = some m.cls := hown
  have hl : lv_has ls 2 [(0, .ref (ρ 0)), (1, .int (I v))] := hl
  have hD : va_D (adIn (refW E ρ th rc tl pa kd nm st hi ke tx wy)) (refW E ρ th rc tl pa kd nm st hi ke tx wy) := D_of_dR hρ rfl
  have hS : va_S (adIn (refW E ρ th rc tl pa kd nm st hi ke tx wy)) s.heap s.heap [] := va_S.rf
  refine lv_aload_n hx hb dX6_valueOf_0 rfl (lv_lk hl rfl) ?_
  refine lv_iload_n hx hb dX6_valueOf_1 rfl (lv_lk hl rfl) ?_
  refine iv_iconst hx hb dX6_valueOf_2 ?_
  refine call_F (va_runV ⟨hx, hb, hml, hown, hts⟩ (m_X6_tellsRiddle_bad l E ρ th rc tl pa kd nm st hi ke tx wy hρ v 1 hv hv2) (cwV 2 hts (gi_V ml_X6_103 im_X6_tellsRiddle sl_X6_tellsRiddle it_X6 cd_X6_tellsRiddle) rfl rfl rfl (by decide +kernel) ⟨Nat.le_of_ble_eq_true rfl, Nat.le_of_ble_eq_true rfl⟩) (pR_V (q0 := 0) (ci := 6) hP hK rfl rfl) rfl rfl hl.1 rfl (lv_room (Nat.le_of_ble_eq_true rfl)) dX6_valueOf_3 ⟨Nat.le_of_ble_eq_true rfl, Nat.le_of_ble_eq_true rfl⟩) (dm hD rfl) hS rfl (fun H locs hP hS => ?_)
  have hP : va_P E.1 vwCl (refW E ρ 1 rc tl pa kd nm st hi ke tx wy) H := hP
  exact W.iret hx hb hrt (fun t ht hW => ⟨rfl, by rw [ht]; exact hP, hS.F ht⟩) hS.2.2 dX6_valueOf_6 hlocks
set_option maxHeartbeats 4000000 in
set_option maxRecDepth 100000 in
theorem m_X6_rememberedOf_ok (l : Launch) (E : Env3) (ρ : Nat → Nat) (th rc tl pa kd nm : Int) (st hi ke tx wy : S) (hρ : dR ρ 6) (r : Nat) (hr : r < 36) : Met l yX6_rememberedOf (Cond.code yX6_rememberedOf cX6_rememberedOf 2 (some .int) :: ALL) ({ frames := 3, cells := 0, slots := 0, locals := 64 }) (pR [.ref (ρ 0), .int (I (r : Int))] E (refW E ρ th rc tl pa kd nm st hi ke tx wy)) (qW (some (.int (I (st (36 + 6 * r + 3))))) E (refW E ρ th rc tl pa kd nm st hi ke tx wy) (refW E ρ 0 rc tl pa kd nm st hi ke tx wy)) 0 0 (adIn (refW E ρ th rc tl pa kd nm st hi ke tx wy)) := by
  refine mk_met (by decide) rfl (Nat.le_of_ble_eq_true rfl) ?_
  intro p e s m args below meth c hx hb hrt hml hts hown hlocks hnm hP hK ls hl
  have hown : s.vm.findClass RX6 = some m.cls := hown
  have hl : lv_has ls 2 [(0, .ref (ρ 0)), (1, .int (I (r : Int)))] := hl
  have hD : va_D (adIn (refW E ρ th rc tl pa kd nm st hi ke tx wy)) (refW E ρ th rc tl pa kd nm st hi ke tx wy) := D_of_dR hρ rfl
  have hS : va_S (adIn (refW E ρ th rc tl pa kd nm st hi ke tx wy)) s.heap s.heap [] := va_S.rf
  refine lv_aload_n hx hb dX6_rememberedOf_0 rfl (lv_lk hl rfl) ?_
  refine lv_iload_n hx hb dX6_rememberedOf_1 rfl (lv_lk hl rfl) ?_
  refine iv_iconst hx hb dX6_rememberedOf_2 ?_
  refine call_F (va_runV ⟨hx, hb, hml, hown, hts⟩ (m_X6_tellsRiddle_ok l E ρ th rc tl pa kd nm st hi ke tx wy hρ r 3 hr (by decide)) (cwV 2 hts (gi_V ml_X6_103 im_X6_tellsRiddle sl_X6_tellsRiddle it_X6 cd_X6_tellsRiddle) rfl rfl rfl (by decide +kernel) ⟨Nat.le_of_ble_eq_true rfl, Nat.le_of_ble_eq_true rfl⟩) (pR_V (q0 := 0) (ci := 6) hP hK rfl rfl) rfl rfl hl.1 rfl (lv_room (Nat.le_of_ble_eq_true rfl)) dX6_rememberedOf_3 ⟨Nat.le_of_ble_eq_true rfl, Nat.le_of_ble_eq_true rfl⟩) (dm hD rfl) hS rfl (fun H locs hP hS => ?_)
  have hP : va_P E.1 vwCl (refW E ρ 0 rc tl pa kd nm st hi ke tx wy) H := hP
  exact W.iret hx hb hrt (fun t ht hW => ⟨rfl, by rw [ht]; exact hP, hS.F ht⟩) hS.2.2 dX6_rememberedOf_6 hlocks
set_option maxHeartbeats 4000000 in
set_option maxRecDepth 100000 in
theorem m_X6_rememberedOf_bad (l : Launch) (E : Env3) (ρ : Nat → Nat) (th rc tl pa kd nm : Int) (st hi ke tx wy : S) (hρ : dR ρ 6) (v : Int) (hv : -2147483648 ≤ v ∧ v ≤ 2147483647) (hv2 : ¬ (0 ≤ v ∧ v ≤ 35)) : Met l yX6_rememberedOf (Cond.code yX6_rememberedOf cX6_rememberedOf 2 (some .int) :: ALL) ({ frames := 3, cells := 0, slots := 0, locals := 64 }) (pR [.ref (ρ 0), .int (I v)] E (refW E ρ th rc tl pa kd nm st hi ke tx wy)) (qW (some (.int (I 0))) E (refW E ρ th rc tl pa kd nm st hi ke tx wy) (refW E ρ 1 rc tl pa kd nm st hi ke tx wy)) 0 0 (adIn (refW E ρ th rc tl pa kd nm st hi ke tx wy)) := by
  refine mk_met (by decide) rfl (Nat.le_of_ble_eq_true rfl) ?_
  intro p e s m args below meth c hx hb hrt hml hts hown hlocks hnm hP hK ls hl
  have hown : s.vm.findClass RX6 = some m.cls := hown
  have hl : lv_has ls 2 [(0, .ref (ρ 0)), (1, .int (I v))] := hl
  have hD : va_D (adIn (refW E ρ th rc tl pa kd nm st hi ke tx wy)) (refW E ρ th rc tl pa kd nm st hi ke tx wy) := D_of_dR hρ rfl
  have hS : va_S (adIn (refW E ρ th rc tl pa kd nm st hi ke tx wy)) s.heap s.heap [] := va_S.rf
  refine lv_aload_n hx hb dX6_rememberedOf_0 rfl (lv_lk hl rfl) ?_
  refine lv_iload_n hx hb dX6_rememberedOf_1 rfl (lv_lk hl rfl) ?_
  refine iv_iconst hx hb dX6_rememberedOf_2 ?_
  refine call_F (va_runV ⟨hx, hb, hml, hown, hts⟩ (m_X6_tellsRiddle_bad l E ρ th rc tl pa kd nm st hi ke tx wy hρ v 3 hv hv2) (cwV 2 hts (gi_V ml_X6_103 im_X6_tellsRiddle sl_X6_tellsRiddle it_X6 cd_X6_tellsRiddle) rfl rfl rfl (by decide +kernel) ⟨Nat.le_of_ble_eq_true rfl, Nat.le_of_ble_eq_true rfl⟩) (pR_V (q0 := 0) (ci := 6) hP hK rfl rfl) rfl rfl hl.1 rfl (lv_room (Nat.le_of_ble_eq_true rfl)) dX6_rememberedOf_3 ⟨Nat.le_of_ble_eq_true rfl, Nat.le_of_ble_eq_true rfl⟩) (dm hD rfl) hS rfl (fun H locs hP hS => ?_)
  have hP : va_P E.1 vwCl (refW E ρ 1 rc tl pa kd nm st hi ke tx wy) H := hP
  exact W.iret hx hb hrt (fun t ht hW => ⟨rfl, by rw [ht]; exact hP, hS.F ht⟩) hS.2.2 dX6_rememberedOf_6 hlocks
set_option maxHeartbeats 4000000 in
set_option maxRecDepth 100000 in
theorem m_X6_depthOf_ok (l : Launch) (E : Env3) (ρ : Nat → Nat) (th rc tl pa kd nm : Int) (st hi ke tx wy : S) (hρ : dR ρ 6) (T : Int) (hI : IB T st) (z : Nat) (hz : z < 6) : Met l yX6_depthOf (Cond.code yX6_depthOf cX6_depthOf 2 (some .int) :: ALL) ({ frames := 2, cells := 0, slots := 0, locals := 45 }) (pR [.ref (ρ 0), .int (I (z : Int))] E (refW E ρ th rc tl pa kd nm st hi ke tx wy)) (qW (some (.int (I (depthF 6 st z)))) E (refW E ρ th rc tl pa kd nm st hi ke tx wy) (refW E ρ 0 rc tl pa kd nm st hi ke tx wy)) 0 0 (adIn (refW E ρ th rc tl pa kd nm st hi ke tx wy)) := by
  refine mk_met (by decide) rfl (Nat.le_of_ble_eq_true rfl) ?_
  intro p e s m args below meth c hx hb hrt hml hts hown hlocks hnm hP hK ls hl
  have hown : s.vm.findClass RX6 = some m.cls := hown
  have hl : lv_has ls 2 [(0, .ref (ρ 0)), (1, .int (I (z : Int)))] := hl
  have hD : va_D (adIn (refW E ρ th rc tl pa kd nm st hi ke tx wy)) (refW E ρ th rc tl pa kd nm st hi ke tx wy) := D_of_dR hρ rfl
  have hS : va_S (adIn (refW E ρ th rc tl pa kd nm st hi ke tx wy)) s.heap s.heap [] := va_S.rf
  refine lv_aload_n hx hb dX6_depthOf_0 rfl (lv_lk hl rfl) ?_
  refine lv_iload_n hx hb dX6_depthOf_1 rfl (lv_lk hl rfl) ?_
  refine call_S (va_runS ⟨hx, hb, hml, hown, hts⟩ (m_X6_isZone l E ((z : Int)) (by omega)) (va_cwS 1 hts (gi_S ml_X6_54 st_X6_isZone it_X6 cd_X6_isZone) rfl rfl rfl (by decide +kernel) ⟨Nat.le_of_ble_eq_true rfl, Nat.le_of_ble_eq_true rfl⟩) (pR_S (hP.sub (ws' := []) [] rfl) hK) rfl rfl hl.1 rfl (lv_room (Nat.le_of_ble_eq_true rfl)) dX6_depthOf_2 ⟨Nat.le_of_ble_eq_true rfl, Nat.le_of_ble_eq_true rfl⟩) (fun _ h => h) hS rfl (fun locs hS => ?_)
  refine iv_eq (1) (by rw [if_pos (by omega)]) ?_
  refine iv_if_eq (tgt := 12) hx hb dX6_depthOf_5 (by decide) (by omega) (fun c_5 => by exfalso; omega) (fun c_5 => ?_)
  refine iv_iconst hx hb dX6_depthOf_8 ?_
  refine lv_goto (tgt := 13) hx hb dX6_depthOf_9 (by decide) ?_
  refine va_put (ci := 6) (ty := .int) hx hb hts inX6 tyX6 tyX6_ok nmX6 hown hK.1 hP (dm hD rfl) hS 0 rfl rfl 0 (by decide) (hts _ fl_X6_32) (fun _ h9 => h9) rfl (by decide +kernel) rfl rfl (Nat.le_of_ble_eq_true rfl) dX6_depthOf_13 (fun H locs hP _ hS => ?_)
  have hP : va_P E.1 vwCl (refW E ρ 0 rc tl pa kd nm st hi ke tx wy) H := hP
  refine lv_aload_n hx hb dX6_depthOf_16 rfl (lv_lk hl rfl) ?_
  refine va_get (D := E.1) (ci := 6) hx hb hts inX6 hown hK.1 hP 0 rfl rfl 0 (by decide) (hts _ fl_X6_32) (fun _ h9 => h9) rfl dX6_depthOf_17 ?_
  refine iv_if_le (tgt := 27) hx hb dX6_depthOf_20 (by decide) (by omega) (fun c_20 => ?_) (fun c_20 => by exfalso; omega)
  refine lv_aload_n hx hb dX6_depthOf_27 rfl (lv_lk hl rfl) ?_
  refine lv_iload_n hx hb dX6_depthOf_28 rfl (lv_lk hl rfl) ?_
  refine call_S (va_runV ⟨hx, hb, hml, hown, hts⟩ (m_X6_depth l E ρ 0 rc tl pa kd nm st hi ke tx wy T hI z hz) (cwV 1 hts (gi_V ml_X6_100 im_X6_depth sl_X6_depth it_X6 cd_X6_depth) rfl rfl rfl (by decide +kernel) ⟨Nat.le_of_ble_eq_true rfl, Nat.le_of_ble_eq_true rfl⟩) (pR_V (q0 := 0) (ci := 6) hP hK rfl rfl) rfl rfl hl.1 rfl (lv_room (Nat.le_of_ble_eq_true rfl)) dX6_depthOf_29 ⟨Nat.le_of_ble_eq_true rfl, Nat.le_of_ble_eq_true rfl⟩) (fun _ h => h) hS rfl (fun locs hS => ?_)
  exact W.iret hx hb hrt (fun t ht hW => ⟨rfl, by rw [ht]; exact hP, hS.F ht⟩) hS.2.2 dX6_depthOf_32 hlocks
set_option maxHeartbeats 4000000 in
set_option maxRecDepth 100000 in
theorem m_X6_depthOf_bad (l : Launch) (E : Env3) (ρ : Nat → Nat) (th rc tl pa kd nm : Int) (st hi ke tx wy : S) (hρ : dR ρ 6) (v : Int) (hv : -2147483648 ≤ v ∧ v ≤ 2147483647) (hv2 : ¬ (0 ≤ v ∧ v ≤ 5)) : Met l yX6_depthOf (Cond.code yX6_depthOf cX6_depthOf 2 (some .int) :: ALL) ({ frames := 2, cells := 0, slots := 0, locals := 45 }) (pR [.ref (ρ 0), .int (I v)] E (refW E ρ th rc tl pa kd nm st hi ke tx wy)) (qW (some (.int (I 0))) E (refW E ρ th rc tl pa kd nm st hi ke tx wy) (refW E ρ 1 rc tl pa kd nm st hi ke tx wy)) 0 0 (adIn (refW E ρ th rc tl pa kd nm st hi ke tx wy)) := by
  refine mk_met (by decide) rfl (Nat.le_of_ble_eq_true rfl) ?_
  intro p e s m args below meth c hx hb hrt hml hts hown hlocks hnm hP hK ls hl
  have hown : s.vm.findClass RX6 = some m.cls := hown
  have hl : lv_has ls 2 [(0, .ref (ρ 0)), (1, .int (I v))] := hl
  have hD : va_D (adIn (refW E ρ th rc tl pa kd nm st hi ke tx wy)) (refW E ρ th rc tl pa kd nm st hi ke tx wy) := D_of_dR hρ rfl
  have hS : va_S (adIn (refW E ρ th rc tl pa kd nm st hi ke tx wy)) s.heap s.heap [] := va_S.rf
  refine lv_aload_n hx hb dX6_depthOf_0 rfl (lv_lk hl rfl) ?_
  refine lv_iload_n hx hb dX6_depthOf_1 rfl (lv_lk hl rfl) ?_
  refine call_S (va_runS ⟨hx, hb, hml, hown, hts⟩ (m_X6_isZone l E v (by omega)) (va_cwS 1 hts (gi_S ml_X6_54 st_X6_isZone it_X6 cd_X6_isZone) rfl rfl rfl (by decide +kernel) ⟨Nat.le_of_ble_eq_true rfl, Nat.le_of_ble_eq_true rfl⟩) (pR_S (hP.sub (ws' := []) [] rfl) hK) rfl rfl hl.1 rfl (lv_room (Nat.le_of_ble_eq_true rfl)) dX6_depthOf_2 ⟨Nat.le_of_ble_eq_true rfl, Nat.le_of_ble_eq_true rfl⟩) (fun _ h => h) hS rfl (fun locs hS => ?_)
  refine iv_eq (0) (by rw [if_neg (by omega)]) ?_
  refine iv_if_eq (tgt := 12) hx hb dX6_depthOf_5 (by decide) (by omega) (fun c_5 => ?_) (fun c_5 => by exfalso; omega)
  refine iv_iconst hx hb dX6_depthOf_12 ?_
  refine va_put (ci := 6) (ty := .int) hx hb hts inX6 tyX6 tyX6_ok nmX6 hown hK.1 hP (dm hD rfl) hS 0 rfl rfl 0 (by decide) (hts _ fl_X6_32) (fun _ h9 => h9) rfl (by decide +kernel) rfl rfl (Nat.le_of_ble_eq_true rfl) dX6_depthOf_13 (fun H locs hP _ hS => ?_)
  have hP : va_P E.1 vwCl (refW E ρ 1 rc tl pa kd nm st hi ke tx wy) H := hP
  refine lv_aload_n hx hb dX6_depthOf_16 rfl (lv_lk hl rfl) ?_
  refine va_get (D := E.1) (ci := 6) hx hb hts inX6 hown hK.1 hP 0 rfl rfl 0 (by decide) (hts _ fl_X6_32) (fun _ h9 => h9) rfl dX6_depthOf_17 ?_
  refine iv_if_le (tgt := 27) hx hb dX6_depthOf_20 (by decide) (by omega) (fun c_20 => by exfalso; omega) (fun c_20 => ?_)
  refine iv_iconst hx hb dX6_depthOf_23 ?_
  refine lv_goto (tgt := 32) hx hb dX6_depthOf_24 (by decide) ?_
  exact W.iret hx hb hrt (fun t ht hW => ⟨rfl, by rw [ht]; exact hP, hS.F ht⟩) hS.2.2 dX6_depthOf_32 hlocks
set_option maxHeartbeats 4000000 in
set_option maxRecDepth 100000 in
theorem m_X6_truthOf_ok (l : Launch) (E : Env3) (ρ : Nat → Nat) (th rc tl pa kd nm : Int) (st hi ke tx wy : S) (hρ : dR ρ 6) (T : Int) (hI : IB T st) (r : Nat) (hr : r < 36) : Met l yX6_truthOf (Cond.code yX6_truthOf cX6_truthOf 2 (some .int) :: ALL) ({ frames := 2, cells := 0, slots := 0, locals := 45 }) (pR [.ref (ρ 0), .int (I (r : Int))] E (refW E ρ th rc tl pa kd nm st hi ke tx wy)) (qW (some (.int (I (truthF 7 st r)))) E (refW E ρ th rc tl pa kd nm st hi ke tx wy) (refW E ρ 0 rc tl pa kd nm st hi ke tx wy)) 0 0 (adIn (refW E ρ th rc tl pa kd nm st hi ke tx wy)) := by
  refine mk_met (by decide) rfl (Nat.le_of_ble_eq_true rfl) ?_
  intro p e s m args below meth c hx hb hrt hml hts hown hlocks hnm hP hK ls hl
  have hown : s.vm.findClass RX6 = some m.cls := hown
  have hl : lv_has ls 2 [(0, .ref (ρ 0)), (1, .int (I (r : Int)))] := hl
  have hD : va_D (adIn (refW E ρ th rc tl pa kd nm st hi ke tx wy)) (refW E ρ th rc tl pa kd nm st hi ke tx wy) := D_of_dR hρ rfl
  have hS : va_S (adIn (refW E ρ th rc tl pa kd nm st hi ke tx wy)) s.heap s.heap [] := va_S.rf
  refine lv_aload_n hx hb dX6_truthOf_0 rfl (lv_lk hl rfl) ?_
  refine lv_iload_n hx hb dX6_truthOf_1 rfl (lv_lk hl rfl) ?_
  refine call_S (va_runS ⟨hx, hb, hml, hown, hts⟩ (m_X6_isRiddle l E ((r : Int)) (by omega)) (va_cwS 1 hts (gi_S ml_X6_64 st_X6_isRiddle it_X6 cd_X6_isRiddle) rfl rfl rfl (by decide +kernel) ⟨Nat.le_of_ble_eq_true rfl, Nat.le_of_ble_eq_true rfl⟩) (pR_S (hP.sub (ws' := []) [] rfl) hK) rfl rfl hl.1 rfl (lv_room (Nat.le_of_ble_eq_true rfl)) dX6_truthOf_2 ⟨Nat.le_of_ble_eq_true rfl, Nat.le_of_ble_eq_true rfl⟩) (fun _ h => h) hS rfl (fun locs hS => ?_)
  refine iv_eq (1) (by rw [if_pos (by omega)]) ?_
  refine iv_if_eq (tgt := 12) hx hb dX6_truthOf_5 (by decide) (by omega) (fun c_5 => by exfalso; omega) (fun c_5 => ?_)
  refine iv_iconst hx hb dX6_truthOf_8 ?_
  refine lv_goto (tgt := 13) hx hb dX6_truthOf_9 (by decide) ?_
  refine va_put (ci := 6) (ty := .int) hx hb hts inX6 tyX6 tyX6_ok nmX6 hown hK.1 hP (dm hD rfl) hS 0 rfl rfl 0 (by decide) (hts _ fl_X6_32) (fun _ h9 => h9) rfl (by decide +kernel) rfl rfl (Nat.le_of_ble_eq_true rfl) dX6_truthOf_13 (fun H locs hP _ hS => ?_)
  have hP : va_P E.1 vwCl (refW E ρ 0 rc tl pa kd nm st hi ke tx wy) H := hP
  refine lv_aload_n hx hb dX6_truthOf_16 rfl (lv_lk hl rfl) ?_
  refine va_get (D := E.1) (ci := 6) hx hb hts inX6 hown hK.1 hP 0 rfl rfl 0 (by decide) (hts _ fl_X6_32) (fun _ h9 => h9) rfl dX6_truthOf_17 ?_
  refine iv_if_le (tgt := 27) hx hb dX6_truthOf_20 (by decide) (by omega) (fun c_20 => ?_) (fun c_20 => by exfalso; omega)
  refine lv_aload_n hx hb dX6_truthOf_27 rfl (lv_lk hl rfl) ?_
  refine lv_iload_n hx hb dX6_truthOf_28 rfl (lv_lk hl rfl) ?_
  refine call_S (va_runV ⟨hx, hb, hml, hown, hts⟩ (m_X6_truth l E ρ 0 rc tl pa kd nm st hi ke tx wy T hI r hr) (cwV 1 hts (gi_V ml_X6_106 im_X6_truth sl_X6_truth it_X6 cd_X6_truth) rfl rfl rfl (by decide +kernel) ⟨Nat.le_of_ble_eq_true rfl, Nat.le_of_ble_eq_true rfl⟩) (pR_V (q0 := 0) (ci := 6) hP hK rfl rfl) rfl rfl hl.1 rfl (lv_room (Nat.le_of_ble_eq_true rfl)) dX6_truthOf_29 ⟨Nat.le_of_ble_eq_true rfl, Nat.le_of_ble_eq_true rfl⟩) (fun _ h => h) hS rfl (fun locs hS => ?_)
  exact W.iret hx hb hrt (fun t ht hW => ⟨rfl, by rw [ht]; exact hP, hS.F ht⟩) hS.2.2 dX6_truthOf_32 hlocks
set_option maxHeartbeats 4000000 in
set_option maxRecDepth 100000 in
theorem m_X6_truthOf_bad (l : Launch) (E : Env3) (ρ : Nat → Nat) (th rc tl pa kd nm : Int) (st hi ke tx wy : S) (hρ : dR ρ 6) (v : Int) (hv : -2147483648 ≤ v ∧ v ≤ 2147483647) (hv2 : ¬ (0 ≤ v ∧ v ≤ 35)) : Met l yX6_truthOf (Cond.code yX6_truthOf cX6_truthOf 2 (some .int) :: ALL) ({ frames := 2, cells := 0, slots := 0, locals := 45 }) (pR [.ref (ρ 0), .int (I v)] E (refW E ρ th rc tl pa kd nm st hi ke tx wy)) (qW (some (.int (I 0))) E (refW E ρ th rc tl pa kd nm st hi ke tx wy) (refW E ρ 1 rc tl pa kd nm st hi ke tx wy)) 0 0 (adIn (refW E ρ th rc tl pa kd nm st hi ke tx wy)) := by
  refine mk_met (by decide) rfl (Nat.le_of_ble_eq_true rfl) ?_
  intro p e s m args below meth c hx hb hrt hml hts hown hlocks hnm hP hK ls hl
  have hown : s.vm.findClass RX6 = some m.cls := hown
  have hl : lv_has ls 2 [(0, .ref (ρ 0)), (1, .int (I v))] := hl
  have hD : va_D (adIn (refW E ρ th rc tl pa kd nm st hi ke tx wy)) (refW E ρ th rc tl pa kd nm st hi ke tx wy) := D_of_dR hρ rfl
  have hS : va_S (adIn (refW E ρ th rc tl pa kd nm st hi ke tx wy)) s.heap s.heap [] := va_S.rf
  refine lv_aload_n hx hb dX6_truthOf_0 rfl (lv_lk hl rfl) ?_
  refine lv_iload_n hx hb dX6_truthOf_1 rfl (lv_lk hl rfl) ?_
  refine call_S (va_runS ⟨hx, hb, hml, hown, hts⟩ (m_X6_isRiddle l E v (by omega)) (va_cwS 1 hts (gi_S ml_X6_64 st_X6_isRiddle it_X6 cd_X6_isRiddle) rfl rfl rfl (by decide +kernel) ⟨Nat.le_of_ble_eq_true rfl, Nat.le_of_ble_eq_true rfl⟩) (pR_S (hP.sub (ws' := []) [] rfl) hK) rfl rfl hl.1 rfl (lv_room (Nat.le_of_ble_eq_true rfl)) dX6_truthOf_2 ⟨Nat.le_of_ble_eq_true rfl, Nat.le_of_ble_eq_true rfl⟩) (fun _ h => h) hS rfl (fun locs hS => ?_)
  refine iv_eq (0) (by rw [if_neg (by omega)]) ?_
  refine iv_if_eq (tgt := 12) hx hb dX6_truthOf_5 (by decide) (by omega) (fun c_5 => ?_) (fun c_5 => by exfalso; omega)
  refine iv_iconst hx hb dX6_truthOf_12 ?_
  refine va_put (ci := 6) (ty := .int) hx hb hts inX6 tyX6 tyX6_ok nmX6 hown hK.1 hP (dm hD rfl) hS 0 rfl rfl 0 (by decide) (hts _ fl_X6_32) (fun _ h9 => h9) rfl (by decide +kernel) rfl rfl (Nat.le_of_ble_eq_true rfl) dX6_truthOf_13 (fun H locs hP _ hS => ?_)
  have hP : va_P E.1 vwCl (refW E ρ 1 rc tl pa kd nm st hi ke tx wy) H := hP
  refine lv_aload_n hx hb dX6_truthOf_16 rfl (lv_lk hl rfl) ?_
  refine va_get (D := E.1) (ci := 6) hx hb hts inX6 hown hK.1 hP 0 rfl rfl 0 (by decide) (hts _ fl_X6_32) (fun _ h9 => h9) rfl dX6_truthOf_17 ?_
  refine iv_if_le (tgt := 27) hx hb dX6_truthOf_20 (by decide) (by omega) (fun c_20 => by exfalso; omega) (fun c_20 => ?_)
  refine iv_iconst hx hb dX6_truthOf_23 ?_
  refine lv_goto (tgt := 32) hx hb dX6_truthOf_24 (by decide) ?_
  exact W.iret hx hb hrt (fun t ht hW => ⟨rfl, by rw [ht]; exact hP, hS.F ht⟩) hS.2.2 dX6_truthOf_32 hlocks
set_option maxHeartbeats 4000000 in
set_option maxRecDepth 100000 in
theorem m_X6_ticksLeftOf_ok (l : Launch) (E : Env3) (ρ : Nat → Nat) (th rc tl pa kd nm : Int) (st hi ke tx wy : S) (hρ : dR ρ 6) (T : Int) (hI : IB T st) (r : Nat) (hr : r < 36) : Met l yX6_ticksLeftOf (Cond.code yX6_ticksLeftOf cX6_ticksLeftOf 2 (some .int) :: ALL) ({ frames := 2, cells := 0, slots := 0, locals := 42 }) (pR [.ref (ρ 0), .int (I (r : Int))] E (refW E ρ th rc tl pa kd nm st hi ke tx wy)) (qW (some (.int (I (left st (st (36 + 6 * r + 5)))))) E (refW E ρ th rc tl pa kd nm st hi ke tx wy) (refW E ρ 0 rc tl pa kd nm st hi ke tx wy)) 0 0 (adIn (refW E ρ th rc tl pa kd nm st hi ke tx wy)) := by
  refine mk_met (by decide) rfl (Nat.le_of_ble_eq_true rfl) ?_
  intro p e s m args below meth c hx hb hrt hml hts hown hlocks hnm hP hK ls hl
  have hown : s.vm.findClass RX6 = some m.cls := hown
  have hl : lv_has ls 2 [(0, .ref (ρ 0)), (1, .int (I (r : Int)))] := hl
  have hD : va_D (adIn (refW E ρ th rc tl pa kd nm st hi ke tx wy)) (refW E ρ th rc tl pa kd nm st hi ke tx wy) := D_of_dR hρ rfl
  have hS : va_S (adIn (refW E ρ th rc tl pa kd nm st hi ke tx wy)) s.heap s.heap [] := va_S.rf
  refine lv_aload_n hx hb dX6_ticksLeftOf_0 rfl (lv_lk hl rfl) ?_
  refine lv_iload_n hx hb dX6_ticksLeftOf_1 rfl (lv_lk hl rfl) ?_
  refine call_S (va_runS ⟨hx, hb, hml, hown, hts⟩ (m_X6_isRiddle l E ((r : Int)) (by omega)) (va_cwS 1 hts (gi_S ml_X6_64 st_X6_isRiddle it_X6 cd_X6_isRiddle) rfl rfl rfl (by decide +kernel) ⟨Nat.le_of_ble_eq_true rfl, Nat.le_of_ble_eq_true rfl⟩) (pR_S (hP.sub (ws' := []) [] rfl) hK) rfl rfl hl.1 rfl (lv_room (Nat.le_of_ble_eq_true rfl)) dX6_ticksLeftOf_2 ⟨Nat.le_of_ble_eq_true rfl, Nat.le_of_ble_eq_true rfl⟩) (fun _ h => h) hS rfl (fun locs hS => ?_)
  refine iv_eq (1) (by rw [if_pos (by omega)]) ?_
  refine iv_if_eq (tgt := 12) hx hb dX6_ticksLeftOf_5 (by decide) (by omega) (fun c_5 => by exfalso; omega) (fun c_5 => ?_)
  refine iv_iconst hx hb dX6_ticksLeftOf_8 ?_
  refine lv_goto (tgt := 13) hx hb dX6_ticksLeftOf_9 (by decide) ?_
  refine va_put (ci := 6) (ty := .int) hx hb hts inX6 tyX6 tyX6_ok nmX6 hown hK.1 hP (dm hD rfl) hS 0 rfl rfl 0 (by decide) (hts _ fl_X6_32) (fun _ h9 => h9) rfl (by decide +kernel) rfl rfl (Nat.le_of_ble_eq_true rfl) dX6_ticksLeftOf_13 (fun H locs hP _ hS => ?_)
  have hP : va_P E.1 vwCl (refW E ρ 0 rc tl pa kd nm st hi ke tx wy) H := hP
  refine lv_aload_n hx hb dX6_ticksLeftOf_16 rfl (lv_lk hl rfl) ?_
  refine va_get (D := E.1) (ci := 6) hx hb hts inX6 hown hK.1 hP 0 rfl rfl 0 (by decide) (hts _ fl_X6_32) (fun _ h9 => h9) rfl dX6_ticksLeftOf_17 ?_
  refine iv_if_le (tgt := 27) hx hb dX6_ticksLeftOf_20 (by decide) (by omega) (fun c_20 => ?_) (fun c_20 => by exfalso; omega)
  refine lv_aload_n hx hb dX6_ticksLeftOf_27 rfl (lv_lk hl rfl) ?_
  refine lv_aload_n hx hb dX6_ticksLeftOf_28 rfl (lv_lk hl rfl) ?_
  refine lv_iload_n hx hb dX6_ticksLeftOf_29 rfl (lv_lk hl rfl) ?_
  refine iv_iconst hx hb dX6_ticksLeftOf_30 ?_
  refine call_S (va_runV ⟨hx, hb, hml, hown, hts⟩ (m_X6_of l E ρ 0 rc tl pa kd nm st hi ke tx wy r 5 hr (by decide)) (cwV 2 hts (gi_V ml_X6_61 im_X6_of sl_X6_of it_X6 cd_X6_of) rfl rfl rfl (by decide +kernel) ⟨Nat.le_of_ble_eq_true rfl, Nat.le_of_ble_eq_true rfl⟩) (pR_V (q0 := 0) (ci := 6) hP hK rfl rfl) rfl rfl hl.1 rfl (lv_room (Nat.le_of_ble_eq_true rfl)) dX6_ticksLeftOf_31 ⟨Nat.le_of_ble_eq_true rfl, Nat.le_of_ble_eq_true rfl⟩) (fun _ h => h) hS rfl (fun locs hS => ?_)
  refine call_S (va_runV ⟨hx, hb, hml, hown, hts⟩ (m_X6_leftUntil l E ρ 0 rc tl pa kd nm st hi ke tx wy _ (by have t3 := (hI.2.2.2 r hr).2; unfold triM at t3; have := hI.1; omega)) (cwV 1 hts (gi_V ml_X6_109 im_X6_leftUntil sl_X6_leftUntil it_X6 cd_X6_leftUntil) rfl rfl rfl (by decide +kernel) ⟨Nat.le_of_ble_eq_true rfl, Nat.le_of_ble_eq_true rfl⟩) (pR_V (q0 := 0) (ci := 6) hP hK rfl rfl) rfl rfl hl.1 rfl (lv_room (Nat.le_of_ble_eq_true rfl)) dX6_ticksLeftOf_34 ⟨Nat.le_of_ble_eq_true rfl, Nat.le_of_ble_eq_true rfl⟩) (fun _ h => h) hS rfl (fun locs hS => ?_)
  exact W.iret hx hb hrt (fun t ht hW => ⟨rfl, by rw [ht]; exact hP, hS.F ht⟩) hS.2.2 dX6_ticksLeftOf_37 hlocks
set_option maxHeartbeats 4000000 in
set_option maxRecDepth 100000 in
theorem m_X6_ticksLeftOf_bad (l : Launch) (E : Env3) (ρ : Nat → Nat) (th rc tl pa kd nm : Int) (st hi ke tx wy : S) (hρ : dR ρ 6) (v : Int) (hv : -2147483648 ≤ v ∧ v ≤ 2147483647) (hv2 : ¬ (0 ≤ v ∧ v ≤ 35)) : Met l yX6_ticksLeftOf (Cond.code yX6_ticksLeftOf cX6_ticksLeftOf 2 (some .int) :: ALL) ({ frames := 2, cells := 0, slots := 0, locals := 42 }) (pR [.ref (ρ 0), .int (I v)] E (refW E ρ th rc tl pa kd nm st hi ke tx wy)) (qW (some (.int (I 0))) E (refW E ρ th rc tl pa kd nm st hi ke tx wy) (refW E ρ 1 rc tl pa kd nm st hi ke tx wy)) 0 0 (adIn (refW E ρ th rc tl pa kd nm st hi ke tx wy)) := by
  refine mk_met (by decide) rfl (Nat.le_of_ble_eq_true rfl) ?_
  intro p e s m args below meth c hx hb hrt hml hts hown hlocks hnm hP hK ls hl
  have hown : s.vm.findClass RX6 = some m.cls := hown
  have hl : lv_has ls 2 [(0, .ref (ρ 0)), (1, .int (I v))] := hl
  have hD : va_D (adIn (refW E ρ th rc tl pa kd nm st hi ke tx wy)) (refW E ρ th rc tl pa kd nm st hi ke tx wy) := D_of_dR hρ rfl
  have hS : va_S (adIn (refW E ρ th rc tl pa kd nm st hi ke tx wy)) s.heap s.heap [] := va_S.rf
  refine lv_aload_n hx hb dX6_ticksLeftOf_0 rfl (lv_lk hl rfl) ?_
  refine lv_iload_n hx hb dX6_ticksLeftOf_1 rfl (lv_lk hl rfl) ?_
  refine call_S (va_runS ⟨hx, hb, hml, hown, hts⟩ (m_X6_isRiddle l E v (by omega)) (va_cwS 1 hts (gi_S ml_X6_64 st_X6_isRiddle it_X6 cd_X6_isRiddle) rfl rfl rfl (by decide +kernel) ⟨Nat.le_of_ble_eq_true rfl, Nat.le_of_ble_eq_true rfl⟩) (pR_S (hP.sub (ws' := []) [] rfl) hK) rfl rfl hl.1 rfl (lv_room (Nat.le_of_ble_eq_true rfl)) dX6_ticksLeftOf_2 ⟨Nat.le_of_ble_eq_true rfl, Nat.le_of_ble_eq_true rfl⟩) (fun _ h => h) hS rfl (fun locs hS => ?_)
  refine iv_eq (0) (by rw [if_neg (by omega)]) ?_
  refine iv_if_eq (tgt := 12) hx hb dX6_ticksLeftOf_5 (by decide) (by omega) (fun c_5 => ?_) (fun c_5 => by exfalso; omega)
  refine iv_iconst hx hb dX6_ticksLeftOf_12 ?_
  refine va_put (ci := 6) (ty := .int) hx hb hts inX6 tyX6 tyX6_ok nmX6 hown hK.1 hP (dm hD rfl) hS 0 rfl rfl 0 (by decide) (hts _ fl_X6_32) (fun _ h9 => h9) rfl (by decide +kernel) rfl rfl (Nat.le_of_ble_eq_true rfl) dX6_ticksLeftOf_13 (fun H locs hP _ hS => ?_)
  have hP : va_P E.1 vwCl (refW E ρ 1 rc tl pa kd nm st hi ke tx wy) H := hP
  refine lv_aload_n hx hb dX6_ticksLeftOf_16 rfl (lv_lk hl rfl) ?_
  refine va_get (D := E.1) (ci := 6) hx hb hts inX6 hown hK.1 hP 0 rfl rfl 0 (by decide) (hts _ fl_X6_32) (fun _ h9 => h9) rfl dX6_ticksLeftOf_17 ?_
  refine iv_if_le (tgt := 27) hx hb dX6_ticksLeftOf_20 (by decide) (by omega) (fun c_20 => by exfalso; omega) (fun c_20 => ?_)
  refine iv_iconst hx hb dX6_ticksLeftOf_23 ?_
  refine lv_goto (tgt := 37) hx hb dX6_ticksLeftOf_24 (by decide) ?_
  exact W.iret hx hb hrt (fun t ht hW => ⟨rfl, by rw [ht]; exact hP, hS.F ht⟩) hS.2.2 dX6_ticksLeftOf_37 hlocks
set_option maxHeartbeats 4000000 in
set_option maxRecDepth 100000 in
theorem m_X6_referralLeft_ok (l : Launch) (E : Env3) (ρ : Nat → Nat) (th rc tl pa kd nm : Int) (st hi ke tx wy : S) (hρ : dR ρ 6) (T : Int) (hI : IB T st) (z : Nat) (hz : z < 6) : Met l yX6_referralLeft (Cond.code yX6_referralLeft cX6_referralLeft 2 (some .int) :: ALL) ({ frames := 2, cells := 0, slots := 0, locals := 42 }) (pR [.ref (ρ 0), .int (I (z : Int))] E (refW E ρ th rc tl pa kd nm st hi ke tx wy)) (qW (some (.int (I (left st (st (6 + 5 * z + 3)))))) E (refW E ρ th rc tl pa kd nm st hi ke tx wy) (refW E ρ 0 rc tl pa kd nm st hi ke tx wy)) 0 0 (adIn (refW E ρ th rc tl pa kd nm st hi ke tx wy)) := by
  refine mk_met (by decide) rfl (Nat.le_of_ble_eq_true rfl) ?_
  intro p e s m args below meth c hx hb hrt hml hts hown hlocks hnm hP hK ls hl
  have hown : s.vm.findClass RX6 = some m.cls := hown
  have hl : lv_has ls 2 [(0, .ref (ρ 0)), (1, .int (I (z : Int)))] := hl
  have hD : va_D (adIn (refW E ρ th rc tl pa kd nm st hi ke tx wy)) (refW E ρ th rc tl pa kd nm st hi ke tx wy) := D_of_dR hρ rfl
  have hS : va_S (adIn (refW E ρ th rc tl pa kd nm st hi ke tx wy)) s.heap s.heap [] := va_S.rf
  refine lv_aload_n hx hb dX6_referralLeft_0 rfl (lv_lk hl rfl) ?_
  refine lv_iload_n hx hb dX6_referralLeft_1 rfl (lv_lk hl rfl) ?_
  refine call_S (va_runS ⟨hx, hb, hml, hown, hts⟩ (m_X6_isZone l E ((z : Int)) (by omega)) (va_cwS 1 hts (gi_S ml_X6_54 st_X6_isZone it_X6 cd_X6_isZone) rfl rfl rfl (by decide +kernel) ⟨Nat.le_of_ble_eq_true rfl, Nat.le_of_ble_eq_true rfl⟩) (pR_S (hP.sub (ws' := []) [] rfl) hK) rfl rfl hl.1 rfl (lv_room (Nat.le_of_ble_eq_true rfl)) dX6_referralLeft_2 ⟨Nat.le_of_ble_eq_true rfl, Nat.le_of_ble_eq_true rfl⟩) (fun _ h => h) hS rfl (fun locs hS => ?_)
  refine iv_eq (1) (by rw [if_pos (by omega)]) ?_
  refine iv_if_eq (tgt := 12) hx hb dX6_referralLeft_5 (by decide) (by omega) (fun c_5 => by exfalso; omega) (fun c_5 => ?_)
  refine iv_iconst hx hb dX6_referralLeft_8 ?_
  refine lv_goto (tgt := 13) hx hb dX6_referralLeft_9 (by decide) ?_
  refine va_put (ci := 6) (ty := .int) hx hb hts inX6 tyX6 tyX6_ok nmX6 hown hK.1 hP (dm hD rfl) hS 0 rfl rfl 0 (by decide) (hts _ fl_X6_32) (fun _ h9 => h9) rfl (by decide +kernel) rfl rfl (Nat.le_of_ble_eq_true rfl) dX6_referralLeft_13 (fun H locs hP _ hS => ?_)
  have hP : va_P E.1 vwCl (refW E ρ 0 rc tl pa kd nm st hi ke tx wy) H := hP
  refine lv_aload_n hx hb dX6_referralLeft_16 rfl (lv_lk hl rfl) ?_
  refine va_get (D := E.1) (ci := 6) hx hb hts inX6 hown hK.1 hP 0 rfl rfl 0 (by decide) (hts _ fl_X6_32) (fun _ h9 => h9) rfl dX6_referralLeft_17 ?_
  refine iv_if_le (tgt := 27) hx hb dX6_referralLeft_20 (by decide) (by omega) (fun c_20 => ?_) (fun c_20 => by exfalso; omega)
  refine lv_aload_n hx hb dX6_referralLeft_27 rfl (lv_lk hl rfl) ?_
  refine lv_aload_n hx hb dX6_referralLeft_28 rfl (lv_lk hl rfl) ?_
  refine lv_iload_n hx hb dX6_referralLeft_29 rfl (lv_lk hl rfl) ?_
  refine iv_iconst hx hb dX6_referralLeft_30 ?_
  refine call_S (va_runV ⟨hx, hb, hml, hown, hts⟩ (m_X6_ofZone l E ρ 0 rc tl pa kd nm st hi ke tx wy z 3 hz (by decide)) (cwV 2 hts (gi_V ml_X6_50 im_X6_ofZone sl_X6_ofZone it_X6 cd_X6_ofZone) rfl rfl rfl (by decide +kernel) ⟨Nat.le_of_ble_eq_true rfl, Nat.le_of_ble_eq_true rfl⟩) (pR_V (q0 := 0) (ci := 6) hP hK rfl rfl) rfl rfl hl.1 rfl (lv_room (Nat.le_of_ble_eq_true rfl)) dX6_referralLeft_31 ⟨Nat.le_of_ble_eq_true rfl, Nat.le_of_ble_eq_true rfl⟩) (fun _ h => h) hS rfl (fun locs hS => ?_)
  refine call_S (va_runV ⟨hx, hb, hml, hown, hts⟩ (m_X6_leftUntil l E ρ 0 rc tl pa kd nm st hi ke tx wy _ (by have t3 := (hI.2.2.1 z hz).2.2.2.2.2; have := hI.1; omega)) (cwV 1 hts (gi_V ml_X6_109 im_X6_leftUntil sl_X6_leftUntil it_X6 cd_X6_leftUntil) rfl rfl rfl (by decide +kernel) ⟨Nat.le_of_ble_eq_true rfl, Nat.le_of_ble_eq_true rfl⟩) (pR_V (q0 := 0) (ci := 6) hP hK rfl rfl) rfl rfl hl.1 rfl (lv_room (Nat.le_of_ble_eq_true rfl)) dX6_referralLeft_34 ⟨Nat.le_of_ble_eq_true rfl, Nat.le_of_ble_eq_true rfl⟩) (fun _ h => h) hS rfl (fun locs hS => ?_)
  exact W.iret hx hb hrt (fun t ht hW => ⟨rfl, by rw [ht]; exact hP, hS.F ht⟩) hS.2.2 dX6_referralLeft_37 hlocks
set_option maxHeartbeats 4000000 in
set_option maxRecDepth 100000 in
theorem m_X6_referralLeft_bad (l : Launch) (E : Env3) (ρ : Nat → Nat) (th rc tl pa kd nm : Int) (st hi ke tx wy : S) (hρ : dR ρ 6) (v : Int) (hv : -2147483648 ≤ v ∧ v ≤ 2147483647) (hv2 : ¬ (0 ≤ v ∧ v ≤ 5)) : Met l yX6_referralLeft (Cond.code yX6_referralLeft cX6_referralLeft 2 (some .int) :: ALL) ({ frames := 2, cells := 0, slots := 0, locals := 42 }) (pR [.ref (ρ 0), .int (I v)] E (refW E ρ th rc tl pa kd nm st hi ke tx wy)) (qW (some (.int (I 0))) E (refW E ρ th rc tl pa kd nm st hi ke tx wy) (refW E ρ 1 rc tl pa kd nm st hi ke tx wy)) 0 0 (adIn (refW E ρ th rc tl pa kd nm st hi ke tx wy)) := by
  refine mk_met (by decide) rfl (Nat.le_of_ble_eq_true rfl) ?_
  intro p e s m args below meth c hx hb hrt hml hts hown hlocks hnm hP hK ls hl
  have hown : s.vm.findClass RX6 = some m.cls := hown
  have hl : lv_has ls 2 [(0, .ref (ρ 0)), (1, .int (I v))] := hl
  have hD : va_D (adIn (refW E ρ th rc tl pa kd nm st hi ke tx wy)) (refW E ρ th rc tl pa kd nm st hi ke tx wy) := D_of_dR hρ rfl
  have hS : va_S (adIn (refW E ρ th rc tl pa kd nm st hi ke tx wy)) s.heap s.heap [] := va_S.rf
  refine lv_aload_n hx hb dX6_referralLeft_0 rfl (lv_lk hl rfl) ?_
  refine lv_iload_n hx hb dX6_referralLeft_1 rfl (lv_lk hl rfl) ?_
  refine call_S (va_runS ⟨hx, hb, hml, hown, hts⟩ (m_X6_isZone l E v (by omega)) (va_cwS 1 hts (gi_S ml_X6_54 st_X6_isZone it_X6 cd_X6_isZone) rfl rfl rfl (by decide +kernel) ⟨Nat.le_of_ble_eq_true rfl, Nat.le_of_ble_eq_true rfl⟩) (pR_S (hP.sub (ws' := []) [] rfl) hK) rfl rfl hl.1 rfl (lv_room (Nat.le_of_ble_eq_true rfl)) dX6_referralLeft_2 ⟨Nat.le_of_ble_eq_true rfl, Nat.le_of_ble_eq_true rfl⟩) (fun _ h => h) hS rfl (fun locs hS => ?_)
  refine iv_eq (0) (by rw [if_neg (by omega)]) ?_
  refine iv_if_eq (tgt := 12) hx hb dX6_referralLeft_5 (by decide) (by omega) (fun c_5 => ?_) (fun c_5 => by exfalso; omega)
  refine iv_iconst hx hb dX6_referralLeft_12 ?_
  refine va_put (ci := 6) (ty := .int) hx hb hts inX6 tyX6 tyX6_ok nmX6 hown hK.1 hP (dm hD rfl) hS 0 rfl rfl 0 (by decide) (hts _ fl_X6_32) (fun _ h9 => h9) rfl (by decide +kernel) rfl rfl (Nat.le_of_ble_eq_true rfl) dX6_referralLeft_13 (fun H locs hP _ hS => ?_)
  have hP : va_P E.1 vwCl (refW E ρ 1 rc tl pa kd nm st hi ke tx wy) H := hP
  refine lv_aload_n hx hb dX6_referralLeft_16 rfl (lv_lk hl rfl) ?_
  refine va_get (D := E.1) (ci := 6) hx hb hts inX6 hown hK.1 hP 0 rfl rfl 0 (by decide) (hts _ fl_X6_32) (fun _ h9 => h9) rfl dX6_referralLeft_17 ?_
  refine iv_if_le (tgt := 27) hx hb dX6_referralLeft_20 (by decide) (by omega) (fun c_20 => by exfalso; omega) (fun c_20 => ?_)
  refine iv_iconst hx hb dX6_referralLeft_23 ?_
  refine lv_goto (tgt := 37) hx hb dX6_referralLeft_24 (by decide) ?_
  exact W.iret hx hb hrt (fun t ht hW => ⟨rfl, by rw [ht]; exact hP, hS.F ht⟩) hS.2.2 dX6_referralLeft_37 hlocks
set_option maxHeartbeats 4000000 in
set_option maxRecDepth 100000 in
theorem m_X6_isOutOfDate_ok (l : Launch) (E : Env3) (ρ : Nat → Nat) (th rc tl pa kd nm : Int) (st hi ke tx wy : S) (hρ : dR ρ 6) (T : Int) (hI : IB T st) (r : Nat) (hr : r < 36) : Met l yX6_isOutOfDate (Cond.code yX6_isOutOfDate cX6_isOutOfDate 2 (some .boolean) :: ALL) ({ frames := 2, cells := 0, slots := 0, locals := 45 }) (pR [.ref (ρ 0), .int (I (r : Int))] E (refW E ρ th rc tl pa kd nm st hi ke tx wy)) (qW (some (.int (I (oldI st r)))) E (refW E ρ th rc tl pa kd nm st hi ke tx wy) (refW E ρ 0 rc tl pa kd nm st hi ke tx wy)) 0 0 (adIn (refW E ρ th rc tl pa kd nm st hi ke tx wy)) := by
  refine mk_met (by decide) rfl (Nat.le_of_ble_eq_true rfl) ?_
  intro p e s m args below meth c hx hb hrt hml hts hown hlocks hnm hP hK ls hl
  have hown : s.vm.findClass RX6 = some m.cls := hown
  have hl : lv_has ls 2 [(0, .ref (ρ 0)), (1, .int (I (r : Int)))] := hl
  have hD : va_D (adIn (refW E ρ th rc tl pa kd nm st hi ke tx wy)) (refW E ρ th rc tl pa kd nm st hi ke tx wy) := D_of_dR hρ rfl
  have hS : va_S (adIn (refW E ρ th rc tl pa kd nm st hi ke tx wy)) s.heap s.heap [] := va_S.rf
  have hq9 := old_01 st r
  refine lv_aload_n hx hb dX6_isOutOfDate_0 rfl (lv_lk hl rfl) ?_
  refine lv_iload_n hx hb dX6_isOutOfDate_1 rfl (lv_lk hl rfl) ?_
  refine call_S (va_runS ⟨hx, hb, hml, hown, hts⟩ (m_X6_isRiddle l E ((r : Int)) (by omega)) (va_cwS 1 hts (gi_S ml_X6_64 st_X6_isRiddle it_X6 cd_X6_isRiddle) rfl rfl rfl (by decide +kernel) ⟨Nat.le_of_ble_eq_true rfl, Nat.le_of_ble_eq_true rfl⟩) (pR_S (hP.sub (ws' := []) [] rfl) hK) rfl rfl hl.1 rfl (lv_room (Nat.le_of_ble_eq_true rfl)) dX6_isOutOfDate_2 ⟨Nat.le_of_ble_eq_true rfl, Nat.le_of_ble_eq_true rfl⟩) (fun _ h => h) hS rfl (fun locs hS => ?_)
  refine iv_eq (1) (by rw [if_pos (by omega)]) ?_
  refine iv_if_eq (tgt := 12) hx hb dX6_isOutOfDate_5 (by decide) (by omega) (fun c_5 => by exfalso; omega) (fun c_5 => ?_)
  refine iv_iconst hx hb dX6_isOutOfDate_8 ?_
  refine lv_goto (tgt := 13) hx hb dX6_isOutOfDate_9 (by decide) ?_
  refine va_put (ci := 6) (ty := .int) hx hb hts inX6 tyX6 tyX6_ok nmX6 hown hK.1 hP (dm hD rfl) hS 0 rfl rfl 0 (by decide) (hts _ fl_X6_32) (fun _ h9 => h9) rfl (by decide +kernel) rfl rfl (Nat.le_of_ble_eq_true rfl) dX6_isOutOfDate_13 (fun H locs hP _ hS => ?_)
  have hP : va_P E.1 vwCl (refW E ρ 0 rc tl pa kd nm st hi ke tx wy) H := hP
  refine lv_aload_n hx hb dX6_isOutOfDate_16 rfl (lv_lk hl rfl) ?_
  refine va_get (D := E.1) (ci := 6) hx hb hts inX6 hown hK.1 hP 0 rfl rfl 0 (by decide) (hts _ fl_X6_32) (fun _ h9 => h9) rfl dX6_isOutOfDate_17 ?_
  refine iv_if_ne (tgt := 35) hx hb dX6_isOutOfDate_20 (by decide) (by omega) (fun c_20 => by exfalso; omega) (fun c_20 => ?_)
  refine lv_aload_n hx hb dX6_isOutOfDate_23 rfl (lv_lk hl rfl) ?_
  refine lv_iload_n hx hb dX6_isOutOfDate_24 rfl (lv_lk hl rfl) ?_
  refine call_S (va_runV ⟨hx, hb, hml, hown, hts⟩ (m_X6_isOld l E ρ 0 rc tl pa kd nm st hi ke tx wy T hI r hr) (cwV 1 hts (gi_V ml_X6_122 im_X6_isOld sl_X6_isOld it_X6 cd_X6_isOld) rfl rfl rfl (by decide +kernel) ⟨Nat.le_of_ble_eq_true rfl, Nat.le_of_ble_eq_true rfl⟩) (pR_V (q0 := 0) (ci := 6) hP hK rfl rfl) rfl rfl hl.1 rfl (lv_room (Nat.le_of_ble_eq_true rfl)) dX6_isOutOfDate_25 ⟨Nat.le_of_ble_eq_true rfl, Nat.le_of_ble_eq_true rfl⟩) (fun _ h => h) hS rfl (fun locs hS => ?_)
  refine iv_if_eq (tgt := 35) hx hb dX6_isOutOfDate_28 (by decide) (by omega) (fun c_28 => ?_) (fun c_28 => ?_)
  · refine iv_iconst hx hb dX6_isOutOfDate_35 ?_
    refine iv_eq (oldI st r) (by omega) ?_
    exact W.zret (ty := .boolean) hx hb hrt old_nar (fun t ht hW => ⟨rfl, by rw [ht]; exact hP, hS.F ht⟩) hS.2.2 dX6_isOutOfDate_36 hlocks
  · refine iv_iconst hx hb dX6_isOutOfDate_31 ?_
    refine lv_goto (tgt := 36) hx hb dX6_isOutOfDate_32 (by decide) ?_
    refine iv_eq (oldI st r) (by omega) ?_
    exact W.zret (ty := .boolean) hx hb hrt old_nar (fun t ht hW => ⟨rfl, by rw [ht]; exact hP, hS.F ht⟩) hS.2.2 dX6_isOutOfDate_36 hlocks
set_option maxHeartbeats 4000000 in
set_option maxRecDepth 100000 in
theorem m_X6_isOutOfDate_bad (l : Launch) (E : Env3) (ρ : Nat → Nat) (th rc tl pa kd nm : Int) (st hi ke tx wy : S) (hρ : dR ρ 6) (v : Int) (hv : -2147483648 ≤ v ∧ v ≤ 2147483647) (hv2 : ¬ (0 ≤ v ∧ v ≤ 35)) : Met l yX6_isOutOfDate (Cond.code yX6_isOutOfDate cX6_isOutOfDate 2 (some .boolean) :: ALL) ({ frames := 2, cells := 0, slots := 0, locals := 45 }) (pR [.ref (ρ 0), .int (I v)] E (refW E ρ th rc tl pa kd nm st hi ke tx wy)) (qW (some (.int (I 0))) E (refW E ρ th rc tl pa kd nm st hi ke tx wy) (refW E ρ 1 rc tl pa kd nm st hi ke tx wy)) 0 0 (adIn (refW E ρ th rc tl pa kd nm st hi ke tx wy)) := by
  refine mk_met (by decide) rfl (Nat.le_of_ble_eq_true rfl) ?_
  intro p e s m args below meth c hx hb hrt hml hts hown hlocks hnm hP hK ls hl
  have hown : s.vm.findClass RX6 = some m.cls := hown
  have hl : lv_has ls 2 [(0, .ref (ρ 0)), (1, .int (I v))] := hl
  have hD : va_D (adIn (refW E ρ th rc tl pa kd nm st hi ke tx wy)) (refW E ρ th rc tl pa kd nm st hi ke tx wy) := D_of_dR hρ rfl
  have hS : va_S (adIn (refW E ρ th rc tl pa kd nm st hi ke tx wy)) s.heap s.heap [] := va_S.rf
  refine lv_aload_n hx hb dX6_isOutOfDate_0 rfl (lv_lk hl rfl) ?_
  refine lv_iload_n hx hb dX6_isOutOfDate_1 rfl (lv_lk hl rfl) ?_
  refine call_S (va_runS ⟨hx, hb, hml, hown, hts⟩ (m_X6_isRiddle l E v (by omega)) (va_cwS 1 hts (gi_S ml_X6_64 st_X6_isRiddle it_X6 cd_X6_isRiddle) rfl rfl rfl (by decide +kernel) ⟨Nat.le_of_ble_eq_true rfl, Nat.le_of_ble_eq_true rfl⟩) (pR_S (hP.sub (ws' := []) [] rfl) hK) rfl rfl hl.1 rfl (lv_room (Nat.le_of_ble_eq_true rfl)) dX6_isOutOfDate_2 ⟨Nat.le_of_ble_eq_true rfl, Nat.le_of_ble_eq_true rfl⟩) (fun _ h => h) hS rfl (fun locs hS => ?_)
  refine iv_eq (0) (by rw [if_neg (by omega)]) ?_
  refine iv_if_eq (tgt := 12) hx hb dX6_isOutOfDate_5 (by decide) (by omega) (fun c_5 => ?_) (fun c_5 => by exfalso; omega)
  refine iv_iconst hx hb dX6_isOutOfDate_12 ?_
  refine va_put (ci := 6) (ty := .int) hx hb hts inX6 tyX6 tyX6_ok nmX6 hown hK.1 hP (dm hD rfl) hS 0 rfl rfl 0 (by decide) (hts _ fl_X6_32) (fun _ h9 => h9) rfl (by decide +kernel) rfl rfl (Nat.le_of_ble_eq_true rfl) dX6_isOutOfDate_13 (fun H locs hP _ hS => ?_)
  have hP : va_P E.1 vwCl (refW E ρ 1 rc tl pa kd nm st hi ke tx wy) H := hP
  refine lv_aload_n hx hb dX6_isOutOfDate_16 rfl (lv_lk hl rfl) ?_
  refine va_get (D := E.1) (ci := 6) hx hb hts inX6 hown hK.1 hP 0 rfl rfl 0 (by decide) (hts _ fl_X6_32) (fun _ h9 => h9) rfl dX6_isOutOfDate_17 ?_
  refine iv_if_ne (tgt := 35) hx hb dX6_isOutOfDate_20 (by decide) (by omega) (fun c_20 => ?_) (fun c_20 => by exfalso; omega)
  refine iv_iconst hx hb dX6_isOutOfDate_35 ?_
  exact W.zret (ty := .boolean) hx hb hrt (by rfl) (fun t ht hW => ⟨rfl, by rw [ht]; exact hP, hS.F ht⟩) hS.2.2 dX6_isOutOfDate_36 hlocks
set_option maxHeartbeats 4000000 in
set_option maxRecDepth 100000 in
theorem m_X6_wouldSolve_ok (l : Launch) (E : Env3) (ρ : Nat → Nat) (th rc tl pa kd nm : Int) (st hi ke tx wy : S) (hρ : dR ρ 6) (T : Int) (hI : IB T st) (r : Nat) (hr : r < 36) : Met l yX6_wouldSolve (Cond.code yX6_wouldSolve cX6_wouldSolve 2 (some .int) :: ALL) ({ frames := 6, cells := 0, slots := 0, locals := 136 }) (pR [.ref (ρ 0), .int (I (r : Int))] E (refW E ρ th rc tl pa kd nm st hi ke tx wy)) (qX (some (.int (I (would st r)))) E (refW E ρ th rc tl pa kd nm st hi ke tx wy) (fun (g : S × S) => (refW E ρ 0 rc tl pa kd nm st hi g.1 tx g.2))) 0 0 (adIn (refW E ρ th rc tl pa kd nm st hi ke tx wy)) := by
  refine mk_met (by decide) rfl (Nat.le_of_ble_eq_true rfl) ?_
  intro p e s m args below meth c hx hb hrt hml hts hown hlocks hnm hP hK ls hl
  have hown : s.vm.findClass RX6 = some m.cls := hown
  have hl : lv_has ls 2 [(0, .ref (ρ 0)), (1, .int (I (r : Int)))] := hl
  have hD : va_D (adIn (refW E ρ th rc tl pa kd nm st hi ke tx wy)) (refW E ρ th rc tl pa kd nm st hi ke tx wy) := D_of_dR hρ rfl
  have hS : va_S (adIn (refW E ρ th rc tl pa kd nm st hi ke tx wy)) s.heap s.heap [] := va_S.rf
  refine lv_aload_n hx hb dX6_wouldSolve_0 rfl (lv_lk hl rfl) ?_
  refine lv_iload_n hx hb dX6_wouldSolve_1 rfl (lv_lk hl rfl) ?_
  refine call_S (va_runS ⟨hx, hb, hml, hown, hts⟩ (m_X6_isRiddle l E ((r : Int)) (by omega)) (va_cwS 1 hts (gi_S ml_X6_64 st_X6_isRiddle it_X6 cd_X6_isRiddle) rfl rfl rfl (by decide +kernel) ⟨Nat.le_of_ble_eq_true rfl, Nat.le_of_ble_eq_true rfl⟩) (pR_S (hP.sub (ws' := []) [] rfl) hK) rfl rfl hl.1 rfl (lv_room (Nat.le_of_ble_eq_true rfl)) dX6_wouldSolve_2 ⟨Nat.le_of_ble_eq_true rfl, Nat.le_of_ble_eq_true rfl⟩) (fun _ h => h) hS rfl (fun locs hS => ?_)
  refine iv_eq (1) (by rw [if_pos (by omega)]) ?_
  refine iv_if_eq (tgt := 12) hx hb dX6_wouldSolve_5 (by decide) (by omega) (fun c_5 => by exfalso; omega) (fun c_5 => ?_)
  refine iv_iconst hx hb dX6_wouldSolve_8 ?_
  refine lv_goto (tgt := 13) hx hb dX6_wouldSolve_9 (by decide) ?_
  refine va_put (ci := 6) (ty := .int) hx hb hts inX6 tyX6 tyX6_ok nmX6 hown hK.1 hP (dm hD rfl) hS 0 rfl rfl 0 (by decide) (hts _ fl_X6_32) (fun _ h9 => h9) rfl (by decide +kernel) rfl rfl (Nat.le_of_ble_eq_true rfl) dX6_wouldSolve_13 (fun H locs hP _ hS => ?_)
  have hP : va_P E.1 vwCl (refW E ρ 0 rc tl pa kd nm st hi ke tx wy) H := hP
  refine lv_aload_n hx hb dX6_wouldSolve_16 rfl (lv_lk hl rfl) ?_
  refine va_get (D := E.1) (ci := 6) hx hb hts inX6 hown hK.1 hP 0 rfl rfl 0 (by decide) (hts _ fl_X6_32) (fun _ h9 => h9) rfl dX6_wouldSolve_17 ?_
  refine iv_if_le (tgt := 27) hx hb dX6_wouldSolve_20 (by decide) (by omega) (fun c_20 => ?_) (fun c_20 => by exfalso; omega)
  refine lv_aload_n hx hb dX6_wouldSolve_27 rfl (lv_lk hl rfl) ?_
  refine lv_iload_n hx hb dX6_wouldSolve_28 rfl (lv_lk hl rfl) ?_
  refine call_X (va_runV ⟨hx, hb, hml, hown, hts⟩ (m_X6_would l E ρ 0 rc tl pa kd nm st hi ke tx wy hρ T hI r hr) (cwV 1 hts (gi_V ml_X6_125 im_X6_would sl_X6_would it_X6 cd_X6_would) rfl rfl rfl (by decide +kernel) ⟨Nat.le_of_ble_eq_true rfl, Nat.le_of_ble_eq_true rfl⟩) (pR_V (q0 := 0) (ci := 6) hP hK rfl rfl) rfl rfl hl.1 rfl (lv_room (Nat.le_of_ble_eq_true rfl)) dX6_wouldSolve_29 ⟨Nat.le_of_ble_eq_true rfl, Nat.le_of_ble_eq_true rfl⟩) (dm hD rfl) hS rfl (fun g1 H locs hP hS => ?_)
  have hP : va_P E.1 vwCl (refW E ρ 0 rc tl pa kd nm st hi g1.1 tx g1.2) H := hP
  exact W.iret hx hb hrt (fun t ht hW => ⟨rfl, ⟨(g1.1, g1.2), by rw [ht]; exact hP⟩, hS.F ht⟩) hS.2.2 dX6_wouldSolve_32 hlocks
set_option maxHeartbeats 4000000 in
set_option maxRecDepth 100000 in
theorem m_X6_wouldSolve_bad (l : Launch) (E : Env3) (ρ : Nat → Nat) (th rc tl pa kd nm : Int) (st hi ke tx wy : S) (hρ : dR ρ 6) (v : Int) (hv : -2147483648 ≤ v ∧ v ≤ 2147483647) (hv2 : ¬ (0 ≤ v ∧ v ≤ 35)) : Met l yX6_wouldSolve (Cond.code yX6_wouldSolve cX6_wouldSolve 2 (some .int) :: ALL) ({ frames := 6, cells := 0, slots := 0, locals := 136 }) (pR [.ref (ρ 0), .int (I v)] E (refW E ρ th rc tl pa kd nm st hi ke tx wy)) (qW (some (.int (I 0))) E (refW E ρ th rc tl pa kd nm st hi ke tx wy) (refW E ρ 1 rc tl pa kd nm st hi ke tx wy)) 0 0 (adIn (refW E ρ th rc tl pa kd nm st hi ke tx wy)) := by
  refine mk_met (by decide) rfl (Nat.le_of_ble_eq_true rfl) ?_
  intro p e s m args below meth c hx hb hrt hml hts hown hlocks hnm hP hK ls hl
  have hown : s.vm.findClass RX6 = some m.cls := hown
  have hl : lv_has ls 2 [(0, .ref (ρ 0)), (1, .int (I v))] := hl
  have hD : va_D (adIn (refW E ρ th rc tl pa kd nm st hi ke tx wy)) (refW E ρ th rc tl pa kd nm st hi ke tx wy) := D_of_dR hρ rfl
  have hS : va_S (adIn (refW E ρ th rc tl pa kd nm st hi ke tx wy)) s.heap s.heap [] := va_S.rf
  refine lv_aload_n hx hb dX6_wouldSolve_0 rfl (lv_lk hl rfl) ?_
  refine lv_iload_n hx hb dX6_wouldSolve_1 rfl (lv_lk hl rfl) ?_
  refine call_S (va_runS ⟨hx, hb, hml, hown, hts⟩ (m_X6_isRiddle l E v (by omega)) (va_cwS 1 hts (gi_S ml_X6_64 st_X6_isRiddle it_X6 cd_X6_isRiddle) rfl rfl rfl (by decide +kernel) ⟨Nat.le_of_ble_eq_true rfl, Nat.le_of_ble_eq_true rfl⟩) (pR_S (hP.sub (ws' := []) [] rfl) hK) rfl rfl hl.1 rfl (lv_room (Nat.le_of_ble_eq_true rfl)) dX6_wouldSolve_2 ⟨Nat.le_of_ble_eq_true rfl, Nat.le_of_ble_eq_true rfl⟩) (fun _ h => h) hS rfl (fun locs hS => ?_)
  refine iv_eq (0) (by rw [if_neg (by omega)]) ?_
  refine iv_if_eq (tgt := 12) hx hb dX6_wouldSolve_5 (by decide) (by omega) (fun c_5 => ?_) (fun c_5 => by exfalso; omega)
  refine iv_iconst hx hb dX6_wouldSolve_12 ?_
  refine va_put (ci := 6) (ty := .int) hx hb hts inX6 tyX6 tyX6_ok nmX6 hown hK.1 hP (dm hD rfl) hS 0 rfl rfl 0 (by decide) (hts _ fl_X6_32) (fun _ h9 => h9) rfl (by decide +kernel) rfl rfl (Nat.le_of_ble_eq_true rfl) dX6_wouldSolve_13 (fun H locs hP _ hS => ?_)
  have hP : va_P E.1 vwCl (refW E ρ 1 rc tl pa kd nm st hi ke tx wy) H := hP
  refine lv_aload_n hx hb dX6_wouldSolve_16 rfl (lv_lk hl rfl) ?_
  refine va_get (D := E.1) (ci := 6) hx hb hts inX6 hown hK.1 hP 0 rfl rfl 0 (by decide) (hts _ fl_X6_32) (fun _ h9 => h9) rfl dX6_wouldSolve_17 ?_
  refine iv_if_le (tgt := 27) hx hb dX6_wouldSolve_20 (by decide) (by omega) (fun c_20 => by exfalso; omega) (fun c_20 => ?_)
  refine iv_iconst hx hb dX6_wouldSolve_23 ?_
  refine lv_goto (tgt := 32) hx hb dX6_wouldSolve_24 (by decide) ?_
  exact W.iret hx hb hrt (fun t ht hW => ⟨rfl, by rw [ht]; exact hP, hS.F ht⟩) hS.2.2 dX6_wouldSolve_32 hlocks
set_option maxHeartbeats 4000000 in
set_option maxRecDepth 100000 in
theorem m_X6_costOf_ok (l : Launch) (E : Env3) (ρ : Nat → Nat) (th rc tl pa kd nm : Int) (st hi ke tx wy : S) (hρ : dR ρ 6) (T : Int) (hI : IB T st) (r : Nat) (hr : r < 36) : Met l yX6_costOf (Cond.code yX6_costOf cX6_costOf 2 (some .int) :: ALL) ({ frames := 6, cells := 0, slots := 0, locals := 136 }) (pR [.ref (ρ 0), .int (I (r : Int))] E (refW E ρ th rc tl pa kd nm st hi ke tx wy)) (qX (some (.int (I (cost st r)))) E (refW E ρ th rc tl pa kd nm st hi ke tx wy) (fun (g : S × S) => (refW E ρ 0 rc tl pa kd nm st hi g.1 tx g.2))) 0 0 (adIn (refW E ρ th rc tl pa kd nm st hi ke tx wy)) := by
  refine mk_met (by decide) rfl (Nat.le_of_ble_eq_true rfl) ?_
  intro p e s m args below meth c hx hb hrt hml hts hown hlocks hnm hP hK ls hl
  have hown : s.vm.findClass RX6 = some m.cls := hown
  have hl : lv_has ls 2 [(0, .ref (ρ 0)), (1, .int (I (r : Int)))] := hl
  have hD : va_D (adIn (refW E ρ th rc tl pa kd nm st hi ke tx wy)) (refW E ρ th rc tl pa kd nm st hi ke tx wy) := D_of_dR hρ rfl
  have hS : va_S (adIn (refW E ρ th rc tl pa kd nm st hi ke tx wy)) s.heap s.heap [] := va_S.rf
  refine lv_aload_n hx hb dX6_costOf_0 rfl (lv_lk hl rfl) ?_
  refine lv_iload_n hx hb dX6_costOf_1 rfl (lv_lk hl rfl) ?_
  refine call_S (va_runS ⟨hx, hb, hml, hown, hts⟩ (m_X6_isRiddle l E ((r : Int)) (by omega)) (va_cwS 1 hts (gi_S ml_X6_64 st_X6_isRiddle it_X6 cd_X6_isRiddle) rfl rfl rfl (by decide +kernel) ⟨Nat.le_of_ble_eq_true rfl, Nat.le_of_ble_eq_true rfl⟩) (pR_S (hP.sub (ws' := []) [] rfl) hK) rfl rfl hl.1 rfl (lv_room (Nat.le_of_ble_eq_true rfl)) dX6_costOf_2 ⟨Nat.le_of_ble_eq_true rfl, Nat.le_of_ble_eq_true rfl⟩) (fun _ h => h) hS rfl (fun locs hS => ?_)
  refine iv_eq (1) (by rw [if_pos (by omega)]) ?_
  refine iv_if_eq (tgt := 12) hx hb dX6_costOf_5 (by decide) (by omega) (fun c_5 => by exfalso; omega) (fun c_5 => ?_)
  refine iv_iconst hx hb dX6_costOf_8 ?_
  refine lv_goto (tgt := 13) hx hb dX6_costOf_9 (by decide) ?_
  refine va_put (ci := 6) (ty := .int) hx hb hts inX6 tyX6 tyX6_ok nmX6 hown hK.1 hP (dm hD rfl) hS 0 rfl rfl 0 (by decide) (hts _ fl_X6_32) (fun _ h9 => h9) rfl (by decide +kernel) rfl rfl (Nat.le_of_ble_eq_true rfl) dX6_costOf_13 (fun H locs hP _ hS => ?_)
  have hP : va_P E.1 vwCl (refW E ρ 0 rc tl pa kd nm st hi ke tx wy) H := hP
  refine lv_aload_n hx hb dX6_costOf_16 rfl (lv_lk hl rfl) ?_
  refine va_get (D := E.1) (ci := 6) hx hb hts inX6 hown hK.1 hP 0 rfl rfl 0 (by decide) (hts _ fl_X6_32) (fun _ h9 => h9) rfl dX6_costOf_17 ?_
  refine iv_if_le (tgt := 27) hx hb dX6_costOf_20 (by decide) (by omega) (fun c_20 => ?_) (fun c_20 => by exfalso; omega)
  refine lv_aload_n hx hb dX6_costOf_27 rfl (lv_lk hl rfl) ?_
  refine lv_iload_n hx hb dX6_costOf_28 rfl (lv_lk hl rfl) ?_
  refine call_X (va_runV ⟨hx, hb, hml, hown, hts⟩ (m_X6_cost l E ρ 0 rc tl pa kd nm st hi ke tx wy hρ T hI r hr) (cwV 1 hts (gi_V ml_X6_128 im_X6_cost sl_X6_cost it_X6 cd_X6_cost) rfl rfl rfl (by decide +kernel) ⟨Nat.le_of_ble_eq_true rfl, Nat.le_of_ble_eq_true rfl⟩) (pR_V (q0 := 0) (ci := 6) hP hK rfl rfl) rfl rfl hl.1 rfl (lv_room (Nat.le_of_ble_eq_true rfl)) dX6_costOf_29 ⟨Nat.le_of_ble_eq_true rfl, Nat.le_of_ble_eq_true rfl⟩) (dm hD rfl) hS rfl (fun g1 H locs hP hS => ?_)
  have hP : va_P E.1 vwCl (refW E ρ 0 rc tl pa kd nm st hi g1.1 tx g1.2) H := hP
  exact W.iret hx hb hrt (fun t ht hW => ⟨rfl, ⟨(g1.1, g1.2), by rw [ht]; exact hP⟩, hS.F ht⟩) hS.2.2 dX6_costOf_32 hlocks
set_option maxHeartbeats 4000000 in
set_option maxRecDepth 100000 in
theorem m_X6_costOf_bad (l : Launch) (E : Env3) (ρ : Nat → Nat) (th rc tl pa kd nm : Int) (st hi ke tx wy : S) (hρ : dR ρ 6) (v : Int) (hv : -2147483648 ≤ v ∧ v ≤ 2147483647) (hv2 : ¬ (0 ≤ v ∧ v ≤ 35)) : Met l yX6_costOf (Cond.code yX6_costOf cX6_costOf 2 (some .int) :: ALL) ({ frames := 6, cells := 0, slots := 0, locals := 136 }) (pR [.ref (ρ 0), .int (I v)] E (refW E ρ th rc tl pa kd nm st hi ke tx wy)) (qW (some (.int (I 0))) E (refW E ρ th rc tl pa kd nm st hi ke tx wy) (refW E ρ 1 rc tl pa kd nm st hi ke tx wy)) 0 0 (adIn (refW E ρ th rc tl pa kd nm st hi ke tx wy)) := by
  refine mk_met (by decide) rfl (Nat.le_of_ble_eq_true rfl) ?_
  intro p e s m args below meth c hx hb hrt hml hts hown hlocks hnm hP hK ls hl
  have hown : s.vm.findClass RX6 = some m.cls := hown
  have hl : lv_has ls 2 [(0, .ref (ρ 0)), (1, .int (I v))] := hl
  have hD : va_D (adIn (refW E ρ th rc tl pa kd nm st hi ke tx wy)) (refW E ρ th rc tl pa kd nm st hi ke tx wy) := D_of_dR hρ rfl
  have hS : va_S (adIn (refW E ρ th rc tl pa kd nm st hi ke tx wy)) s.heap s.heap [] := va_S.rf
  refine lv_aload_n hx hb dX6_costOf_0 rfl (lv_lk hl rfl) ?_
  refine lv_iload_n hx hb dX6_costOf_1 rfl (lv_lk hl rfl) ?_
  refine call_S (va_runS ⟨hx, hb, hml, hown, hts⟩ (m_X6_isRiddle l E v (by omega)) (va_cwS 1 hts (gi_S ml_X6_64 st_X6_isRiddle it_X6 cd_X6_isRiddle) rfl rfl rfl (by decide +kernel) ⟨Nat.le_of_ble_eq_true rfl, Nat.le_of_ble_eq_true rfl⟩) (pR_S (hP.sub (ws' := []) [] rfl) hK) rfl rfl hl.1 rfl (lv_room (Nat.le_of_ble_eq_true rfl)) dX6_costOf_2 ⟨Nat.le_of_ble_eq_true rfl, Nat.le_of_ble_eq_true rfl⟩) (fun _ h => h) hS rfl (fun locs hS => ?_)
  refine iv_eq (0) (by rw [if_neg (by omega)]) ?_
  refine iv_if_eq (tgt := 12) hx hb dX6_costOf_5 (by decide) (by omega) (fun c_5 => ?_) (fun c_5 => by exfalso; omega)
  refine iv_iconst hx hb dX6_costOf_12 ?_
  refine va_put (ci := 6) (ty := .int) hx hb hts inX6 tyX6 tyX6_ok nmX6 hown hK.1 hP (dm hD rfl) hS 0 rfl rfl 0 (by decide) (hts _ fl_X6_32) (fun _ h9 => h9) rfl (by decide +kernel) rfl rfl (Nat.le_of_ble_eq_true rfl) dX6_costOf_13 (fun H locs hP _ hS => ?_)
  have hP : va_P E.1 vwCl (refW E ρ 1 rc tl pa kd nm st hi ke tx wy) H := hP
  refine lv_aload_n hx hb dX6_costOf_16 rfl (lv_lk hl rfl) ?_
  refine va_get (D := E.1) (ci := 6) hx hb hts inX6 hown hK.1 hP 0 rfl rfl 0 (by decide) (hts _ fl_X6_32) (fun _ h9 => h9) rfl dX6_costOf_17 ?_
  refine iv_if_le (tgt := 27) hx hb dX6_costOf_20 (by decide) (by omega) (fun c_20 => by exfalso; omega) (fun c_20 => ?_)
  refine iv_iconst hx hb dX6_costOf_23 ?_
  refine lv_goto (tgt := 32) hx hb dX6_costOf_24 (by decide) ?_
  exact W.iret hx hb hrt (fun t ht hW => ⟨rfl, by rw [ht]; exact hP, hS.F ht⟩) hS.2.2 dX6_costOf_32 hlocks
set_option maxHeartbeats 4000000 in
set_option maxRecDepth 100000 in
theorem m_X6_ticksUntilTruth_ok (l : Launch) (E : Env3) (ρ : Nat → Nat) (th rc tl pa kd nm : Int) (st hi ke tx wy : S) (hρ : dR ρ 6) (T : Int) (hI : IB T st) (r : Nat) (hr : r < 36) (hT : T ≤ 99900) (K : Nat) (hK : K ≤ 99) (hKe : wouldIn st r K = truthF 7 st r) : Met l yX6_ticksUntilTruth (Cond.code yX6_ticksUntilTruth cX6_ticksUntilTruth 4 (some .int) :: ALL) ({ frames := 6, cells := 0, slots := 0, locals := 137 }) (pR [.ref (ρ 0), .int (I (r : Int))] E (refW E ρ th rc tl pa kd nm st hi ke tx wy)) (qX (some (.int (I (waitF 100 st r 0 : Int)))) E (refW E ρ th rc tl pa kd nm st hi ke tx wy) (fun (g : S × S) => (refW E ρ 0 rc tl pa kd nm st hi g.1 tx g.2))) 0 0 (adIn (refW E ρ th rc tl pa kd nm st hi ke tx wy)) := by
  refine mk_met (by decide) rfl (Nat.le_of_ble_eq_true rfl) ?_
  intro p e s m args below meth c hx hb hrt hml hts hown hlocks hnm hP hK ls hl
  have hown : s.vm.findClass RX6 = some m.cls := hown
  have hl : lv_has ls 4 [(0, .ref (ρ 0)), (1, .int (I (r : Int)))] := hl
  have hD : va_D (adIn (refW E ρ th rc tl pa kd nm st hi ke tx wy)) (refW E ρ th rc tl pa kd nm st hi ke tx wy) := D_of_dR hρ rfl
  have hS : va_S (adIn (refW E ρ th rc tl pa kd nm st hi ke tx wy)) s.heap s.heap [] := va_S.rf
  refine lv_aload_n hx hb dX6_ticksUntilTruth_0 rfl (lv_lk hl rfl) ?_
  refine lv_iload_n hx hb dX6_ticksUntilTruth_1 rfl (lv_lk hl rfl) ?_
  refine call_S (va_runS ⟨hx, hb, hml, hown, hts⟩ (m_X6_isRiddle l E ((r : Int)) (by omega)) (va_cwS 1 hts (gi_S ml_X6_64 st_X6_isRiddle it_X6 cd_X6_isRiddle) rfl rfl rfl (by decide +kernel) ⟨Nat.le_of_ble_eq_true rfl, Nat.le_of_ble_eq_true rfl⟩) (pR_S (hP.sub (ws' := []) [] rfl) hK) rfl rfl hl.1 rfl (lv_room (Nat.le_of_ble_eq_true rfl)) dX6_ticksUntilTruth_2 ⟨Nat.le_of_ble_eq_true rfl, Nat.le_of_ble_eq_true rfl⟩) (fun _ h => h) hS rfl (fun locs hS => ?_)
  refine iv_eq (1) (by rw [if_pos (by omega)]) ?_
  refine iv_if_eq (tgt := 12) hx hb dX6_ticksUntilTruth_5 (by decide) (by omega) (fun c_5 => by exfalso; omega) (fun c_5 => ?_)
  refine iv_iconst hx hb dX6_ticksUntilTruth_8 ?_
  refine lv_goto (tgt := 13) hx hb dX6_ticksUntilTruth_9 (by decide) ?_
  refine va_put (ci := 6) (ty := .int) hx hb hts inX6 tyX6 tyX6_ok nmX6 hown hK.1 hP (dm hD rfl) hS 0 rfl rfl 0 (by decide) (hts _ fl_X6_32) (fun _ h9 => h9) rfl (by decide +kernel) rfl rfl (Nat.le_of_ble_eq_true rfl) dX6_ticksUntilTruth_13 (fun H locs hP _ hS => ?_)
  have hP : va_P E.1 vwCl (refW E ρ 0 rc tl pa kd nm st hi ke tx wy) H := hP
  refine lv_aload_n hx hb dX6_ticksUntilTruth_16 rfl (lv_lk hl rfl) ?_
  refine va_get (D := E.1) (ci := 6) hx hb hts inX6 hown hK.1 hP 0 rfl rfl 0 (by decide) (hts _ fl_X6_32) (fun _ h9 => h9) rfl dX6_ticksUntilTruth_17 ?_
  refine iv_if_le (tgt := 25) hx hb dX6_ticksUntilTruth_20 (by decide) (by omega) (fun c_20 => ?_) (fun c_20 => by exfalso; omega)
  refine lv_aload_n hx hb dX6_ticksUntilTruth_25 rfl (lv_lk hl rfl) ?_
  refine lv_iload_n hx hb dX6_ticksUntilTruth_26 rfl (lv_lk hl rfl) ?_
  refine call_S (va_runV ⟨hx, hb, hml, hown, hts⟩ (m_X6_truth l E ρ 0 rc tl pa kd nm st hi ke tx wy T hI r hr) (cwV 1 hts (gi_V ml_X6_106 im_X6_truth sl_X6_truth it_X6 cd_X6_truth) rfl rfl rfl (by decide +kernel) ⟨Nat.le_of_ble_eq_true rfl, Nat.le_of_ble_eq_true rfl⟩) (pR_V (q0 := 0) (ci := 6) hP hK rfl rfl) rfl rfl hl.1 rfl (lv_room (Nat.le_of_ble_eq_true rfl)) dX6_ticksUntilTruth_27 ⟨Nat.le_of_ble_eq_true rfl, Nat.le_of_ble_eq_true rfl⟩) (fun _ h => h) hS rfl (fun locs hS => ?_)
  refine lv_istore_n (lv' := [(2, .int (I _)), (0, .ref _), (1, .int (I _))]) hx hb dX6_ticksUntilTruth_30 rfl hl (by decide) rfl (fun ls hl => ?_)
  refine iv_iconst hx hb dX6_ticksUntilTruth_31 ?_
  refine lv_istore_n (lv' := [(3, .int (I _)), (2, .int (I _)), (0, .ref _), (1, .int (I _))]) hx hb dX6_ticksUntilTruth_32 rfl hl (by decide) rfl (fun ls hl => ?_)
  have LOOP33 : ∀ (n9 i : Nat) (g1 : S × S), (i + n9 = 100) → (i ≤ K) → (waitF n9 st r i = waitF 100 st r 0) → ∀ (H : Heap) (locs : List Loc) (ls : Array Slot), va_P E.1 vwCl (refW E ρ 0 rc tl pa kd nm st hi g1.1 tx g1.2) H → va_S (adIn (refW E ρ th rc tl pa kd nm st hi ke tx wy)) s.heap H locs → lv_has ls 4 [(0, .ref (ρ 0)), (1, .int (I (r : Int))), (2, .int (I (truthF 7 st r))), (3, .int (I (i : Int)))] → W p l e ({ frames := 6, cells := 0, slots := 0, locals := 137 }) s m args below meth c H locs 0 0 (MQ below (qX (some (.int (I (waitF 100 st r 0 : Int)))) E (refW E ρ th rc tl pa kd nm st hi ke tx wy) (fun (g : S × S) => (refW E ρ 0 rc tl pa kd nm st hi g.1 tx g.2))) args s 0 0 (adIn (refW E ρ th rc tl pa kd nm st hi ke tx wy))) (F0 m 33 ls []) := by
    intro n9
    induction n9 with
    | zero =>
      intro  i g1 hi9 hi8 he9 H locs ls hP hS hl
      exact absurd hi8 (by omega)
    | succ n9 ih =>
      intro  i g1 hi9 hi8 he9 H locs ls hP hS hl
      have q1 := truth_rng hI 7 r hr
      have q2 : -2 ≤ wouldIn st r i ∧ wouldIn st r i ≤ 99 := solves_rng 7 (IB_passes hI i (by omega) (T + 100) (by omega)) r hr
      refine lv_aload_n hx hb dX6_ticksUntilTruth_33 rfl (lv_lk hl rfl) ?_
      refine lv_iload_n hx hb dX6_ticksUntilTruth_34 rfl (lv_lk hl rfl) ?_
      refine lv_iload_n hx hb dX6_ticksUntilTruth_35 rfl (lv_lk hl rfl) ?_
      refine call_X (va_runV ⟨hx, hb, hml, hown, hts⟩ (m_X6_wouldIn l E ρ 0 rc tl pa kd nm st hi g1.1 tx g1.2 hρ T hI r hr (i : Int) (by omega)) (cwV 2 hts (gi_V ml_X6_131 im_X6_wouldIn sl_X6_wouldIn it_X6 cd_X6_wouldIn) rfl rfl rfl (by decide +kernel) ⟨Nat.le_of_ble_eq_true rfl, Nat.le_of_ble_eq_true rfl⟩) (pR_V (q0 := 0) (ci := 6) hP hK rfl rfl) rfl rfl hl.1 rfl (lv_room (Nat.le_of_ble_eq_true rfl)) dX6_ticksUntilTruth_36 ⟨Nat.le_of_ble_eq_true rfl, Nat.le_of_ble_eq_true rfl⟩) (dm hD rfl) hS rfl (fun g2 H locs hP hS => ?_)
      have hP : va_P E.1 vwCl (refW E ρ 0 rc tl pa kd nm st hi g2.1 tx g2.2) H := hP
      refine lv_iload_n hx hb dX6_ticksUntilTruth_39 rfl (lv_lk hl rfl) ?_
      refine iv_icmp_eq (tgt := 49) hx hb dX6_ticksUntilTruth_40 (by decide) (by omega) (by omega) (fun c_40 => ?_) (fun c_40 => ?_)
      · refine lv_iload_n hx hb dX6_ticksUntilTruth_49 rfl (lv_lk hl rfl) ?_
        refine iv_eq ((waitF 100 st r 0 : Int)) (by rw [← he9, waitF_e c_40]) ?_
        exact W.iret hx hb hrt (fun t ht hW => ⟨rfl, ⟨(g2.1, g2.2), by rw [ht]; exact hP⟩, hS.F ht⟩) hS.2.2 dX6_ticksUntilTruth_50 hlocks
      · refine iv_iinc (k := 3) hx hb dX6_ticksUntilTruth_43 hl rfl (((i + 1 : Nat) : Int)) (by omega) (by decide) [(3, .int (I _)), (0, .ref _), (1, .int (I _)), (2, .int (I _))] rfl (fun ls hl => ?_)
        refine lv_goto (tgt := 33) hx hb dX6_ticksUntilTruth_46 (by decide) ?_
        exact ih (i + 1) g2 (by omega) (by by_cases e9 : i = K; (· subst e9; exact absurd hKe c_40); (· omega)) (by rw [← he9, waitF_s c_40]) H locs ls hP hS (lv_sub hl [1, 2, 3, 0] rfl)
  exact LOOP33 100 0 (ke, wy) (by omega) (by omega) rfl _ _ _ hP hS (lv_sub hl [2, 3, 1, 0] rfl)
set_option maxHeartbeats 4000000 in
set_option maxRecDepth 100000 in
theorem m_X6_ticksUntilTruth_bad (l : Launch) (E : Env3) (ρ : Nat → Nat) (th rc tl pa kd nm : Int) (st hi ke tx wy : S) (hρ : dR ρ 6) (v : Int) (hv : -2147483648 ≤ v ∧ v ≤ 2147483647) (hv2 : ¬ (0 ≤ v ∧ v ≤ 35)) : Met l yX6_ticksUntilTruth (Cond.code yX6_ticksUntilTruth cX6_ticksUntilTruth 4 (some .int) :: ALL) ({ frames := 6, cells := 0, slots := 0, locals := 137 }) (pR [.ref (ρ 0), .int (I v)] E (refW E ρ th rc tl pa kd nm st hi ke tx wy)) (qW (some (.int (I 0))) E (refW E ρ th rc tl pa kd nm st hi ke tx wy) (refW E ρ 1 rc tl pa kd nm st hi ke tx wy)) 0 0 (adIn (refW E ρ th rc tl pa kd nm st hi ke tx wy)) := by
  refine mk_met (by decide) rfl (Nat.le_of_ble_eq_true rfl) ?_
  intro p e s m args below meth c hx hb hrt hml hts hown hlocks hnm hP hK ls hl
  have hown : s.vm.findClass RX6 = some m.cls := hown
  have hl : lv_has ls 4 [(0, .ref (ρ 0)), (1, .int (I v))] := hl
  have hD : va_D (adIn (refW E ρ th rc tl pa kd nm st hi ke tx wy)) (refW E ρ th rc tl pa kd nm st hi ke tx wy) := D_of_dR hρ rfl
  have hS : va_S (adIn (refW E ρ th rc tl pa kd nm st hi ke tx wy)) s.heap s.heap [] := va_S.rf
  refine lv_aload_n hx hb dX6_ticksUntilTruth_0 rfl (lv_lk hl rfl) ?_
  refine lv_iload_n hx hb dX6_ticksUntilTruth_1 rfl (lv_lk hl rfl) ?_
  refine call_S (va_runS ⟨hx, hb, hml, hown, hts⟩ (m_X6_isRiddle l E v (by omega)) (va_cwS 1 hts (gi_S ml_X6_64 st_X6_isRiddle it_X6 cd_X6_isRiddle) rfl rfl rfl (by decide +kernel) ⟨Nat.le_of_ble_eq_true rfl, Nat.le_of_ble_eq_true rfl⟩) (pR_S (hP.sub (ws' := []) [] rfl) hK) rfl rfl hl.1 rfl (lv_room (Nat.le_of_ble_eq_true rfl)) dX6_ticksUntilTruth_2 ⟨Nat.le_of_ble_eq_true rfl, Nat.le_of_ble_eq_true rfl⟩) (fun _ h => h) hS rfl (fun locs hS => ?_)
  refine iv_eq (0) (by rw [if_neg (by omega)]) ?_
  refine iv_if_eq (tgt := 12) hx hb dX6_ticksUntilTruth_5 (by decide) (by omega) (fun c_5 => ?_) (fun c_5 => by exfalso; omega)
  refine iv_iconst hx hb dX6_ticksUntilTruth_12 ?_
  refine va_put (ci := 6) (ty := .int) hx hb hts inX6 tyX6 tyX6_ok nmX6 hown hK.1 hP (dm hD rfl) hS 0 rfl rfl 0 (by decide) (hts _ fl_X6_32) (fun _ h9 => h9) rfl (by decide +kernel) rfl rfl (Nat.le_of_ble_eq_true rfl) dX6_ticksUntilTruth_13 (fun H locs hP _ hS => ?_)
  have hP : va_P E.1 vwCl (refW E ρ 1 rc tl pa kd nm st hi ke tx wy) H := hP
  refine lv_aload_n hx hb dX6_ticksUntilTruth_16 rfl (lv_lk hl rfl) ?_
  refine va_get (D := E.1) (ci := 6) hx hb hts inX6 hown hK.1 hP 0 rfl rfl 0 (by decide) (hts _ fl_X6_32) (fun _ h9 => h9) rfl dX6_ticksUntilTruth_17 ?_
  refine iv_if_le (tgt := 25) hx hb dX6_ticksUntilTruth_20 (by decide) (by omega) (fun c_20 => by exfalso; omega) (fun c_20 => ?_)
  refine iv_iconst hx hb dX6_ticksUntilTruth_23 ?_
  exact W.iret hx hb hrt (fun t ht hW => ⟨rfl, by rw [ht]; exact hP, hS.F ht⟩) hS.2.2 dX6_ticksUntilTruth_24 hlocks
end
section
/-! the reference, seventh part; written by ref.py -/
theorem undo_st {hi st : S} {n j : Nat} (hj : j < 252) : layN hi (252 * n) st 0 252 j = (fun j => hi (252 * n + j)) j := by
  unfold layN
  rw [if_pos (by omega)]
  rfl
set_option maxHeartbeats 4000000 in
set_option maxRecDepth 100000 in
theorem m_X6_setParent_ok (l : Launch) (E : Env3) (ρ : Nat → Nat) (th tl pa kd nm : Int) (st hi ke tx wy : S) (hρ : dR ρ 6) (n : Nat) (hn : n ≤ 6) (z q : Nat) (hz : 1 ≤ z ∧ z < 6) (hq : q < z) : Met l yX6_setParent (Cond.code yX6_setParent cX6_setParent 4 (some .int) :: ALL) ({ frames := 2, cells := 0, slots := 0, locals := 45 }) (pR [.ref (ρ 0), .int (I (z : Int)), .int (I (q : Int))] E (refW E ρ th ((n : Int)) tl pa kd nm st hi ke tx wy)) (qW (some (.int (I (st (6 + 5 * z))))) E (refW E ρ th ((n : Int)) tl pa kd nm st hi ke tx wy) (refW E ρ 0 ((recN n : Int)) tl pa kd nm (up st (6 + 5 * z) q) (recH st hi n) ke tx wy)) 0 0 (adIn (refW E ρ th ((n : Int)) tl pa kd nm st hi ke tx wy)) := by
  refine mk_met (by decide) rfl (Nat.le_of_ble_eq_true rfl) ?_
  intro p e s m args below meth c hx hb hrt hml hts hown hlocks hnm hP hK ls hl
  have hown : s.vm.findClass RX6 = some m.cls := hown
  have hl : lv_has ls 4 [(0, .ref (ρ 0)), (1, .int (I (z : Int))), (2, .int (I (q : Int)))] := hl
  have hD : va_D (adIn (refW E ρ th ((n : Int)) tl pa kd nm st hi ke tx wy)) (refW E ρ th ((n : Int)) tl pa kd nm st hi ke tx wy) := D_of_dR hρ rfl
  have hS : va_S (adIn (refW E ρ th ((n : Int)) tl pa kd nm st hi ke tx wy)) s.heap s.heap [] := va_S.rf
  refine lv_aload_n hx hb dX6_setParent_0 rfl (lv_lk hl rfl) ?_
  refine lv_iload_n hx hb dX6_setParent_1 rfl (lv_lk hl rfl) ?_
  refine iv_iconst hx hb dX6_setParent_2 ?_
  refine iv_iconst hx hb dX6_setParent_3 ?_
  refine call_S (va_runS ⟨hx, hb, hml, hown, hts⟩ (m_X6_within l E ((z : Int)) 1 5 (by omega) (by omega) (by omega)) (va_cwS 3 hts (gi_S ml_X6_43 st_X6_within it_X6 cd_X6_within) rfl rfl rfl (by decide +kernel) ⟨Nat.le_of_ble_eq_true rfl, Nat.le_of_ble_eq_true rfl⟩) (pR_S (hP.sub (ws' := []) [] rfl) hK) rfl rfl hl.1 rfl (lv_room (Nat.le_of_ble_eq_true rfl)) dX6_setParent_4 ⟨Nat.le_of_ble_eq_true rfl, Nat.le_of_ble_eq_true rfl⟩) (fun _ h => h) hS rfl (fun locs hS => ?_)
  refine iv_eq (1) (by rw [if_pos (by omega)]) ?_
  refine iv_if_ne (tgt := 14) hx hb dX6_setParent_7 (by decide) (by omega) (fun c_7 => ?_) (fun c_7 => by exfalso; omega)
  refine lv_iload_n hx hb dX6_setParent_14 rfl (lv_lk hl rfl) ?_
  refine iv_iconst hx hb dX6_setParent_15 ?_
  refine lv_iload_n hx hb dX6_setParent_16 rfl (lv_lk hl rfl) ?_
  refine iv_iconst hx hb dX6_setParent_17 ?_
  refine iv_isub hx hb dX6_setParent_18 ?_
  refine call_S (va_runS ⟨hx, hb, hml, hown, hts⟩ (m_X6_within l E ((q : Int)) 0 ((z : Int) - 1) (by omega) (by omega) (by omega)) (va_cwS 3 hts (gi_S ml_X6_43 st_X6_within it_X6 cd_X6_within) rfl rfl rfl (by decide +kernel) ⟨Nat.le_of_ble_eq_true rfl, Nat.le_of_ble_eq_true rfl⟩) (pR_S (hP.sub (ws' := []) [] rfl) hK) rfl rfl hl.1 rfl (lv_room (Nat.le_of_ble_eq_true rfl)) dX6_setParent_19 ⟨Nat.le_of_ble_eq_true rfl, Nat.le_of_ble_eq_true rfl⟩) (fun _ h => h) hS rfl (fun locs hS => ?_)
  refine iv_eq (1) (by rw [if_pos (by omega)]) ?_
  refine iv_if_eq (tgt := 29) hx hb dX6_setParent_22 (by decide) (by omega) (fun c_22 => by exfalso; omega) (fun c_22 => ?_)
  refine iv_iconst hx hb dX6_setParent_25 ?_
  refine lv_goto (tgt := 30) hx hb dX6_setParent_26 (by decide) ?_
  refine va_put (ci := 6) (ty := .int) hx hb hts inX6 tyX6 tyX6_ok nmX6 hown hK.1 hP (dm hD rfl) hS 0 rfl rfl 0 (by decide) (hts _ fl_X6_32) (fun _ h9 => h9) rfl (by decide +kernel) rfl rfl (Nat.le_of_ble_eq_true rfl) dX6_setParent_30 (fun H locs hP _ hS => ?_)
  have hP : va_P E.1 vwCl (refW E ρ 0 ((n : Int)) tl pa kd nm st hi ke tx wy) H := hP
  refine lv_aload_n hx hb dX6_setParent_33 rfl (lv_lk hl rfl) ?_
  refine va_get (D := E.1) (ci := 6) hx hb hts inX6 hown hK.1 hP 0 rfl rfl 0 (by decide) (hts _ fl_X6_32) (fun _ h9 => h9) rfl dX6_setParent_34 ?_
  refine iv_if_le (tgt := 42) hx hb dX6_setParent_37 (by decide) (by omega) (fun c_37 => ?_) (fun c_37 => by exfalso; omega)
  refine lv_aload_n hx hb dX6_setParent_42 rfl (lv_lk hl rfl) ?_
  refine call_F (va_runV ⟨hx, hb, hml, hown, hts⟩ (m_X6_record l E ρ 0 tl pa kd nm st hi ke tx wy hρ n hn) (cwV 0 hts (gi_V ml_X6_47 im_X6_record sl_X6_record it_X6 cd_X6_record) rfl rfl rfl (by decide +kernel) ⟨Nat.le_of_ble_eq_true rfl, Nat.le_of_ble_eq_true rfl⟩) (pR_V (q0 := 0) (ci := 6) hP hK rfl rfl) rfl rfl hl.1 rfl (lv_room (Nat.le_of_ble_eq_true rfl)) dX6_setParent_43 ⟨Nat.le_of_ble_eq_true rfl, Nat.le_of_ble_eq_true rfl⟩) (dm hD rfl) hS rfl (fun H locs hP hS => ?_)
  have hP : va_P E.1 vwCl (refW E ρ 0 ((recN n : Int)) tl pa kd nm st (recH st hi n) ke tx wy) H := hP
  refine lv_aload_n hx hb dX6_setParent_46 rfl (lv_lk hl rfl) ?_
  refine lv_iload_n hx hb dX6_setParent_47 rfl (lv_lk hl rfl) ?_
  refine iv_iconst hx hb dX6_setParent_48 ?_
  refine call_S (va_runV ⟨hx, hb, hml, hown, hts⟩ (m_X6_ofZone l E ρ 0 ((recN n : Int)) tl pa kd nm st (recH st hi n) ke tx wy z 0 hz.2 (by decide)) (cwV 2 hts (gi_V ml_X6_50 im_X6_ofZone sl_X6_ofZone it_X6 cd_X6_ofZone) rfl rfl rfl (by decide +kernel) ⟨Nat.le_of_ble_eq_true rfl, Nat.le_of_ble_eq_true rfl⟩) (pR_V (q0 := 0) (ci := 6) hP hK rfl rfl) rfl rfl hl.1 rfl (lv_room (Nat.le_of_ble_eq_true rfl)) dX6_setParent_49 ⟨Nat.le_of_ble_eq_true rfl, Nat.le_of_ble_eq_true rfl⟩) (fun _ h => h) hS rfl (fun locs hS => ?_)
  refine lv_istore_n (lv' := [(3, .int (I _)), (0, .ref _), (1, .int (I _)), (2, .int (I _))]) hx hb dX6_setParent_52 rfl hl (by decide) rfl (fun ls hl => ?_)
  refine lv_aload_n hx hb dX6_setParent_53 rfl (lv_lk hl rfl) ?_
  refine lv_iload_n hx hb dX6_setParent_54 rfl (lv_lk hl rfl) ?_
  refine iv_iconst hx hb dX6_setParent_55 ?_
  refine lv_iload_n hx hb dX6_setParent_56 rfl (lv_lk hl rfl) ?_
  refine call_F (va_runV ⟨hx, hb, hml, hown, hts⟩ (m_X6_putsZone l E ρ 0 ((recN n : Int)) tl pa kd nm st (recH st hi n) ke tx wy hρ z 0 _ hz.2 (by decide)) (cwV 3 hts (gi_V ml_X6_25 im_X6_putsZone sl_X6_putsZone it_X6 cd_X6_putsZone) rfl rfl rfl (by decide +kernel) ⟨Nat.le_of_ble_eq_true rfl, Nat.le_of_ble_eq_true rfl⟩) (pR_V (q0 := 0) (ci := 6) hP hK rfl rfl) rfl rfl hl.1 rfl (lv_room (Nat.le_of_ble_eq_true rfl)) dX6_setParent_57 ⟨Nat.le_of_ble_eq_true rfl, Nat.le_of_ble_eq_true rfl⟩) (dm hD rfl) hS rfl (fun H locs hP hS => ?_)
  have hP : va_P E.1 vwCl (refW E ρ 0 ((recN n : Int)) tl pa kd nm (up st (6 + 5 * z) q) (recH st hi n) ke tx wy) H := hP
  refine lv_iload_n hx hb dX6_setParent_60 rfl (lv_lk hl rfl) ?_
  exact W.iret hx hb hrt (fun t ht hW => ⟨rfl, by rw [ht]; exact hP, hS.F ht⟩) hS.2.2 dX6_setParent_61 hlocks
set_option maxHeartbeats 4000000 in
set_option maxRecDepth 100000 in
theorem m_X6_setParent_bad1 (l : Launch) (E : Env3) (ρ : Nat → Nat) (th rc tl pa kd nm : Int) (st hi ke tx wy : S) (hρ : dR ρ 6) (z q : Int) (hz : -2147483648 ≤ z ∧ z ≤ 2147483647) (hq : -2147483648 ≤ q ∧ q ≤ 2147483647) (h1 : ¬ (1 ≤ z ∧ z ≤ 5)) : Met l yX6_setParent (Cond.code yX6_setParent cX6_setParent 4 (some .int) :: ALL) ({ frames := 2, cells := 0, slots := 0, locals := 45 }) (pR [.ref (ρ 0), .int (I z), .int (I q)] E (refW E ρ th rc tl pa kd nm st hi ke tx wy)) (qW (some (.int (I 0))) E (refW E ρ th rc tl pa kd nm st hi ke tx wy) (refW E ρ 1 rc tl pa kd nm st hi ke tx wy)) 0 0 (adIn (refW E ρ th rc tl pa kd nm st hi ke tx wy)) := by
  refine mk_met (by decide) rfl (Nat.le_of_ble_eq_true rfl) ?_
  intro p e s m args below meth c hx hb hrt hml hts hown hlocks hnm hP hK ls hl
  have hown : s.vm.findClass RX6 = some m.cls := hown
  have hl : lv_has ls 4 [(0, .ref (ρ 0)), (1, .int (I z)), (2, .int (I q))] := hl
  have hD : va_D (adIn (refW E ρ th rc tl pa kd nm st hi ke tx wy)) (refW E ρ th rc tl pa kd nm st hi ke tx wy) := D_of_dR hρ rfl
  have hS : va_S (adIn (refW E ρ th rc tl pa kd nm st hi ke tx wy)) s.heap s.heap [] := va_S.rf
  refine lv_aload_n hx hb dX6_setParent_0 rfl (lv_lk hl rfl) ?_
  refine lv_iload_n hx hb dX6_setParent_1 rfl (lv_lk hl rfl) ?_
  refine iv_iconst hx hb dX6_setParent_2 ?_
  refine iv_iconst hx hb dX6_setParent_3 ?_
  refine call_S (va_runS ⟨hx, hb, hml, hown, hts⟩ (m_X6_within l E z 1 5 (by omega) (by omega) (by omega)) (va_cwS 3 hts (gi_S ml_X6_43 st_X6_within it_X6 cd_X6_within) rfl rfl rfl (by decide +kernel) ⟨Nat.le_of_ble_eq_true rfl, Nat.le_of_ble_eq_true rfl⟩) (pR_S (hP.sub (ws' := []) [] rfl) hK) rfl rfl hl.1 rfl (lv_room (Nat.le_of_ble_eq_true rfl)) dX6_setParent_4 ⟨Nat.le_of_ble_eq_true rfl, Nat.le_of_ble_eq_true rfl⟩) (fun _ h => h) hS rfl (fun locs hS => ?_)
  refine iv_eq (0) (by rw [if_neg (by omega)]) ?_
  refine iv_if_ne (tgt := 14) hx hb dX6_setParent_7 (by decide) (by omega) (fun c_7 => by exfalso; omega) (fun c_7 => ?_)
  refine iv_iconst hx hb dX6_setParent_10 ?_
  refine lv_goto (tgt := 30) hx hb dX6_setParent_11 (by decide) ?_
  refine va_put (ci := 6) (ty := .int) hx hb hts inX6 tyX6 tyX6_ok nmX6 hown hK.1 hP (dm hD rfl) hS 0 rfl rfl 0 (by decide) (hts _ fl_X6_32) (fun _ h9 => h9) rfl (by decide +kernel) rfl rfl (Nat.le_of_ble_eq_true rfl) dX6_setParent_30 (fun H locs hP _ hS => ?_)
  have hP : va_P E.1 vwCl (refW E ρ 1 rc tl pa kd nm st hi ke tx wy) H := hP
  refine lv_aload_n hx hb dX6_setParent_33 rfl (lv_lk hl rfl) ?_
  refine va_get (D := E.1) (ci := 6) hx hb hts inX6 hown hK.1 hP 0 rfl rfl 0 (by decide) (hts _ fl_X6_32) (fun _ h9 => h9) rfl dX6_setParent_34 ?_
  refine iv_if_le (tgt := 42) hx hb dX6_setParent_37 (by decide) (by omega) (fun c_37 => by exfalso; omega) (fun c_37 => ?_)
  refine iv_iconst hx hb dX6_setParent_40 ?_
  exact W.iret hx hb hrt (fun t ht hW => ⟨rfl, by rw [ht]; exact hP, hS.F ht⟩) hS.2.2 dX6_setParent_41 hlocks
set_option maxHeartbeats 4000000 in
set_option maxRecDepth 100000 in
theorem m_X6_setParent_bad2 (l : Launch) (E : Env3) (ρ : Nat → Nat) (th rc tl pa kd nm : Int) (st hi ke tx wy : S) (hρ : dR ρ 6) (z q : Int) (hz : -2147483648 ≤ z ∧ z ≤ 2147483647) (hq : -2147483648 ≤ q ∧ q ≤ 2147483647) (h1 : 1 ≤ z ∧ z ≤ 5) (h2 : ¬ (0 ≤ q ∧ q < z)) : Met l yX6_setParent (Cond.code yX6_setParent cX6_setParent 4 (some .int) :: ALL) ({ frames := 2, cells := 0, slots := 0, locals := 45 }) (pR [.ref (ρ 0), .int (I z), .int (I q)] E (refW E ρ th rc tl pa kd nm st hi ke tx wy)) (qW (some (.int (I 0))) E (refW E ρ th rc tl pa kd nm st hi ke tx wy) (refW E ρ 2 rc tl pa kd nm st hi ke tx wy)) 0 0 (adIn (refW E ρ th rc tl pa kd nm st hi ke tx wy)) := by
  refine mk_met (by decide) rfl (Nat.le_of_ble_eq_true rfl) ?_
  intro p e s m args below meth c hx hb hrt hml hts hown hlocks hnm hP hK ls hl
  have hown : s.vm.findClass RX6 = some m.cls := hown
  have hl : lv_has ls 4 [(0, .ref (ρ 0)), (1, .int (I z)), (2, .int (I q))] := hl
  have hD : va_D (adIn (refW E ρ th rc tl pa kd nm st hi ke tx wy)) (refW E ρ th rc tl pa kd nm st hi ke tx wy) := D_of_dR hρ rfl
  have hS : va_S (adIn (refW E ρ th rc tl pa kd nm st hi ke tx wy)) s.heap s.heap [] := va_S.rf
  refine lv_aload_n hx hb dX6_setParent_0 rfl (lv_lk hl rfl) ?_
  refine lv_iload_n hx hb dX6_setParent_1 rfl (lv_lk hl rfl) ?_
  refine iv_iconst hx hb dX6_setParent_2 ?_
  refine iv_iconst hx hb dX6_setParent_3 ?_
  refine call_S (va_runS ⟨hx, hb, hml, hown, hts⟩ (m_X6_within l E z 1 5 (by omega) (by omega) (by omega)) (va_cwS 3 hts (gi_S ml_X6_43 st_X6_within it_X6 cd_X6_within) rfl rfl rfl (by decide +kernel) ⟨Nat.le_of_ble_eq_true rfl, Nat.le_of_ble_eq_true rfl⟩) (pR_S (hP.sub (ws' := []) [] rfl) hK) rfl rfl hl.1 rfl (lv_room (Nat.le_of_ble_eq_true rfl)) dX6_setParent_4 ⟨Nat.le_of_ble_eq_true rfl, Nat.le_of_ble_eq_true rfl⟩) (fun _ h => h) hS rfl (fun locs hS => ?_)
  refine iv_eq (1) (by rw [if_pos (by omega)]) ?_
  refine iv_if_ne (tgt := 14) hx hb dX6_setParent_7 (by decide) (by omega) (fun c_7 => ?_) (fun c_7 => by exfalso; omega)
  refine lv_iload_n hx hb dX6_setParent_14 rfl (lv_lk hl rfl) ?_
  refine iv_iconst hx hb dX6_setParent_15 ?_
  refine lv_iload_n hx hb dX6_setParent_16 rfl (lv_lk hl rfl) ?_
  refine iv_iconst hx hb dX6_setParent_17 ?_
  refine iv_isub hx hb dX6_setParent_18 ?_
  refine call_S (va_runS ⟨hx, hb, hml, hown, hts⟩ (m_X6_within l E q 0 (z - 1) (by omega) (by omega) (by omega)) (va_cwS 3 hts (gi_S ml_X6_43 st_X6_within it_X6 cd_X6_within) rfl rfl rfl (by decide +kernel) ⟨Nat.le_of_ble_eq_true rfl, Nat.le_of_ble_eq_true rfl⟩) (pR_S (hP.sub (ws' := []) [] rfl) hK) rfl rfl hl.1 rfl (lv_room (Nat.le_of_ble_eq_true rfl)) dX6_setParent_19 ⟨Nat.le_of_ble_eq_true rfl, Nat.le_of_ble_eq_true rfl⟩) (fun _ h => h) hS rfl (fun locs hS => ?_)
  refine iv_eq (0) (by rw [if_neg (by omega)]) ?_
  refine iv_if_eq (tgt := 29) hx hb dX6_setParent_22 (by decide) (by omega) (fun c_22 => ?_) (fun c_22 => by exfalso; omega)
  refine iv_iconst hx hb dX6_setParent_29 ?_
  refine va_put (ci := 6) (ty := .int) hx hb hts inX6 tyX6 tyX6_ok nmX6 hown hK.1 hP (dm hD rfl) hS 0 rfl rfl 0 (by decide) (hts _ fl_X6_32) (fun _ h9 => h9) rfl (by decide +kernel) rfl rfl (Nat.le_of_ble_eq_true rfl) dX6_setParent_30 (fun H locs hP _ hS => ?_)
  have hP : va_P E.1 vwCl (refW E ρ 2 rc tl pa kd nm st hi ke tx wy) H := hP
  refine lv_aload_n hx hb dX6_setParent_33 rfl (lv_lk hl rfl) ?_
  refine va_get (D := E.1) (ci := 6) hx hb hts inX6 hown hK.1 hP 0 rfl rfl 0 (by decide) (hts _ fl_X6_32) (fun _ h9 => h9) rfl dX6_setParent_34 ?_
  refine iv_if_le (tgt := 42) hx hb dX6_setParent_37 (by decide) (by omega) (fun c_37 => by exfalso; omega) (fun c_37 => ?_)
  refine iv_iconst hx hb dX6_setParent_40 ?_
  exact W.iret hx hb hrt (fun t ht hW => ⟨rfl, by rw [ht]; exact hP, hS.F ht⟩) hS.2.2 dX6_setParent_41 hlocks
set_option maxHeartbeats 4000000 in
set_option maxRecDepth 100000 in
theorem m_X6_setAges_ok (l : Launch) (E : Env3) (ρ : Nat → Nat) (th tl pa kd nm : Int) (st hi ke tx wy : S) (hρ : dR ρ 6) (n : Nat) (hn : n ≤ 6) (z : Nat) (a b : Int) (hz : z < 6) (ha : 1 ≤ a ∧ a ≤ 99) (hb9 : 1 ≤ b ∧ b ≤ 99) : Met l yX6_setAges (Cond.code yX6_setAges cX6_setAges 5 (some .int) :: ALL) ({ frames := 2, cells := 0, slots := 0, locals := 45 }) (pR [.ref (ρ 0), .int (I (z : Int)), .int (I a), .int (I b)] E (refW E ρ th ((n : Int)) tl pa kd nm st hi ke tx wy)) (qW (some (.int (I (st (6 + 5 * z + 1))))) E (refW E ρ th ((n : Int)) tl pa kd nm st hi ke tx wy) (refW E ρ 0 ((recN n : Int)) tl pa kd nm (up (up st (6 + 5 * z + 1) a) (6 + 5 * z + 2) b) (recH st hi n) ke tx wy)) 0 0 (adIn (refW E ρ th ((n : Int)) tl pa kd nm st hi ke tx wy)) := by
  refine mk_met (by decide) rfl (Nat.le_of_ble_eq_true rfl) ?_
  intro p e s m args below meth c hx hb hrt hml hts hown hlocks hnm hP hK ls hl
  have hown : s.vm.findClass RX6 = some m.cls := hown
  have hl : lv_has ls 5 [(0, .ref (ρ 0)), (1, .int (I (z : Int))), (2, .int (I a)), (3, .int (I b))] := hl
  have hD : va_D (adIn (refW E ρ th ((n : Int)) tl pa kd nm st hi ke tx wy)) (refW E ρ th ((n : Int)) tl pa kd nm st hi ke tx wy) := D_of_dR hρ rfl
  have hS : va_S (adIn (refW E ρ th ((n : Int)) tl pa kd nm st hi ke tx wy)) s.heap s.heap [] := va_S.rf
  refine lv_aload_n hx hb dX6_setAges_0 rfl (lv_lk hl rfl) ?_
  refine lv_iload_n hx hb dX6_setAges_1 rfl (lv_lk hl rfl) ?_
  refine call_S (va_runS ⟨hx, hb, hml, hown, hts⟩ (m_X6_isZone l E ((z : Int)) (by omega)) (va_cwS 1 hts (gi_S ml_X6_54 st_X6_isZone it_X6 cd_X6_isZone) rfl rfl rfl (by decide +kernel) ⟨Nat.le_of_ble_eq_true rfl, Nat.le_of_ble_eq_true rfl⟩) (pR_S (hP.sub (ws' := []) [] rfl) hK) rfl rfl hl.1 rfl (lv_room (Nat.le_of_ble_eq_true rfl)) dX6_setAges_2 ⟨Nat.le_of_ble_eq_true rfl, Nat.le_of_ble_eq_true rfl⟩) (fun _ h => h) hS rfl (fun locs hS => ?_)
  refine iv_eq (1) (by rw [if_pos (by omega)]) ?_
  refine iv_if_ne (tgt := 12) hx hb dX6_setAges_5 (by decide) (by omega) (fun c_5 => ?_) (fun c_5 => by exfalso; omega)
  refine lv_iload_n hx hb dX6_setAges_12 rfl (lv_lk hl rfl) ?_
  refine call_S (va_runS ⟨hx, hb, hml, hown, hts⟩ (m_X6_isAge l E a (by omega)) (va_cwS 1 hts (gi_S ml_X6_58 st_X6_isAge it_X6 cd_X6_isAge) rfl rfl rfl (by decide +kernel) ⟨Nat.le_of_ble_eq_true rfl, Nat.le_of_ble_eq_true rfl⟩) (pR_S (hP.sub (ws' := []) [] rfl) hK) rfl rfl hl.1 rfl (lv_room (Nat.le_of_ble_eq_true rfl)) dX6_setAges_13 ⟨Nat.le_of_ble_eq_true rfl, Nat.le_of_ble_eq_true rfl⟩) (fun _ h => h) hS rfl (fun locs hS => ?_)
  refine iv_eq (1) (by rw [if_pos (by omega)]) ?_
  refine iv_if_eq (tgt := 30) hx hb dX6_setAges_16 (by decide) (by omega) (fun c_16 => by exfalso; omega) (fun c_16 => ?_)
  refine lv_iload_n hx hb dX6_setAges_19 rfl (lv_lk hl rfl) ?_
  refine call_S (va_runS ⟨hx, hb, hml, hown, hts⟩ (m_X6_isAge l E b (by omega)) (va_cwS 1 hts (gi_S ml_X6_58 st_X6_isAge it_X6 cd_X6_isAge) rfl rfl rfl (by decide +kernel) ⟨Nat.le_of_ble_eq_true rfl, Nat.le_of_ble_eq_true rfl⟩) (pR_S (hP.sub (ws' := []) [] rfl) hK) rfl rfl hl.1 rfl (lv_room (Nat.le_of_ble_eq_true rfl)) dX6_setAges_20 ⟨Nat.le_of_ble_eq_true rfl, Nat.le_of_ble_eq_true rfl⟩) (fun _ h => h) hS rfl (fun locs hS => ?_)
  refine iv_eq (1) (by rw [if_pos (by omega)]) ?_
  refine iv_if_eq (tgt := 30) hx hb dX6_setAges_23 (by decide) (by omega) (fun c_23 => by exfalso; omega) (fun c_23 => ?_)
  refine iv_iconst hx hb dX6_setAges_26 ?_
  refine lv_goto (tgt := 31) hx hb dX6_setAges_27 (by decide) ?_
  refine va_put (ci := 6) (ty := .int) hx hb hts inX6 tyX6 tyX6_ok nmX6 hown hK.1 hP (dm hD rfl) hS 0 rfl rfl 0 (by decide) (hts _ fl_X6_32) (fun _ h9 => h9) rfl (by decide +kernel) rfl rfl (Nat.le_of_ble_eq_true rfl) dX6_setAges_31 (fun H locs hP _ hS => ?_)
  have hP : va_P E.1 vwCl (refW E ρ 0 ((n : Int)) tl pa kd nm st hi ke tx wy) H := hP
  refine lv_aload_n hx hb dX6_setAges_34 rfl (lv_lk hl rfl) ?_
  refine va_get (D := E.1) (ci := 6) hx hb hts inX6 hown hK.1 hP 0 rfl rfl 0 (by decide) (hts _ fl_X6_32) (fun _ h9 => h9) rfl dX6_setAges_35 ?_
  refine iv_if_le (tgt := 43) hx hb dX6_setAges_38 (by decide) (by omega) (fun c_38 => ?_) (fun c_38 => by exfalso; omega)
  refine lv_aload_n hx hb dX6_setAges_43 rfl (lv_lk hl rfl) ?_
  refine call_F (va_runV ⟨hx, hb, hml, hown, hts⟩ (m_X6_record l E ρ 0 tl pa kd nm st hi ke tx wy hρ n hn) (cwV 0 hts (gi_V ml_X6_47 im_X6_record sl_X6_record it_X6 cd_X6_record) rfl rfl rfl (by decide +kernel) ⟨Nat.le_of_ble_eq_true rfl, Nat.le_of_ble_eq_true rfl⟩) (pR_V (q0 := 0) (ci := 6) hP hK rfl rfl) rfl rfl hl.1 rfl (lv_room (Nat.le_of_ble_eq_true rfl)) dX6_setAges_44 ⟨Nat.le_of_ble_eq_true rfl, Nat.le_of_ble_eq_true rfl⟩) (dm hD rfl) hS rfl (fun H locs hP hS => ?_)
  have hP : va_P E.1 vwCl (refW E ρ 0 ((recN n : Int)) tl pa kd nm st (recH st hi n) ke tx wy) H := hP
  refine lv_aload_n hx hb dX6_setAges_47 rfl (lv_lk hl rfl) ?_
  refine lv_iload_n hx hb dX6_setAges_48 rfl (lv_lk hl rfl) ?_
  refine iv_iconst hx hb dX6_setAges_49 ?_
  refine call_S (va_runV ⟨hx, hb, hml, hown, hts⟩ (m_X6_ofZone l E ρ 0 ((recN n : Int)) tl pa kd nm st (recH st hi n) ke tx wy z 1 hz (by decide)) (cwV 2 hts (gi_V ml_X6_50 im_X6_ofZone sl_X6_ofZone it_X6 cd_X6_ofZone) rfl rfl rfl (by decide +kernel) ⟨Nat.le_of_ble_eq_true rfl, Nat.le_of_ble_eq_true rfl⟩) (pR_V (q0 := 0) (ci := 6) hP hK rfl rfl) rfl rfl hl.1 rfl (lv_room (Nat.le_of_ble_eq_true rfl)) dX6_setAges_50 ⟨Nat.le_of_ble_eq_true rfl, Nat.le_of_ble_eq_true rfl⟩) (fun _ h => h) hS rfl (fun locs hS => ?_)
  refine lv_istore (lv' := [(4, .int (I _)), (0, .ref _), (1, .int (I _)), (2, .int (I _)), (3, .int (I _))]) hx hb dX6_setAges_53 hl (by decide) rfl (fun ls hl => ?_)
  refine lv_aload_n hx hb dX6_setAges_55 rfl (lv_lk hl rfl) ?_
  refine lv_iload_n hx hb dX6_setAges_56 rfl (lv_lk hl rfl) ?_
  refine iv_iconst hx hb dX6_setAges_57 ?_
  refine lv_iload_n hx hb dX6_setAges_58 rfl (lv_lk hl rfl) ?_
  refine call_F (va_runV ⟨hx, hb, hml, hown, hts⟩ (m_X6_putsZone l E ρ 0 ((recN n : Int)) tl pa kd nm st (recH st hi n) ke tx wy hρ z 1 _ hz (by decide)) (cwV 3 hts (gi_V ml_X6_25 im_X6_putsZone sl_X6_putsZone it_X6 cd_X6_putsZone) rfl rfl rfl (by decide +kernel) ⟨Nat.le_of_ble_eq_true rfl, Nat.le_of_ble_eq_true rfl⟩) (pR_V (q0 := 0) (ci := 6) hP hK rfl rfl) rfl rfl hl.1 rfl (lv_room (Nat.le_of_ble_eq_true rfl)) dX6_setAges_59 ⟨Nat.le_of_ble_eq_true rfl, Nat.le_of_ble_eq_true rfl⟩) (dm hD rfl) hS rfl (fun H locs hP hS => ?_)
  have hP : va_P E.1 vwCl (refW E ρ 0 ((recN n : Int)) tl pa kd nm (up st (6 + 5 * z + 1) a) (recH st hi n) ke tx wy) H := hP
  refine lv_aload_n hx hb dX6_setAges_62 rfl (lv_lk hl rfl) ?_
  refine lv_iload_n hx hb dX6_setAges_63 rfl (lv_lk hl rfl) ?_
  refine iv_iconst hx hb dX6_setAges_64 ?_
  refine lv_iload_n hx hb dX6_setAges_65 rfl (lv_lk hl rfl) ?_
  refine call_F (va_runV ⟨hx, hb, hml, hown, hts⟩ (m_X6_putsZone l E ρ 0 ((recN n : Int)) tl pa kd nm (up st (6 + 5 * z + 1) a) (recH st hi n) ke tx wy hρ z 2 _ hz (by decide)) (cwV 3 hts (gi_V ml_X6_25 im_X6_putsZone sl_X6_putsZone it_X6 cd_X6_putsZone) rfl rfl rfl (by decide +kernel) ⟨Nat.le_of_ble_eq_true rfl, Nat.le_of_ble_eq_true rfl⟩) (pR_V (q0 := 0) (ci := 6) hP hK rfl rfl) rfl rfl hl.1 rfl (lv_room (Nat.le_of_ble_eq_true rfl)) dX6_setAges_66 ⟨Nat.le_of_ble_eq_true rfl, Nat.le_of_ble_eq_true rfl⟩) (dm hD rfl) hS rfl (fun H locs hP hS => ?_)
  have hP : va_P E.1 vwCl (refW E ρ 0 ((recN n : Int)) tl pa kd nm (up (up st (6 + 5 * z + 1) a) (6 + 5 * z + 2) b) (recH st hi n) ke tx wy) H := hP
  refine lv_iload hx hb dX6_setAges_69 (lv_lk hl rfl) ?_
  exact W.iret hx hb hrt (fun t ht hW => ⟨rfl, by rw [ht]; exact hP, hS.F ht⟩) hS.2.2 dX6_setAges_71 hlocks
set_option maxHeartbeats 4000000 in
set_option maxRecDepth 100000 in
theorem m_X6_setAges_bad1 (l : Launch) (E : Env3) (ρ : Nat → Nat) (th rc tl pa kd nm : Int) (st hi ke tx wy : S) (hρ : dR ρ 6) (z a b : Int) (hz : -2147483648 ≤ z ∧ z ≤ 2147483647) (ha : -2147483648 ≤ a ∧ a ≤ 2147483647) (hb : -2147483648 ≤ b ∧ b ≤ 2147483647) (h1 : ¬ (0 ≤ z ∧ z ≤ 5)) : Met l yX6_setAges (Cond.code yX6_setAges cX6_setAges 5 (some .int) :: ALL) ({ frames := 2, cells := 0, slots := 0, locals := 45 }) (pR [.ref (ρ 0), .int (I z), .int (I a), .int (I b)] E (refW E ρ th rc tl pa kd nm st hi ke tx wy)) (qW (some (.int (I 0))) E (refW E ρ th rc tl pa kd nm st hi ke tx wy) (refW E ρ 1 rc tl pa kd nm st hi ke tx wy)) 0 0 (adIn (refW E ρ th rc tl pa kd nm st hi ke tx wy)) := by
  refine mk_met (by decide) rfl (Nat.le_of_ble_eq_true rfl) ?_
  intro p e s m args below meth c hx hb hrt hml hts hown hlocks hnm hP hK ls hl
  have hown : s.vm.findClass RX6 = some m.cls := hown
  have hl : lv_has ls 5 [(0, .ref (ρ 0)), (1, .int (I z)), (2, .int (I a)), (3, .int (I b))] := hl
  have hD : va_D (adIn (refW E ρ th rc tl pa kd nm st hi ke tx wy)) (refW E ρ th rc tl pa kd nm st hi ke tx wy) := D_of_dR hρ rfl
  have hS : va_S (adIn (refW E ρ th rc tl pa kd nm st hi ke tx wy)) s.heap s.heap [] := va_S.rf
  refine lv_aload_n hx hb dX6_setAges_0 rfl (lv_lk hl rfl) ?_
  refine lv_iload_n hx hb dX6_setAges_1 rfl (lv_lk hl rfl) ?_
  refine call_S (va_runS ⟨hx, hb, hml, hown, hts⟩ (m_X6_isZone l E z (by omega)) (va_cwS 1 hts (gi_S ml_X6_54 st_X6_isZone it_X6 cd_X6_isZone) rfl rfl rfl (by decide +kernel) ⟨Nat.le_of_ble_eq_true rfl, Nat.le_of_ble_eq_true rfl⟩) (pR_S (hP.sub (ws' := []) [] rfl) hK) rfl rfl hl.1 rfl (lv_room (Nat.le_of_ble_eq_true rfl)) dX6_setAges_2 ⟨Nat.le_of_ble_eq_true rfl, Nat.le_of_ble_eq_true rfl⟩) (fun _ h => h) hS rfl (fun locs hS => ?_)
  refine iv_eq (0) (by rw [if_neg (by omega)]) ?_
  refine iv_if_ne (tgt := 12) hx hb dX6_setAges_5 (by decide) (by omega) (fun c_5 => by exfalso; omega) (fun c_5 => ?_)
  refine iv_iconst hx hb dX6_setAges_8 ?_
  refine lv_goto (tgt := 31) hx hb dX6_setAges_9 (by decide) ?_
  refine va_put (ci := 6) (ty := .int) hx hb hts inX6 tyX6 tyX6_ok nmX6 hown hK.1 hP (dm hD rfl) hS 0 rfl rfl 0 (by decide) (hts _ fl_X6_32) (fun _ h9 => h9) rfl (by decide +kernel) rfl rfl (Nat.le_of_ble_eq_true rfl) dX6_setAges_31 (fun H locs hP _ hS => ?_)
  have hP : va_P E.1 vwCl (refW E ρ 1 rc tl pa kd nm st hi ke tx wy) H := hP
  refine lv_aload_n hx hb dX6_setAges_34 rfl (lv_lk hl rfl) ?_
  refine va_get (D := E.1) (ci := 6) hx hb hts inX6 hown hK.1 hP 0 rfl rfl 0 (by decide) (hts _ fl_X6_32) (fun _ h9 => h9) rfl dX6_setAges_35 ?_
  refine iv_if_le (tgt := 43) hx hb dX6_setAges_38 (by decide) (by omega) (fun c_38 => by exfalso; omega) (fun c_38 => ?_)
  refine iv_iconst hx hb dX6_setAges_41 ?_
  exact W.iret hx hb hrt (fun t ht hW => ⟨rfl, by rw [ht]; exact hP, hS.F ht⟩) hS.2.2 dX6_setAges_42 hlocks
set_option maxHeartbeats 4000000 in
set_option maxRecDepth 100000 in
theorem m_X6_setAges_bad2 (l : Launch) (E : Env3) (ρ : Nat → Nat) (th rc tl pa kd nm : Int) (st hi ke tx wy : S) (hρ : dR ρ 6) (z a b : Int) (hz : -2147483648 ≤ z ∧ z ≤ 2147483647) (ha : -2147483648 ≤ a ∧ a ≤ 2147483647) (hb : -2147483648 ≤ b ∧ b ≤ 2147483647) (h1 : 0 ≤ z ∧ z ≤ 5) (h2 : ¬ (1 ≤ a ∧ a ≤ 99)) : Met l yX6_setAges (Cond.code yX6_setAges cX6_setAges 5 (some .int) :: ALL) ({ frames := 2, cells := 0, slots := 0, locals := 45 }) (pR [.ref (ρ 0), .int (I z), .int (I a), .int (I b)] E (refW E ρ th rc tl pa kd nm st hi ke tx wy)) (qW (some (.int (I 0))) E (refW E ρ th rc tl pa kd nm st hi ke tx wy) (refW E ρ 2 rc tl pa kd nm st hi ke tx wy)) 0 0 (adIn (refW E ρ th rc tl pa kd nm st hi ke tx wy)) := by
  refine mk_met (by decide) rfl (Nat.le_of_ble_eq_true rfl) ?_
  intro p e s m args below meth c hx hb hrt hml hts hown hlocks hnm hP hK ls hl
  have hown : s.vm.findClass RX6 = some m.cls := hown
  have hl : lv_has ls 5 [(0, .ref (ρ 0)), (1, .int (I z)), (2, .int (I a)), (3, .int (I b))] := hl
  have hD : va_D (adIn (refW E ρ th rc tl pa kd nm st hi ke tx wy)) (refW E ρ th rc tl pa kd nm st hi ke tx wy) := D_of_dR hρ rfl
  have hS : va_S (adIn (refW E ρ th rc tl pa kd nm st hi ke tx wy)) s.heap s.heap [] := va_S.rf
  refine lv_aload_n hx hb dX6_setAges_0 rfl (lv_lk hl rfl) ?_
  refine lv_iload_n hx hb dX6_setAges_1 rfl (lv_lk hl rfl) ?_
  refine call_S (va_runS ⟨hx, hb, hml, hown, hts⟩ (m_X6_isZone l E z (by omega)) (va_cwS 1 hts (gi_S ml_X6_54 st_X6_isZone it_X6 cd_X6_isZone) rfl rfl rfl (by decide +kernel) ⟨Nat.le_of_ble_eq_true rfl, Nat.le_of_ble_eq_true rfl⟩) (pR_S (hP.sub (ws' := []) [] rfl) hK) rfl rfl hl.1 rfl (lv_room (Nat.le_of_ble_eq_true rfl)) dX6_setAges_2 ⟨Nat.le_of_ble_eq_true rfl, Nat.le_of_ble_eq_true rfl⟩) (fun _ h => h) hS rfl (fun locs hS => ?_)
  refine iv_eq (1) (by rw [if_pos (by omega)]) ?_
  refine iv_if_ne (tgt := 12) hx hb dX6_setAges_5 (by decide) (by omega) (fun c_5 => ?_) (fun c_5 => by exfalso; omega)
  refine lv_iload_n hx hb dX6_setAges_12 rfl (lv_lk hl rfl) ?_
  refine call_S (va_runS ⟨hx, hb, hml, hown, hts⟩ (m_X6_isAge l E a (by omega)) (va_cwS 1 hts (gi_S ml_X6_58 st_X6_isAge it_X6 cd_X6_isAge) rfl rfl rfl (by decide +kernel) ⟨Nat.le_of_ble_eq_true rfl, Nat.le_of_ble_eq_true rfl⟩) (pR_S (hP.sub (ws' := []) [] rfl) hK) rfl rfl hl.1 rfl (lv_room (Nat.le_of_ble_eq_true rfl)) dX6_setAges_13 ⟨Nat.le_of_ble_eq_true rfl, Nat.le_of_ble_eq_true rfl⟩) (fun _ h => h) hS rfl (fun locs hS => ?_)
  refine iv_eq (0) (by rw [if_neg (by omega)]) ?_
  refine iv_if_eq (tgt := 30) hx hb dX6_setAges_16 (by decide) (by omega) (fun c_16 => ?_) (fun c_16 => by exfalso; omega)
  refine iv_iconst hx hb dX6_setAges_30 ?_
  refine va_put (ci := 6) (ty := .int) hx hb hts inX6 tyX6 tyX6_ok nmX6 hown hK.1 hP (dm hD rfl) hS 0 rfl rfl 0 (by decide) (hts _ fl_X6_32) (fun _ h9 => h9) rfl (by decide +kernel) rfl rfl (Nat.le_of_ble_eq_true rfl) dX6_setAges_31 (fun H locs hP _ hS => ?_)
  have hP : va_P E.1 vwCl (refW E ρ 2 rc tl pa kd nm st hi ke tx wy) H := hP
  refine lv_aload_n hx hb dX6_setAges_34 rfl (lv_lk hl rfl) ?_
  refine va_get (D := E.1) (ci := 6) hx hb hts inX6 hown hK.1 hP 0 rfl rfl 0 (by decide) (hts _ fl_X6_32) (fun _ h9 => h9) rfl dX6_setAges_35 ?_
  refine iv_if_le (tgt := 43) hx hb dX6_setAges_38 (by decide) (by omega) (fun c_38 => by exfalso; omega) (fun c_38 => ?_)
  refine iv_iconst hx hb dX6_setAges_41 ?_
  exact W.iret hx hb hrt (fun t ht hW => ⟨rfl, by rw [ht]; exact hP, hS.F ht⟩) hS.2.2 dX6_setAges_42 hlocks
set_option maxHeartbeats 4000000 in
set_option maxRecDepth 100000 in
theorem m_X6_setAges_bad3 (l : Launch) (E : Env3) (ρ : Nat → Nat) (th rc tl pa kd nm : Int) (st hi ke tx wy : S) (hρ : dR ρ 6) (z a b : Int) (hz : -2147483648 ≤ z ∧ z ≤ 2147483647) (ha : -2147483648 ≤ a ∧ a ≤ 2147483647) (hb : -2147483648 ≤ b ∧ b ≤ 2147483647) (h1 : 0 ≤ z ∧ z ≤ 5) (h2 : 1 ≤ a ∧ a ≤ 99) (h3 : ¬ (1 ≤ b ∧ b ≤ 99)) : Met l yX6_setAges (Cond.code yX6_setAges cX6_setAges 5 (some .int) :: ALL) ({ frames := 2, cells := 0, slots := 0, locals := 45 }) (pR [.ref (ρ 0), .int (I z), .int (I a), .int (I b)] E (refW E ρ th rc tl pa kd nm st hi ke tx wy)) (qW (some (.int (I 0))) E (refW E ρ th rc tl pa kd nm st hi ke tx wy) (refW E ρ 2 rc tl pa kd nm st hi ke tx wy)) 0 0 (adIn (refW E ρ th rc tl pa kd nm st hi ke tx wy)) := by
  refine mk_met (by decide) rfl (Nat.le_of_ble_eq_true rfl) ?_
  intro p e s m args below meth c hx hb hrt hml hts hown hlocks hnm hP hK ls hl
  have hown : s.vm.findClass RX6 = some m.cls := hown
  have hl : lv_has ls 5 [(0, .ref (ρ 0)), (1, .int (I z)), (2, .int (I a)), (3, .int (I b))] := hl
  have hD : va_D (adIn (refW E ρ th rc tl pa kd nm st hi ke tx wy)) (refW E ρ th rc tl pa kd nm st hi ke tx wy) := D_of_dR hρ rfl
  have hS : va_S (adIn (refW E ρ th rc tl pa kd nm st hi ke tx wy)) s.heap s.heap [] := va_S.rf
  refine lv_aload_n hx hb dX6_setAges_0 rfl (lv_lk hl rfl) ?_
  refine lv_iload_n hx hb dX6_setAges_1 rfl (lv_lk hl rfl) ?_
  refine call_S (va_runS ⟨hx, hb, hml, hown, hts⟩ (m_X6_isZone l E z (by omega)) (va_cwS 1 hts (gi_S ml_X6_54 st_X6_isZone it_X6 cd_X6_isZone) rfl rfl rfl (by decide +kernel) ⟨Nat.le_of_ble_eq_true rfl, Nat.le_of_ble_eq_true rfl⟩) (pR_S (hP.sub (ws' := []) [] rfl) hK) rfl rfl hl.1 rfl (lv_room (Nat.le_of_ble_eq_true rfl)) dX6_setAges_2 ⟨Nat.le_of_ble_eq_true rfl, Nat.le_of_ble_eq_true rfl⟩) (fun _ h => h) hS rfl (fun locs hS => ?_)
  refine iv_eq (1) (by rw [if_pos (by omega)]) ?_
  refine iv_if_ne (tgt := 12) hx hb dX6_setAges_5 (by decide) (by omega) (fun c_5 => ?_) (fun c_5 => by exfalso; omega)
  refine lv_iload_n hx hb dX6_setAges_12 rfl (lv_lk hl rfl) ?_
  refine call_S (va_runS ⟨hx, hb, hml, hown, hts⟩ (m_X6_isAge l E a (by omega)) (va_cwS 1 hts (gi_S ml_X6_58 st_X6_isAge it_X6 cd_X6_isAge) rfl rfl rfl (by decide +kernel) ⟨Nat.le_of_ble_eq_true rfl, Nat.le_of_ble_eq_true rfl⟩) (pR_S (hP.sub (ws' := []) [] rfl) hK) rfl rfl hl.1 rfl (lv_room (Nat.le_of_ble_eq_true rfl)) dX6_setAges_13 ⟨Nat.le_of_ble_eq_true rfl, Nat.le_of_ble_eq_true rfl⟩) (fun _ h => h) hS rfl (fun locs hS => ?_)
  refine iv_eq (1) (by rw [if_pos (by omega)]) ?_
  refine iv_if_eq (tgt := 30) hx hb dX6_setAges_16 (by decide) (by omega) (fun c_16 => by exfalso; omega) (fun c_16 => ?_)
  refine lv_iload_n hx hb dX6_setAges_19 rfl (lv_lk hl rfl) ?_
  refine call_S (va_runS ⟨hx, hb, hml, hown, hts⟩ (m_X6_isAge l E b (by omega)) (va_cwS 1 hts (gi_S ml_X6_58 st_X6_isAge it_X6 cd_X6_isAge) rfl rfl rfl (by decide +kernel) ⟨Nat.le_of_ble_eq_true rfl, Nat.le_of_ble_eq_true rfl⟩) (pR_S (hP.sub (ws' := []) [] rfl) hK) rfl rfl hl.1 rfl (lv_room (Nat.le_of_ble_eq_true rfl)) dX6_setAges_20 ⟨Nat.le_of_ble_eq_true rfl, Nat.le_of_ble_eq_true rfl⟩) (fun _ h => h) hS rfl (fun locs hS => ?_)
  refine iv_eq (0) (by rw [if_neg (by omega)]) ?_
  refine iv_if_eq (tgt := 30) hx hb dX6_setAges_23 (by decide) (by omega) (fun c_23 => ?_) (fun c_23 => by exfalso; omega)
  refine iv_iconst hx hb dX6_setAges_30 ?_
  refine va_put (ci := 6) (ty := .int) hx hb hts inX6 tyX6 tyX6_ok nmX6 hown hK.1 hP (dm hD rfl) hS 0 rfl rfl 0 (by decide) (hts _ fl_X6_32) (fun _ h9 => h9) rfl (by decide +kernel) rfl rfl (Nat.le_of_ble_eq_true rfl) dX6_setAges_31 (fun H locs hP _ hS => ?_)
  have hP : va_P E.1 vwCl (refW E ρ 2 rc tl pa kd nm st hi ke tx wy) H := hP
  refine lv_aload_n hx hb dX6_setAges_34 rfl (lv_lk hl rfl) ?_
  refine va_get (D := E.1) (ci := 6) hx hb hts inX6 hown hK.1 hP 0 rfl rfl 0 (by decide) (hts _ fl_X6_32) (fun _ h9 => h9) rfl dX6_setAges_35 ?_
  refine iv_if_le (tgt := 43) hx hb dX6_setAges_38 (by decide) (by omega) (fun c_38 => by exfalso; omega) (fun c_38 => ?_)
  refine iv_iconst hx hb dX6_setAges_41 ?_
  exact W.iret hx hb hrt (fun t ht hW => ⟨rfl, by rw [ht]; exact hP, hS.F ht⟩) hS.2.2 dX6_setAges_42 hlocks
set_option maxHeartbeats 4000000 in
set_option maxRecDepth 100000 in
theorem m_X6_gives (l : Launch) (E : Env3) (ρ : Nat → Nat) (th tl pa kd nm : Int) (st hi ke tx wy : S) (hρ : dR ρ 6) (n : Nat) (hn : n ≤ 6) (r : Nat) (k9 v9 a9 : Int) (hr : r < 36) : Met l yX6_gives (Cond.code yX6_gives cX6_gives 6 (some .int) :: ALL) ({ frames := 2, cells := 0, slots := 0, locals := 45 }) (pR [.ref (ρ 0), .int (I (r : Int)), .int (I k9), .int (I v9), .int (I a9)] E (refW E ρ th ((n : Int)) tl pa kd nm st hi ke tx wy)) (qW (some (.int (I (st (36 + 6 * r))))) E (refW E ρ th ((n : Int)) tl pa kd nm st hi ke tx wy) (refW E ρ th ((recN n : Int)) tl pa kd nm (up (up (up st (36 + 6 * r) k9) (36 + 6 * r + 1) v9) (36 + 6 * r + 2) a9) (recH st hi n) ke tx wy)) 0 0 (adIn (refW E ρ th ((n : Int)) tl pa kd nm st hi ke tx wy)) := by
  refine mk_met (by decide) rfl (Nat.le_of_ble_eq_true rfl) ?_
  intro p e s m args below meth c hx hb hrt hml hts hown hlocks hnm hP hK ls hl
  have hown : s.vm.findClass RX6 = some m.cls := hown
  have hl : lv_has ls 6 [(0, .ref (ρ 0)), (1, .int (I (r : Int))), (2, .int (I k9)), (3, .int (I v9)), (4, .int (I a9))] := hl
  have hD : va_D (adIn (refW E ρ th ((n : Int)) tl pa kd nm st hi ke tx wy)) (refW E ρ th ((n : Int)) tl pa kd nm st hi ke tx wy) := D_of_dR hρ rfl
  have hS : va_S (adIn (refW E ρ th ((n : Int)) tl pa kd nm st hi ke tx wy)) s.heap s.heap [] := va_S.rf
  refine lv_aload_n hx hb dX6_gives_0 rfl (lv_lk hl rfl) ?_
  refine call_F (va_runV ⟨hx, hb, hml, hown, hts⟩ (m_X6_record l E ρ th tl pa kd nm st hi ke tx wy hρ n hn) (cwV 0 hts (gi_V ml_X6_47 im_X6_record sl_X6_record it_X6 cd_X6_record) rfl rfl rfl (by decide +kernel) ⟨Nat.le_of_ble_eq_true rfl, Nat.le_of_ble_eq_true rfl⟩) (pR_V (q0 := 0) (ci := 6) hP hK rfl rfl) rfl rfl hl.1 rfl (lv_room (Nat.le_of_ble_eq_true rfl)) dX6_gives_1 ⟨Nat.le_of_ble_eq_true rfl, Nat.le_of_ble_eq_true rfl⟩) (dm hD rfl) hS rfl (fun H locs hP hS => ?_)
  have hP : va_P E.1 vwCl (refW E ρ th ((recN n : Int)) tl pa kd nm st (recH st hi n) ke tx wy) H := hP
  refine lv_aload_n hx hb dX6_gives_4 rfl (lv_lk hl rfl) ?_
  refine lv_iload_n hx hb dX6_gives_5 rfl (lv_lk hl rfl) ?_
  refine iv_iconst hx hb dX6_gives_6 ?_
  refine call_S (va_runV ⟨hx, hb, hml, hown, hts⟩ (m_X6_of l E ρ th ((recN n : Int)) tl pa kd nm st (recH st hi n) ke tx wy r 0 hr (by decide)) (cwV 2 hts (gi_V ml_X6_61 im_X6_of sl_X6_of it_X6 cd_X6_of) rfl rfl rfl (by decide +kernel) ⟨Nat.le_of_ble_eq_true rfl, Nat.le_of_ble_eq_true rfl⟩) (pR_V (q0 := 0) (ci := 6) hP hK rfl rfl) rfl rfl hl.1 rfl (lv_room (Nat.le_of_ble_eq_true rfl)) dX6_gives_7 ⟨Nat.le_of_ble_eq_true rfl, Nat.le_of_ble_eq_true rfl⟩) (fun _ h => h) hS rfl (fun locs hS => ?_)
  refine lv_istore (lv' := [(5, .int (I _)), (0, .ref _), (1, .int (I _)), (2, .int (I _)), (3, .int (I _)), (4, .int (I _))]) hx hb dX6_gives_10 hl (by decide) rfl (fun ls hl => ?_)
  refine lv_aload_n hx hb dX6_gives_12 rfl (lv_lk hl rfl) ?_
  refine lv_iload_n hx hb dX6_gives_13 rfl (lv_lk hl rfl) ?_
  refine iv_iconst hx hb dX6_gives_14 ?_
  refine lv_iload_n hx hb dX6_gives_15 rfl (lv_lk hl rfl) ?_
  refine call_F (va_runV ⟨hx, hb, hml, hown, hts⟩ (m_X6_puts l E ρ th ((recN n : Int)) tl pa kd nm st (recH st hi n) ke tx wy hρ r 0 _ hr (by decide)) (cwV 3 hts (gi_V ml_X6_29 im_X6_puts sl_X6_puts it_X6 cd_X6_puts) rfl rfl rfl (by decide +kernel) ⟨Nat.le_of_ble_eq_true rfl, Nat.le_of_ble_eq_true rfl⟩) (pR_V (q0 := 0) (ci := 6) hP hK rfl rfl) rfl rfl hl.1 rfl (lv_room (Nat.le_of_ble_eq_true rfl)) dX6_gives_16 ⟨Nat.le_of_ble_eq_true rfl, Nat.le_of_ble_eq_true rfl⟩) (dm hD rfl) hS rfl (fun H locs hP hS => ?_)
  have hP : va_P E.1 vwCl (refW E ρ th ((recN n : Int)) tl pa kd nm (up st (36 + 6 * r) k9) (recH st hi n) ke tx wy) H := hP
  refine lv_aload_n hx hb dX6_gives_19 rfl (lv_lk hl rfl) ?_
  refine lv_iload_n hx hb dX6_gives_20 rfl (lv_lk hl rfl) ?_
  refine iv_iconst hx hb dX6_gives_21 ?_
  refine lv_iload_n hx hb dX6_gives_22 rfl (lv_lk hl rfl) ?_
  refine call_F (va_runV ⟨hx, hb, hml, hown, hts⟩ (m_X6_puts l E ρ th ((recN n : Int)) tl pa kd nm (up st (36 + 6 * r) k9) (recH st hi n) ke tx wy hρ r 1 _ hr (by decide)) (cwV 3 hts (gi_V ml_X6_29 im_X6_puts sl_X6_puts it_X6 cd_X6_puts) rfl rfl rfl (by decide +kernel) ⟨Nat.le_of_ble_eq_true rfl, Nat.le_of_ble_eq_true rfl⟩) (pR_V (q0 := 0) (ci := 6) hP hK rfl rfl) rfl rfl hl.1 rfl (lv_room (Nat.le_of_ble_eq_true rfl)) dX6_gives_23 ⟨Nat.le_of_ble_eq_true rfl, Nat.le_of_ble_eq_true rfl⟩) (dm hD rfl) hS rfl (fun H locs hP hS => ?_)
  have hP : va_P E.1 vwCl (refW E ρ th ((recN n : Int)) tl pa kd nm (up (up st (36 + 6 * r) k9) (36 + 6 * r + 1) v9) (recH st hi n) ke tx wy) H := hP
  refine lv_aload_n hx hb dX6_gives_26 rfl (lv_lk hl rfl) ?_
  refine lv_iload_n hx hb dX6_gives_27 rfl (lv_lk hl rfl) ?_
  refine iv_iconst hx hb dX6_gives_28 ?_
  refine lv_iload hx hb dX6_gives_29 (lv_lk hl rfl) ?_
  refine call_F (va_runV ⟨hx, hb, hml, hown, hts⟩ (m_X6_puts l E ρ th ((recN n : Int)) tl pa kd nm (up (up st (36 + 6 * r) k9) (36 + 6 * r + 1) v9) (recH st hi n) ke tx wy hρ r 2 _ hr (by decide)) (cwV 3 hts (gi_V ml_X6_29 im_X6_puts sl_X6_puts it_X6 cd_X6_puts) rfl rfl rfl (by decide +kernel) ⟨Nat.le_of_ble_eq_true rfl, Nat.le_of_ble_eq_true rfl⟩) (pR_V (q0 := 0) (ci := 6) hP hK rfl rfl) rfl rfl hl.1 rfl (lv_room (Nat.le_of_ble_eq_true rfl)) dX6_gives_31 ⟨Nat.le_of_ble_eq_true rfl, Nat.le_of_ble_eq_true rfl⟩) (dm hD rfl) hS rfl (fun H locs hP hS => ?_)
  have hP : va_P E.1 vwCl (refW E ρ th ((recN n : Int)) tl pa kd nm (up (up (up st (36 + 6 * r) k9) (36 + 6 * r + 1) v9) (36 + 6 * r + 2) a9) (recH st hi n) ke tx wy) H := hP
  refine lv_iload hx hb dX6_gives_34 (lv_lk hl rfl) ?_
  exact W.iret hx hb hrt (fun t ht hW => ⟨rfl, by rw [ht]; exact hP, hS.F ht⟩) hS.2.2 dX6_gives_36 hlocks
set_option maxHeartbeats 4000000 in
set_option maxRecDepth 100000 in
theorem m_X6_setAnswer_ok (l : Launch) (E : Env3) (ρ : Nat → Nat) (th tl pa kd nm : Int) (st hi ke tx wy : S) (hρ : dR ρ 6) (n : Nat) (hn : n ≤ 6) (r : Nat) (v a : Int) (hr : r < 36) (hv : 0 ≤ v ∧ v ≤ 99) (ha : 1 ≤ a ∧ a ≤ 99) : Met l yX6_setAnswer (Cond.code yX6_setAnswer cX6_setAnswer 4 (some .int) :: ALL) ({ frames := 3, cells := 0, slots := 0, locals := 70 }) (pR [.ref (ρ 0), .int (I (r : Int)), .int (I v), .int (I a)] E (refW E ρ th ((n : Int)) tl pa kd nm st hi ke tx wy)) (qW (some (.int (I (st (36 + 6 * r))))) E (refW E ρ th ((n : Int)) tl pa kd nm st hi ke tx wy) (refW E ρ 0 ((recN n : Int)) tl pa kd nm (up (up (up st (36 + 6 * r) 1) (36 + 6 * r + 1) v) (36 + 6 * r + 2) a) (recH st hi n) ke tx wy)) 0 0 (adIn (refW E ρ th ((n : Int)) tl pa kd nm st hi ke tx wy)) := by
  refine mk_met (by decide) rfl (Nat.le_of_ble_eq_true rfl) ?_
  intro p e s m args below meth c hx hb hrt hml hts hown hlocks hnm hP hK ls hl
  have hown : s.vm.findClass RX6 = some m.cls := hown
  have hl : lv_has ls 4 [(0, .ref (ρ 0)), (1, .int (I (r : Int))), (2, .int (I v)), (3, .int (I a))] := hl
  have hD : va_D (adIn (refW E ρ th ((n : Int)) tl pa kd nm st hi ke tx wy)) (refW E ρ th ((n : Int)) tl pa kd nm st hi ke tx wy) := D_of_dR hρ rfl
  have hS : va_S (adIn (refW E ρ th ((n : Int)) tl pa kd nm st hi ke tx wy)) s.heap s.heap [] := va_S.rf
  refine lv_aload_n hx hb dX6_setAnswer_0 rfl (lv_lk hl rfl) ?_
  refine lv_iload_n hx hb dX6_setAnswer_1 rfl (lv_lk hl rfl) ?_
  refine call_S (va_runS ⟨hx, hb, hml, hown, hts⟩ (m_X6_isRiddle l E ((r : Int)) (by omega)) (va_cwS 1 hts (gi_S ml_X6_64 st_X6_isRiddle it_X6 cd_X6_isRiddle) rfl rfl rfl (by decide +kernel) ⟨Nat.le_of_ble_eq_true rfl, Nat.le_of_ble_eq_true rfl⟩) (pR_S (hP.sub (ws' := []) [] rfl) hK) rfl rfl hl.1 rfl (lv_room (Nat.le_of_ble_eq_true rfl)) dX6_setAnswer_2 ⟨Nat.le_of_ble_eq_true rfl, Nat.le_of_ble_eq_true rfl⟩) (fun _ h => h) hS rfl (fun locs hS => ?_)
  refine iv_eq (1) (by rw [if_pos (by omega)]) ?_
  refine iv_if_ne (tgt := 12) hx hb dX6_setAnswer_5 (by decide) (by omega) (fun c_5 => ?_) (fun c_5 => by exfalso; omega)
  refine lv_iload_n hx hb dX6_setAnswer_12 rfl (lv_lk hl rfl) ?_
  refine iv_iconst hx hb dX6_setAnswer_13 ?_
  refine iv_bipush hx hb dX6_setAnswer_14 (by decide +kernel) ?_
  refine call_S (va_runS ⟨hx, hb, hml, hown, hts⟩ (m_X6_within l E v 0 99 (by omega) (by omega) (by omega)) (va_cwS 3 hts (gi_S ml_X6_43 st_X6_within it_X6 cd_X6_within) rfl rfl rfl (by decide +kernel) ⟨Nat.le_of_ble_eq_true rfl, Nat.le_of_ble_eq_true rfl⟩) (pR_S (hP.sub (ws' := []) [] rfl) hK) rfl rfl hl.1 rfl (lv_room (Nat.le_of_ble_eq_true rfl)) dX6_setAnswer_16 ⟨Nat.le_of_ble_eq_true rfl, Nat.le_of_ble_eq_true rfl⟩) (fun _ h => h) hS rfl (fun locs hS => ?_)
  refine iv_eq (1) (by rw [if_pos (by omega)]) ?_
  refine iv_if_eq (tgt := 33) hx hb dX6_setAnswer_19 (by decide) (by omega) (fun c_19 => by exfalso; omega) (fun c_19 => ?_)
  refine lv_iload_n hx hb dX6_setAnswer_22 rfl (lv_lk hl rfl) ?_
  refine call_S (va_runS ⟨hx, hb, hml, hown, hts⟩ (m_X6_isAge l E a (by omega)) (va_cwS 1 hts (gi_S ml_X6_58 st_X6_isAge it_X6 cd_X6_isAge) rfl rfl rfl (by decide +kernel) ⟨Nat.le_of_ble_eq_true rfl, Nat.le_of_ble_eq_true rfl⟩) (pR_S (hP.sub (ws' := []) [] rfl) hK) rfl rfl hl.1 rfl (lv_room (Nat.le_of_ble_eq_true rfl)) dX6_setAnswer_23 ⟨Nat.le_of_ble_eq_true rfl, Nat.le_of_ble_eq_true rfl⟩) (fun _ h => h) hS rfl (fun locs hS => ?_)
  refine iv_eq (1) (by rw [if_pos (by omega)]) ?_
  refine iv_if_eq (tgt := 33) hx hb dX6_setAnswer_26 (by decide) (by omega) (fun c_26 => by exfalso; omega) (fun c_26 => ?_)
  refine iv_iconst hx hb dX6_setAnswer_29 ?_
  refine lv_goto (tgt := 34) hx hb dX6_setAnswer_30 (by decide) ?_
  refine va_put (ci := 6) (ty := .int) hx hb hts inX6 tyX6 tyX6_ok nmX6 hown hK.1 hP (dm hD rfl) hS 0 rfl rfl 0 (by decide) (hts _ fl_X6_32) (fun _ h9 => h9) rfl (by decide +kernel) rfl rfl (Nat.le_of_ble_eq_true rfl) dX6_setAnswer_34 (fun H locs hP _ hS => ?_)
  have hP : va_P E.1 vwCl (refW E ρ 0 ((n : Int)) tl pa kd nm st hi ke tx wy) H := hP
  refine lv_aload_n hx hb dX6_setAnswer_37 rfl (lv_lk hl rfl) ?_
  refine va_get (D := E.1) (ci := 6) hx hb hts inX6 hown hK.1 hP 0 rfl rfl 0 (by decide) (hts _ fl_X6_32) (fun _ h9 => h9) rfl dX6_setAnswer_38 ?_
  refine iv_if_le (tgt := 48) hx hb dX6_setAnswer_41 (by decide) (by omega) (fun c_41 => ?_) (fun c_41 => by exfalso; omega)
  refine lv_aload_n hx hb dX6_setAnswer_48 rfl (lv_lk hl rfl) ?_
  refine lv_iload_n hx hb dX6_setAnswer_49 rfl (lv_lk hl rfl) ?_
  refine iv_iconst hx hb dX6_setAnswer_50 ?_
  refine lv_iload_n hx hb dX6_setAnswer_51 rfl (lv_lk hl rfl) ?_
  refine lv_iload_n hx hb dX6_setAnswer_52 rfl (lv_lk hl rfl) ?_
  refine call_F (va_runV ⟨hx, hb, hml, hown, hts⟩ (m_X6_gives l E ρ 0 tl pa kd nm st hi ke tx wy hρ n hn r 1 v a hr) (cwV 4 hts (gi_V ml_X6_67 im_X6_gives sl_X6_gives it_X6 cd_X6_gives) rfl rfl rfl (by decide +kernel) ⟨Nat.le_of_ble_eq_true rfl, Nat.le_of_ble_eq_true rfl⟩) (pR_V (q0 := 0) (ci := 6) hP hK rfl rfl) rfl rfl hl.1 rfl (lv_room (Nat.le_of_ble_eq_true rfl)) dX6_setAnswer_53 ⟨Nat.le_of_ble_eq_true rfl, Nat.le_of_ble_eq_true rfl⟩) (dm hD rfl) hS rfl (fun H locs hP hS => ?_)
  have hP : va_P E.1 vwCl (refW E ρ 0 ((recN n : Int)) tl pa kd nm (up (up (up st (36 + 6 * r) 1) (36 + 6 * r + 1) v) (36 + 6 * r + 2) a) (recH st hi n) ke tx wy) H := hP
  exact W.iret hx hb hrt (fun t ht hW => ⟨rfl, by rw [ht]; exact hP, hS.F ht⟩) hS.2.2 dX6_setAnswer_56 hlocks
set_option maxHeartbeats 4000000 in
set_option maxRecDepth 100000 in
theorem m_X6_setAnswer_bad1 (l : Launch) (E : Env3) (ρ : Nat → Nat) (th rc tl pa kd nm : Int) (st hi ke tx wy : S) (hρ : dR ρ 6) (r v a : Int) (hr : -2147483648 ≤ r ∧ r ≤ 2147483647) (hv : -2147483648 ≤ v ∧ v ≤ 2147483647) (ha : -2147483648 ≤ a ∧ a ≤ 2147483647) (h1 : ¬ (0 ≤ r ∧ r ≤ 35)) : Met l yX6_setAnswer (Cond.code yX6_setAnswer cX6_setAnswer 4 (some .int) :: ALL) ({ frames := 3, cells := 0, slots := 0, locals := 70 }) (pR [.ref (ρ 0), .int (I r), .int (I v), .int (I a)] E (refW E ρ th rc tl pa kd nm st hi ke tx wy)) (qW (some (.int (I 0))) E (refW E ρ th rc tl pa kd nm st hi ke tx wy) (refW E ρ 1 rc tl pa kd nm st hi ke tx wy)) 0 0 (adIn (refW E ρ th rc tl pa kd nm st hi ke tx wy)) := by
  refine mk_met (by decide) rfl (Nat.le_of_ble_eq_true rfl) ?_
  intro p e s m args below meth c hx hb hrt hml hts hown hlocks hnm hP hK ls hl
  have hown : s.vm.findClass RX6 = some m.cls := hown
  have hl : lv_has ls 4 [(0, .ref (ρ 0)), (1, .int (I r)), (2, .int (I v)), (3, .int (I a))] := hl
  have hD : va_D (adIn (refW E ρ th rc tl pa kd nm st hi ke tx wy)) (refW E ρ th rc tl pa kd nm st hi ke tx wy) := D_of_dR hρ rfl
  have hS : va_S (adIn (refW E ρ th rc tl pa kd nm st hi ke tx wy)) s.heap s.heap [] := va_S.rf
  refine lv_aload_n hx hb dX6_setAnswer_0 rfl (lv_lk hl rfl) ?_
  refine lv_iload_n hx hb dX6_setAnswer_1 rfl (lv_lk hl rfl) ?_
  refine call_S (va_runS ⟨hx, hb, hml, hown, hts⟩ (m_X6_isRiddle l E r (by omega)) (va_cwS 1 hts (gi_S ml_X6_64 st_X6_isRiddle it_X6 cd_X6_isRiddle) rfl rfl rfl (by decide +kernel) ⟨Nat.le_of_ble_eq_true rfl, Nat.le_of_ble_eq_true rfl⟩) (pR_S (hP.sub (ws' := []) [] rfl) hK) rfl rfl hl.1 rfl (lv_room (Nat.le_of_ble_eq_true rfl)) dX6_setAnswer_2 ⟨Nat.le_of_ble_eq_true rfl, Nat.le_of_ble_eq_true rfl⟩) (fun _ h => h) hS rfl (fun locs hS => ?_)
  refine iv_eq (0) (by rw [if_neg (by omega)]) ?_
  refine iv_if_ne (tgt := 12) hx hb dX6_setAnswer_5 (by decide) (by omega) (fun c_5 => by exfalso; omega) (fun c_5 => ?_)
  refine iv_iconst hx hb dX6_setAnswer_8 ?_
  refine lv_goto (tgt := 34) hx hb dX6_setAnswer_9 (by decide) ?_
  refine va_put (ci := 6) (ty := .int) hx hb hts inX6 tyX6 tyX6_ok nmX6 hown hK.1 hP (dm hD rfl) hS 0 rfl rfl 0 (by decide) (hts _ fl_X6_32) (fun _ h9 => h9) rfl (by decide +kernel) rfl rfl (Nat.le_of_ble_eq_true rfl) dX6_setAnswer_34 (fun H locs hP _ hS => ?_)
  have hP : va_P E.1 vwCl (refW E ρ 1 rc tl pa kd nm st hi ke tx wy) H := hP
  refine lv_aload_n hx hb dX6_setAnswer_37 rfl (lv_lk hl rfl) ?_
  refine va_get (D := E.1) (ci := 6) hx hb hts inX6 hown hK.1 hP 0 rfl rfl 0 (by decide) (hts _ fl_X6_32) (fun _ h9 => h9) rfl dX6_setAnswer_38 ?_
  refine iv_if_le (tgt := 48) hx hb dX6_setAnswer_41 (by decide) (by omega) (fun c_41 => by exfalso; omega) (fun c_41 => ?_)
  refine iv_iconst hx hb dX6_setAnswer_44 ?_
  refine lv_goto (tgt := 56) hx hb dX6_setAnswer_45 (by decide) ?_
  exact W.iret hx hb hrt (fun t ht hW => ⟨rfl, by rw [ht]; exact hP, hS.F ht⟩) hS.2.2 dX6_setAnswer_56 hlocks
set_option maxHeartbeats 4000000 in
set_option maxRecDepth 100000 in
theorem m_X6_setAnswer_bad2 (l : Launch) (E : Env3) (ρ : Nat → Nat) (th rc tl pa kd nm : Int) (st hi ke tx wy : S) (hρ : dR ρ 6) (r v a : Int) (hr : -2147483648 ≤ r ∧ r ≤ 2147483647) (hv : -2147483648 ≤ v ∧ v ≤ 2147483647) (ha : -2147483648 ≤ a ∧ a ≤ 2147483647) (h1 : 0 ≤ r ∧ r ≤ 35) (h2 : ¬ (0 ≤ v ∧ v ≤ 99)) : Met l yX6_setAnswer (Cond.code yX6_setAnswer cX6_setAnswer 4 (some .int) :: ALL) ({ frames := 3, cells := 0, slots := 0, locals := 70 }) (pR [.ref (ρ 0), .int (I r), .int (I v), .int (I a)] E (refW E ρ th rc tl pa kd nm st hi ke tx wy)) (qW (some (.int (I 0))) E (refW E ρ th rc tl pa kd nm st hi ke tx wy) (refW E ρ 2 rc tl pa kd nm st hi ke tx wy)) 0 0 (adIn (refW E ρ th rc tl pa kd nm st hi ke tx wy)) := by
  refine mk_met (by decide) rfl (Nat.le_of_ble_eq_true rfl) ?_
  intro p e s m args below meth c hx hb hrt hml hts hown hlocks hnm hP hK ls hl
  have hown : s.vm.findClass RX6 = some m.cls := hown
  have hl : lv_has ls 4 [(0, .ref (ρ 0)), (1, .int (I r)), (2, .int (I v)), (3, .int (I a))] := hl
  have hD : va_D (adIn (refW E ρ th rc tl pa kd nm st hi ke tx wy)) (refW E ρ th rc tl pa kd nm st hi ke tx wy) := D_of_dR hρ rfl
  have hS : va_S (adIn (refW E ρ th rc tl pa kd nm st hi ke tx wy)) s.heap s.heap [] := va_S.rf
  refine lv_aload_n hx hb dX6_setAnswer_0 rfl (lv_lk hl rfl) ?_
  refine lv_iload_n hx hb dX6_setAnswer_1 rfl (lv_lk hl rfl) ?_
  refine call_S (va_runS ⟨hx, hb, hml, hown, hts⟩ (m_X6_isRiddle l E r (by omega)) (va_cwS 1 hts (gi_S ml_X6_64 st_X6_isRiddle it_X6 cd_X6_isRiddle) rfl rfl rfl (by decide +kernel) ⟨Nat.le_of_ble_eq_true rfl, Nat.le_of_ble_eq_true rfl⟩) (pR_S (hP.sub (ws' := []) [] rfl) hK) rfl rfl hl.1 rfl (lv_room (Nat.le_of_ble_eq_true rfl)) dX6_setAnswer_2 ⟨Nat.le_of_ble_eq_true rfl, Nat.le_of_ble_eq_true rfl⟩) (fun _ h => h) hS rfl (fun locs hS => ?_)
  refine iv_eq (1) (by rw [if_pos (by omega)]) ?_
  refine iv_if_ne (tgt := 12) hx hb dX6_setAnswer_5 (by decide) (by omega) (fun c_5 => ?_) (fun c_5 => by exfalso; omega)
  refine lv_iload_n hx hb dX6_setAnswer_12 rfl (lv_lk hl rfl) ?_
  refine iv_iconst hx hb dX6_setAnswer_13 ?_
  refine iv_bipush hx hb dX6_setAnswer_14 (by decide +kernel) ?_
  refine call_S (va_runS ⟨hx, hb, hml, hown, hts⟩ (m_X6_within l E v 0 99 (by omega) (by omega) (by omega)) (va_cwS 3 hts (gi_S ml_X6_43 st_X6_within it_X6 cd_X6_within) rfl rfl rfl (by decide +kernel) ⟨Nat.le_of_ble_eq_true rfl, Nat.le_of_ble_eq_true rfl⟩) (pR_S (hP.sub (ws' := []) [] rfl) hK) rfl rfl hl.1 rfl (lv_room (Nat.le_of_ble_eq_true rfl)) dX6_setAnswer_16 ⟨Nat.le_of_ble_eq_true rfl, Nat.le_of_ble_eq_true rfl⟩) (fun _ h => h) hS rfl (fun locs hS => ?_)
  refine iv_eq (0) (by rw [if_neg (by omega)]) ?_
  refine iv_if_eq (tgt := 33) hx hb dX6_setAnswer_19 (by decide) (by omega) (fun c_19 => ?_) (fun c_19 => by exfalso; omega)
  refine iv_iconst hx hb dX6_setAnswer_33 ?_
  refine va_put (ci := 6) (ty := .int) hx hb hts inX6 tyX6 tyX6_ok nmX6 hown hK.1 hP (dm hD rfl) hS 0 rfl rfl 0 (by decide) (hts _ fl_X6_32) (fun _ h9 => h9) rfl (by decide +kernel) rfl rfl (Nat.le_of_ble_eq_true rfl) dX6_setAnswer_34 (fun H locs hP _ hS => ?_)
  have hP : va_P E.1 vwCl (refW E ρ 2 rc tl pa kd nm st hi ke tx wy) H := hP
  refine lv_aload_n hx hb dX6_setAnswer_37 rfl (lv_lk hl rfl) ?_
  refine va_get (D := E.1) (ci := 6) hx hb hts inX6 hown hK.1 hP 0 rfl rfl 0 (by decide) (hts _ fl_X6_32) (fun _ h9 => h9) rfl dX6_setAnswer_38 ?_
  refine iv_if_le (tgt := 48) hx hb dX6_setAnswer_41 (by decide) (by omega) (fun c_41 => by exfalso; omega) (fun c_41 => ?_)
  refine iv_iconst hx hb dX6_setAnswer_44 ?_
  refine lv_goto (tgt := 56) hx hb dX6_setAnswer_45 (by decide) ?_
  exact W.iret hx hb hrt (fun t ht hW => ⟨rfl, by rw [ht]; exact hP, hS.F ht⟩) hS.2.2 dX6_setAnswer_56 hlocks
set_option maxHeartbeats 4000000 in
set_option maxRecDepth 100000 in
theorem m_X6_setAnswer_bad3 (l : Launch) (E : Env3) (ρ : Nat → Nat) (th rc tl pa kd nm : Int) (st hi ke tx wy : S) (hρ : dR ρ 6) (r v a : Int) (hr : -2147483648 ≤ r ∧ r ≤ 2147483647) (hv : -2147483648 ≤ v ∧ v ≤ 2147483647) (ha : -2147483648 ≤ a ∧ a ≤ 2147483647) (h1 : 0 ≤ r ∧ r ≤ 35) (h2 : 0 ≤ v ∧ v ≤ 99) (h3 : ¬ (1 ≤ a ∧ a ≤ 99)) : Met l yX6_setAnswer (Cond.code yX6_setAnswer cX6_setAnswer 4 (some .int) :: ALL) ({ frames := 3, cells := 0, slots := 0, locals := 70 }) (pR [.ref (ρ 0), .int (I r), .int (I v), .int (I a)] E (refW E ρ th rc tl pa kd nm st hi ke tx wy)) (qW (some (.int (I 0))) E (refW E ρ th rc tl pa kd nm st hi ke tx wy) (refW E ρ 2 rc tl pa kd nm st hi ke tx wy)) 0 0 (adIn (refW E ρ th rc tl pa kd nm st hi ke tx wy)) := by
  refine mk_met (by decide) rfl (Nat.le_of_ble_eq_true rfl) ?_
  intro p e s m args below meth c hx hb hrt hml hts hown hlocks hnm hP hK ls hl
  have hown : s.vm.findClass RX6 = some m.cls := hown
  have hl : lv_has ls 4 [(0, .ref (ρ 0)), (1, .int (I r)), (2, .int (I v)), (3, .int (I a))] := hl
  have hD : va_D (adIn (refW E ρ th rc tl pa kd nm st hi ke tx wy)) (refW E ρ th rc tl pa kd nm st hi ke tx wy) := D_of_dR hρ rfl
  have hS : va_S (adIn (refW E ρ th rc tl pa kd nm st hi ke tx wy)) s.heap s.heap [] := va_S.rf
  refine lv_aload_n hx hb dX6_setAnswer_0 rfl (lv_lk hl rfl) ?_
  refine lv_iload_n hx hb dX6_setAnswer_1 rfl (lv_lk hl rfl) ?_
  refine call_S (va_runS ⟨hx, hb, hml, hown, hts⟩ (m_X6_isRiddle l E r (by omega)) (va_cwS 1 hts (gi_S ml_X6_64 st_X6_isRiddle it_X6 cd_X6_isRiddle) rfl rfl rfl (by decide +kernel) ⟨Nat.le_of_ble_eq_true rfl, Nat.le_of_ble_eq_true rfl⟩) (pR_S (hP.sub (ws' := []) [] rfl) hK) rfl rfl hl.1 rfl (lv_room (Nat.le_of_ble_eq_true rfl)) dX6_setAnswer_2 ⟨Nat.le_of_ble_eq_true rfl, Nat.le_of_ble_eq_true rfl⟩) (fun _ h => h) hS rfl (fun locs hS => ?_)
  refine iv_eq (1) (by rw [if_pos (by omega)]) ?_
  refine iv_if_ne (tgt := 12) hx hb dX6_setAnswer_5 (by decide) (by omega) (fun c_5 => ?_) (fun c_5 => by exfalso; omega)
  refine lv_iload_n hx hb dX6_setAnswer_12 rfl (lv_lk hl rfl) ?_
  refine iv_iconst hx hb dX6_setAnswer_13 ?_
  refine iv_bipush hx hb dX6_setAnswer_14 (by decide +kernel) ?_
  refine call_S (va_runS ⟨hx, hb, hml, hown, hts⟩ (m_X6_within l E v 0 99 (by omega) (by omega) (by omega)) (va_cwS 3 hts (gi_S ml_X6_43 st_X6_within it_X6 cd_X6_within) rfl rfl rfl (by decide +kernel) ⟨Nat.le_of_ble_eq_true rfl, Nat.le_of_ble_eq_true rfl⟩) (pR_S (hP.sub (ws' := []) [] rfl) hK) rfl rfl hl.1 rfl (lv_room (Nat.le_of_ble_eq_true rfl)) dX6_setAnswer_16 ⟨Nat.le_of_ble_eq_true rfl, Nat.le_of_ble_eq_true rfl⟩) (fun _ h => h) hS rfl (fun locs hS => ?_)
  refine iv_eq (1) (by rw [if_pos (by omega)]) ?_
  refine iv_if_eq (tgt := 33) hx hb dX6_setAnswer_19 (by decide) (by omega) (fun c_19 => by exfalso; omega) (fun c_19 => ?_)
  refine lv_iload_n hx hb dX6_setAnswer_22 rfl (lv_lk hl rfl) ?_
  refine call_S (va_runS ⟨hx, hb, hml, hown, hts⟩ (m_X6_isAge l E a (by omega)) (va_cwS 1 hts (gi_S ml_X6_58 st_X6_isAge it_X6 cd_X6_isAge) rfl rfl rfl (by decide +kernel) ⟨Nat.le_of_ble_eq_true rfl, Nat.le_of_ble_eq_true rfl⟩) (pR_S (hP.sub (ws' := []) [] rfl) hK) rfl rfl hl.1 rfl (lv_room (Nat.le_of_ble_eq_true rfl)) dX6_setAnswer_23 ⟨Nat.le_of_ble_eq_true rfl, Nat.le_of_ble_eq_true rfl⟩) (fun _ h => h) hS rfl (fun locs hS => ?_)
  refine iv_eq (0) (by rw [if_neg (by omega)]) ?_
  refine iv_if_eq (tgt := 33) hx hb dX6_setAnswer_26 (by decide) (by omega) (fun c_26 => ?_) (fun c_26 => by exfalso; omega)
  refine iv_iconst hx hb dX6_setAnswer_33 ?_
  refine va_put (ci := 6) (ty := .int) hx hb hts inX6 tyX6 tyX6_ok nmX6 hown hK.1 hP (dm hD rfl) hS 0 rfl rfl 0 (by decide) (hts _ fl_X6_32) (fun _ h9 => h9) rfl (by decide +kernel) rfl rfl (Nat.le_of_ble_eq_true rfl) dX6_setAnswer_34 (fun H locs hP _ hS => ?_)
  have hP : va_P E.1 vwCl (refW E ρ 2 rc tl pa kd nm st hi ke tx wy) H := hP
  refine lv_aload_n hx hb dX6_setAnswer_37 rfl (lv_lk hl rfl) ?_
  refine va_get (D := E.1) (ci := 6) hx hb hts inX6 hown hK.1 hP 0 rfl rfl 0 (by decide) (hts _ fl_X6_32) (fun _ h9 => h9) rfl dX6_setAnswer_38 ?_
  refine iv_if_le (tgt := 48) hx hb dX6_setAnswer_41 (by decide) (by omega) (fun c_41 => by exfalso; omega) (fun c_41 => ?_)
  refine iv_iconst hx hb dX6_setAnswer_44 ?_
  refine lv_goto (tgt := 56) hx hb dX6_setAnswer_45 (by decide) ?_
  exact W.iret hx hb hrt (fun t ht hW => ⟨rfl, by rw [ht]; exact hP, hS.F ht⟩) hS.2.2 dX6_setAnswer_56 hlocks
set_option maxHeartbeats 4000000 in
set_option maxRecDepth 100000 in
theorem m_X6_setReference_ok (l : Launch) (E : Env3) (ρ : Nat → Nat) (th tl pa kd nm : Int) (st hi ke tx wy : S) (hρ : dR ρ 6) (n : Nat) (hn : n ≤ 6) (r q : Nat) (a : Int) (hr : r < 36) (hq : q < 36) (hne : r ≠ q) (ha : 1 ≤ a ∧ a ≤ 99) : Met l yX6_setReference (Cond.code yX6_setReference cX6_setReference 4 (some .int) :: ALL) ({ frames := 3, cells := 0, slots := 0, locals := 70 }) (pR [.ref (ρ 0), .int (I (r : Int)), .int (I (q : Int)), .int (I a)] E (refW E ρ th ((n : Int)) tl pa kd nm st hi ke tx wy)) (qW (some (.int (I (st (36 + 6 * r))))) E (refW E ρ th ((n : Int)) tl pa kd nm st hi ke tx wy) (refW E ρ 0 ((recN n : Int)) tl pa kd nm (up (up (up st (36 + 6 * r) 2) (36 + 6 * r + 1) ((q : Int))) (36 + 6 * r + 2) a) (recH st hi n) ke tx wy)) 0 0 (adIn (refW E ρ th ((n : Int)) tl pa kd nm st hi ke tx wy)) := by
  refine mk_met (by decide) rfl (Nat.le_of_ble_eq_true rfl) ?_
  intro p e s m args below meth c hx hb hrt hml hts hown hlocks hnm hP hK ls hl
  have hown : s.vm.findClass RX6 = some m.cls := hown
  have hl : lv_has ls 4 [(0, .ref (ρ 0)), (1, .int (I (r : Int))), (2, .int (I (q : Int))), (3, .int (I a))] := hl
  have hD : va_D (adIn (refW E ρ th ((n : Int)) tl pa kd nm st hi ke tx wy)) (refW E ρ th ((n : Int)) tl pa kd nm st hi ke tx wy) := D_of_dR hρ rfl
  have hS : va_S (adIn (refW E ρ th ((n : Int)) tl pa kd nm st hi ke tx wy)) s.heap s.heap [] := va_S.rf
  refine lv_aload_n hx hb dX6_setReference_0 rfl (lv_lk hl rfl) ?_
  refine lv_iload_n hx hb dX6_setReference_1 rfl (lv_lk hl rfl) ?_
  refine call_S (va_runS ⟨hx, hb, hml, hown, hts⟩ (m_X6_isRiddle l E ((r : Int)) (by omega)) (va_cwS 1 hts (gi_S ml_X6_64 st_X6_isRiddle it_X6 cd_X6_isRiddle) rfl rfl rfl (by decide +kernel) ⟨Nat.le_of_ble_eq_true rfl, Nat.le_of_ble_eq_true rfl⟩) (pR_S (hP.sub (ws' := []) [] rfl) hK) rfl rfl hl.1 rfl (lv_room (Nat.le_of_ble_eq_true rfl)) dX6_setReference_2 ⟨Nat.le_of_ble_eq_true rfl, Nat.le_of_ble_eq_true rfl⟩) (fun _ h => h) hS rfl (fun locs hS => ?_)
  refine iv_eq (1) (by rw [if_pos (by omega)]) ?_
  refine iv_if_eq (tgt := 15) hx hb dX6_setReference_5 (by decide) (by omega) (fun c_5 => by exfalso; omega) (fun c_5 => ?_)
  refine lv_iload_n hx hb dX6_setReference_8 rfl (lv_lk hl rfl) ?_
  refine call_S (va_runS ⟨hx, hb, hml, hown, hts⟩ (m_X6_isRiddle l E ((q : Int)) (by omega)) (va_cwS 1 hts (gi_S ml_X6_64 st_X6_isRiddle it_X6 cd_X6_isRiddle) rfl rfl rfl (by decide +kernel) ⟨Nat.le_of_ble_eq_true rfl, Nat.le_of_ble_eq_true rfl⟩) (pR_S (hP.sub (ws' := []) [] rfl) hK) rfl rfl hl.1 rfl (lv_room (Nat.le_of_ble_eq_true rfl)) dX6_setReference_9 ⟨Nat.le_of_ble_eq_true rfl, Nat.le_of_ble_eq_true rfl⟩) (fun _ h => h) hS rfl (fun locs hS => ?_)
  refine iv_eq (1) (by rw [if_pos (by omega)]) ?_
  refine iv_if_ne (tgt := 19) hx hb dX6_setReference_12 (by decide) (by omega) (fun c_12 => ?_) (fun c_12 => by exfalso; omega)
  refine lv_iload_n hx hb dX6_setReference_19 rfl (lv_lk hl rfl) ?_
  refine lv_iload_n hx hb dX6_setReference_20 rfl (lv_lk hl rfl) ?_
  refine iv_icmp_eq (tgt := 35) hx hb dX6_setReference_21 (by decide) (by omega) (by omega) (fun c_21 => by exfalso; omega) (fun c_21 => ?_)
  refine lv_iload_n hx hb dX6_setReference_24 rfl (lv_lk hl rfl) ?_
  refine call_S (va_runS ⟨hx, hb, hml, hown, hts⟩ (m_X6_isAge l E a (by omega)) (va_cwS 1 hts (gi_S ml_X6_58 st_X6_isAge it_X6 cd_X6_isAge) rfl rfl rfl (by decide +kernel) ⟨Nat.le_of_ble_eq_true rfl, Nat.le_of_ble_eq_true rfl⟩) (pR_S (hP.sub (ws' := []) [] rfl) hK) rfl rfl hl.1 rfl (lv_room (Nat.le_of_ble_eq_true rfl)) dX6_setReference_25 ⟨Nat.le_of_ble_eq_true rfl, Nat.le_of_ble_eq_true rfl⟩) (fun _ h => h) hS rfl (fun locs hS => ?_)
  refine iv_eq (1) (by rw [if_pos (by omega)]) ?_
  refine iv_if_eq (tgt := 35) hx hb dX6_setReference_28 (by decide) (by omega) (fun c_28 => by exfalso; omega) (fun c_28 => ?_)
  refine iv_iconst hx hb dX6_setReference_31 ?_
  refine lv_goto (tgt := 36) hx hb dX6_setReference_32 (by decide) ?_
  refine va_put (ci := 6) (ty := .int) hx hb hts inX6 tyX6 tyX6_ok nmX6 hown hK.1 hP (dm hD rfl) hS 0 rfl rfl 0 (by decide) (hts _ fl_X6_32) (fun _ h9 => h9) rfl (by decide +kernel) rfl rfl (Nat.le_of_ble_eq_true rfl) dX6_setReference_36 (fun H locs hP _ hS => ?_)
  have hP : va_P E.1 vwCl (refW E ρ 0 ((n : Int)) tl pa kd nm st hi ke tx wy) H := hP
  refine lv_aload_n hx hb dX6_setReference_39 rfl (lv_lk hl rfl) ?_
  refine va_get (D := E.1) (ci := 6) hx hb hts inX6 hown hK.1 hP 0 rfl rfl 0 (by decide) (hts _ fl_X6_32) (fun _ h9 => h9) rfl dX6_setReference_40 ?_
  refine iv_if_le (tgt := 50) hx hb dX6_setReference_43 (by decide) (by omega) (fun c_43 => ?_) (fun c_43 => by exfalso; omega)
  refine lv_aload_n hx hb dX6_setReference_50 rfl (lv_lk hl rfl) ?_
  refine lv_iload_n hx hb dX6_setReference_51 rfl (lv_lk hl rfl) ?_
  refine iv_iconst hx hb dX6_setReference_52 ?_
  refine lv_iload_n hx hb dX6_setReference_53 rfl (lv_lk hl rfl) ?_
  refine lv_iload_n hx hb dX6_setReference_54 rfl (lv_lk hl rfl) ?_
  refine call_F (va_runV ⟨hx, hb, hml, hown, hts⟩ (m_X6_gives l E ρ 0 tl pa kd nm st hi ke tx wy hρ n hn r 2 ((q : Int)) a hr) (cwV 4 hts (gi_V ml_X6_67 im_X6_gives sl_X6_gives it_X6 cd_X6_gives) rfl rfl rfl (by decide +kernel) ⟨Nat.le_of_ble_eq_true rfl, Nat.le_of_ble_eq_true rfl⟩) (pR_V (q0 := 0) (ci := 6) hP hK rfl rfl) rfl rfl hl.1 rfl (lv_room (Nat.le_of_ble_eq_true rfl)) dX6_setReference_55 ⟨Nat.le_of_ble_eq_true rfl, Nat.le_of_ble_eq_true rfl⟩) (dm hD rfl) hS rfl (fun H locs hP hS => ?_)
  have hP : va_P E.1 vwCl (refW E ρ 0 ((recN n : Int)) tl pa kd nm (up (up (up st (36 + 6 * r) 2) (36 + 6 * r + 1) ((q : Int))) (36 + 6 * r + 2) a) (recH st hi n) ke tx wy) H := hP
  exact W.iret hx hb hrt (fun t ht hW => ⟨rfl, by rw [ht]; exact hP, hS.F ht⟩) hS.2.2 dX6_setReference_58 hlocks
set_option maxHeartbeats 4000000 in
set_option maxRecDepth 100000 in
theorem m_X6_setReference_bad1 (l : Launch) (E : Env3) (ρ : Nat → Nat) (th rc tl pa kd nm : Int) (st hi ke tx wy : S) (hρ : dR ρ 6) (r v a : Int) (hr : -2147483648 ≤ r ∧ r ≤ 2147483647) (hv : -2147483648 ≤ v ∧ v ≤ 2147483647) (ha : -2147483648 ≤ a ∧ a ≤ 2147483647) (h1 : ¬ (0 ≤ r ∧ r ≤ 35)) : Met l yX6_setReference (Cond.code yX6_setReference cX6_setReference 4 (some .int) :: ALL) ({ frames := 3, cells := 0, slots := 0, locals := 70 }) (pR [.ref (ρ 0), .int (I r), .int (I v), .int (I a)] E (refW E ρ th rc tl pa kd nm st hi ke tx wy)) (qW (some (.int (I 0))) E (refW E ρ th rc tl pa kd nm st hi ke tx wy) (refW E ρ 1 rc tl pa kd nm st hi ke tx wy)) 0 0 (adIn (refW E ρ th rc tl pa kd nm st hi ke tx wy)) := by
  refine mk_met (by decide) rfl (Nat.le_of_ble_eq_true rfl) ?_
  intro p e s m args below meth c hx hb hrt hml hts hown hlocks hnm hP hK ls hl
  have hown : s.vm.findClass RX6 = some m.cls := hown
  have hl : lv_has ls 4 [(0, .ref (ρ 0)), (1, .int (I r)), (2, .int (I v)), (3, .int (I a))] := hl
  have hD : va_D (adIn (refW E ρ th rc tl pa kd nm st hi ke tx wy)) (refW E ρ th rc tl pa kd nm st hi ke tx wy) := D_of_dR hρ rfl
  have hS : va_S (adIn (refW E ρ th rc tl pa kd nm st hi ke tx wy)) s.heap s.heap [] := va_S.rf
  refine lv_aload_n hx hb dX6_setReference_0 rfl (lv_lk hl rfl) ?_
  refine lv_iload_n hx hb dX6_setReference_1 rfl (lv_lk hl rfl) ?_
  refine call_S (va_runS ⟨hx, hb, hml, hown, hts⟩ (m_X6_isRiddle l E r (by omega)) (va_cwS 1 hts (gi_S ml_X6_64 st_X6_isRiddle it_X6 cd_X6_isRiddle) rfl rfl rfl (by decide +kernel) ⟨Nat.le_of_ble_eq_true rfl, Nat.le_of_ble_eq_true rfl⟩) (pR_S (hP.sub (ws' := []) [] rfl) hK) rfl rfl hl.1 rfl (lv_room (Nat.le_of_ble_eq_true rfl)) dX6_setReference_2 ⟨Nat.le_of_ble_eq_true rfl, Nat.le_of_ble_eq_true rfl⟩) (fun _ h => h) hS rfl (fun locs hS => ?_)
  refine iv_eq (0) (by rw [if_neg (by omega)]) ?_
  refine iv_if_eq (tgt := 15) hx hb dX6_setReference_5 (by decide) (by omega) (fun c_5 => ?_) (fun c_5 => by exfalso; omega)
  refine iv_iconst hx hb dX6_setReference_15 ?_
  refine lv_goto (tgt := 36) hx hb dX6_setReference_16 (by decide) ?_
  refine va_put (ci := 6) (ty := .int) hx hb hts inX6 tyX6 tyX6_ok nmX6 hown hK.1 hP (dm hD rfl) hS 0 rfl rfl 0 (by decide) (hts _ fl_X6_32) (fun _ h9 => h9) rfl (by decide +kernel) rfl rfl (Nat.le_of_ble_eq_true rfl) dX6_setReference_36 (fun H locs hP _ hS => ?_)
  have hP : va_P E.1 vwCl (refW E ρ 1 rc tl pa kd nm st hi ke tx wy) H := hP
  refine lv_aload_n hx hb dX6_setReference_39 rfl (lv_lk hl rfl) ?_
  refine va_get (D := E.1) (ci := 6) hx hb hts inX6 hown hK.1 hP 0 rfl rfl 0 (by decide) (hts _ fl_X6_32) (fun _ h9 => h9) rfl dX6_setReference_40 ?_
  refine iv_if_le (tgt := 50) hx hb dX6_setReference_43 (by decide) (by omega) (fun c_43 => by exfalso; omega) (fun c_43 => ?_)
  refine iv_iconst hx hb dX6_setReference_46 ?_
  refine lv_goto (tgt := 58) hx hb dX6_setReference_47 (by decide) ?_
  exact W.iret hx hb hrt (fun t ht hW => ⟨rfl, by rw [ht]; exact hP, hS.F ht⟩) hS.2.2 dX6_setReference_58 hlocks
set_option maxHeartbeats 4000000 in
set_option maxRecDepth 100000 in
theorem m_X6_setReference_bad2 (l : Launch) (E : Env3) (ρ : Nat → Nat) (th rc tl pa kd nm : Int) (st hi ke tx wy : S) (hρ : dR ρ 6) (r v a : Int) (hr : -2147483648 ≤ r ∧ r ≤ 2147483647) (hv : -2147483648 ≤ v ∧ v ≤ 2147483647) (ha : -2147483648 ≤ a ∧ a ≤ 2147483647) (h1 : 0 ≤ r ∧ r ≤ 35) (h2 : ¬ (0 ≤ v ∧ v ≤ 35)) : Met l yX6_setReference (Cond.code yX6_setReference cX6_setReference 4 (some .int) :: ALL) ({ frames := 3, cells := 0, slots := 0, locals := 70 }) (pR [.ref (ρ 0), .int (I r), .int (I v), .int (I a)] E (refW E ρ th rc tl pa kd nm st hi ke tx wy)) (qW (some (.int (I 0))) E (refW E ρ th rc tl pa kd nm st hi ke tx wy) (refW E ρ 1 rc tl pa kd nm st hi ke tx wy)) 0 0 (adIn (refW E ρ th rc tl pa kd nm st hi ke tx wy)) := by
  refine mk_met (by decide) rfl (Nat.le_of_ble_eq_true rfl) ?_
  intro p e s m args below meth c hx hb hrt hml hts hown hlocks hnm hP hK ls hl
  have hown : s.vm.findClass RX6 = some m.cls := hown
  have hl : lv_has ls 4 [(0, .ref (ρ 0)), (1, .int (I r)), (2, .int (I v)), (3, .int (I a))] := hl
  have hD : va_D (adIn (refW E ρ th rc tl pa kd nm st hi ke tx wy)) (refW E ρ th rc tl pa kd nm st hi ke tx wy) := D_of_dR hρ rfl
  have hS : va_S (adIn (refW E ρ th rc tl pa kd nm st hi ke tx wy)) s.heap s.heap [] := va_S.rf
  refine lv_aload_n hx hb dX6_setReference_0 rfl (lv_lk hl rfl) ?_
  refine lv_iload_n hx hb dX6_setReference_1 rfl (lv_lk hl rfl) ?_
  refine call_S (va_runS ⟨hx, hb, hml, hown, hts⟩ (m_X6_isRiddle l E r (by omega)) (va_cwS 1 hts (gi_S ml_X6_64 st_X6_isRiddle it_X6 cd_X6_isRiddle) rfl rfl rfl (by decide +kernel) ⟨Nat.le_of_ble_eq_true rfl, Nat.le_of_ble_eq_true rfl⟩) (pR_S (hP.sub (ws' := []) [] rfl) hK) rfl rfl hl.1 rfl (lv_room (Nat.le_of_ble_eq_true rfl)) dX6_setReference_2 ⟨Nat.le_of_ble_eq_true rfl, Nat.le_of_ble_eq_true rfl⟩) (fun _ h => h) hS rfl (fun locs hS => ?_)
  refine iv_eq (1) (by rw [if_pos (by omega)]) ?_
  refine iv_if_eq (tgt := 15) hx hb dX6_setReference_5 (by decide) (by omega) (fun c_5 => by exfalso; omega) (fun c_5 => ?_)
  refine lv_iload_n hx hb dX6_setReference_8 rfl (lv_lk hl rfl) ?_
  refine call_S (va_runS ⟨hx, hb, hml, hown, hts⟩ (m_X6_isRiddle l E v (by omega)) (va_cwS 1 hts (gi_S ml_X6_64 st_X6_isRiddle it_X6 cd_X6_isRiddle) rfl rfl rfl (by decide +kernel) ⟨Nat.le_of_ble_eq_true rfl, Nat.le_of_ble_eq_true rfl⟩) (pR_S (hP.sub (ws' := []) [] rfl) hK) rfl rfl hl.1 rfl (lv_room (Nat.le_of_ble_eq_true rfl)) dX6_setReference_9 ⟨Nat.le_of_ble_eq_true rfl, Nat.le_of_ble_eq_true rfl⟩) (fun _ h => h) hS rfl (fun locs hS => ?_)
  refine iv_eq (0) (by rw [if_neg (by omega)]) ?_
  refine iv_if_ne (tgt := 19) hx hb dX6_setReference_12 (by decide) (by omega) (fun c_12 => by exfalso; omega) (fun c_12 => ?_)
  refine iv_iconst hx hb dX6_setReference_15 ?_
  refine lv_goto (tgt := 36) hx hb dX6_setReference_16 (by decide) ?_
  refine va_put (ci := 6) (ty := .int) hx hb hts inX6 tyX6 tyX6_ok nmX6 hown hK.1 hP (dm hD rfl) hS 0 rfl rfl 0 (by decide) (hts _ fl_X6_32) (fun _ h9 => h9) rfl (by decide +kernel) rfl rfl (Nat.le_of_ble_eq_true rfl) dX6_setReference_36 (fun H locs hP _ hS => ?_)
  have hP : va_P E.1 vwCl (refW E ρ 1 rc tl pa kd nm st hi ke tx wy) H := hP
  refine lv_aload_n hx hb dX6_setReference_39 rfl (lv_lk hl rfl) ?_
  refine va_get (D := E.1) (ci := 6) hx hb hts inX6 hown hK.1 hP 0 rfl rfl 0 (by decide) (hts _ fl_X6_32) (fun _ h9 => h9) rfl dX6_setReference_40 ?_
  refine iv_if_le (tgt := 50) hx hb dX6_setReference_43 (by decide) (by omega) (fun c_43 => by exfalso; omega) (fun c_43 => ?_)
  refine iv_iconst hx hb dX6_setReference_46 ?_
  refine lv_goto (tgt := 58) hx hb dX6_setReference_47 (by decide) ?_
  exact W.iret hx hb hrt (fun t ht hW => ⟨rfl, by rw [ht]; exact hP, hS.F ht⟩) hS.2.2 dX6_setReference_58 hlocks
set_option maxHeartbeats 4000000 in
set_option maxRecDepth 100000 in
theorem m_X6_setReference_bad3 (l : Launch) (E : Env3) (ρ : Nat → Nat) (th rc tl pa kd nm : Int) (st hi ke tx wy : S) (hρ : dR ρ 6) (r v a : Int) (hr : -2147483648 ≤ r ∧ r ≤ 2147483647) (hv : -2147483648 ≤ v ∧ v ≤ 2147483647) (ha : -2147483648 ≤ a ∧ a ≤ 2147483647) (h1 : 0 ≤ r ∧ r ≤ 35) (h2 : 0 ≤ v ∧ v ≤ 35) (h3 : r = v) : Met l yX6_setReference (Cond.code yX6_setReference cX6_setReference 4 (some .int) :: ALL) ({ frames := 3, cells := 0, slots := 0, locals := 70 }) (pR [.ref (ρ 0), .int (I r), .int (I v), .int (I a)] E (refW E ρ th rc tl pa kd nm st hi ke tx wy)) (qW (some (.int (I 0))) E (refW E ρ th rc tl pa kd nm st hi ke tx wy) (refW E ρ 2 rc tl pa kd nm st hi ke tx wy)) 0 0 (adIn (refW E ρ th rc tl pa kd nm st hi ke tx wy)) := by
  refine mk_met (by decide) rfl (Nat.le_of_ble_eq_true rfl) ?_
  intro p e s m args below meth c hx hb hrt hml hts hown hlocks hnm hP hK ls hl
  have hown : s.vm.findClass RX6 = some m.cls := hown
  have hl : lv_has ls 4 [(0, .ref (ρ 0)), (1, .int (I r)), (2, .int (I v)), (3, .int (I a))] := hl
  have hD : va_D (adIn (refW E ρ th rc tl pa kd nm st hi ke tx wy)) (refW E ρ th rc tl pa kd nm st hi ke tx wy) := D_of_dR hρ rfl
  have hS : va_S (adIn (refW E ρ th rc tl pa kd nm st hi ke tx wy)) s.heap s.heap [] := va_S.rf
  refine lv_aload_n hx hb dX6_setReference_0 rfl (lv_lk hl rfl) ?_
  refine lv_iload_n hx hb dX6_setReference_1 rfl (lv_lk hl rfl) ?_
  refine call_S (va_runS ⟨hx, hb, hml, hown, hts⟩ (m_X6_isRiddle l E r (by omega)) (va_cwS 1 hts (gi_S ml_X6_64 st_X6_isRiddle it_X6 cd_X6_isRiddle) rfl rfl rfl (by decide +kernel) ⟨Nat.le_of_ble_eq_true rfl, Nat.le_of_ble_eq_true rfl⟩) (pR_S (hP.sub (ws' := []) [] rfl) hK) rfl rfl hl.1 rfl (lv_room (Nat.le_of_ble_eq_true rfl)) dX6_setReference_2 ⟨Nat.le_of_ble_eq_true rfl, Nat.le_of_ble_eq_true rfl⟩) (fun _ h => h) hS rfl (fun locs hS => ?_)
  refine iv_eq (1) (by rw [if_pos (by omega)]) ?_
  refine iv_if_eq (tgt := 15) hx hb dX6_setReference_5 (by decide) (by omega) (fun c_5 => by exfalso; omega) (fun c_5 => ?_)
  refine lv_iload_n hx hb dX6_setReference_8 rfl (lv_lk hl rfl) ?_
  refine call_S (va_runS ⟨hx, hb, hml, hown, hts⟩ (m_X6_isRiddle l E v (by omega)) (va_cwS 1 hts (gi_S ml_X6_64 st_X6_isRiddle it_X6 cd_X6_isRiddle) rfl rfl rfl (by decide +kernel) ⟨Nat.le_of_ble_eq_true rfl, Nat.le_of_ble_eq_true rfl⟩) (pR_S (hP.sub (ws' := []) [] rfl) hK) rfl rfl hl.1 rfl (lv_room (Nat.le_of_ble_eq_true rfl)) dX6_setReference_9 ⟨Nat.le_of_ble_eq_true rfl, Nat.le_of_ble_eq_true rfl⟩) (fun _ h => h) hS rfl (fun locs hS => ?_)
  refine iv_eq (1) (by rw [if_pos (by omega)]) ?_
  refine iv_if_ne (tgt := 19) hx hb dX6_setReference_12 (by decide) (by omega) (fun c_12 => ?_) (fun c_12 => by exfalso; omega)
  refine lv_iload_n hx hb dX6_setReference_19 rfl (lv_lk hl rfl) ?_
  refine lv_iload_n hx hb dX6_setReference_20 rfl (lv_lk hl rfl) ?_
  refine iv_icmp_eq (tgt := 35) hx hb dX6_setReference_21 (by decide) (by omega) (by omega) (fun c_21 => ?_) (fun c_21 => by exfalso; omega)
  refine iv_iconst hx hb dX6_setReference_35 ?_
  refine va_put (ci := 6) (ty := .int) hx hb hts inX6 tyX6 tyX6_ok nmX6 hown hK.1 hP (dm hD rfl) hS 0 rfl rfl 0 (by decide) (hts _ fl_X6_32) (fun _ h9 => h9) rfl (by decide +kernel) rfl rfl (Nat.le_of_ble_eq_true rfl) dX6_setReference_36 (fun H locs hP _ hS => ?_)
  have hP : va_P E.1 vwCl (refW E ρ 2 rc tl pa kd nm st hi ke tx wy) H := hP
  refine lv_aload_n hx hb dX6_setReference_39 rfl (lv_lk hl rfl) ?_
  refine va_get (D := E.1) (ci := 6) hx hb hts inX6 hown hK.1 hP 0 rfl rfl 0 (by decide) (hts _ fl_X6_32) (fun _ h9 => h9) rfl dX6_setReference_40 ?_
  refine iv_if_le (tgt := 50) hx hb dX6_setReference_43 (by decide) (by omega) (fun c_43 => by exfalso; omega) (fun c_43 => ?_)
  refine iv_iconst hx hb dX6_setReference_46 ?_
  refine lv_goto (tgt := 58) hx hb dX6_setReference_47 (by decide) ?_
  exact W.iret hx hb hrt (fun t ht hW => ⟨rfl, by rw [ht]; exact hP, hS.F ht⟩) hS.2.2 dX6_setReference_58 hlocks
set_option maxHeartbeats 4000000 in
set_option maxRecDepth 100000 in
theorem m_X6_setReference_bad4 (l : Launch) (E : Env3) (ρ : Nat → Nat) (th rc tl pa kd nm : Int) (st hi ke tx wy : S) (hρ : dR ρ 6) (r v a : Int) (hr : -2147483648 ≤ r ∧ r ≤ 2147483647) (hv : -2147483648 ≤ v ∧ v ≤ 2147483647) (ha : -2147483648 ≤ a ∧ a ≤ 2147483647) (h1 : 0 ≤ r ∧ r ≤ 35) (h2 : 0 ≤ v ∧ v ≤ 35) (h3 : ¬ r = v) (h4 : ¬ (1 ≤ a ∧ a ≤ 99)) : Met l yX6_setReference (Cond.code yX6_setReference cX6_setReference 4 (some .int) :: ALL) ({ frames := 3, cells := 0, slots := 0, locals := 70 }) (pR [.ref (ρ 0), .int (I r), .int (I v), .int (I a)] E (refW E ρ th rc tl pa kd nm st hi ke tx wy)) (qW (some (.int (I 0))) E (refW E ρ th rc tl pa kd nm st hi ke tx wy) (refW E ρ 2 rc tl pa kd nm st hi ke tx wy)) 0 0 (adIn (refW E ρ th rc tl pa kd nm st hi ke tx wy)) := by
  refine mk_met (by decide) rfl (Nat.le_of_ble_eq_true rfl) ?_
  intro p e s m args below meth c hx hb hrt hml hts hown hlocks hnm hP hK ls hl
  have hown : s.vm.findClass RX6 = some m.cls := hown
  have hl : lv_has ls 4 [(0, .ref (ρ 0)), (1, .int (I r)), (2, .int (I v)), (3, .int (I a))] := hl
  have hD : va_D (adIn (refW E ρ th rc tl pa kd nm st hi ke tx wy)) (refW E ρ th rc tl pa kd nm st hi ke tx wy) := D_of_dR hρ rfl
  have hS : va_S (adIn (refW E ρ th rc tl pa kd nm st hi ke tx wy)) s.heap s.heap [] := va_S.rf
  refine lv_aload_n hx hb dX6_setReference_0 rfl (lv_lk hl rfl) ?_
  refine lv_iload_n hx hb dX6_setReference_1 rfl (lv_lk hl rfl) ?_
  refine call_S (va_runS ⟨hx, hb, hml, hown, hts⟩ (m_X6_isRiddle l E r (by omega)) (va_cwS 1 hts (gi_S ml_X6_64 st_X6_isRiddle it_X6 cd_X6_isRiddle) rfl rfl rfl (by decide +kernel) ⟨Nat.le_of_ble_eq_true rfl, Nat.le_of_ble_eq_true rfl⟩) (pR_S (hP.sub (ws' := []) [] rfl) hK) rfl rfl hl.1 rfl (lv_room (Nat.le_of_ble_eq_true rfl)) dX6_setReference_2 ⟨Nat.le_of_ble_eq_true rfl, Nat.le_of_ble_eq_true rfl⟩) (fun _ h => h) hS rfl (fun locs hS => ?_)
  refine iv_eq (1) (by rw [if_pos (by omega)]) ?_
  refine iv_if_eq (tgt := 15) hx hb dX6_setReference_5 (by decide) (by omega) (fun c_5 => by exfalso; omega) (fun c_5 => ?_)
  refine lv_iload_n hx hb dX6_setReference_8 rfl (lv_lk hl rfl) ?_
  refine call_S (va_runS ⟨hx, hb, hml, hown, hts⟩ (m_X6_isRiddle l E v (by omega)) (va_cwS 1 hts (gi_S ml_X6_64 st_X6_isRiddle it_X6 cd_X6_isRiddle) rfl rfl rfl (by decide +kernel) ⟨Nat.le_of_ble_eq_true rfl, Nat.le_of_ble_eq_true rfl⟩) (pR_S (hP.sub (ws' := []) [] rfl) hK) rfl rfl hl.1 rfl (lv_room (Nat.le_of_ble_eq_true rfl)) dX6_setReference_9 ⟨Nat.le_of_ble_eq_true rfl, Nat.le_of_ble_eq_true rfl⟩) (fun _ h => h) hS rfl (fun locs hS => ?_)
  refine iv_eq (1) (by rw [if_pos (by omega)]) ?_
  refine iv_if_ne (tgt := 19) hx hb dX6_setReference_12 (by decide) (by omega) (fun c_12 => ?_) (fun c_12 => by exfalso; omega)
  refine lv_iload_n hx hb dX6_setReference_19 rfl (lv_lk hl rfl) ?_
  refine lv_iload_n hx hb dX6_setReference_20 rfl (lv_lk hl rfl) ?_
  refine iv_icmp_eq (tgt := 35) hx hb dX6_setReference_21 (by decide) (by omega) (by omega) (fun c_21 => by exfalso; omega) (fun c_21 => ?_)
  refine lv_iload_n hx hb dX6_setReference_24 rfl (lv_lk hl rfl) ?_
  refine call_S (va_runS ⟨hx, hb, hml, hown, hts⟩ (m_X6_isAge l E a (by omega)) (va_cwS 1 hts (gi_S ml_X6_58 st_X6_isAge it_X6 cd_X6_isAge) rfl rfl rfl (by decide +kernel) ⟨Nat.le_of_ble_eq_true rfl, Nat.le_of_ble_eq_true rfl⟩) (pR_S (hP.sub (ws' := []) [] rfl) hK) rfl rfl hl.1 rfl (lv_room (Nat.le_of_ble_eq_true rfl)) dX6_setReference_25 ⟨Nat.le_of_ble_eq_true rfl, Nat.le_of_ble_eq_true rfl⟩) (fun _ h => h) hS rfl (fun locs hS => ?_)
  refine iv_eq (0) (by rw [if_neg (by omega)]) ?_
  refine iv_if_eq (tgt := 35) hx hb dX6_setReference_28 (by decide) (by omega) (fun c_28 => ?_) (fun c_28 => by exfalso; omega)
  refine iv_iconst hx hb dX6_setReference_35 ?_
  refine va_put (ci := 6) (ty := .int) hx hb hts inX6 tyX6 tyX6_ok nmX6 hown hK.1 hP (dm hD rfl) hS 0 rfl rfl 0 (by decide) (hts _ fl_X6_32) (fun _ h9 => h9) rfl (by decide +kernel) rfl rfl (Nat.le_of_ble_eq_true rfl) dX6_setReference_36 (fun H locs hP _ hS => ?_)
  have hP : va_P E.1 vwCl (refW E ρ 2 rc tl pa kd nm st hi ke tx wy) H := hP
  refine lv_aload_n hx hb dX6_setReference_39 rfl (lv_lk hl rfl) ?_
  refine va_get (D := E.1) (ci := 6) hx hb hts inX6 hown hK.1 hP 0 rfl rfl 0 (by decide) (hts _ fl_X6_32) (fun _ h9 => h9) rfl dX6_setReference_40 ?_
  refine iv_if_le (tgt := 50) hx hb dX6_setReference_43 (by decide) (by omega) (fun c_43 => by exfalso; omega) (fun c_43 => ?_)
  refine iv_iconst hx hb dX6_setReference_46 ?_
  refine lv_goto (tgt := 58) hx hb dX6_setReference_47 (by decide) ?_
  exact W.iret hx hb hrt (fun t ht hW => ⟨rfl, by rw [ht]; exact hP, hS.F ht⟩) hS.2.2 dX6_setReference_58 hlocks
set_option maxHeartbeats 4000000 in
set_option maxRecDepth 100000 in
theorem m_X6_takeAway_ok (l : Launch) (E : Env3) (ρ : Nat → Nat) (th tl pa kd nm : Int) (st hi ke tx wy : S) (hρ : dR ρ 6) (n : Nat) (hn : n ≤ 6) (r : Nat) (hr : r < 36) (hk9 : -2147483648 ≤ st (36 + 6 * r) ∧ st (36 + 6 * r) ≤ 2147483647) (hk8 : ¬ st (36 + 6 * r) = 0) : Met l yX6_takeAway (Cond.code yX6_takeAway cX6_takeAway 2 (some .int) :: ALL) ({ frames := 3, cells := 0, slots := 0, locals := 70 }) (pR [.ref (ρ 0), .int (I (r : Int))] E (refW E ρ th ((n : Int)) tl pa kd nm st hi ke tx wy)) (qW (some (.int (I (st (36 + 6 * r))))) E (refW E ρ th ((n : Int)) tl pa kd nm st hi ke tx wy) (refW E ρ 0 ((recN n : Int)) tl pa kd nm (up (up (up st (36 + 6 * r) 0) (36 + 6 * r + 1) (-1)) (36 + 6 * r + 2) 0) (recH st hi n) ke tx wy)) 0 0 (adIn (refW E ρ th ((n : Int)) tl pa kd nm st hi ke tx wy)) := by
  refine mk_met (by decide) rfl (Nat.le_of_ble_eq_true rfl) ?_
  intro p e s m args below meth c hx hb hrt hml hts hown hlocks hnm hP hK ls hl
  have hown : s.vm.findClass RX6 = some m.cls := hown
  have hl : lv_has ls 2 [(0, .ref (ρ 0)), (1, .int (I (r : Int)))] := hl
  have hD : va_D (adIn (refW E ρ th ((n : Int)) tl pa kd nm st hi ke tx wy)) (refW E ρ th ((n : Int)) tl pa kd nm st hi ke tx wy) := D_of_dR hρ rfl
  have hS : va_S (adIn (refW E ρ th ((n : Int)) tl pa kd nm st hi ke tx wy)) s.heap s.heap [] := va_S.rf
  refine lv_aload_n hx hb dX6_takeAway_0 rfl (lv_lk hl rfl) ?_
  refine lv_iload_n hx hb dX6_takeAway_1 rfl (lv_lk hl rfl) ?_
  refine call_S (va_runS ⟨hx, hb, hml, hown, hts⟩ (m_X6_isRiddle l E ((r : Int)) (by omega)) (va_cwS 1 hts (gi_S ml_X6_64 st_X6_isRiddle it_X6 cd_X6_isRiddle) rfl rfl rfl (by decide +kernel) ⟨Nat.le_of_ble_eq_true rfl, Nat.le_of_ble_eq_true rfl⟩) (pR_S (hP.sub (ws' := []) [] rfl) hK) rfl rfl hl.1 rfl (lv_room (Nat.le_of_ble_eq_true rfl)) dX6_takeAway_2 ⟨Nat.le_of_ble_eq_true rfl, Nat.le_of_ble_eq_true rfl⟩) (fun _ h => h) hS rfl (fun locs hS => ?_)
  refine iv_eq (1) (by rw [if_pos (by omega)]) ?_
  refine iv_if_ne (tgt := 12) hx hb dX6_takeAway_5 (by decide) (by omega) (fun c_5 => ?_) (fun c_5 => by exfalso; omega)
  refine lv_aload_n hx hb dX6_takeAway_12 rfl (lv_lk hl rfl) ?_
  refine lv_iload_n hx hb dX6_takeAway_13 rfl (lv_lk hl rfl) ?_
  refine iv_iconst hx hb dX6_takeAway_14 ?_
  refine call_S (va_runV ⟨hx, hb, hml, hown, hts⟩ (m_X6_of l E ρ th ((n : Int)) tl pa kd nm st hi ke tx wy r 0 hr (by decide)) (cwV 2 hts (gi_V ml_X6_61 im_X6_of sl_X6_of it_X6 cd_X6_of) rfl rfl rfl (by decide +kernel) ⟨Nat.le_of_ble_eq_true rfl, Nat.le_of_ble_eq_true rfl⟩) (pR_V (q0 := 0) (ci := 6) hP hK rfl rfl) rfl rfl hl.1 rfl (lv_room (Nat.le_of_ble_eq_true rfl)) dX6_takeAway_15 ⟨Nat.le_of_ble_eq_true rfl, Nat.le_of_ble_eq_true rfl⟩) (fun _ h => h) hS rfl (fun locs hS => ?_)
  refine iv_eq (st (36 + 6 * r)) (rfl) ?_
  refine iv_if_ne (tgt := 25) hx hb dX6_takeAway_18 (by decide) (by omega) (fun c_18 => ?_) (fun c_18 => by exfalso; omega)
  refine iv_iconst hx hb dX6_takeAway_25 ?_
  refine va_put (ci := 6) (ty := .int) hx hb hts inX6 tyX6 tyX6_ok nmX6 hown hK.1 hP (dm hD rfl) hS 0 rfl rfl 0 (by decide) (hts _ fl_X6_32) (fun _ h9 => h9) rfl (by decide +kernel) rfl rfl (Nat.le_of_ble_eq_true rfl) dX6_takeAway_26 (fun H locs hP _ hS => ?_)
  have hP : va_P E.1 vwCl (refW E ρ 0 ((n : Int)) tl pa kd nm st hi ke tx wy) H := hP
  refine lv_aload_n hx hb dX6_takeAway_29 rfl (lv_lk hl rfl) ?_
  refine va_get (D := E.1) (ci := 6) hx hb hts inX6 hown hK.1 hP 0 rfl rfl 0 (by decide) (hts _ fl_X6_32) (fun _ h9 => h9) rfl dX6_takeAway_30 ?_
  refine iv_if_le (tgt := 40) hx hb dX6_takeAway_33 (by decide) (by omega) (fun c_33 => ?_) (fun c_33 => by exfalso; omega)
  refine lv_aload_n hx hb dX6_takeAway_40 rfl (lv_lk hl rfl) ?_
  refine lv_iload_n hx hb dX6_takeAway_41 rfl (lv_lk hl rfl) ?_
  refine iv_iconst hx hb dX6_takeAway_42 ?_
  refine iv_iconst hx hb dX6_takeAway_43 ?_
  refine iv_iconst hx hb dX6_takeAway_44 ?_
  refine call_F (va_runV ⟨hx, hb, hml, hown, hts⟩ (m_X6_gives l E ρ 0 tl pa kd nm st hi ke tx wy hρ n hn r 0 (-1) 0 hr) (cwV 4 hts (gi_V ml_X6_67 im_X6_gives sl_X6_gives it_X6 cd_X6_gives) rfl rfl rfl (by decide +kernel) ⟨Nat.le_of_ble_eq_true rfl, Nat.le_of_ble_eq_true rfl⟩) (pR_V (q0 := 0) (ci := 6) hP hK rfl rfl) rfl rfl hl.1 rfl (lv_room (Nat.le_of_ble_eq_true rfl)) dX6_takeAway_45 ⟨Nat.le_of_ble_eq_true rfl, Nat.le_of_ble_eq_true rfl⟩) (dm hD rfl) hS rfl (fun H locs hP hS => ?_)
  have hP : va_P E.1 vwCl (refW E ρ 0 ((recN n : Int)) tl pa kd nm (up (up (up st (36 + 6 * r) 0) (36 + 6 * r + 1) (-1)) (36 + 6 * r + 2) 0) (recH st hi n) ke tx wy) H := hP
  exact W.iret hx hb hrt (fun t ht hW => ⟨rfl, by rw [ht]; exact hP, hS.F ht⟩) hS.2.2 dX6_takeAway_48 hlocks
set_option maxHeartbeats 4000000 in
set_option maxRecDepth 100000 in
theorem m_X6_takeAway_bad1 (l : Launch) (E : Env3) (ρ : Nat → Nat) (th rc tl pa kd nm : Int) (st hi ke tx wy : S) (hρ : dR ρ 6) (r : Int) (hr : -2147483648 ≤ r ∧ r ≤ 2147483647) (h1 : ¬ (0 ≤ r ∧ r ≤ 35)) : Met l yX6_takeAway (Cond.code yX6_takeAway cX6_takeAway 2 (some .int) :: ALL) ({ frames := 3, cells := 0, slots := 0, locals := 70 }) (pR [.ref (ρ 0), .int (I r)] E (refW E ρ th rc tl pa kd nm st hi ke tx wy)) (qW (some (.int (I 0))) E (refW E ρ th rc tl pa kd nm st hi ke tx wy) (refW E ρ 1 rc tl pa kd nm st hi ke tx wy)) 0 0 (adIn (refW E ρ th rc tl pa kd nm st hi ke tx wy)) := by
  refine mk_met (by decide) rfl (Nat.le_of_ble_eq_true rfl) ?_
  intro p e s m args below meth c hx hb hrt hml hts hown hlocks hnm hP hK ls hl
  have hown : s.vm.findClass RX6 = some m.cls := hown
  have hl : lv_has ls 2 [(0, .ref (ρ 0)), (1, .int (I r))] := hl
  have hD : va_D (adIn (refW E ρ th rc tl pa kd nm st hi ke tx wy)) (refW E ρ th rc tl pa kd nm st hi ke tx wy) := D_of_dR hρ rfl
  have hS : va_S (adIn (refW E ρ th rc tl pa kd nm st hi ke tx wy)) s.heap s.heap [] := va_S.rf
  refine lv_aload_n hx hb dX6_takeAway_0 rfl (lv_lk hl rfl) ?_
  refine lv_iload_n hx hb dX6_takeAway_1 rfl (lv_lk hl rfl) ?_
  refine call_S (va_runS ⟨hx, hb, hml, hown, hts⟩ (m_X6_isRiddle l E r (by omega)) (va_cwS 1 hts (gi_S ml_X6_64 st_X6_isRiddle it_X6 cd_X6_isRiddle) rfl rfl rfl (by decide +kernel) ⟨Nat.le_of_ble_eq_true rfl, Nat.le_of_ble_eq_true rfl⟩) (pR_S (hP.sub (ws' := []) [] rfl) hK) rfl rfl hl.1 rfl (lv_room (Nat.le_of_ble_eq_true rfl)) dX6_takeAway_2 ⟨Nat.le_of_ble_eq_true rfl, Nat.le_of_ble_eq_true rfl⟩) (fun _ h => h) hS rfl (fun locs hS => ?_)
  refine iv_eq (0) (by rw [if_neg (by omega)]) ?_
  refine iv_if_ne (tgt := 12) hx hb dX6_takeAway_5 (by decide) (by omega) (fun c_5 => by exfalso; omega) (fun c_5 => ?_)
  refine iv_iconst hx hb dX6_takeAway_8 ?_
  refine lv_goto (tgt := 26) hx hb dX6_takeAway_9 (by decide) ?_
  refine va_put (ci := 6) (ty := .int) hx hb hts inX6 tyX6 tyX6_ok nmX6 hown hK.1 hP (dm hD rfl) hS 0 rfl rfl 0 (by decide) (hts _ fl_X6_32) (fun _ h9 => h9) rfl (by decide +kernel) rfl rfl (Nat.le_of_ble_eq_true rfl) dX6_takeAway_26 (fun H locs hP _ hS => ?_)
  have hP : va_P E.1 vwCl (refW E ρ 1 rc tl pa kd nm st hi ke tx wy) H := hP
  refine lv_aload_n hx hb dX6_takeAway_29 rfl (lv_lk hl rfl) ?_
  refine va_get (D := E.1) (ci := 6) hx hb hts inX6 hown hK.1 hP 0 rfl rfl 0 (by decide) (hts _ fl_X6_32) (fun _ h9 => h9) rfl dX6_takeAway_30 ?_
  refine iv_if_le (tgt := 40) hx hb dX6_takeAway_33 (by decide) (by omega) (fun c_33 => by exfalso; omega) (fun c_33 => ?_)
  refine iv_iconst hx hb dX6_takeAway_36 ?_
  refine lv_goto (tgt := 48) hx hb dX6_takeAway_37 (by decide) ?_
  exact W.iret hx hb hrt (fun t ht hW => ⟨rfl, by rw [ht]; exact hP, hS.F ht⟩) hS.2.2 dX6_takeAway_48 hlocks
set_option maxHeartbeats 4000000 in
set_option maxRecDepth 100000 in
theorem m_X6_takeAway_bad2 (l : Launch) (E : Env3) (ρ : Nat → Nat) (th rc tl pa kd nm : Int) (st hi ke tx wy : S) (hρ : dR ρ 6) (r : Nat) (hr : r < 36) (hk8 : st (36 + 6 * r) = 0) : Met l yX6_takeAway (Cond.code yX6_takeAway cX6_takeAway 2 (some .int) :: ALL) ({ frames := 3, cells := 0, slots := 0, locals := 70 }) (pR [.ref (ρ 0), .int (I (r : Int))] E (refW E ρ th rc tl pa kd nm st hi ke tx wy)) (qW (some (.int (I 0))) E (refW E ρ th rc tl pa kd nm st hi ke tx wy) (refW E ρ 2 rc tl pa kd nm st hi ke tx wy)) 0 0 (adIn (refW E ρ th rc tl pa kd nm st hi ke tx wy)) := by
  refine mk_met (by decide) rfl (Nat.le_of_ble_eq_true rfl) ?_
  intro p e s m args below meth c hx hb hrt hml hts hown hlocks hnm hP hK ls hl
  have hown : s.vm.findClass RX6 = some m.cls := hown
  have hl : lv_has ls 2 [(0, .ref (ρ 0)), (1, .int (I (r : Int)))] := hl
  have hD : va_D (adIn (refW E ρ th rc tl pa kd nm st hi ke tx wy)) (refW E ρ th rc tl pa kd nm st hi ke tx wy) := D_of_dR hρ rfl
  have hS : va_S (adIn (refW E ρ th rc tl pa kd nm st hi ke tx wy)) s.heap s.heap [] := va_S.rf
  refine lv_aload_n hx hb dX6_takeAway_0 rfl (lv_lk hl rfl) ?_
  refine lv_iload_n hx hb dX6_takeAway_1 rfl (lv_lk hl rfl) ?_
  refine call_S (va_runS ⟨hx, hb, hml, hown, hts⟩ (m_X6_isRiddle l E ((r : Int)) (by omega)) (va_cwS 1 hts (gi_S ml_X6_64 st_X6_isRiddle it_X6 cd_X6_isRiddle) rfl rfl rfl (by decide +kernel) ⟨Nat.le_of_ble_eq_true rfl, Nat.le_of_ble_eq_true rfl⟩) (pR_S (hP.sub (ws' := []) [] rfl) hK) rfl rfl hl.1 rfl (lv_room (Nat.le_of_ble_eq_true rfl)) dX6_takeAway_2 ⟨Nat.le_of_ble_eq_true rfl, Nat.le_of_ble_eq_true rfl⟩) (fun _ h => h) hS rfl (fun locs hS => ?_)
  refine iv_eq (1) (by rw [if_pos (by omega)]) ?_
  refine iv_if_ne (tgt := 12) hx hb dX6_takeAway_5 (by decide) (by omega) (fun c_5 => ?_) (fun c_5 => by exfalso; omega)
  refine lv_aload_n hx hb dX6_takeAway_12 rfl (lv_lk hl rfl) ?_
  refine lv_iload_n hx hb dX6_takeAway_13 rfl (lv_lk hl rfl) ?_
  refine iv_iconst hx hb dX6_takeAway_14 ?_
  refine call_S (va_runV ⟨hx, hb, hml, hown, hts⟩ (m_X6_of l E ρ th rc tl pa kd nm st hi ke tx wy r 0 hr (by decide)) (cwV 2 hts (gi_V ml_X6_61 im_X6_of sl_X6_of it_X6 cd_X6_of) rfl rfl rfl (by decide +kernel) ⟨Nat.le_of_ble_eq_true rfl, Nat.le_of_ble_eq_true rfl⟩) (pR_V (q0 := 0) (ci := 6) hP hK rfl rfl) rfl rfl hl.1 rfl (lv_room (Nat.le_of_ble_eq_true rfl)) dX6_takeAway_15 ⟨Nat.le_of_ble_eq_true rfl, Nat.le_of_ble_eq_true rfl⟩) (fun _ h => h) hS rfl (fun locs hS => ?_)
  refine iv_eq (st (36 + 6 * r)) (rfl) ?_
  refine iv_if_ne (tgt := 25) hx hb dX6_takeAway_18 (by decide) (by omega) (fun c_18 => by exfalso; omega) (fun c_18 => ?_)
  refine iv_iconst hx hb dX6_takeAway_21 ?_
  refine lv_goto (tgt := 26) hx hb dX6_takeAway_22 (by decide) ?_
  refine va_put (ci := 6) (ty := .int) hx hb hts inX6 tyX6 tyX6_ok nmX6 hown hK.1 hP (dm hD rfl) hS 0 rfl rfl 0 (by decide) (hts _ fl_X6_32) (fun _ h9 => h9) rfl (by decide +kernel) rfl rfl (Nat.le_of_ble_eq_true rfl) dX6_takeAway_26 (fun H locs hP _ hS => ?_)
  have hP : va_P E.1 vwCl (refW E ρ 2 rc tl pa kd nm st hi ke tx wy) H := hP
  refine lv_aload_n hx hb dX6_takeAway_29 rfl (lv_lk hl rfl) ?_
  refine va_get (D := E.1) (ci := 6) hx hb hts inX6 hown hK.1 hP 0 rfl rfl 0 (by decide) (hts _ fl_X6_32) (fun _ h9 => h9) rfl dX6_takeAway_30 ?_
  refine iv_if_le (tgt := 40) hx hb dX6_takeAway_33 (by decide) (by omega) (fun c_33 => by exfalso; omega) (fun c_33 => ?_)
  refine iv_iconst hx hb dX6_takeAway_36 ?_
  refine lv_goto (tgt := 48) hx hb dX6_takeAway_37 (by decide) ?_
  exact W.iret hx hb hrt (fun t ht hW => ⟨rfl, by rw [ht]; exact hP, hS.F ht⟩) hS.2.2 dX6_takeAway_48 hlocks
set_option maxHeartbeats 4000000 in
set_option maxRecDepth 100000 in
theorem m_X6_solve_ok (l : Launch) (E : Env3) (ρ : Nat → Nat) (th tl pa kd nm : Int) (st hi ke tx wy : S) (hρ : dR ρ 6) (n : Nat) (hn : n ≤ 6) (T : Int) (hI : IB T st) (r : Nat) (hr : r < 36) : Met l yX6_solve (Cond.code yX6_solve cX6_solve 2 (some .int) :: ALL) ({ frames := 6, cells := 0, slots := 0, locals := 135 }) (pR [.ref (ρ 0), .int (I (r : Int))] E (refW E ρ th ((n : Int)) tl pa kd nm st hi ke tx wy)) (qX (some (.int (I (solve1 st r).2))) E (refW E ρ th ((n : Int)) tl pa kd nm st hi ke tx wy) (fun wy => (refW E ρ 0 ((recN n : Int)) tl pa kd nm ((solve1 st r).1) (recH st hi n) ke tx wy))) 0 0 (adIn (refW E ρ th ((n : Int)) tl pa kd nm st hi ke tx wy)) := by
  refine mk_met (by decide) rfl (Nat.le_of_ble_eq_true rfl) ?_
  intro p e s m args below meth c hx hb hrt hml hts hown hlocks hnm hP hK ls hl
  have hown : s.vm.findClass RX6 = some m.cls := hown
  have hl : lv_has ls 2 [(0, .ref (ρ 0)), (1, .int (I (r : Int)))] := hl
  have hD : va_D (adIn (refW E ρ th ((n : Int)) tl pa kd nm st hi ke tx wy)) (refW E ρ th ((n : Int)) tl pa kd nm st hi ke tx wy) := D_of_dR hρ rfl
  have hS : va_S (adIn (refW E ρ th ((n : Int)) tl pa kd nm st hi ke tx wy)) s.heap s.heap [] := va_S.rf
  refine lv_aload_n hx hb dX6_solve_0 rfl (lv_lk hl rfl) ?_
  refine lv_iload_n hx hb dX6_solve_1 rfl (lv_lk hl rfl) ?_
  refine call_S (va_runS ⟨hx, hb, hml, hown, hts⟩ (m_X6_isRiddle l E ((r : Int)) (by omega)) (va_cwS 1 hts (gi_S ml_X6_64 st_X6_isRiddle it_X6 cd_X6_isRiddle) rfl rfl rfl (by decide +kernel) ⟨Nat.le_of_ble_eq_true rfl, Nat.le_of_ble_eq_true rfl⟩) (pR_S (hP.sub (ws' := []) [] rfl) hK) rfl rfl hl.1 rfl (lv_room (Nat.le_of_ble_eq_true rfl)) dX6_solve_2 ⟨Nat.le_of_ble_eq_true rfl, Nat.le_of_ble_eq_true rfl⟩) (fun _ h => h) hS rfl (fun locs hS => ?_)
  refine iv_eq (1) (by rw [if_pos (by omega)]) ?_
  refine iv_if_eq (tgt := 12) hx hb dX6_solve_5 (by decide) (by omega) (fun c_5 => by exfalso; omega) (fun c_5 => ?_)
  refine iv_iconst hx hb dX6_solve_8 ?_
  refine lv_goto (tgt := 13) hx hb dX6_solve_9 (by decide) ?_
  refine va_put (ci := 6) (ty := .int) hx hb hts inX6 tyX6 tyX6_ok nmX6 hown hK.1 hP (dm hD rfl) hS 0 rfl rfl 0 (by decide) (hts _ fl_X6_32) (fun _ h9 => h9) rfl (by decide +kernel) rfl rfl (Nat.le_of_ble_eq_true rfl) dX6_solve_13 (fun H locs hP _ hS => ?_)
  have hP : va_P E.1 vwCl (refW E ρ 0 ((n : Int)) tl pa kd nm st hi ke tx wy) H := hP
  refine lv_aload_n hx hb dX6_solve_16 rfl (lv_lk hl rfl) ?_
  refine va_get (D := E.1) (ci := 6) hx hb hts inX6 hown hK.1 hP 0 rfl rfl 0 (by decide) (hts _ fl_X6_32) (fun _ h9 => h9) rfl dX6_solve_17 ?_
  refine iv_if_le (tgt := 25) hx hb dX6_solve_20 (by decide) (by omega) (fun c_20 => ?_) (fun c_20 => by exfalso; omega)
  refine lv_aload_n hx hb dX6_solve_25 rfl (lv_lk hl rfl) ?_
  refine call_F (va_runV ⟨hx, hb, hml, hown, hts⟩ (m_X6_record l E ρ 0 tl pa kd nm st hi ke tx wy hρ n hn) (cwV 0 hts (gi_V ml_X6_47 im_X6_record sl_X6_record it_X6 cd_X6_record) rfl rfl rfl (by decide +kernel) ⟨Nat.le_of_ble_eq_true rfl, Nat.le_of_ble_eq_true rfl⟩) (pR_V (q0 := 0) (ci := 6) hP hK rfl rfl) rfl rfl hl.1 rfl (lv_room (Nat.le_of_ble_eq_true rfl)) dX6_solve_26 ⟨Nat.le_of_ble_eq_true rfl, Nat.le_of_ble_eq_true rfl⟩) (dm hD rfl) hS rfl (fun H locs hP hS => ?_)
  have hP : va_P E.1 vwCl (refW E ρ 0 ((recN n : Int)) tl pa kd nm st (recH st hi n) ke tx wy) H := hP
  refine lv_aload_n hx hb dX6_solve_29 rfl (lv_lk hl rfl) ?_
  refine lv_iload_n hx hb dX6_solve_30 rfl (lv_lk hl rfl) ?_
  refine call_X (va_runV ⟨hx, hb, hml, hown, hts⟩ (m_X6_solvesFirst l E ρ 0 ((recN n : Int)) tl pa kd nm st (recH st hi n) ke tx wy hρ T hI r hr) (cwV 1 hts (gi_V ml_X6_85 im_X6_solvesFirst sl_X6_solvesFirst it_X6 cd_X6_solvesFirst) rfl rfl rfl (by decide +kernel) ⟨Nat.le_of_ble_eq_true rfl, Nat.le_of_ble_eq_true rfl⟩) (pR_V (q0 := 0) (ci := 6) hP hK rfl rfl) rfl rfl hl.1 rfl (lv_room (Nat.le_of_ble_eq_true rfl)) dX6_solve_31 ⟨Nat.le_of_ble_eq_true rfl, Nat.le_of_ble_eq_true rfl⟩) (dm hD rfl) hS rfl (fun wy1 H locs hP hS => ?_)
  have hP : va_P E.1 vwCl (refW E ρ 0 ((recN n : Int)) tl pa kd nm ((solve1 st r).1) (recH st hi n) ke tx wy1) H := hP
  exact W.iret hx hb hrt (fun t ht hW => ⟨rfl, ⟨wy1, by rw [ht]; exact hP⟩, hS.F ht⟩) hS.2.2 dX6_solve_34 hlocks
set_option maxHeartbeats 4000000 in
set_option maxRecDepth 100000 in
theorem m_X6_solve_bad (l : Launch) (E : Env3) (ρ : Nat → Nat) (th rc tl pa kd nm : Int) (st hi ke tx wy : S) (hρ : dR ρ 6) (r : Int) (hr : -2147483648 ≤ r ∧ r ≤ 2147483647) (h1 : ¬ (0 ≤ r ∧ r ≤ 35)) : Met l yX6_solve (Cond.code yX6_solve cX6_solve 2 (some .int) :: ALL) ({ frames := 6, cells := 0, slots := 0, locals := 135 }) (pR [.ref (ρ 0), .int (I r)] E (refW E ρ th rc tl pa kd nm st hi ke tx wy)) (qW (some (.int (I 0))) E (refW E ρ th rc tl pa kd nm st hi ke tx wy) (refW E ρ 1 rc tl pa kd nm st hi ke tx wy)) 0 0 (adIn (refW E ρ th rc tl pa kd nm st hi ke tx wy)) := by
  refine mk_met (by decide) rfl (Nat.le_of_ble_eq_true rfl) ?_
  intro p e s m args below meth c hx hb hrt hml hts hown hlocks hnm hP hK ls hl
  have hown : s.vm.findClass RX6 = some m.cls := hown
  have hl : lv_has ls 2 [(0, .ref (ρ 0)), (1, .int (I r))] := hl
  have hD : va_D (adIn (refW E ρ th rc tl pa kd nm st hi ke tx wy)) (refW E ρ th rc tl pa kd nm st hi ke tx wy) := D_of_dR hρ rfl
  have hS : va_S (adIn (refW E ρ th rc tl pa kd nm st hi ke tx wy)) s.heap s.heap [] := va_S.rf
  refine lv_aload_n hx hb dX6_solve_0 rfl (lv_lk hl rfl) ?_
  refine lv_iload_n hx hb dX6_solve_1 rfl (lv_lk hl rfl) ?_
  refine call_S (va_runS ⟨hx, hb, hml, hown, hts⟩ (m_X6_isRiddle l E r (by omega)) (va_cwS 1 hts (gi_S ml_X6_64 st_X6_isRiddle it_X6 cd_X6_isRiddle) rfl rfl rfl (by decide +kernel) ⟨Nat.le_of_ble_eq_true rfl, Nat.le_of_ble_eq_true rfl⟩) (pR_S (hP.sub (ws' := []) [] rfl) hK) rfl rfl hl.1 rfl (lv_room (Nat.le_of_ble_eq_true rfl)) dX6_solve_2 ⟨Nat.le_of_ble_eq_true rfl, Nat.le_of_ble_eq_true rfl⟩) (fun _ h => h) hS rfl (fun locs hS => ?_)
  refine iv_eq (0) (by rw [if_neg (by omega)]) ?_
  refine iv_if_eq (tgt := 12) hx hb dX6_solve_5 (by decide) (by omega) (fun c_5 => ?_) (fun c_5 => by exfalso; omega)
  refine iv_iconst hx hb dX6_solve_12 ?_
  refine va_put (ci := 6) (ty := .int) hx hb hts inX6 tyX6 tyX6_ok nmX6 hown hK.1 hP (dm hD rfl) hS 0 rfl rfl 0 (by decide) (hts _ fl_X6_32) (fun _ h9 => h9) rfl (by decide +kernel) rfl rfl (Nat.le_of_ble_eq_true rfl) dX6_solve_13 (fun H locs hP _ hS => ?_)
  have hP : va_P E.1 vwCl (refW E ρ 1 rc tl pa kd nm st hi ke tx wy) H := hP
  refine lv_aload_n hx hb dX6_solve_16 rfl (lv_lk hl rfl) ?_
  refine va_get (D := E.1) (ci := 6) hx hb hts inX6 hown hK.1 hP 0 rfl rfl 0 (by decide) (hts _ fl_X6_32) (fun _ h9 => h9) rfl dX6_solve_17 ?_
  refine iv_if_le (tgt := 25) hx hb dX6_solve_20 (by decide) (by omega) (fun c_20 => by exfalso; omega) (fun c_20 => ?_)
  refine iv_iconst hx hb dX6_solve_23 ?_
  exact W.iret hx hb hrt (fun t ht hW => ⟨rfl, by rw [ht]; exact hP, hS.F ht⟩) hS.2.2 dX6_solve_24 hlocks
set_option maxHeartbeats 4000000 in
set_option maxRecDepth 100000 in
theorem m_X6_forget_ok (l : Launch) (E : Env3) (ρ : Nat → Nat) (th tl pa kd nm : Int) (st hi ke tx wy : S) (hρ : dR ρ 6) (n : Nat) (hn : n ≤ 6) (r : Nat) (hr : r < 36) (hk9 : -2147483648 ≤ st (36 + 6 * r + 3) ∧ st (36 + 6 * r + 3) ≤ 2147483647) (hk8 : ¬ st (36 + 6 * r + 3) = 0) : Met l yX6_forget (Cond.code yX6_forget cX6_forget 3 (some .int) :: ALL) ({ frames := 2, cells := 0, slots := 0, locals := 45 }) (pR [.ref (ρ 0), .int (I (r : Int))] E (refW E ρ th ((n : Int)) tl pa kd nm st hi ke tx wy)) (qW (some (.int (I (st (36 + 6 * r + 3))))) E (refW E ρ th ((n : Int)) tl pa kd nm st hi ke tx wy) (refW E ρ 0 ((recN n : Int)) tl pa kd nm (forg st r) (recH st hi n) ke tx wy)) 0 0 (adIn (refW E ρ th ((n : Int)) tl pa kd nm st hi ke tx wy)) := by
  refine mk_met (by decide) rfl (Nat.le_of_ble_eq_true rfl) ?_
  intro p e s m args below meth c hx hb hrt hml hts hown hlocks hnm hP hK ls hl
  have hown : s.vm.findClass RX6 = some m.cls := hown
  have hl : lv_has ls 3 [(0, .ref (ρ 0)), (1, .int (I (r : Int)))] := hl
  have hD : va_D (adIn (refW E ρ th ((n : Int)) tl pa kd nm st hi ke tx wy)) (refW E ρ th ((n : Int)) tl pa kd nm st hi ke tx wy) := D_of_dR hρ rfl
  have hS : va_S (adIn (refW E ρ th ((n : Int)) tl pa kd nm st hi ke tx wy)) s.heap s.heap [] := va_S.rf
  refine lv_aload_n hx hb dX6_forget_0 rfl (lv_lk hl rfl) ?_
  refine lv_iload_n hx hb dX6_forget_1 rfl (lv_lk hl rfl) ?_
  refine call_S (va_runS ⟨hx, hb, hml, hown, hts⟩ (m_X6_isRiddle l E ((r : Int)) (by omega)) (va_cwS 1 hts (gi_S ml_X6_64 st_X6_isRiddle it_X6 cd_X6_isRiddle) rfl rfl rfl (by decide +kernel) ⟨Nat.le_of_ble_eq_true rfl, Nat.le_of_ble_eq_true rfl⟩) (pR_S (hP.sub (ws' := []) [] rfl) hK) rfl rfl hl.1 rfl (lv_room (Nat.le_of_ble_eq_true rfl)) dX6_forget_2 ⟨Nat.le_of_ble_eq_true rfl, Nat.le_of_ble_eq_true rfl⟩) (fun _ h => h) hS rfl (fun locs hS => ?_)
  refine iv_eq (1) (by rw [if_pos (by omega)]) ?_
  refine iv_if_ne (tgt := 12) hx hb dX6_forget_5 (by decide) (by omega) (fun c_5 => ?_) (fun c_5 => by exfalso; omega)
  refine lv_aload_n hx hb dX6_forget_12 rfl (lv_lk hl rfl) ?_
  refine lv_iload_n hx hb dX6_forget_13 rfl (lv_lk hl rfl) ?_
  refine iv_iconst hx hb dX6_forget_14 ?_
  refine call_S (va_runV ⟨hx, hb, hml, hown, hts⟩ (m_X6_of l E ρ th ((n : Int)) tl pa kd nm st hi ke tx wy r 3 hr (by decide)) (cwV 2 hts (gi_V ml_X6_61 im_X6_of sl_X6_of it_X6 cd_X6_of) rfl rfl rfl (by decide +kernel) ⟨Nat.le_of_ble_eq_true rfl, Nat.le_of_ble_eq_true rfl⟩) (pR_V (q0 := 0) (ci := 6) hP hK rfl rfl) rfl rfl hl.1 rfl (lv_room (Nat.le_of_ble_eq_true rfl)) dX6_forget_15 ⟨Nat.le_of_ble_eq_true rfl, Nat.le_of_ble_eq_true rfl⟩) (fun _ h => h) hS rfl (fun locs hS => ?_)
  refine iv_if_ne (tgt := 25) hx hb dX6_forget_18 (by decide) (by omega) (fun c_18 => ?_) (fun c_18 => by exfalso; omega)
  refine iv_iconst hx hb dX6_forget_25 ?_
  refine va_put (ci := 6) (ty := .int) hx hb hts inX6 tyX6 tyX6_ok nmX6 hown hK.1 hP (dm hD rfl) hS 0 rfl rfl 0 (by decide) (hts _ fl_X6_32) (fun _ h9 => h9) rfl (by decide +kernel) rfl rfl (Nat.le_of_ble_eq_true rfl) dX6_forget_26 (fun H locs hP _ hS => ?_)
  have hP : va_P E.1 vwCl (refW E ρ 0 ((n : Int)) tl pa kd nm st hi ke tx wy) H := hP
  refine lv_aload_n hx hb dX6_forget_29 rfl (lv_lk hl rfl) ?_
  refine va_get (D := E.1) (ci := 6) hx hb hts inX6 hown hK.1 hP 0 rfl rfl 0 (by decide) (hts _ fl_X6_32) (fun _ h9 => h9) rfl dX6_forget_30 ?_
  refine iv_if_le (tgt := 38) hx hb dX6_forget_33 (by decide) (by omega) (fun c_33 => ?_) (fun c_33 => by exfalso; omega)
  refine lv_aload_n hx hb dX6_forget_38 rfl (lv_lk hl rfl) ?_
  refine call_F (va_runV ⟨hx, hb, hml, hown, hts⟩ (m_X6_record l E ρ 0 tl pa kd nm st hi ke tx wy hρ n hn) (cwV 0 hts (gi_V ml_X6_47 im_X6_record sl_X6_record it_X6 cd_X6_record) rfl rfl rfl (by decide +kernel) ⟨Nat.le_of_ble_eq_true rfl, Nat.le_of_ble_eq_true rfl⟩) (pR_V (q0 := 0) (ci := 6) hP hK rfl rfl) rfl rfl hl.1 rfl (lv_room (Nat.le_of_ble_eq_true rfl)) dX6_forget_39 ⟨Nat.le_of_ble_eq_true rfl, Nat.le_of_ble_eq_true rfl⟩) (dm hD rfl) hS rfl (fun H locs hP hS => ?_)
  have hP : va_P E.1 vwCl (refW E ρ 0 ((recN n : Int)) tl pa kd nm st (recH st hi n) ke tx wy) H := hP
  refine lv_aload_n hx hb dX6_forget_42 rfl (lv_lk hl rfl) ?_
  refine lv_iload_n hx hb dX6_forget_43 rfl (lv_lk hl rfl) ?_
  refine iv_iconst hx hb dX6_forget_44 ?_
  refine call_S (va_runV ⟨hx, hb, hml, hown, hts⟩ (m_X6_of l E ρ 0 ((recN n : Int)) tl pa kd nm st (recH st hi n) ke tx wy r 3 hr (by decide)) (cwV 2 hts (gi_V ml_X6_61 im_X6_of sl_X6_of it_X6 cd_X6_of) rfl rfl rfl (by decide +kernel) ⟨Nat.le_of_ble_eq_true rfl, Nat.le_of_ble_eq_true rfl⟩) (pR_V (q0 := 0) (ci := 6) hP hK rfl rfl) rfl rfl hl.1 rfl (lv_room (Nat.le_of_ble_eq_true rfl)) dX6_forget_45 ⟨Nat.le_of_ble_eq_true rfl, Nat.le_of_ble_eq_true rfl⟩) (fun _ h => h) hS rfl (fun locs hS => ?_)
  refine lv_istore_n (lv' := [(2, .int (I _)), (0, .ref _), (1, .int (I _))]) hx hb dX6_forget_48 rfl hl (by decide) rfl (fun ls hl => ?_)
  refine lv_aload_n hx hb dX6_forget_49 rfl (lv_lk hl rfl) ?_
  refine lv_iload_n hx hb dX6_forget_50 rfl (lv_lk hl rfl) ?_
  refine call_F (va_runV ⟨hx, hb, hml, hown, hts⟩ (m_X6_forgets l E ρ 0 ((recN n : Int)) tl pa kd nm st (recH st hi n) ke tx wy hρ r hr) (cwV 1 hts (gi_V ml_X6_88 im_X6_forgets sl_X6_forgets it_X6 cd_X6_forgets) rfl rfl rfl (by decide +kernel) ⟨Nat.le_of_ble_eq_true rfl, Nat.le_of_ble_eq_true rfl⟩) (pR_V (q0 := 0) (ci := 6) hP hK rfl rfl) rfl rfl hl.1 rfl (lv_room (Nat.le_of_ble_eq_true rfl)) dX6_forget_51 ⟨Nat.le_of_ble_eq_true rfl, Nat.le_of_ble_eq_true rfl⟩) (dm hD rfl) hS rfl (fun H locs hP hS => ?_)
  have hP : va_P E.1 vwCl (refW E ρ 0 ((recN n : Int)) tl pa kd nm (forg st r) (recH st hi n) ke tx wy) H := hP
  refine lv_iload_n hx hb dX6_forget_54 rfl (lv_lk hl rfl) ?_
  exact W.iret hx hb hrt (fun t ht hW => ⟨rfl, by rw [ht]; exact hP, hS.F ht⟩) hS.2.2 dX6_forget_55 hlocks
set_option maxHeartbeats 4000000 in
set_option maxRecDepth 100000 in
theorem m_X6_forget_bad1 (l : Launch) (E : Env3) (ρ : Nat → Nat) (th rc tl pa kd nm : Int) (st hi ke tx wy : S) (hρ : dR ρ 6) (r : Int) (hr : -2147483648 ≤ r ∧ r ≤ 2147483647) (h1 : ¬ (0 ≤ r ∧ r ≤ 35)) : Met l yX6_forget (Cond.code yX6_forget cX6_forget 3 (some .int) :: ALL) ({ frames := 2, cells := 0, slots := 0, locals := 45 }) (pR [.ref (ρ 0), .int (I r)] E (refW E ρ th rc tl pa kd nm st hi ke tx wy)) (qW (some (.int (I 0))) E (refW E ρ th rc tl pa kd nm st hi ke tx wy) (refW E ρ 1 rc tl pa kd nm st hi ke tx wy)) 0 0 (adIn (refW E ρ th rc tl pa kd nm st hi ke tx wy)) := by
  refine mk_met (by decide) rfl (Nat.le_of_ble_eq_true rfl) ?_
  intro p e s m args below meth c hx hb hrt hml hts hown hlocks hnm hP hK ls hl
  have hown : s.vm.findClass RX6 = some m.cls := hown
  have hl : lv_has ls 3 [(0, .ref (ρ 0)), (1, .int (I r))] := hl
  have hD : va_D (adIn (refW E ρ th rc tl pa kd nm st hi ke tx wy)) (refW E ρ th rc tl pa kd nm st hi ke tx wy) := D_of_dR hρ rfl
  have hS : va_S (adIn (refW E ρ th rc tl pa kd nm st hi ke tx wy)) s.heap s.heap [] := va_S.rf
  refine lv_aload_n hx hb dX6_forget_0 rfl (lv_lk hl rfl) ?_
  refine lv_iload_n hx hb dX6_forget_1 rfl (lv_lk hl rfl) ?_
  refine call_S (va_runS ⟨hx, hb, hml, hown, hts⟩ (m_X6_isRiddle l E r (by omega)) (va_cwS 1 hts (gi_S ml_X6_64 st_X6_isRiddle it_X6 cd_X6_isRiddle) rfl rfl rfl (by decide +kernel) ⟨Nat.le_of_ble_eq_true rfl, Nat.le_of_ble_eq_true rfl⟩) (pR_S (hP.sub (ws' := []) [] rfl) hK) rfl rfl hl.1 rfl (lv_room (Nat.le_of_ble_eq_true rfl)) dX6_forget_2 ⟨Nat.le_of_ble_eq_true rfl, Nat.le_of_ble_eq_true rfl⟩) (fun _ h => h) hS rfl (fun locs hS => ?_)
  refine iv_eq (0) (by rw [if_neg (by omega)]) ?_
  refine iv_if_ne (tgt := 12) hx hb dX6_forget_5 (by decide) (by omega) (fun c_5 => by exfalso; omega) (fun c_5 => ?_)
  refine iv_iconst hx hb dX6_forget_8 ?_
  refine lv_goto (tgt := 26) hx hb dX6_forget_9 (by decide) ?_
  refine va_put (ci := 6) (ty := .int) hx hb hts inX6 tyX6 tyX6_ok nmX6 hown hK.1 hP (dm hD rfl) hS 0 rfl rfl 0 (by decide) (hts _ fl_X6_32) (fun _ h9 => h9) rfl (by decide +kernel) rfl rfl (Nat.le_of_ble_eq_true rfl) dX6_forget_26 (fun H locs hP _ hS => ?_)
  have hP : va_P E.1 vwCl (refW E ρ 1 rc tl pa kd nm st hi ke tx wy) H := hP
  refine lv_aload_n hx hb dX6_forget_29 rfl (lv_lk hl rfl) ?_
  refine va_get (D := E.1) (ci := 6) hx hb hts inX6 hown hK.1 hP 0 rfl rfl 0 (by decide) (hts _ fl_X6_32) (fun _ h9 => h9) rfl dX6_forget_30 ?_
  refine iv_if_le (tgt := 38) hx hb dX6_forget_33 (by decide) (by omega) (fun c_33 => by exfalso; omega) (fun c_33 => ?_)
  refine iv_iconst hx hb dX6_forget_36 ?_
  exact W.iret hx hb hrt (fun t ht hW => ⟨rfl, by rw [ht]; exact hP, hS.F ht⟩) hS.2.2 dX6_forget_37 hlocks
set_option maxHeartbeats 4000000 in
set_option maxRecDepth 100000 in
theorem m_X6_forget_bad2 (l : Launch) (E : Env3) (ρ : Nat → Nat) (th rc tl pa kd nm : Int) (st hi ke tx wy : S) (hρ : dR ρ 6) (r : Nat) (hr : r < 36) (hk8 : st (36 + 6 * r + 3) = 0) : Met l yX6_forget (Cond.code yX6_forget cX6_forget 3 (some .int) :: ALL) ({ frames := 2, cells := 0, slots := 0, locals := 45 }) (pR [.ref (ρ 0), .int (I (r : Int))] E (refW E ρ th rc tl pa kd nm st hi ke tx wy)) (qW (some (.int (I 0))) E (refW E ρ th rc tl pa kd nm st hi ke tx wy) (refW E ρ 2 rc tl pa kd nm st hi ke tx wy)) 0 0 (adIn (refW E ρ th rc tl pa kd nm st hi ke tx wy)) := by
  refine mk_met (by decide) rfl (Nat.le_of_ble_eq_true rfl) ?_
  intro p e s m args below meth c hx hb hrt hml hts hown hlocks hnm hP hK ls hl
  have hown : s.vm.findClass RX6 = some m.cls := hown
  have hl : lv_has ls 3 [(0, .ref (ρ 0)), (1, .int (I (r : Int)))] := hl
  have hD : va_D (adIn (refW E ρ th rc tl pa kd nm st hi ke tx wy)) (refW E ρ th rc tl pa kd nm st hi ke tx wy) := D_of_dR hρ rfl
  have hS : va_S (adIn (refW E ρ th rc tl pa kd nm st hi ke tx wy)) s.heap s.heap [] := va_S.rf
  refine lv_aload_n hx hb dX6_forget_0 rfl (lv_lk hl rfl) ?_
  refine lv_iload_n hx hb dX6_forget_1 rfl (lv_lk hl rfl) ?_
  refine call_S (va_runS ⟨hx, hb, hml, hown, hts⟩ (m_X6_isRiddle l E ((r : Int)) (by omega)) (va_cwS 1 hts (gi_S ml_X6_64 st_X6_isRiddle it_X6 cd_X6_isRiddle) rfl rfl rfl (by decide +kernel) ⟨Nat.le_of_ble_eq_true rfl, Nat.le_of_ble_eq_true rfl⟩) (pR_S (hP.sub (ws' := []) [] rfl) hK) rfl rfl hl.1 rfl (lv_room (Nat.le_of_ble_eq_true rfl)) dX6_forget_2 ⟨Nat.le_of_ble_eq_true rfl, Nat.le_of_ble_eq_true rfl⟩) (fun _ h => h) hS rfl (fun locs hS => ?_)
  refine iv_eq (1) (by rw [if_pos (by omega)]) ?_
  refine iv_if_ne (tgt := 12) hx hb dX6_forget_5 (by decide) (by omega) (fun c_5 => ?_) (fun c_5 => by exfalso; omega)
  refine lv_aload_n hx hb dX6_forget_12 rfl (lv_lk hl rfl) ?_
  refine lv_iload_n hx hb dX6_forget_13 rfl (lv_lk hl rfl) ?_
  refine iv_iconst hx hb dX6_forget_14 ?_
  refine call_S (va_runV ⟨hx, hb, hml, hown, hts⟩ (m_X6_of l E ρ th rc tl pa kd nm st hi ke tx wy r 3 hr (by decide)) (cwV 2 hts (gi_V ml_X6_61 im_X6_of sl_X6_of it_X6 cd_X6_of) rfl rfl rfl (by decide +kernel) ⟨Nat.le_of_ble_eq_true rfl, Nat.le_of_ble_eq_true rfl⟩) (pR_V (q0 := 0) (ci := 6) hP hK rfl rfl) rfl rfl hl.1 rfl (lv_room (Nat.le_of_ble_eq_true rfl)) dX6_forget_15 ⟨Nat.le_of_ble_eq_true rfl, Nat.le_of_ble_eq_true rfl⟩) (fun _ h => h) hS rfl (fun locs hS => ?_)
  refine iv_if_ne (tgt := 25) hx hb dX6_forget_18 (by decide) (by omega) (fun c_18 => by exfalso; omega) (fun c_18 => ?_)
  refine iv_iconst hx hb dX6_forget_21 ?_
  refine lv_goto (tgt := 26) hx hb dX6_forget_22 (by decide) ?_
  refine va_put (ci := 6) (ty := .int) hx hb hts inX6 tyX6 tyX6_ok nmX6 hown hK.1 hP (dm hD rfl) hS 0 rfl rfl 0 (by decide) (hts _ fl_X6_32) (fun _ h9 => h9) rfl (by decide +kernel) rfl rfl (Nat.le_of_ble_eq_true rfl) dX6_forget_26 (fun H locs hP _ hS => ?_)
  have hP : va_P E.1 vwCl (refW E ρ 2 rc tl pa kd nm st hi ke tx wy) H := hP
  refine lv_aload_n hx hb dX6_forget_29 rfl (lv_lk hl rfl) ?_
  refine va_get (D := E.1) (ci := 6) hx hb hts inX6 hown hK.1 hP 0 rfl rfl 0 (by decide) (hts _ fl_X6_32) (fun _ h9 => h9) rfl dX6_forget_30 ?_
  refine iv_if_le (tgt := 38) hx hb dX6_forget_33 (by decide) (by omega) (fun c_33 => by exfalso; omega) (fun c_33 => ?_)
  refine iv_iconst hx hb dX6_forget_36 ?_
  exact W.iret hx hb hrt (fun t ht hW => ⟨rfl, by rw [ht]; exact hP, hS.F ht⟩) hS.2.2 dX6_forget_37 hlocks
set_option maxHeartbeats 4000000 in
set_option maxRecDepth 100000 in
theorem m_X6_pass_ok (l : Launch) (E : Env3) (ρ : Nat → Nat) (th tl pa kd nm : Int) (st hi ke tx wy : S) (hρ : dR ρ 6) (n : Nat) (hn : n ≤ 6) (T : Int) (hI : IB T st) (t : Int) (ht : 1 ≤ t ∧ t ≤ 99) (hT : T ≤ 99900) (h8 : st 0 + t ≤ 9999) : Met l yX6_pass (Cond.code yX6_pass cX6_pass 2 (some .int) :: ALL) ({ frames := 3, cells := 0, slots := 0, locals := 67 }) (pR [.ref (ρ 0), .int (I t)] E (refW E ρ th ((n : Int)) tl pa kd nm st hi ke tx wy)) (qW (some (.int (I (passes st t 5 - st 5)))) E (refW E ρ th ((n : Int)) tl pa kd nm st hi ke tx wy) (refW E ρ 0 ((recN n : Int)) tl pa kd nm (passes st t) (recH st hi n) ke tx wy)) 0 0 (adIn (refW E ρ th ((n : Int)) tl pa kd nm st hi ke tx wy)) := by
  refine mk_met (by decide) rfl (Nat.le_of_ble_eq_true rfl) ?_
  intro p e s m args below meth c hx hb hrt hml hts hown hlocks hnm hP hK ls hl
  have hown : s.vm.findClass RX6 = some m.cls := hown
  have hl : lv_has ls 2 [(0, .ref (ρ 0)), (1, .int (I t))] := hl
  have hD : va_D (adIn (refW E ρ th ((n : Int)) tl pa kd nm st hi ke tx wy)) (refW E ρ th ((n : Int)) tl pa kd nm st hi ke tx wy) := D_of_dR hρ rfl
  have hS : va_S (adIn (refW E ρ th ((n : Int)) tl pa kd nm st hi ke tx wy)) s.heap s.heap [] := va_S.rf
  have h09 := hI.1
  refine lv_aload_n hx hb dX6_pass_0 rfl (lv_lk hl rfl) ?_
  refine lv_iload_n hx hb dX6_pass_1 rfl (lv_lk hl rfl) ?_
  refine iv_iconst hx hb dX6_pass_2 ?_
  refine iv_bipush hx hb dX6_pass_3 (by decide +kernel) ?_
  refine call_S (va_runS ⟨hx, hb, hml, hown, hts⟩ (m_X6_within l E t 1 99 (by omega) (by omega) (by omega)) (va_cwS 3 hts (gi_S ml_X6_43 st_X6_within it_X6 cd_X6_within) rfl rfl rfl (by decide +kernel) ⟨Nat.le_of_ble_eq_true rfl, Nat.le_of_ble_eq_true rfl⟩) (pR_S (hP.sub (ws' := []) [] rfl) hK) rfl rfl hl.1 rfl (lv_room (Nat.le_of_ble_eq_true rfl)) dX6_pass_5 ⟨Nat.le_of_ble_eq_true rfl, Nat.le_of_ble_eq_true rfl⟩) (fun _ h => h) hS rfl (fun locs hS => ?_)
  refine iv_eq (1) (by rw [if_pos (by omega)]) ?_
  refine iv_if_ne (tgt := 15) hx hb dX6_pass_8 (by decide) (by omega) (fun c_8 => ?_) (fun c_8 => by exfalso; omega)
  refine lv_aload_n hx hb dX6_pass_15 rfl (lv_lk hl rfl) ?_
  refine va_get (D := E.1) (ci := 6) hx hb hts inX6 hown hK.1 hP 0 rfl rfl 1 (by decide) (hts _ fl_X6_7) (fun _ h9 => h9) rfl dX6_pass_16 ?_
  refine iv_iconst hx hb dX6_pass_19 ?_
  refine iv_iald hx hb hK hP 1 rfl (0) (by omega) (by omega) dX6_pass_20 ?_
  refine lv_iload_n hx hb dX6_pass_21 rfl (lv_lk hl rfl) ?_
  refine iv_iadd hx hb dX6_pass_22 ?_
  refine iv_sipush hx hb dX6_pass_23 (by decide +kernel) ?_
  refine iv_icmp_le (tgt := 33) hx hb dX6_pass_26 (by decide) (by omega) (by omega) (fun c_26 => ?_) (fun c_26 => by exfalso; omega)
  refine iv_iconst hx hb dX6_pass_33 ?_
  refine va_put (ci := 6) (ty := .int) hx hb hts inX6 tyX6 tyX6_ok nmX6 hown hK.1 hP (dm hD rfl) hS 0 rfl rfl 0 (by decide) (hts _ fl_X6_32) (fun _ h9 => h9) rfl (by decide +kernel) rfl rfl (Nat.le_of_ble_eq_true rfl) dX6_pass_34 (fun H locs hP _ hS => ?_)
  have hP : va_P E.1 vwCl (refW E ρ 0 ((n : Int)) tl pa kd nm st hi ke tx wy) H := hP
  refine lv_aload_n hx hb dX6_pass_37 rfl (lv_lk hl rfl) ?_
  refine va_get (D := E.1) (ci := 6) hx hb hts inX6 hown hK.1 hP 0 rfl rfl 0 (by decide) (hts _ fl_X6_32) (fun _ h9 => h9) rfl dX6_pass_38 ?_
  refine iv_if_le (tgt := 46) hx hb dX6_pass_41 (by decide) (by omega) (fun c_41 => ?_) (fun c_41 => by exfalso; omega)
  refine lv_aload_n hx hb dX6_pass_46 rfl (lv_lk hl rfl) ?_
  refine call_F (va_runV ⟨hx, hb, hml, hown, hts⟩ (m_X6_record l E ρ 0 tl pa kd nm st hi ke tx wy hρ n hn) (cwV 0 hts (gi_V ml_X6_47 im_X6_record sl_X6_record it_X6 cd_X6_record) rfl rfl rfl (by decide +kernel) ⟨Nat.le_of_ble_eq_true rfl, Nat.le_of_ble_eq_true rfl⟩) (pR_V (q0 := 0) (ci := 6) hP hK rfl rfl) rfl rfl hl.1 rfl (lv_room (Nat.le_of_ble_eq_true rfl)) dX6_pass_47 ⟨Nat.le_of_ble_eq_true rfl, Nat.le_of_ble_eq_true rfl⟩) (dm hD rfl) hS rfl (fun H locs hP hS => ?_)
  have hP : va_P E.1 vwCl (refW E ρ 0 ((recN n : Int)) tl pa kd nm st (recH st hi n) ke tx wy) H := hP
  refine lv_aload_n hx hb dX6_pass_50 rfl (lv_lk hl rfl) ?_
  refine lv_iload_n hx hb dX6_pass_51 rfl (lv_lk hl rfl) ?_
  refine call_F (va_runV ⟨hx, hb, hml, hown, hts⟩ (m_X6_passes l E ρ 0 ((recN n : Int)) tl pa kd nm st (recH st hi n) ke tx wy hρ T hI t (by omega)) (cwV 1 hts (gi_V ml_X6_91 im_X6_passes sl_X6_passes it_X6 cd_X6_passes) rfl rfl rfl (by decide +kernel) ⟨Nat.le_of_ble_eq_true rfl, Nat.le_of_ble_eq_true rfl⟩) (pR_V (q0 := 0) (ci := 6) hP hK rfl rfl) rfl rfl hl.1 rfl (lv_room (Nat.le_of_ble_eq_true rfl)) dX6_pass_52 ⟨Nat.le_of_ble_eq_true rfl, Nat.le_of_ble_eq_true rfl⟩) (dm hD rfl) hS rfl (fun H locs hP hS => ?_)
  have hP : va_P E.1 vwCl (refW E ρ 0 ((recN n : Int)) tl pa kd nm (passes st t) (recH st hi n) ke tx wy) H := hP
  exact W.iret hx hb hrt (fun t ht hW => ⟨rfl, by rw [ht]; exact hP, hS.F ht⟩) hS.2.2 dX6_pass_55 hlocks
set_option maxHeartbeats 4000000 in
set_option maxRecDepth 100000 in
theorem m_X6_pass_bad1 (l : Launch) (E : Env3) (ρ : Nat → Nat) (th rc tl pa kd nm : Int) (st hi ke tx wy : S) (hρ : dR ρ 6) (t : Int) (ht : -2147483648 ≤ t ∧ t ≤ 2147483647) (h1 : ¬ (1 ≤ t ∧ t ≤ 99)) : Met l yX6_pass (Cond.code yX6_pass cX6_pass 2 (some .int) :: ALL) ({ frames := 3, cells := 0, slots := 0, locals := 67 }) (pR [.ref (ρ 0), .int (I t)] E (refW E ρ th rc tl pa kd nm st hi ke tx wy)) (qW (some (.int (I 0))) E (refW E ρ th rc tl pa kd nm st hi ke tx wy) (refW E ρ 1 rc tl pa kd nm st hi ke tx wy)) 0 0 (adIn (refW E ρ th rc tl pa kd nm st hi ke tx wy)) := by
  refine mk_met (by decide) rfl (Nat.le_of_ble_eq_true rfl) ?_
  intro p e s m args below meth c hx hb hrt hml hts hown hlocks hnm hP hK ls hl
  have hown : s.vm.findClass RX6 = some m.cls := hown
  have hl : lv_has ls 2 [(0, .ref (ρ 0)), (1, .int (I t))] := hl
  have hD : va_D (adIn (refW E ρ th rc tl pa kd nm st hi ke tx wy)) (refW E ρ th rc tl pa kd nm st hi ke tx wy) := D_of_dR hρ rfl
  have hS : va_S (adIn (refW E ρ th rc tl pa kd nm st hi ke tx wy)) s.heap s.heap [] := va_S.rf
  refine lv_aload_n hx hb dX6_pass_0 rfl (lv_lk hl rfl) ?_
  refine lv_iload_n hx hb dX6_pass_1 rfl (lv_lk hl rfl) ?_
  refine iv_iconst hx hb dX6_pass_2 ?_
  refine iv_bipush hx hb dX6_pass_3 (by decide +kernel) ?_
  refine call_S (va_runS ⟨hx, hb, hml, hown, hts⟩ (m_X6_within l E t 1 99 (by omega) (by omega) (by omega)) (va_cwS 3 hts (gi_S ml_X6_43 st_X6_within it_X6 cd_X6_within) rfl rfl rfl (by decide +kernel) ⟨Nat.le_of_ble_eq_true rfl, Nat.le_of_ble_eq_true rfl⟩) (pR_S (hP.sub (ws' := []) [] rfl) hK) rfl rfl hl.1 rfl (lv_room (Nat.le_of_ble_eq_true rfl)) dX6_pass_5 ⟨Nat.le_of_ble_eq_true rfl, Nat.le_of_ble_eq_true rfl⟩) (fun _ h => h) hS rfl (fun locs hS => ?_)
  refine iv_eq (0) (by rw [if_neg (by omega)]) ?_
  refine iv_if_ne (tgt := 15) hx hb dX6_pass_8 (by decide) (by omega) (fun c_8 => by exfalso; omega) (fun c_8 => ?_)
  refine iv_iconst hx hb dX6_pass_11 ?_
  refine lv_goto (tgt := 34) hx hb dX6_pass_12 (by decide) ?_
  refine va_put (ci := 6) (ty := .int) hx hb hts inX6 tyX6 tyX6_ok nmX6 hown hK.1 hP (dm hD rfl) hS 0 rfl rfl 0 (by decide) (hts _ fl_X6_32) (fun _ h9 => h9) rfl (by decide +kernel) rfl rfl (Nat.le_of_ble_eq_true rfl) dX6_pass_34 (fun H locs hP _ hS => ?_)
  have hP : va_P E.1 vwCl (refW E ρ 1 rc tl pa kd nm st hi ke tx wy) H := hP
  refine lv_aload_n hx hb dX6_pass_37 rfl (lv_lk hl rfl) ?_
  refine va_get (D := E.1) (ci := 6) hx hb hts inX6 hown hK.1 hP 0 rfl rfl 0 (by decide) (hts _ fl_X6_32) (fun _ h9 => h9) rfl dX6_pass_38 ?_
  refine iv_if_le (tgt := 46) hx hb dX6_pass_41 (by decide) (by omega) (fun c_41 => by exfalso; omega) (fun c_41 => ?_)
  refine iv_iconst hx hb dX6_pass_44 ?_
  exact W.iret hx hb hrt (fun t ht hW => ⟨rfl, by rw [ht]; exact hP, hS.F ht⟩) hS.2.2 dX6_pass_45 hlocks
set_option maxHeartbeats 4000000 in
set_option maxRecDepth 100000 in
theorem m_X6_pass_bad2 (l : Launch) (E : Env3) (ρ : Nat → Nat) (th rc tl pa kd nm : Int) (st hi ke tx wy : S) (hρ : dR ρ 6) (t : Int) (ht : 1 ≤ t ∧ t ≤ 99) (h0 : 0 ≤ st 0 ∧ st 0 ≤ 100000) (h8 : ¬ st 0 + t ≤ 9999) : Met l yX6_pass (Cond.code yX6_pass cX6_pass 2 (some .int) :: ALL) ({ frames := 3, cells := 0, slots := 0, locals := 67 }) (pR [.ref (ρ 0), .int (I t)] E (refW E ρ th rc tl pa kd nm st hi ke tx wy)) (qW (some (.int (I 0))) E (refW E ρ th rc tl pa kd nm st hi ke tx wy) (refW E ρ 2 rc tl pa kd nm st hi ke tx wy)) 0 0 (adIn (refW E ρ th rc tl pa kd nm st hi ke tx wy)) := by
  refine mk_met (by decide) rfl (Nat.le_of_ble_eq_true rfl) ?_
  intro p e s m args below meth c hx hb hrt hml hts hown hlocks hnm hP hK ls hl
  have hown : s.vm.findClass RX6 = some m.cls := hown
  have hl : lv_has ls 2 [(0, .ref (ρ 0)), (1, .int (I t))] := hl
  have hD : va_D (adIn (refW E ρ th rc tl pa kd nm st hi ke tx wy)) (refW E ρ th rc tl pa kd nm st hi ke tx wy) := D_of_dR hρ rfl
  have hS : va_S (adIn (refW E ρ th rc tl pa kd nm st hi ke tx wy)) s.heap s.heap [] := va_S.rf
  refine lv_aload_n hx hb dX6_pass_0 rfl (lv_lk hl rfl) ?_
  refine lv_iload_n hx hb dX6_pass_1 rfl (lv_lk hl rfl) ?_
  refine iv_iconst hx hb dX6_pass_2 ?_
  refine iv_bipush hx hb dX6_pass_3 (by decide +kernel) ?_
  refine call_S (va_runS ⟨hx, hb, hml, hown, hts⟩ (m_X6_within l E t 1 99 (by omega) (by omega) (by omega)) (va_cwS 3 hts (gi_S ml_X6_43 st_X6_within it_X6 cd_X6_within) rfl rfl rfl (by decide +kernel) ⟨Nat.le_of_ble_eq_true rfl, Nat.le_of_ble_eq_true rfl⟩) (pR_S (hP.sub (ws' := []) [] rfl) hK) rfl rfl hl.1 rfl (lv_room (Nat.le_of_ble_eq_true rfl)) dX6_pass_5 ⟨Nat.le_of_ble_eq_true rfl, Nat.le_of_ble_eq_true rfl⟩) (fun _ h => h) hS rfl (fun locs hS => ?_)
  refine iv_eq (1) (by rw [if_pos (by omega)]) ?_
  refine iv_if_ne (tgt := 15) hx hb dX6_pass_8 (by decide) (by omega) (fun c_8 => ?_) (fun c_8 => by exfalso; omega)
  refine lv_aload_n hx hb dX6_pass_15 rfl (lv_lk hl rfl) ?_
  refine va_get (D := E.1) (ci := 6) hx hb hts inX6 hown hK.1 hP 0 rfl rfl 1 (by decide) (hts _ fl_X6_7) (fun _ h9 => h9) rfl dX6_pass_16 ?_
  refine iv_iconst hx hb dX6_pass_19 ?_
  refine iv_iald hx hb hK hP 1 rfl (0) (by omega) (by omega) dX6_pass_20 ?_
  refine lv_iload_n hx hb dX6_pass_21 rfl (lv_lk hl rfl) ?_
  refine iv_iadd hx hb dX6_pass_22 ?_
  refine iv_sipush hx hb dX6_pass_23 (by decide +kernel) ?_
  refine iv_icmp_le (tgt := 33) hx hb dX6_pass_26 (by decide) (by omega) (by omega) (fun c_26 => by exfalso; omega) (fun c_26 => ?_)
  refine iv_iconst hx hb dX6_pass_29 ?_
  refine lv_goto (tgt := 34) hx hb dX6_pass_30 (by decide) ?_
  refine va_put (ci := 6) (ty := .int) hx hb hts inX6 tyX6 tyX6_ok nmX6 hown hK.1 hP (dm hD rfl) hS 0 rfl rfl 0 (by decide) (hts _ fl_X6_32) (fun _ h9 => h9) rfl (by decide +kernel) rfl rfl (Nat.le_of_ble_eq_true rfl) dX6_pass_34 (fun H locs hP _ hS => ?_)
  have hP : va_P E.1 vwCl (refW E ρ 2 rc tl pa kd nm st hi ke tx wy) H := hP
  refine lv_aload_n hx hb dX6_pass_37 rfl (lv_lk hl rfl) ?_
  refine va_get (D := E.1) (ci := 6) hx hb hts inX6 hown hK.1 hP 0 rfl rfl 0 (by decide) (hts _ fl_X6_32) (fun _ h9 => h9) rfl dX6_pass_38 ?_
  refine iv_if_le (tgt := 46) hx hb dX6_pass_41 (by decide) (by omega) (fun c_41 => by exfalso; omega) (fun c_41 => ?_)
  refine iv_iconst hx hb dX6_pass_44 ?_
  exact W.iret hx hb hrt (fun t ht hW => ⟨rfl, by rw [ht]; exact hP, hS.F ht⟩) hS.2.2 dX6_pass_45 hlocks
set_option maxHeartbeats 4000000 in
set_option maxRecDepth 100000 in
theorem m_X6_append_ok (l : Launch) (E : Env3) (ρ : Nat → Nat) (th rc pa kd nm : Int) (st hi ke tx wy : S) (hρ : dR ρ 6) (k : Nat) (hk : k ≤ 60) (v : Int) (hv : 33 ≤ v ∧ v ≤ 126) (hk2 : k < 60) : Met l yX6_append (Cond.code yX6_append cX6_append 2 (some .int) :: ALL) ({ frames := 1, cells := 0, slots := 0, locals := 22 }) (pR [.ref (ρ 0), .int (I v)] E (refW E ρ th rc ((k : Int)) pa kd nm st hi ke tx wy)) (qW (some (.int (I ((k : Int) + 1)))) E (refW E ρ th rc ((k : Int)) pa kd nm st hi ke tx wy) (refW E ρ 0 rc ((k : Int) + 1) pa kd nm st hi ke (up tx k v) wy)) 0 0 (adIn (refW E ρ th rc ((k : Int)) pa kd nm st hi ke tx wy)) := by
  refine mk_met (by decide) rfl (Nat.le_of_ble_eq_true rfl) ?_
  intro p e s m args below meth c hx hb hrt hml hts hown hlocks hnm hP hK ls hl
  have hown : s.vm.findClass RX6 = some m.cls := hown
  have hl : lv_has ls 2 [(0, .ref (ρ 0)), (1, .int (I v))] := hl
  have hD : va_D (adIn (refW E ρ th rc ((k : Int)) pa kd nm st hi ke tx wy)) (refW E ρ th rc ((k : Int)) pa kd nm st hi ke tx wy) := D_of_dR hρ rfl
  have hS : va_S (adIn (refW E ρ th rc ((k : Int)) pa kd nm st hi ke tx wy)) s.heap s.heap [] := va_S.rf
  refine lv_aload_n hx hb dX6_append_0 rfl (lv_lk hl rfl) ?_
  refine lv_iload_n hx hb dX6_append_1 rfl (lv_lk hl rfl) ?_
  refine iv_bipush hx hb dX6_append_2 (by decide +kernel) ?_
  refine iv_bipush hx hb dX6_append_4 (by decide +kernel) ?_
  refine call_S (va_runS ⟨hx, hb, hml, hown, hts⟩ (m_X6_within l E v 33 126 (by omega) (by omega) (by omega)) (va_cwS 3 hts (gi_S ml_X6_43 st_X6_within it_X6 cd_X6_within) rfl rfl rfl (by decide +kernel) ⟨Nat.le_of_ble_eq_true rfl, Nat.le_of_ble_eq_true rfl⟩) (pR_S (hP.sub (ws' := []) [] rfl) hK) rfl rfl hl.1 rfl (lv_room (Nat.le_of_ble_eq_true rfl)) dX6_append_6 ⟨Nat.le_of_ble_eq_true rfl, Nat.le_of_ble_eq_true rfl⟩) (fun _ h => h) hS rfl (fun locs hS => ?_)
  refine iv_eq (1) (by rw [if_pos (by omega)]) ?_
  refine iv_if_ne (tgt := 16) hx hb dX6_append_9 (by decide) (by omega) (fun c_9 => ?_) (fun c_9 => by exfalso; omega)
  refine lv_aload_n hx hb dX6_append_16 rfl (lv_lk hl rfl) ?_
  refine va_get (D := E.1) (ci := 6) hx hb hts inX6 hown hK.1 hP 0 rfl rfl 6 (by decide) (hts _ fl_X6_134) (fun _ h9 => h9) rfl dX6_append_17 ?_
  refine iv_bipush hx hb dX6_append_20 (by decide +kernel) ?_
  refine iv_icmp_ne (tgt := 29) hx hb dX6_append_22 (by decide) (by omega) (by omega) (fun c_22 => ?_) (fun c_22 => by exfalso; omega)
  refine iv_iconst hx hb dX6_append_29 ?_
  refine va_put (ci := 6) (ty := .int) hx hb hts inX6 tyX6 tyX6_ok nmX6 hown hK.1 hP (dm hD rfl) hS 0 rfl rfl 0 (by decide) (hts _ fl_X6_32) (fun _ h9 => h9) rfl (by decide +kernel) rfl rfl (Nat.le_of_ble_eq_true rfl) dX6_append_30 (fun H locs hP _ hS => ?_)
  have hP : va_P E.1 vwCl (refW E ρ 0 rc ((k : Int)) pa kd nm st hi ke tx wy) H := hP
  refine lv_aload_n hx hb dX6_append_33 rfl (lv_lk hl rfl) ?_
  refine va_get (D := E.1) (ci := 6) hx hb hts inX6 hown hK.1 hP 0 rfl rfl 0 (by decide) (hts _ fl_X6_32) (fun _ h9 => h9) rfl dX6_append_34 ?_
  refine iv_if_le (tgt := 42) hx hb dX6_append_37 (by decide) (by omega) (fun c_37 => ?_) (fun c_37 => by exfalso; omega)
  refine lv_aload_n hx hb dX6_append_42 rfl (lv_lk hl rfl) ?_
  refine va_get (D := E.1) (ci := 6) hx hb hts inX6 hown hK.1 hP 0 rfl rfl 5 (by decide) (hts _ fl_X6_19) (fun _ h9 => h9) rfl dX6_append_43 ?_
  refine lv_aload_n hx hb dX6_append_46 rfl (lv_lk hl rfl) ?_
  refine va_get (D := E.1) (ci := 6) hx hb hts inX6 hown hK.1 hP 0 rfl rfl 6 (by decide) (hts _ fl_X6_134) (fun _ h9 => h9) rfl dX6_append_47 ?_
  refine lv_iload_n hx hb dX6_append_50 rfl (lv_lk hl rfl) ?_
  refine iv_iast hx hb hK hP (dm hD rfl) hS 4 rfl (k) (by omega) (by omega) dX6_append_51 (refW E ρ 0 rc ((k : Int)) pa kd nm st hi ke (up tx k v) wy) (rfl) (fun H locs hP hS => ?_)
  refine lv_aload_n hx hb dX6_append_52 rfl (lv_lk hl rfl) ?_
  refine lv_dup hx hb dX6_append_53 rfl ?_
  refine va_get (D := E.1) (ci := 6) hx hb hts inX6 hown hK.1 hP 0 rfl rfl 6 (by decide) (hts _ fl_X6_134) (fun _ h9 => h9) rfl dX6_append_54 ?_
  refine iv_iconst hx hb dX6_append_57 ?_
  refine iv_iadd hx hb dX6_append_58 ?_
  refine va_put (ci := 6) (ty := .int) hx hb hts inX6 tyX6 tyX6_ok nmX6 hown hK.1 hP (dm hD rfl) hS 0 rfl rfl 6 (by decide) (hts _ fl_X6_134) (fun _ h9 => h9) rfl (by decide +kernel) rfl rfl (Nat.le_of_ble_eq_true rfl) dX6_append_59 (fun H locs hP _ hS => ?_)
  have hP : va_P E.1 vwCl (refW E ρ 0 rc ((k : Int) + 1) pa kd nm st hi ke (up tx k v) wy) H := hP
  refine lv_aload_n hx hb dX6_append_62 rfl (lv_lk hl rfl) ?_
  refine va_get (D := E.1) (ci := 6) hx hb hts inX6 hown hK.1 hP 0 rfl rfl 6 (by decide) (hts _ fl_X6_134) (fun _ h9 => h9) rfl dX6_append_63 ?_
  exact W.iret hx hb hrt (fun t ht hW => ⟨rfl, by rw [ht]; exact hP, hS.F ht⟩) hS.2.2 dX6_append_66 hlocks
set_option maxHeartbeats 4000000 in
set_option maxRecDepth 100000 in
theorem m_X6_append_bad1 (l : Launch) (E : Env3) (ρ : Nat → Nat) (th rc pa kd nm : Int) (st hi ke tx wy : S) (hρ : dR ρ 6) (k : Nat) (hk : k ≤ 60) (v : Int) (hv : -2147483648 ≤ v ∧ v ≤ 2147483647) (h1 : ¬ (33 ≤ v ∧ v ≤ 126)) : Met l yX6_append (Cond.code yX6_append cX6_append 2 (some .int) :: ALL) ({ frames := 1, cells := 0, slots := 0, locals := 22 }) (pR [.ref (ρ 0), .int (I v)] E (refW E ρ th rc ((k : Int)) pa kd nm st hi ke tx wy)) (qW (some (.int (I 0))) E (refW E ρ th rc ((k : Int)) pa kd nm st hi ke tx wy) (refW E ρ 1 rc ((k : Int)) pa kd nm st hi ke tx wy)) 0 0 (adIn (refW E ρ th rc ((k : Int)) pa kd nm st hi ke tx wy)) := by
  refine mk_met (by decide) rfl (Nat.le_of_ble_eq_true rfl) ?_
  intro p e s m args below meth c hx hb hrt hml hts hown hlocks hnm hP hK ls hl
  have hown : s.vm.findClass RX6 = some m.cls := hown
  have hl : lv_has ls 2 [(0, .ref (ρ 0)), (1, .int (I v))] := hl
  have hD : va_D (adIn (refW E ρ th rc ((k : Int)) pa kd nm st hi ke tx wy)) (refW E ρ th rc ((k : Int)) pa kd nm st hi ke tx wy) := D_of_dR hρ rfl
  have hS : va_S (adIn (refW E ρ th rc ((k : Int)) pa kd nm st hi ke tx wy)) s.heap s.heap [] := va_S.rf
  refine lv_aload_n hx hb dX6_append_0 rfl (lv_lk hl rfl) ?_
  refine lv_iload_n hx hb dX6_append_1 rfl (lv_lk hl rfl) ?_
  refine iv_bipush hx hb dX6_append_2 (by decide +kernel) ?_
  refine iv_bipush hx hb dX6_append_4 (by decide +kernel) ?_
  refine call_S (va_runS ⟨hx, hb, hml, hown, hts⟩ (m_X6_within l E v 33 126 (by omega) (by omega) (by omega)) (va_cwS 3 hts (gi_S ml_X6_43 st_X6_within it_X6 cd_X6_within) rfl rfl rfl (by decide +kernel) ⟨Nat.le_of_ble_eq_true rfl, Nat.le_of_ble_eq_true rfl⟩) (pR_S (hP.sub (ws' := []) [] rfl) hK) rfl rfl hl.1 rfl (lv_room (Nat.le_of_ble_eq_true rfl)) dX6_append_6 ⟨Nat.le_of_ble_eq_true rfl, Nat.le_of_ble_eq_true rfl⟩) (fun _ h => h) hS rfl (fun locs hS => ?_)
  refine iv_eq (0) (by rw [if_neg (by omega)]) ?_
  refine iv_if_ne (tgt := 16) hx hb dX6_append_9 (by decide) (by omega) (fun c_9 => by exfalso; omega) (fun c_9 => ?_)
  refine iv_iconst hx hb dX6_append_12 ?_
  refine lv_goto (tgt := 30) hx hb dX6_append_13 (by decide) ?_
  refine va_put (ci := 6) (ty := .int) hx hb hts inX6 tyX6 tyX6_ok nmX6 hown hK.1 hP (dm hD rfl) hS 0 rfl rfl 0 (by decide) (hts _ fl_X6_32) (fun _ h9 => h9) rfl (by decide +kernel) rfl rfl (Nat.le_of_ble_eq_true rfl) dX6_append_30 (fun H locs hP _ hS => ?_)
  have hP : va_P E.1 vwCl (refW E ρ 1 rc ((k : Int)) pa kd nm st hi ke tx wy) H := hP
  refine lv_aload_n hx hb dX6_append_33 rfl (lv_lk hl rfl) ?_
  refine va_get (D := E.1) (ci := 6) hx hb hts inX6 hown hK.1 hP 0 rfl rfl 0 (by decide) (hts _ fl_X6_32) (fun _ h9 => h9) rfl dX6_append_34 ?_
  refine iv_if_le (tgt := 42) hx hb dX6_append_37 (by decide) (by omega) (fun c_37 => by exfalso; omega) (fun c_37 => ?_)
  refine iv_iconst hx hb dX6_append_40 ?_
  exact W.iret hx hb hrt (fun t ht hW => ⟨rfl, by rw [ht]; exact hP, hS.F ht⟩) hS.2.2 dX6_append_41 hlocks
set_option maxHeartbeats 4000000 in
set_option maxRecDepth 100000 in
theorem m_X6_append_bad2 (l : Launch) (E : Env3) (ρ : Nat → Nat) (th rc pa kd nm : Int) (st hi ke tx wy : S) (hρ : dR ρ 6) (k : Nat) (hk : k ≤ 60) (v : Int) (h1 : 33 ≤ v ∧ v ≤ 126) (h2 : k = 60) : Met l yX6_append (Cond.code yX6_append cX6_append 2 (some .int) :: ALL) ({ frames := 1, cells := 0, slots := 0, locals := 22 }) (pR [.ref (ρ 0), .int (I v)] E (refW E ρ th rc ((k : Int)) pa kd nm st hi ke tx wy)) (qW (some (.int (I 0))) E (refW E ρ th rc ((k : Int)) pa kd nm st hi ke tx wy) (refW E ρ 2 rc ((k : Int)) pa kd nm st hi ke tx wy)) 0 0 (adIn (refW E ρ th rc ((k : Int)) pa kd nm st hi ke tx wy)) := by
  refine mk_met (by decide) rfl (Nat.le_of_ble_eq_true rfl) ?_
  intro p e s m args below meth c hx hb hrt hml hts hown hlocks hnm hP hK ls hl
  have hown : s.vm.findClass RX6 = some m.cls := hown
  have hl : lv_has ls 2 [(0, .ref (ρ 0)), (1, .int (I v))] := hl
  have hD : va_D (adIn (refW E ρ th rc ((k : Int)) pa kd nm st hi ke tx wy)) (refW E ρ th rc ((k : Int)) pa kd nm st hi ke tx wy) := D_of_dR hρ rfl
  have hS : va_S (adIn (refW E ρ th rc ((k : Int)) pa kd nm st hi ke tx wy)) s.heap s.heap [] := va_S.rf
  refine lv_aload_n hx hb dX6_append_0 rfl (lv_lk hl rfl) ?_
  refine lv_iload_n hx hb dX6_append_1 rfl (lv_lk hl rfl) ?_
  refine iv_bipush hx hb dX6_append_2 (by decide +kernel) ?_
  refine iv_bipush hx hb dX6_append_4 (by decide +kernel) ?_
  refine call_S (va_runS ⟨hx, hb, hml, hown, hts⟩ (m_X6_within l E v 33 126 (by omega) (by omega) (by omega)) (va_cwS 3 hts (gi_S ml_X6_43 st_X6_within it_X6 cd_X6_within) rfl rfl rfl (by decide +kernel) ⟨Nat.le_of_ble_eq_true rfl, Nat.le_of_ble_eq_true rfl⟩) (pR_S (hP.sub (ws' := []) [] rfl) hK) rfl rfl hl.1 rfl (lv_room (Nat.le_of_ble_eq_true rfl)) dX6_append_6 ⟨Nat.le_of_ble_eq_true rfl, Nat.le_of_ble_eq_true rfl⟩) (fun _ h => h) hS rfl (fun locs hS => ?_)
  refine iv_eq (1) (by rw [if_pos (by omega)]) ?_
  refine iv_if_ne (tgt := 16) hx hb dX6_append_9 (by decide) (by omega) (fun c_9 => ?_) (fun c_9 => by exfalso; omega)
  refine lv_aload_n hx hb dX6_append_16 rfl (lv_lk hl rfl) ?_
  refine va_get (D := E.1) (ci := 6) hx hb hts inX6 hown hK.1 hP 0 rfl rfl 6 (by decide) (hts _ fl_X6_134) (fun _ h9 => h9) rfl dX6_append_17 ?_
  refine iv_bipush hx hb dX6_append_20 (by decide +kernel) ?_
  refine iv_icmp_ne (tgt := 29) hx hb dX6_append_22 (by decide) (by omega) (by omega) (fun c_22 => by exfalso; omega) (fun c_22 => ?_)
  refine iv_iconst hx hb dX6_append_25 ?_
  refine lv_goto (tgt := 30) hx hb dX6_append_26 (by decide) ?_
  refine va_put (ci := 6) (ty := .int) hx hb hts inX6 tyX6 tyX6_ok nmX6 hown hK.1 hP (dm hD rfl) hS 0 rfl rfl 0 (by decide) (hts _ fl_X6_32) (fun _ h9 => h9) rfl (by decide +kernel) rfl rfl (Nat.le_of_ble_eq_true rfl) dX6_append_30 (fun H locs hP _ hS => ?_)
  have hP : va_P E.1 vwCl (refW E ρ 2 rc ((k : Int)) pa kd nm st hi ke tx wy) H := hP
  refine lv_aload_n hx hb dX6_append_33 rfl (lv_lk hl rfl) ?_
  refine va_get (D := E.1) (ci := 6) hx hb hts inX6 hown hK.1 hP 0 rfl rfl 0 (by decide) (hts _ fl_X6_32) (fun _ h9 => h9) rfl dX6_append_34 ?_
  refine iv_if_le (tgt := 42) hx hb dX6_append_37 (by decide) (by omega) (fun c_37 => by exfalso; omega) (fun c_37 => ?_)
  refine iv_iconst hx hb dX6_append_40 ?_
  exact W.iret hx hb hrt (fun t ht hW => ⟨rfl, by rw [ht]; exact hP, hS.F ht⟩) hS.2.2 dX6_append_41 hlocks
set_option maxHeartbeats 4000000 in
set_option maxRecDepth 100000 in
theorem m_X6_clearText (l : Launch) (E : Env3) (ρ : Nat → Nat) (th rc tl pa kd nm : Int) (st hi ke tx wy : S) (hρ : dR ρ 6) : Met l yX6_clearText (Cond.code yX6_clearText cX6_clearText 2 (some .int) :: ALL) ({ frames := 0, cells := 0, slots := 0, locals := 0 }) (pR [.ref (ρ 0)] E (refW E ρ th rc tl pa kd nm st hi ke tx wy)) (qW (some (.int (I tl))) E (refW E ρ th rc tl pa kd nm st hi ke tx wy) (refW E ρ 0 rc 0 pa kd nm st hi ke tx wy)) 0 0 (adIn (refW E ρ th rc tl pa kd nm st hi ke tx wy)) := by
  refine mk_met (by decide) rfl (Nat.le_of_ble_eq_true rfl) ?_
  intro p e s m args below meth c hx hb hrt hml hts hown hlocks hnm hP hK ls hl
  have hown : s.vm.findClass RX6 = some m.cls := hown
  have hl : lv_has ls 2 [(0, .ref (ρ 0))] := hl
  have hD : va_D (adIn (refW E ρ th rc tl pa kd nm st hi ke tx wy)) (refW E ρ th rc tl pa kd nm st hi ke tx wy) := D_of_dR hρ rfl
  have hS : va_S (adIn (refW E ρ th rc tl pa kd nm st hi ke tx wy)) s.heap s.heap [] := va_S.rf
  refine lv_aload_n hx hb dX6_clearText_0 rfl (lv_lk hl rfl) ?_
  refine iv_iconst hx hb dX6_clearText_1 ?_
  refine va_put (ci := 6) (ty := .int) hx hb hts inX6 tyX6 tyX6_ok nmX6 hown hK.1 hP (dm hD rfl) hS 0 rfl rfl 0 (by decide) (hts _ fl_X6_32) (fun _ h9 => h9) rfl (by decide +kernel) rfl rfl (Nat.le_of_ble_eq_true rfl) dX6_clearText_2 (fun H locs hP _ hS => ?_)
  have hP : va_P E.1 vwCl (refW E ρ 0 rc tl pa kd nm st hi ke tx wy) H := hP
  refine lv_aload_n hx hb dX6_clearText_5 rfl (lv_lk hl rfl) ?_
  refine va_get (D := E.1) (ci := 6) hx hb hts inX6 hown hK.1 hP 0 rfl rfl 6 (by decide) (hts _ fl_X6_134) (fun _ h9 => h9) rfl dX6_clearText_6 ?_
  refine lv_istore_n (lv' := [(1, .int (I _)), (0, .ref _)]) hx hb dX6_clearText_9 rfl hl (by decide) rfl (fun ls hl => ?_)
  refine lv_aload_n hx hb dX6_clearText_10 rfl (lv_lk hl rfl) ?_
  refine iv_iconst hx hb dX6_clearText_11 ?_
  refine va_put (ci := 6) (ty := .int) hx hb hts inX6 tyX6 tyX6_ok nmX6 hown hK.1 hP (dm hD rfl) hS 0 rfl rfl 6 (by decide) (hts _ fl_X6_134) (fun _ h9 => h9) rfl (by decide +kernel) rfl rfl (Nat.le_of_ble_eq_true rfl) dX6_clearText_12 (fun H locs hP _ hS => ?_)
  have hP : va_P E.1 vwCl (refW E ρ 0 rc 0 pa kd nm st hi ke tx wy) H := hP
  refine lv_iload_n hx hb dX6_clearText_15 rfl (lv_lk hl rfl) ?_
  exact W.iret hx hb hrt (fun t ht hW => ⟨rfl, by rw [ht]; exact hP, hS.F ht⟩) hS.2.2 dX6_clearText_16 hlocks
set_option maxHeartbeats 4000000 in
set_option maxRecDepth 100000 in
theorem m_X6_undo_ok (l : Launch) (E : Env3) (ρ : Nat → Nat) (th tl pa kd nm : Int) (st hi ke tx wy : S) (hρ : dR ρ 6) (n : Nat) (hn : n ≤ 5) : Met l yX6_undo (Cond.code yX6_undo cX6_undo 1 (some .int) :: ALL) ({ frames := 1, cells := 0, slots := 0, locals := 24 }) (pR [.ref (ρ 0)] E (refW E ρ th (((n : Int) + 1)) tl pa kd nm st hi ke tx wy)) (qW (some (.int (I (n : Int)))) E (refW E ρ th (((n : Int) + 1)) tl pa kd nm st hi ke tx wy) (refW E ρ 0 ((n : Int)) tl pa kd nm (fun j => hi (252 * n + j)) hi ke tx wy)) 0 0 (adIn (refW E ρ th (((n : Int) + 1)) tl pa kd nm st hi ke tx wy)) := by
  refine mk_met (by decide) rfl (Nat.le_of_ble_eq_true rfl) ?_
  intro p e s m args below meth c hx hb hrt hml hts hown hlocks hnm hP hK ls hl
  have hown : s.vm.findClass RX6 = some m.cls := hown
  have hl : lv_has ls 1 [(0, .ref (ρ 0))] := hl
  have hD : va_D (adIn (refW E ρ th (((n : Int) + 1)) tl pa kd nm st hi ke tx wy)) (refW E ρ th (((n : Int) + 1)) tl pa kd nm st hi ke tx wy) := D_of_dR hρ rfl
  have hS : va_S (adIn (refW E ρ th (((n : Int) + 1)) tl pa kd nm st hi ke tx wy)) s.heap s.heap [] := va_S.rf
  refine lv_aload_n hx hb dX6_undo_0 rfl (lv_lk hl rfl) ?_
  refine lv_aload_n hx hb dX6_undo_1 rfl (lv_lk hl rfl) ?_
  refine va_get (D := E.1) (ci := 6) hx hb hts inX6 hown hK.1 hP 0 rfl rfl 3 (by decide) (hts _ fl_X6_36) (fun _ h9 => h9) rfl dX6_undo_2 ?_
  refine iv_if_ne (tgt := 12) hx hb dX6_undo_5 (by decide) (by omega) (fun c_5 => ?_) (fun c_5 => by exfalso; omega)
  refine iv_iconst hx hb dX6_undo_12 ?_
  refine va_put (ci := 6) (ty := .int) hx hb hts inX6 tyX6 tyX6_ok nmX6 hown hK.1 hP (dm hD rfl) hS 0 rfl rfl 0 (by decide) (hts _ fl_X6_32) (fun _ h9 => h9) rfl (by decide +kernel) rfl rfl (Nat.le_of_ble_eq_true rfl) dX6_undo_13 (fun H locs hP _ hS => ?_)
  have hP : va_P E.1 vwCl (refW E ρ 0 (((n : Int) + 1)) tl pa kd nm st hi ke tx wy) H := hP
  refine lv_aload_n hx hb dX6_undo_16 rfl (lv_lk hl rfl) ?_
  refine va_get (D := E.1) (ci := 6) hx hb hts inX6 hown hK.1 hP 0 rfl rfl 0 (by decide) (hts _ fl_X6_32) (fun _ h9 => h9) rfl dX6_undo_17 ?_
  refine iv_if_le (tgt := 25) hx hb dX6_undo_20 (by decide) (by omega) (fun c_20 => ?_) (fun c_20 => by exfalso; omega)
  refine lv_aload_n hx hb dX6_undo_25 rfl (lv_lk hl rfl) ?_
  refine lv_dup hx hb dX6_undo_26 rfl ?_
  refine va_get (D := E.1) (ci := 6) hx hb hts inX6 hown hK.1 hP 0 rfl rfl 3 (by decide) (hts _ fl_X6_36) (fun _ h9 => h9) rfl dX6_undo_27 ?_
  refine iv_iconst hx hb dX6_undo_30 ?_
  refine iv_isub hx hb dX6_undo_31 ?_
  refine iv_eq ((n : Int)) (by omega) ?_
  refine va_put (ci := 6) (ty := .int) hx hb hts inX6 tyX6 tyX6_ok nmX6 hown hK.1 hP (dm hD rfl) hS 0 rfl rfl 3 (by decide) (hts _ fl_X6_36) (fun _ h9 => h9) rfl (by decide +kernel) rfl rfl (Nat.le_of_ble_eq_true rfl) dX6_undo_32 (fun H locs hP _ hS => ?_)
  have hP : va_P E.1 vwCl (refW E ρ 0 ((n : Int)) tl pa kd nm st hi ke tx wy) H := hP
  refine lv_aload_n hx hb dX6_undo_35 rfl (lv_lk hl rfl) ?_
  refine va_get (D := E.1) (ci := 6) hx hb hts inX6 hown hK.1 hP 0 rfl rfl 2 (by decide) (hts _ fl_X6_13) (fun _ h9 => h9) rfl dX6_undo_36 ?_
  refine lv_aload_n hx hb dX6_undo_39 rfl (lv_lk hl rfl) ?_
  refine va_get (D := E.1) (ci := 6) hx hb hts inX6 hown hK.1 hP 0 rfl rfl 3 (by decide) (hts _ fl_X6_36) (fun _ h9 => h9) rfl dX6_undo_40 ?_
  refine iv_sipush hx hb dX6_undo_43 (by decide +kernel) ?_
  refine iv_imul hx hb dX6_undo_46 ?_
  refine iv_eq (((252 * n : Nat) : Int)) (by omega) ?_
  refine lv_aload_n hx hb dX6_undo_47 rfl (lv_lk hl rfl) ?_
  refine va_get (D := E.1) (ci := 6) hx hb hts inX6 hown hK.1 hP 0 rfl rfl 1 (by decide) (hts _ fl_X6_7) (fun _ h9 => h9) rfl dX6_undo_48 ?_
  refine iv_iconst hx hb dX6_undo_51 ?_
  refine call_W (va_runS ⟨hx, hb, hml, hown, hts⟩ (m_X6_lays l E (ρ 2) (ρ 1) 1512 252 (252 * n) 0 hi st (fun h => absurd (hρ 2 1 (by decide) (by decide) h) (by decide)) (by omega) (by omega)) (va_cwS 4 hts (gi_S ml_X6_39 st_X6_lays it_X6 cd_X6_lays) rfl rfl rfl (by decide +kernel) ⟨Nat.le_of_ble_eq_true rfl, Nat.le_of_ble_eq_true rfl⟩) (pR_S (hP.sub (ws' := [(ρ 2, iA E 1512 hi), (ρ 1, iA E 252 st)]) [2, 1] rfl) hK) rfl rfl hl.1 rfl (lv_room (Nat.le_of_ble_eq_true rfl)) dX6_undo_52 ⟨Nat.le_of_ble_eq_true rfl, Nat.le_of_ble_eq_true rfl⟩) hP (dm hD rfl) hS [2, 1] rfl (by decide) rfl (refW E ρ 0 ((n : Int)) tl pa kd nm (layN hi (252 * n) st 0 252) hi ke tx wy) (rfl) rfl (fun H locs hP hS => ?_)
  have hP : va_P E.1 vwCl (refW E ρ 0 ((n : Int)) tl pa kd nm (fun j => hi (252 * n + j)) hi ke tx wy) H := ref_st (fun j hj => undo_st hj) hP
  refine lv_aload_n hx hb dX6_undo_55 rfl (lv_lk hl rfl) ?_
  refine va_get (D := E.1) (ci := 6) hx hb hts inX6 hown hK.1 hP 0 rfl rfl 3 (by decide) (hts _ fl_X6_36) (fun _ h9 => h9) rfl dX6_undo_56 ?_
  exact W.iret hx hb hrt (fun t ht hW => ⟨rfl, by rw [ht]; exact hP, hS.F ht⟩) hS.2.2 dX6_undo_59 hlocks
set_option maxHeartbeats 4000000 in
set_option maxRecDepth 100000 in
theorem m_X6_undo_bad (l : Launch) (E : Env3) (ρ : Nat → Nat) (th tl pa kd nm : Int) (st hi ke tx wy : S) (hρ : dR ρ 6) : Met l yX6_undo (Cond.code yX6_undo cX6_undo 1 (some .int) :: ALL) ({ frames := 1, cells := 0, slots := 0, locals := 24 }) (pR [.ref (ρ 0)] E (refW E ρ th 0 tl pa kd nm st hi ke tx wy)) (qW (some (.int (I 0))) E (refW E ρ th 0 tl pa kd nm st hi ke tx wy) (refW E ρ 1 0 tl pa kd nm st hi ke tx wy)) 0 0 (adIn (refW E ρ th 0 tl pa kd nm st hi ke tx wy)) := by
  refine mk_met (by decide) rfl (Nat.le_of_ble_eq_true rfl) ?_
  intro p e s m args below meth c hx hb hrt hml hts hown hlocks hnm hP hK ls hl
  have hown : s.vm.findClass RX6 = some m.cls := hown
  have hl : lv_has ls 1 [(0, .ref (ρ 0))] := hl
  have hD : va_D (adIn (refW E ρ th 0 tl pa kd nm st hi ke tx wy)) (refW E ρ th 0 tl pa kd nm st hi ke tx wy) := D_of_dR hρ rfl
  have hS : va_S (adIn (refW E ρ th 0 tl pa kd nm st hi ke tx wy)) s.heap s.heap [] := va_S.rf
  refine lv_aload_n hx hb dX6_undo_0 rfl (lv_lk hl rfl) ?_
  refine lv_aload_n hx hb dX6_undo_1 rfl (lv_lk hl rfl) ?_
  refine va_get (D := E.1) (ci := 6) hx hb hts inX6 hown hK.1 hP 0 rfl rfl 3 (by decide) (hts _ fl_X6_36) (fun _ h9 => h9) rfl dX6_undo_2 ?_
  refine iv_if_ne (tgt := 12) hx hb dX6_undo_5 (by decide) (by omega) (fun c_5 => by exfalso; omega) (fun c_5 => ?_)
  refine iv_iconst hx hb dX6_undo_8 ?_
  refine lv_goto (tgt := 13) hx hb dX6_undo_9 (by decide) ?_
  refine va_put (ci := 6) (ty := .int) hx hb hts inX6 tyX6 tyX6_ok nmX6 hown hK.1 hP (dm hD rfl) hS 0 rfl rfl 0 (by decide) (hts _ fl_X6_32) (fun _ h9 => h9) rfl (by decide +kernel) rfl rfl (Nat.le_of_ble_eq_true rfl) dX6_undo_13 (fun H locs hP _ hS => ?_)
  have hP : va_P E.1 vwCl (refW E ρ 1 0 tl pa kd nm st hi ke tx wy) H := hP
  refine lv_aload_n hx hb dX6_undo_16 rfl (lv_lk hl rfl) ?_
  refine va_get (D := E.1) (ci := 6) hx hb hts inX6 hown hK.1 hP 0 rfl rfl 0 (by decide) (hts _ fl_X6_32) (fun _ h9 => h9) rfl dX6_undo_17 ?_
  refine iv_if_le (tgt := 25) hx hb dX6_undo_20 (by decide) (by omega) (fun c_20 => by exfalso; omega) (fun c_20 => ?_)
  refine iv_iconst hx hb dX6_undo_23 ?_
  exact W.iret hx hb hrt (fun t ht hW => ⟨rfl, by rw [ht]; exact hP, hS.F ht⟩) hS.2.2 dX6_undo_24 hlocks
end
section
/-! the text, as both read it -/
def wdg (sg nm c : Int) : Int := if c < 48 ∨ 57 < c ∨ nm = 0 then -1 else if (if sg = 63 then 0 else 1) ≤ (if nm = -1 then 0 else 10 * nm) + c - 48 ∧ (if nm = -1 then 0 else 10 * nm) + c - 48 ≤ (if sg = 63 then 35 else 99) then (if nm = -1 then 0 else 10 * nm) + c - 48 else -1
def pmF : Nat → S → Nat → Int → Int → Int
  | 0, _, k, _, nm => if nm = -1 then k else -1
  | n + 1, tx, k, sg, nm => if sg = -1 then (if tx k ≠ 63 ∧ tx k ≠ 43 then k else pmF n tx (k + 1) (tx k) (-1))
      else if tx k = 44 ∧ nm ≠ -1 then pmF n tx (k + 1) (-1) (-1) else if wdg sg nm (tx k) = -1 then k else pmF n tx (k + 1) sg (wdg sg nm (tx k))
def acF : Nat → S → Nat → Int → Int → List (Int × Int)
  | 0, _, _, sg, nm => if nm = -1 then [] else [(sg, nm)]
  | n + 1, tx, k, sg, nm => if sg = -1 then acF n tx (k + 1) (tx k) (-1)
      else if tx k = 44 ∧ nm ≠ -1 then (sg, nm) :: acF n tx (k + 1) (-1) (-1) else acF n tx (k + 1) sg (wdg sg nm (tx k))
def runN : Nat → S → Nat → Int → Int → Nat × Int
  | 0, _, k, v, _ => (k, v)
  | n + 1, tx, k, v, hi => if 0 < v ∧ 48 ≤ tx k ∧ tx k ≤ 57 ∧ 10 * v + tx k - 48 ≤ hi then runN n tx (k + 1) (10 * v + tx k - 48) hi else (k, v)
theorem run_s {n : Nat} {tx : S} {k : Nat} {v hi : Int} (h : 0 < v ∧ 48 ≤ tx k ∧ tx k ≤ 57 ∧ 10 * v + tx k - 48 ≤ hi) : runN (n + 1) tx k v hi = runN n tx (k + 1) (10 * v + tx k - 48) hi := by rw [runN, if_pos h]
theorem run_e {n : Nat} {tx : S} {k : Nat} {v hi : Int} (h : ¬ (0 < v ∧ 48 ≤ tx k ∧ tx k ≤ 57 ∧ 10 * v + tx k - 48 ≤ hi)) : runN (n + 1) tx k v hi = (k, v) := by rw [runN, if_neg h]
theorem run_le : ∀ (n : Nat) (tx : S) (k : Nat) (v hi : Int), k ≤ (runN n tx k v hi).1 ∧ (runN n tx k v hi).1 ≤ k + n
  | 0, _, _, _, _ => ⟨Nat.le_refl _, Nat.le_refl _⟩
  | n + 1, tx, k, v, hi => by
    by_cases h : 0 < v ∧ 48 ≤ tx k ∧ tx k ≤ 57 ∧ 10 * v + tx k - 48 ≤ hi
    · rw [run_s h]
      have := run_le n tx (k + 1) (10 * v + tx k - 48) hi
      omega
    · rw [run_e h]; exact ⟨Nat.le_refl _, Nat.le_add_right _ _⟩
theorem run_v : ∀ (n : Nat) (tx : S) (k : Nat) (v hi lo : Int), lo ≤ 1 → lo ≤ v → v ≤ hi → lo ≤ (runN n tx k v hi).2 ∧ (runN n tx k v hi).2 ≤ hi
  | 0, _, _, _, _, _, _, h1, h2 => ⟨h1, h2⟩
  | n + 1, tx, k, v, hi, lo, h0, h1, h2 => by
    by_cases h : 0 < v ∧ 48 ≤ tx k ∧ tx k ≤ 57 ∧ 10 * v + tx k - 48 ≤ hi
    · rw [run_s h]
      exact run_v n tx (k + 1) (10 * v + tx k - 48) hi lo h0 (by omega) (by omega)
    · rw [run_e h]; exact ⟨h1, h2⟩
abbrev sgOk (sg lo hi : Int) : Prop := (sg = 43 ∧ lo = 1 ∧ hi = 99) ∨ (sg = 63 ∧ lo = 0 ∧ hi = 35)
theorem sg_lo {sg lo hi : Int} (hs : sgOk sg lo hi) : (if sg = 63 then (0 : Int) else 1) = lo := by rcases hs with ⟨rfl, rfl, rfl⟩ | ⟨rfl, rfl, rfl⟩ <;> rfl
theorem sg_hi {sg lo hi : Int} (hs : sgOk sg lo hi) : (if sg = 63 then (35 : Int) else 99) = hi := by rcases hs with ⟨rfl, rfl, rfl⟩ | ⟨rfl, rfl, rfl⟩ <;> rfl
theorem wdg_more {sg lo hi v c : Int} (hs : sgOk sg lo hi) (hv : 0 ≤ v) (h : 0 < v ∧ 48 ≤ c ∧ c ≤ 57 ∧ 10 * v + c - 48 ≤ hi) : wdg sg v c = 10 * v + c - 48 := by
  unfold wdg
  rw [if_neg (by omega), if_neg (by omega : ¬ v = -1), sg_lo hs, sg_hi hs, if_pos (by rcases hs with h | h <;> omega)]
theorem wdg_none {sg lo hi v c : Int} (hs : sgOk sg lo hi) (hv : 0 ≤ v) (h : ¬ (0 < v ∧ 48 ≤ c ∧ c ≤ 57 ∧ 10 * v + c - 48 ≤ hi)) : wdg sg v c = -1 := by
  unfold wdg
  by_cases h1 : c < 48 ∨ 57 < c ∨ v = 0
  · rw [if_pos h1]
  · rw [if_neg h1, if_neg (by omega : ¬ v = -1), sg_lo hs, sg_hi hs, if_neg (by rcases hs with h | h <;> omega)]
theorem wdg_first {sg lo hi c : Int} (hs : sgOk sg lo hi) (h : 48 + lo ≤ c ∧ c ≤ 57) : wdg sg (-1) c = c - 48 := by
  unfold wdg
  rw [if_neg (by rcases hs with h | h <;> omega), if_pos rfl, sg_lo hs, sg_hi hs, if_pos (by rcases hs with h | h <;> omega)]
  omega
theorem wdg_fnone {sg lo hi c : Int} (hs : sgOk sg lo hi) (h : ¬ (48 + lo ≤ c ∧ c ≤ 57)) : wdg sg (-1) c = -1 := by
  unfold wdg
  by_cases h1 : c < 48 ∨ 57 < c ∨ (-1 : Int) = 0
  · rw [if_pos h1]
  · rw [if_neg h1, if_pos rfl, sg_lo hs, sg_hi hs, if_neg (by rcases hs with h | h <;> omega)]
theorem pm_run {sg lo hi : Int} (hs : sgOk sg lo hi) {tx : S} : ∀ (n k : Nat) (v : Int), 0 ≤ v → v ≤ hi →
    pmF n tx k sg v = (if (runN n tx k v hi).1 = k + n then -1 else if tx (runN n tx k v hi).1 = 44 then pmF (k + n - ((runN n tx k v hi).1 + 1)) tx ((runN n tx k v hi).1 + 1) (-1) (-1) else ((runN n tx k v hi).1 : Int))
  | 0, k, v, h1, h2 => by
    show (if v = -1 then (k : Int) else -1) = _
    rw [if_neg (by omega)]
    exact (if_pos rfl).symm
  | n + 1, k, v, h1, h2 => by
    rw [pmF, if_neg (by rcases hs with h | h <;> omega)]
    by_cases hc : tx k = 44
    · rw [if_pos ⟨hc, by omega⟩, run_e (by omega)]
      rw [if_neg (by dsimp only; omega)]
      dsimp only
      rw [if_pos hc, show k + (n + 1) - (k + 1) = n by omega]
    · rw [if_neg (by omega)]
      by_cases hr : 0 < v ∧ 48 ≤ tx k ∧ tx k ≤ 57 ∧ 10 * v + tx k - 48 ≤ hi
      · rw [wdg_more hs h1 hr, if_neg (by omega), run_s hr, pm_run hs n (k + 1) _ (by omega) (by omega), show k + 1 + n = k + (n + 1) by omega]
      · rw [wdg_none hs h1 hr, if_pos rfl, run_e hr]
        rw [if_neg (by dsimp only; omega)]
        dsimp only
        rw [if_neg hc]
theorem ac_run {sg lo hi : Int} (hs : sgOk sg lo hi) {tx : S} : ∀ (n k : Nat) (v : Int), 0 ≤ v → v ≤ hi → pmF n tx k sg v = -1 →
    acF n tx k sg v = (sg, (runN n tx k v hi).2) :: (if (runN n tx k v hi).1 = k + n then [] else acF (k + n - ((runN n tx k v hi).1 + 1)) tx ((runN n tx k v hi).1 + 1) (-1) (-1))
  | 0, k, v, h1, h2, _ => by
    show (if v = -1 then [] else [(sg, v)]) = _
    rw [if_neg (by omega)]
    rw [show runN 0 tx k v hi = (k, v) from rfl, if_pos (by rfl)]
  | n + 1, k, v, h1, h2, hp => by
    rw [pmF, if_neg (by rcases hs with h | h <;> omega)] at hp
    rw [acF, if_neg (by rcases hs with h | h <;> omega)]
    by_cases hc : tx k = 44
    · rw [if_pos ⟨hc, by omega⟩, run_e (by omega)]
      rw [if_neg (by dsimp only; omega)]
      dsimp only
      rw [show k + (n + 1) - (k + 1) = n by omega]
    · rw [if_neg (by omega)] at hp ⊢
      by_cases hr : 0 < v ∧ 48 ≤ tx k ∧ tx k ≤ 57 ∧ 10 * v + tx k - 48 ≤ hi
      · rw [wdg_more hs h1 hr, if_neg (by omega)] at hp
        rw [wdg_more hs h1 hr, run_s hr, ac_run hs n (k + 1) _ (by omega) (by omega) hp, show k + 1 + n = k + (n + 1) by omega]
      · rw [wdg_none hs h1 hr, if_pos rfl] at hp
        omega
/-- an act, read from its sign on -/
theorem pm_act {N i : Nat} {tx : S} {sg lo hi : Int} (hs : sgOk sg lo hi) (h1 : i + 1 < N) (h2 : tx i = sg) (h3 : 48 + lo ≤ tx (i + 1) ∧ tx (i + 1) ≤ 57) :
    pmF (N - i) tx i (-1) (-1) = (if (runN (N - (i + 2)) tx (i + 2) (tx (i + 1) - 48) hi).1 = N then -1 else if tx (runN (N - (i + 2)) tx (i + 2) (tx (i + 1) - 48) hi).1 = 44 then pmF (N - ((runN (N - (i + 2)) tx (i + 2) (tx (i + 1) - 48) hi).1 + 1)) tx ((runN (N - (i + 2)) tx (i + 2) (tx (i + 1) - 48) hi).1 + 1) (-1) (-1) else ((runN (N - (i + 2)) tx (i + 2) (tx (i + 1) - 48) hi).1 : Int)) := by
  rw [show N - i = N - (i + 2) + 1 + 1 by omega, pmF, if_pos rfl, if_neg (by rcases hs with h | h <;> omega), pmF, if_neg (by rcases hs with h | h <;> omega), if_neg (by omega), h2, wdg_first hs h3, if_neg (by rcases hs with h | h <;> omega), pm_run hs _ _ _ (by rcases hs with h | h <;> omega) (by rcases hs with h | h <;> omega), show i + 1 + 1 + (N - (i + 2)) = N by omega]
theorem pm_bad0 {N i : Nat} {tx : S} (hi : i ≤ N) (h : i < N → tx i ≠ 63 ∧ tx i ≠ 43) : pmF (N - i) tx i (-1) (-1) = i := by
  by_cases h1 : i < N
  · rw [show N - i = N - (i + 1) + 1 by omega, pmF, if_pos rfl, if_pos (h h1)]
  · rw [show N - i = 0 by omega, pmF, if_pos rfl]
theorem pm_bad1 {N i : Nat} {tx : S} {sg lo hi : Int} (hs : sgOk sg lo hi) (h1 : i < N) (h2 : tx i = sg) (h3 : ¬ (i + 1 < N ∧ 48 + lo ≤ tx (i + 1) ∧ tx (i + 1) ≤ 57)) : pmF (N - i) tx i (-1) (-1) = (i : Int) + 1 := by
  rw [show N - i = N - (i + 1) + 1 by omega, pmF, if_pos rfl, if_neg (by rcases hs with h | h <;> omega)]
  by_cases h4 : i + 1 < N
  · rw [show N - (i + 1) = N - (i + 2) + 1 by omega, pmF, if_neg (by rcases hs with h | h <;> omega), if_neg (by omega), h2, wdg_fnone hs (by omega), if_pos rfl]; omega
  · rw [show N - (i + 1) = 0 by omega, pmF, if_pos rfl]; omega
theorem ac_act {N i : Nat} {tx : S} {sg lo hi : Int} (hs : sgOk sg lo hi) (h1 : i + 1 < N) (h2 : tx i = sg) (h3 : 48 + lo ≤ tx (i + 1) ∧ tx (i + 1) ≤ 57) (hp : pmF (N - i) tx i (-1) (-1) = -1) :
    acF (N - i) tx i (-1) (-1) = (sg, (runN (N - (i + 2)) tx (i + 2) (tx (i + 1) - 48) hi).2) :: (if (runN (N - (i + 2)) tx (i + 2) (tx (i + 1) - 48) hi).1 = N then [] else acF (N - ((runN (N - (i + 2)) tx (i + 2) (tx (i + 1) - 48) hi).1 + 1)) tx ((runN (N - (i + 2)) tx (i + 2) (tx (i + 1) - 48) hi).1 + 1) (-1) (-1)) := by
  rw [show N - i = N - (i + 2) + 1 + 1 by omega, pmF, if_pos rfl, if_neg (by rcases hs with h | h <;> omega), pmF, if_neg (by rcases hs with h | h <;> omega), if_neg (by omega), h2, wdg_first hs h3, if_neg (by rcases hs with h | h <;> omega)] at hp
  rw [show N - i = N - (i + 2) + 1 + 1 by omega, acF, if_pos rfl, acF, if_neg (by rcases hs with h | h <;> omega), if_neg (by omega), h2, wdg_first hs h3, ac_run hs _ _ _ (by rcases hs with h | h <;> omega) (by rcases hs with h | h <;> omega) hp, show i + 1 + 1 + (N - (i + 2)) = N by omega]
def txB (N : Nat) (tx : S) : Prop := N ≤ 60 ∧ ∀ j, j < N → 33 ≤ tx j ∧ tx j ≤ 126
theorem act_at {N i : Nat} {tx : S} (h1 : i < N) (hp : pmF (N - i) tx i (-1) (-1) = -1) : ∃ (sg lo hi : Int) (R : Nat × Int) (L' : List (Int × Int)), sgOk sg lo hi ∧ tx i = sg ∧ i + 1 < N ∧ 48 + lo ≤ tx (i + 1) ∧ tx (i + 1) ≤ 57 ∧ R = runN (N - (i + 2)) tx (i + 2) (tx (i + 1) - 48) hi ∧ i + 2 ≤ R.1 ∧ R.1 ≤ N ∧ lo ≤ R.2 ∧ R.2 ≤ hi ∧
    acF (N - i) tx i (-1) (-1) = (sg, R.2) :: L' ∧ ((L' = [] ∧ N ≤ R.1 + 1 ∧ R.1 + 1 ≤ N + 1) ∨ (R.1 + 1 < N ∧ pmF (N - (R.1 + 1)) tx (R.1 + 1) (-1) (-1) = -1 ∧ acF (N - (R.1 + 1)) tx (R.1 + 1) (-1) (-1) = L')) := by
  have hs : ∃ lo hi, sgOk (tx i) lo hi := by
    by_cases a : tx i = 43
    · exact ⟨1, 99, Or.inl ⟨a, rfl, rfl⟩⟩
    · by_cases b : tx i = 63
      · exact ⟨0, 35, Or.inr ⟨b, rfl, rfl⟩⟩
      · rw [pm_bad0 (by omega) (fun _ => ⟨b, a⟩)] at hp; omega
  obtain ⟨lo, hi, hs⟩ := hs
  have h3 : i + 1 < N ∧ 48 + lo ≤ tx (i + 1) ∧ tx (i + 1) ≤ 57 := by
    refine Classical.byContradiction fun q => ?_
    rw [pm_bad1 hs h1 rfl q] at hp; omega
  have hv : lo ≤ 1 ∧ lo ≤ tx (i + 1) - 48 ∧ tx (i + 1) - 48 ≤ hi := by rcases hs with h | h <;> omega
  have hl := run_le (N - (i + 2)) tx (i + 2) (tx (i + 1) - 48) hi
  have hr := run_v (N - (i + 2)) tx (i + 2) (tx (i + 1) - 48) hi lo hv.1 hv.2.1 hv.2.2
  have ha := ac_act hs h3.1 rfl h3.2 hp
  have hq := pm_act hs h3.1 rfl h3.2
  rw [hp] at hq
  refine ⟨tx i, lo, hi, _, _, hs, rfl, h3.1, h3.2.1, h3.2.2, rfl, hl.1, by omega, hr.1, hr.2, ha, ?_⟩
  generalize runN (N - (i + 2)) tx (i + 2) (tx (i + 1) - 48) hi = R at hl hq ⊢
  by_cases e : R.1 = N
  · rw [if_pos e]; exact Or.inl ⟨rfl, by omega, by omega⟩
  · rw [if_neg e] at hq ⊢
    by_cases c : tx R.1 = 44
    · rw [if_pos c] at hq
      by_cases d : R.1 + 1 < N
      · exact Or.inr ⟨d, hq.symm, rfl⟩
      · rw [show N - (R.1 + 1) = 0 by omega, pmF, if_pos rfl] at hq; omega
    · rw [if_neg c] at hq; omega
def actSt (st : S) (a : Int × Int) : S := if a.1 = 63 then (solve1 st a.2.toNat).1 else passes st a.2
def runA : List (Int × Int) → S → S × Int
  | [], st => (st, 0)
  | a :: L, st => if a.1 = 63 ∨ st 0 + a.2 ≤ 9999 then ((runA L (actSt st a)).1, 1 + (runA L (actSt st a)).2) else (st, 0)
theorem IB_passes2 {T : Int} {st : S} (h : IB T st) (t : Int) (ht : 0 ≤ t) (U : Int) (hU : st 0 + t ≤ U ∧ T ≤ U ∧ U ≤ 100000) : IB U (passes st t) := by
  have h0 := h.1
  have h1 : IB U (up st 0 (st 0 + t)) := IB_time h _ (by omega) U (by omega)
  exact iter_IB (N := 36) (fun st n hn h => IB_passR h hn) 36 (Nat.le_refl _) _ (iter_IB (N := 6) (fun st n hn h => IB_passZ h hn) 6 (Nat.le_refl _) _ h1)
theorem IB_solve1 {T : Int} {st : S} (h : IB T st) {r : Nat} (hr : r < 36) : IB T (solve1 st r).1 := IB_solvesF 7 (IB_free h 1 _ (by omega)) hr
/-! the digest -/
def mixL (h : Int64) (v : Int) : Int64 := 31 * h + (I v).toInt64
def dig0 (st : S) : Int64 := mixL (mixL (mixL (mixL (mixL (mixL 725 (st 0)) (memo st)) (untl st)) (st 1)) (st 2)) (st 3)
def digZ (st : S) (h : Int64) (z : Nat) : Int64 := mixL (mixL (mixL (mixL h (st (6 + 5 * z))) (depthF 6 st z)) (left st (st (6 + 5 * z + 3)))) (st (6 + 5 * z + 4))
def digR (st : S) (h : Int64) (r : Nat) : Int64 := mixL (mixL (mixL (mixL (mixL (mixL (mixL (mixL h (st (36 + 6 * r))) (st (36 + 6 * r + 1))) (truthF 7 st r)) (st (36 + 6 * r + 3))) (left st (st (36 + 6 * r + 5)))) (oldI st r)) (would st r)) (cost st r)
def iterL (f : Int64 → Nat → Int64) : Nat → Int64 → Int64
  | 0, h => h
  | n + 1, h => f (iterL f n h) n
def dig (st : S) : Int64 := iterL (digR st) 36 (iterL (digZ st) 6 (dig0 st))
theorem lv_mix {p : Program} {l : Launch} {e : Jvm.Env} {R : Room} {s : State} {m : MethodId} {args : Array Value} {below : List Frame} {meth : Method} {c : Code} {H : Heap} {locs : List Loc} {cells slots : Nat} {Q : State → Prop} {pc : Nat} {ls : Array Slot} {rest : List Value} {h : Int64} {v : Int}
    (k : W p l e R s m args below meth c H locs cells slots Q (F0 m pc ls (.long (mixL h v) :: rest))) : W p l e R s m args below meth c H locs cells slots Q (F0 m pc ls (.long (31 * h + (I v).toInt64) :: rest)) := k
theorem iterL_0 (f : Int64 → Nat → Int64) (h : Int64) : iterL f 0 h = h := rfl
theorem iterL_s (f : Int64 → Nat → Int64) (n : Nat) (h : Int64) : iterL f (n + 1) h = f (iterL f n h) n := rfl
theorem dig_eq (st : S) : iterL (digR st) 36 (iterL (digZ st) 6 (dig0 st)) = dig st := rfl
end
section
/-! the reference, eighth part: the text; written by ref.py -/
set_option maxHeartbeats 4000000 in
set_option maxRecDepth 100000 in
theorem m_X6_accepts_ok (l : Launch) (E : Env3) (ρ : Nat → Nat) (th rc kd nm : Int) (st hi ke tx wy : S) (hρ : dR ρ 6) (N k : Nat) (hk : k ≤ N) (hB : txB N tx) (lo hi9 : Int) (hlo : 0 ≤ lo ∧ lo ≤ 200) (hhi : 0 ≤ hi9 ∧ hi9 ≤ 200) (h9 : k < N ∧ lo ≤ tx k ∧ tx k ≤ hi9) : Met l yX6_accepts (Cond.code yX6_accepts cX6_accepts 4 (some .boolean) :: ALL) ({ frames := 1, cells := 0, slots := 0, locals := 22 }) (pR [.ref (ρ 0), .int (I lo), .int (I hi9)] E (refW E ρ th rc ((N : Int)) ((k : Int)) kd nm st hi ke tx wy)) (qW (some (.int (I 1))) E (refW E ρ th rc ((N : Int)) ((k : Int)) kd nm st hi ke tx wy) (refW E ρ th rc ((N : Int)) (((k + 1 : Nat) : Int)) kd nm st hi ke tx wy)) 0 0 (adIn (refW E ρ th rc ((N : Int)) ((k : Int)) kd nm st hi ke tx wy)) := by
  refine mk_met (by decide) rfl (Nat.le_of_ble_eq_true rfl) ?_
  intro p e s m args below meth c hx hb hrt hml hts hown hlocks hnm hP hK ls hl
  have hown : s.vm.findClass RX6 = some m.cls := hown
  have hl : lv_has ls 4 [(0, .ref (ρ 0)), (1, .int (I lo)), (2, .int (I hi9))] := hl
  have hD : va_D (adIn (refW E ρ th rc ((N : Int)) ((k : Int)) kd nm st hi ke tx wy)) (refW E ρ th rc ((N : Int)) ((k : Int)) kd nm st hi ke tx wy) := D_of_dR hρ rfl
  have hS : va_S (adIn (refW E ρ th rc ((N : Int)) ((k : Int)) kd nm st hi ke tx wy)) s.heap s.heap [] := va_S.rf
  have hB0 := hB.1
  have hBk := hB.2 k
  refine lv_aload_n hx hb dX6_accepts_0 rfl (lv_lk hl rfl) ?_
  refine va_get (D := E.1) (ci := 6) hx hb hts inX6 hown hK.1 hP 0 rfl rfl 8 (by decide) (hts _ fl_X6_137) (fun _ h9 => h9) rfl dX6_accepts_1 ?_
  refine lv_aload_n hx hb dX6_accepts_4 rfl (lv_lk hl rfl) ?_
  refine va_get (D := E.1) (ci := 6) hx hb hts inX6 hown hK.1 hP 0 rfl rfl 6 (by decide) (hts _ fl_X6_134) (fun _ h9 => h9) rfl dX6_accepts_5 ?_
  refine iv_icmp_ge (tgt := 32) hx hb dX6_accepts_8 (by decide) (by omega) (by omega) (fun c_8 => by exfalso; omega) (fun c_8 => ?_)
  refine lv_aload_n hx hb dX6_accepts_11 rfl (lv_lk hl rfl) ?_
  refine va_get (D := E.1) (ci := 6) hx hb hts inX6 hown hK.1 hP 0 rfl rfl 5 (by decide) (hts _ fl_X6_19) (fun _ h9 => h9) rfl dX6_accepts_12 ?_
  refine lv_aload_n hx hb dX6_accepts_15 rfl (lv_lk hl rfl) ?_
  refine va_get (D := E.1) (ci := 6) hx hb hts inX6 hown hK.1 hP 0 rfl rfl 8 (by decide) (hts _ fl_X6_137) (fun _ h9 => h9) rfl dX6_accepts_16 ?_
  refine iv_iald hx hb hK hP 4 rfl (k) (by omega) (by omega) dX6_accepts_19 ?_
  refine lv_iload_n hx hb dX6_accepts_20 rfl (lv_lk hl rfl) ?_
  refine lv_iload_n hx hb dX6_accepts_21 rfl (lv_lk hl rfl) ?_
  refine call_S (va_runS ⟨hx, hb, hml, hown, hts⟩ (m_X6_within l E (tx k) lo hi9 (by omega) (by omega) (by omega)) (va_cwS 3 hts (gi_S ml_X6_43 st_X6_within it_X6 cd_X6_within) rfl rfl rfl (by decide +kernel) ⟨Nat.le_of_ble_eq_true rfl, Nat.le_of_ble_eq_true rfl⟩) (pR_S (hP.sub (ws' := []) [] rfl) hK) rfl rfl hl.1 rfl (lv_room (Nat.le_of_ble_eq_true rfl)) dX6_accepts_22 ⟨Nat.le_of_ble_eq_true rfl, Nat.le_of_ble_eq_true rfl⟩) (fun _ h => h) hS rfl (fun locs hS => ?_)
  refine iv_eq (1) (by rw [if_pos (by omega)]) ?_
  refine iv_if_eq (tgt := 32) hx hb dX6_accepts_25 (by decide) (by omega) (fun c_25 => by exfalso; omega) (fun c_25 => ?_)
  refine iv_iconst hx hb dX6_accepts_28 ?_
  refine lv_goto (tgt := 33) hx hb dX6_accepts_29 (by decide) ?_
  refine lv_istore_n (lv' := [(3, .int (I _)), (0, .ref _), (1, .int (I _)), (2, .int (I _))]) hx hb dX6_accepts_33 rfl hl (by decide) rfl (fun ls hl => ?_)
  refine lv_aload_n hx hb dX6_accepts_34 rfl (lv_lk hl rfl) ?_
  refine lv_dup hx hb dX6_accepts_35 rfl ?_
  refine va_get (D := E.1) (ci := 6) hx hb hts inX6 hown hK.1 hP 0 rfl rfl 8 (by decide) (hts _ fl_X6_137) (fun _ h9 => h9) rfl dX6_accepts_36 ?_
  refine lv_iload_n hx hb dX6_accepts_39 rfl (lv_lk hl rfl) ?_
  refine iv_if_eq (tgt := 47) hx hb dX6_accepts_40 (by decide) (by omega) (fun c_40 => by exfalso; omega) (fun c_40 => ?_)
  refine iv_iconst hx hb dX6_accepts_43 ?_
  refine lv_goto (tgt := 48) hx hb dX6_accepts_44 (by decide) ?_
  refine iv_iadd hx hb dX6_accepts_48 ?_
  refine iv_eq (((k + 1 : Nat) : Int)) (by omega) ?_
  refine va_put (ci := 6) (ty := .int) hx hb hts inX6 tyX6 tyX6_ok nmX6 hown hK.1 hP (dm hD rfl) hS 0 rfl rfl 8 (by decide) (hts _ fl_X6_137) (fun _ h9 => h9) rfl (by decide +kernel) rfl rfl (Nat.le_of_ble_eq_true rfl) dX6_accepts_49 (fun H locs hP _ hS => ?_)
  have hP : va_P E.1 vwCl (refW E ρ th rc ((N : Int)) (((k + 1 : Nat) : Int)) kd nm st hi ke tx wy) H := hP
  refine lv_iload_n hx hb dX6_accepts_52 rfl (lv_lk hl rfl) ?_
  exact W.zret (ty := .boolean) hx hb hrt (by rfl) (fun t ht hW => ⟨rfl, by rw [ht]; exact hP, hS.F ht⟩) hS.2.2 dX6_accepts_53 hlocks
set_option maxHeartbeats 4000000 in
set_option maxRecDepth 100000 in
theorem m_X6_accepts_bad (l : Launch) (E : Env3) (ρ : Nat → Nat) (th rc kd nm : Int) (st hi ke tx wy : S) (hρ : dR ρ 6) (N k : Nat) (hk : k ≤ N) (hB : txB N tx) (lo hi9 : Int) (hlo : 0 ≤ lo ∧ lo ≤ 200) (hhi : 0 ≤ hi9 ∧ hi9 ≤ 200) (h9 : ¬ (k < N ∧ lo ≤ tx k ∧ tx k ≤ hi9)) : Met l yX6_accepts (Cond.code yX6_accepts cX6_accepts 4 (some .boolean) :: ALL) ({ frames := 1, cells := 0, slots := 0, locals := 22 }) (pR [.ref (ρ 0), .int (I lo), .int (I hi9)] E (refW E ρ th rc ((N : Int)) ((k : Int)) kd nm st hi ke tx wy)) (qW (some (.int (I 0))) E (refW E ρ th rc ((N : Int)) ((k : Int)) kd nm st hi ke tx wy) (refW E ρ th rc ((N : Int)) ((k : Int)) kd nm st hi ke tx wy)) 0 0 (adIn (refW E ρ th rc ((N : Int)) ((k : Int)) kd nm st hi ke tx wy)) := by
  refine mk_met (by decide) rfl (Nat.le_of_ble_eq_true rfl) ?_
  intro p e s m args below meth c hx hb hrt hml hts hown hlocks hnm hP hK ls hl
  have hown : s.vm.findClass RX6 = some m.cls := hown
  have hl : lv_has ls 4 [(0, .ref (ρ 0)), (1, .int (I lo)), (2, .int (I hi9))] := hl
  have hD : va_D (adIn (refW E ρ th rc ((N : Int)) ((k : Int)) kd nm st hi ke tx wy)) (refW E ρ th rc ((N : Int)) ((k : Int)) kd nm st hi ke tx wy) := D_of_dR hρ rfl
  have hS : va_S (adIn (refW E ρ th rc ((N : Int)) ((k : Int)) kd nm st hi ke tx wy)) s.heap s.heap [] := va_S.rf
  have hB0 := hB.1
  have hBk := hB.2 k
  refine lv_aload_n hx hb dX6_accepts_0 rfl (lv_lk hl rfl) ?_
  refine va_get (D := E.1) (ci := 6) hx hb hts inX6 hown hK.1 hP 0 rfl rfl 8 (by decide) (hts _ fl_X6_137) (fun _ h9 => h9) rfl dX6_accepts_1 ?_
  refine lv_aload_n hx hb dX6_accepts_4 rfl (lv_lk hl rfl) ?_
  refine va_get (D := E.1) (ci := 6) hx hb hts inX6 hown hK.1 hP 0 rfl rfl 6 (by decide) (hts _ fl_X6_134) (fun _ h9 => h9) rfl dX6_accepts_5 ?_
  refine iv_icmp_ge (tgt := 32) hx hb dX6_accepts_8 (by decide) (by omega) (by omega) (fun c_8 => ?_) (fun c_8 => ?_)
  · refine iv_iconst hx hb dX6_accepts_32 ?_
    refine lv_istore_n (lv' := [(3, .int (I _)), (0, .ref _), (1, .int (I _)), (2, .int (I _))]) hx hb dX6_accepts_33 rfl hl (by decide) rfl (fun ls hl => ?_)
    refine lv_aload_n hx hb dX6_accepts_34 rfl (lv_lk hl rfl) ?_
    refine lv_dup hx hb dX6_accepts_35 rfl ?_
    refine va_get (D := E.1) (ci := 6) hx hb hts inX6 hown hK.1 hP 0 rfl rfl 8 (by decide) (hts _ fl_X6_137) (fun _ h9 => h9) rfl dX6_accepts_36 ?_
    refine lv_iload_n hx hb dX6_accepts_39 rfl (lv_lk hl rfl) ?_
    refine iv_if_eq (tgt := 47) hx hb dX6_accepts_40 (by decide) (by omega) (fun c_40 => ?_) (fun c_40 => by exfalso; omega)
    refine iv_iconst hx hb dX6_accepts_47 ?_
    refine iv_iadd hx hb dX6_accepts_48 ?_
    refine iv_eq ((k : Int)) (by omega) ?_
    refine va_put (ci := 6) (ty := .int) hx hb hts inX6 tyX6 tyX6_ok nmX6 hown hK.1 hP (dm hD rfl) hS 0 rfl rfl 8 (by decide) (hts _ fl_X6_137) (fun _ h9 => h9) rfl (by decide +kernel) rfl rfl (Nat.le_of_ble_eq_true rfl) dX6_accepts_49 (fun H locs hP _ hS => ?_)
    have hP : va_P E.1 vwCl (refW E ρ th rc ((N : Int)) ((k : Int)) kd nm st hi ke tx wy) H := hP
    refine lv_iload_n hx hb dX6_accepts_52 rfl (lv_lk hl rfl) ?_
    exact W.zret (ty := .boolean) hx hb hrt (by rfl) (fun t ht hW => ⟨rfl, by rw [ht]; exact hP, hS.F ht⟩) hS.2.2 dX6_accepts_53 hlocks
  · refine lv_aload_n hx hb dX6_accepts_11 rfl (lv_lk hl rfl) ?_
    refine va_get (D := E.1) (ci := 6) hx hb hts inX6 hown hK.1 hP 0 rfl rfl 5 (by decide) (hts _ fl_X6_19) (fun _ h9 => h9) rfl dX6_accepts_12 ?_
    refine lv_aload_n hx hb dX6_accepts_15 rfl (lv_lk hl rfl) ?_
    refine va_get (D := E.1) (ci := 6) hx hb hts inX6 hown hK.1 hP 0 rfl rfl 8 (by decide) (hts _ fl_X6_137) (fun _ h9 => h9) rfl dX6_accepts_16 ?_
    refine iv_iald hx hb hK hP 4 rfl (k) (by omega) (by omega) dX6_accepts_19 ?_
    refine lv_iload_n hx hb dX6_accepts_20 rfl (lv_lk hl rfl) ?_
    refine lv_iload_n hx hb dX6_accepts_21 rfl (lv_lk hl rfl) ?_
    refine call_S (va_runS ⟨hx, hb, hml, hown, hts⟩ (m_X6_within l E (tx k) lo hi9 (by omega) (by omega) (by omega)) (va_cwS 3 hts (gi_S ml_X6_43 st_X6_within it_X6 cd_X6_within) rfl rfl rfl (by decide +kernel) ⟨Nat.le_of_ble_eq_true rfl, Nat.le_of_ble_eq_true rfl⟩) (pR_S (hP.sub (ws' := []) [] rfl) hK) rfl rfl hl.1 rfl (lv_room (Nat.le_of_ble_eq_true rfl)) dX6_accepts_22 ⟨Nat.le_of_ble_eq_true rfl, Nat.le_of_ble_eq_true rfl⟩) (fun _ h => h) hS rfl (fun locs hS => ?_)
    refine iv_eq (0) (by rw [if_neg (by omega)]) ?_
    refine iv_if_eq (tgt := 32) hx hb dX6_accepts_25 (by decide) (by omega) (fun c_25 => ?_) (fun c_25 => by exfalso; omega)
    refine iv_iconst hx hb dX6_accepts_32 ?_
    refine lv_istore_n (lv' := [(3, .int (I _)), (0, .ref _), (1, .int (I _)), (2, .int (I _))]) hx hb dX6_accepts_33 rfl hl (by decide) rfl (fun ls hl => ?_)
    refine lv_aload_n hx hb dX6_accepts_34 rfl (lv_lk hl rfl) ?_
    refine lv_dup hx hb dX6_accepts_35 rfl ?_
    refine va_get (D := E.1) (ci := 6) hx hb hts inX6 hown hK.1 hP 0 rfl rfl 8 (by decide) (hts _ fl_X6_137) (fun _ h9 => h9) rfl dX6_accepts_36 ?_
    refine lv_iload_n hx hb dX6_accepts_39 rfl (lv_lk hl rfl) ?_
    refine iv_if_eq (tgt := 47) hx hb dX6_accepts_40 (by decide) (by omega) (fun c_40 => ?_) (fun c_40 => by exfalso; omega)
    refine iv_iconst hx hb dX6_accepts_47 ?_
    refine iv_iadd hx hb dX6_accepts_48 ?_
    refine iv_eq ((k : Int)) (by omega) ?_
    refine va_put (ci := 6) (ty := .int) hx hb hts inX6 tyX6 tyX6_ok nmX6 hown hK.1 hP (dm hD rfl) hS 0 rfl rfl 8 (by decide) (hts _ fl_X6_137) (fun _ h9 => h9) rfl (by decide +kernel) rfl rfl (Nat.le_of_ble_eq_true rfl) dX6_accepts_49 (fun H locs hP _ hS => ?_)
    have hP : va_P E.1 vwCl (refW E ρ th rc ((N : Int)) ((k : Int)) kd nm st hi ke tx wy) H := hP
    refine lv_iload_n hx hb dX6_accepts_52 rfl (lv_lk hl rfl) ?_
    exact W.zret (ty := .boolean) hx hb hrt (by rfl) (fun t ht hW => ⟨rfl, by rw [ht]; exact hP, hS.F ht⟩) hS.2.2 dX6_accepts_53 hlocks
set_option maxHeartbeats 4000000 in
set_option maxRecDepth 100000 in
theorem m_X6_readsNumber_ok (l : Launch) (E : Env3) (ρ : Nat → Nat) (th rc kd nm : Int) (st hi ke tx wy : S) (hρ : dR ρ 6) (N k : Nat) (hk : k ≤ N) (hB : txB N tx) (lo hi9 : Int) (hlo : 0 ≤ lo ∧ lo ≤ 1) (hhi : 0 ≤ hi9 ∧ hi9 ≤ 99) (h9 : k < N ∧ 48 + lo ≤ tx k ∧ tx k ≤ 57) : Met l yX6_readsNumber (Cond.code yX6_readsNumber cX6_readsNumber 3 (some .boolean) :: ALL) ({ frames := 2, cells := 0, slots := 0, locals := 45 }) (pR [.ref (ρ 0), .int (I lo), .int (I hi9)] E (refW E ρ th rc ((N : Int)) ((k : Int)) kd nm st hi ke tx wy)) (qW (some (.int (I 1))) E (refW E ρ th rc ((N : Int)) ((k : Int)) kd nm st hi ke tx wy) (refW E ρ th rc ((N : Int)) (((runN (N - (k + 1)) tx (k + 1) (tx k - 48) hi9).1 : Int)) kd ((runN (N - (k + 1)) tx (k + 1) (tx k - 48) hi9).2) st hi ke tx wy)) 0 0 (adIn (refW E ρ th rc ((N : Int)) ((k : Int)) kd nm st hi ke tx wy)) := by
  refine mk_met (by decide) rfl (Nat.le_of_ble_eq_true rfl) ?_
  intro p e s m args below meth c hx hb hrt hml hts hown hlocks hnm hP hK ls hl
  have hown : s.vm.findClass RX6 = some m.cls := hown
  have hl : lv_has ls 3 [(0, .ref (ρ 0)), (1, .int (I lo)), (2, .int (I hi9))] := hl
  have hD : va_D (adIn (refW E ρ th rc ((N : Int)) ((k : Int)) kd nm st hi ke tx wy)) (refW E ρ th rc ((N : Int)) ((k : Int)) kd nm st hi ke tx wy) := D_of_dR hρ rfl
  have hS : va_S (adIn (refW E ρ th rc ((N : Int)) ((k : Int)) kd nm st hi ke tx wy)) s.heap s.heap [] := va_S.rf
  have hB0 := hB.1
  have hBk := hB.2 k
  have CUT12 : ∀ (H : Heap) (locs : List Loc) (ls : Array Slot), va_P E.1 vwCl (refW E ρ th rc ((N : Int)) ((k : Int)) kd nm st hi ke tx wy) H → va_S (adIn (refW E ρ th rc ((N : Int)) ((k : Int)) kd nm st hi ke tx wy)) s.heap H locs → lv_has ls 3 [(0, .ref (ρ 0)), (1, .int (I lo)), (2, .int (I hi9))] → W p l e ({ frames := 2, cells := 0, slots := 0, locals := 45 }) s m args below meth c H locs 0 0 (MQ below (qW (some (.int (I 1))) E (refW E ρ th rc ((N : Int)) ((k : Int)) kd nm st hi ke tx wy) (refW E ρ th rc ((N : Int)) (((runN (N - (k + 1)) tx (k + 1) (tx k - 48) hi9).1 : Int)) kd ((runN (N - (k + 1)) tx (k + 1) (tx k - 48) hi9).2) st hi ke tx wy)) args s 0 0 (adIn (refW E ρ th rc ((N : Int)) ((k : Int)) kd nm st hi ke tx wy))) (F0 m 12 ls [.int (I (48 + lo)), .ref (ρ 0)]) := by
    intro   H locs ls hP hS hl
    refine iv_bipush hx hb dX6_readsNumber_12 (by decide +kernel) ?_
    refine call_F (va_runV ⟨hx, hb, hml, hown, hts⟩ (m_X6_accepts_ok l E ρ th rc kd nm st hi ke tx wy hρ N k (by omega) hB (48 + lo) 57 (by omega) (by omega) (by omega)) (cwV 2 hts (gi_V ml_X6_140 im_X6_accepts sl_X6_accepts it_X6 cd_X6_accepts) rfl rfl rfl (by decide +kernel) ⟨Nat.le_of_ble_eq_true rfl, Nat.le_of_ble_eq_true rfl⟩) (pR_V (q0 := 0) (ci := 6) hP hK rfl rfl) rfl rfl hl.1 rfl (lv_room (Nat.le_of_ble_eq_true rfl)) dX6_readsNumber_14 ⟨Nat.le_of_ble_eq_true rfl, Nat.le_of_ble_eq_true rfl⟩) (dm hD rfl) hS rfl (fun H locs hP hS => ?_)
    have hP : va_P E.1 vwCl (refW E ρ th rc ((N : Int)) (((k + 1 : Nat) : Int)) kd nm st hi ke tx wy) H := hP
    refine iv_if_ne (tgt := 22) hx hb dX6_readsNumber_17 (by decide) (by omega) (fun c_17 => ?_) (fun c_17 => by exfalso; omega)
    refine lv_aload_n hx hb dX6_readsNumber_22 rfl (lv_lk hl rfl) ?_
    refine lv_aload_n hx hb dX6_readsNumber_23 rfl (lv_lk hl rfl) ?_
    refine va_get (D := E.1) (ci := 6) hx hb hts inX6 hown hK.1 hP 0 rfl rfl 5 (by decide) (hts _ fl_X6_19) (fun _ h9 => h9) rfl dX6_readsNumber_24 ?_
    refine lv_aload_n hx hb dX6_readsNumber_27 rfl (lv_lk hl rfl) ?_
    refine va_get (D := E.1) (ci := 6) hx hb hts inX6 hown hK.1 hP 0 rfl rfl 8 (by decide) (hts _ fl_X6_137) (fun _ h9 => h9) rfl dX6_readsNumber_28 ?_
    refine iv_iconst hx hb dX6_readsNumber_31 ?_
    refine iv_isub hx hb dX6_readsNumber_32 ?_
    refine iv_iald hx hb hK hP 4 rfl (k) (by omega) (by omega) dX6_readsNumber_33 ?_
    refine iv_bipush hx hb dX6_readsNumber_34 (by decide +kernel) ?_
    refine iv_isub hx hb dX6_readsNumber_36 ?_
    refine va_put (ci := 6) (ty := .int) hx hb hts inX6 tyX6 tyX6_ok nmX6 hown hK.1 hP (dm hD rfl) hS 0 rfl rfl 10 (by decide) (hts _ fl_X6_144) (fun _ h9 => h9) rfl (by decide +kernel) rfl rfl (Nat.le_of_ble_eq_true rfl) dX6_readsNumber_37 (fun H locs hP _ hS => ?_)
    have hP : va_P E.1 vwCl (refW E ρ th rc ((N : Int)) (((k + 1 : Nat) : Int)) kd (tx k - 48) st hi ke tx wy) H := hP
    have LOOP40 : ∀ (n9 i : Nat) (v : Int), (i + n9 = N) → (0 ≤ v ∧ v ≤ 99) → (runN n9 tx i v hi9 = runN (N - (k + 1)) tx (k + 1) (tx k - 48) hi9) → ∀ (H : Heap) (locs : List Loc) (ls : Array Slot), va_P E.1 vwCl (refW E ρ th rc ((N : Int)) ((i : Int)) kd v st hi ke tx wy) H → va_S (adIn (refW E ρ th rc ((N : Int)) ((k : Int)) kd nm st hi ke tx wy)) s.heap H locs → lv_has ls 3 [(0, .ref (ρ 0)), (1, .int (I lo)), (2, .int (I hi9))] → W p l e ({ frames := 2, cells := 0, slots := 0, locals := 45 }) s m args below meth c H locs 0 0 (MQ below (qW (some (.int (I 1))) E (refW E ρ th rc ((N : Int)) ((k : Int)) kd nm st hi ke tx wy) (refW E ρ th rc ((N : Int)) (((runN (N - (k + 1)) tx (k + 1) (tx k - 48) hi9).1 : Int)) kd ((runN (N - (k + 1)) tx (k + 1) (tx k - 48) hi9).2) st hi ke tx wy)) args s 0 0 (adIn (refW E ρ th rc ((N : Int)) ((k : Int)) kd nm st hi ke tx wy))) (F0 m 40 ls []) := by
      intro n9
      induction n9 with
      | zero =>
        intro  i v hi8 hv9 he9 H locs ls hP hS hl
        refine lv_aload_n hx hb dX6_readsNumber_40 rfl (lv_lk hl rfl) ?_
        refine va_get (D := E.1) (ci := 6) hx hb hts inX6 hown hK.1 hP 0 rfl rfl 10 (by decide) (hts _ fl_X6_144) (fun _ h9 => h9) rfl dX6_readsNumber_41 ?_
        refine iv_if_le (tgt := 138) hx hb dX6_readsNumber_44 (by decide) (by omega) (fun c_44 => ?_) (fun c_44 => ?_)
        · refine iv_iconst hx hb dX6_readsNumber_138 ?_
          exact W.zret (ty := .boolean) hx hb hrt (by rfl) (fun t ht hW => ⟨rfl, by rw [ht]; exact (by rw [← he9]; exact hP), hS.F ht⟩) hS.2.2 dX6_readsNumber_139 hlocks
        · refine lv_aload_n hx hb dX6_readsNumber_47 rfl (lv_lk hl rfl) ?_
          refine va_get (D := E.1) (ci := 6) hx hb hts inX6 hown hK.1 hP 0 rfl rfl 8 (by decide) (hts _ fl_X6_137) (fun _ h9 => h9) rfl dX6_readsNumber_48 ?_
          refine lv_aload_n hx hb dX6_readsNumber_51 rfl (lv_lk hl rfl) ?_
          refine va_get (D := E.1) (ci := 6) hx hb hts inX6 hown hK.1 hP 0 rfl rfl 6 (by decide) (hts _ fl_X6_134) (fun _ h9 => h9) rfl dX6_readsNumber_52 ?_
          refine iv_icmp_ge (tgt := 138) hx hb dX6_readsNumber_55 (by decide) (by omega) (by omega) (fun c_55 => ?_) (fun c_55 => by exfalso; omega)
          refine iv_iconst hx hb dX6_readsNumber_138 ?_
          exact W.zret (ty := .boolean) hx hb hrt (by rfl) (fun t ht hW => ⟨rfl, by rw [ht]; exact (by rw [← he9]; exact hP), hS.F ht⟩) hS.2.2 dX6_readsNumber_139 hlocks
      | succ n9 ih =>
        intro  i v hi8 hv9 he9 H locs ls hP hS hl
        have hBi := hB.2 i (by omega)
        refine lv_aload_n hx hb dX6_readsNumber_40 rfl (lv_lk hl rfl) ?_
        refine va_get (D := E.1) (ci := 6) hx hb hts inX6 hown hK.1 hP 0 rfl rfl 10 (by decide) (hts _ fl_X6_144) (fun _ h9 => h9) rfl dX6_readsNumber_41 ?_
        refine iv_if_le (tgt := 138) hx hb dX6_readsNumber_44 (by decide) (by omega) (fun c_44 => ?_) (fun c_44 => ?_)
        · refine iv_iconst hx hb dX6_readsNumber_138 ?_
          exact W.zret (ty := .boolean) hx hb hrt (by rfl) (fun t ht hW => ⟨rfl, by rw [ht]; exact (by rw [← he9, run_e (by omega)]; exact hP), hS.F ht⟩) hS.2.2 dX6_readsNumber_139 hlocks
        · refine lv_aload_n hx hb dX6_readsNumber_47 rfl (lv_lk hl rfl) ?_
          refine va_get (D := E.1) (ci := 6) hx hb hts inX6 hown hK.1 hP 0 rfl rfl 8 (by decide) (hts _ fl_X6_137) (fun _ h9 => h9) rfl dX6_readsNumber_48 ?_
          refine lv_aload_n hx hb dX6_readsNumber_51 rfl (lv_lk hl rfl) ?_
          refine va_get (D := E.1) (ci := 6) hx hb hts inX6 hown hK.1 hP 0 rfl rfl 6 (by decide) (hts _ fl_X6_134) (fun _ h9 => h9) rfl dX6_readsNumber_52 ?_
          refine iv_icmp_ge (tgt := 138) hx hb dX6_readsNumber_55 (by decide) (by omega) (by omega) (fun c_55 => by exfalso; omega) (fun c_55 => ?_)
          refine lv_aload_n hx hb dX6_readsNumber_58 rfl (lv_lk hl rfl) ?_
          refine va_get (D := E.1) (ci := 6) hx hb hts inX6 hown hK.1 hP 0 rfl rfl 5 (by decide) (hts _ fl_X6_19) (fun _ h9 => h9) rfl dX6_readsNumber_59 ?_
          refine lv_aload_n hx hb dX6_readsNumber_62 rfl (lv_lk hl rfl) ?_
          refine va_get (D := E.1) (ci := 6) hx hb hts inX6 hown hK.1 hP 0 rfl rfl 8 (by decide) (hts _ fl_X6_137) (fun _ h9 => h9) rfl dX6_readsNumber_63 ?_
          refine iv_iald hx hb hK hP 4 rfl (i) (by omega) (by omega) dX6_readsNumber_66 ?_
          refine iv_bipush hx hb dX6_readsNumber_67 (by decide +kernel) ?_
          refine iv_bipush hx hb dX6_readsNumber_69 (by decide +kernel) ?_
          refine call_S (va_runS ⟨hx, hb, hml, hown, hts⟩ (m_X6_within l E (tx i) 48 57 (by omega) (by omega) (by omega)) (va_cwS 3 hts (gi_S ml_X6_43 st_X6_within it_X6 cd_X6_within) rfl rfl rfl (by decide +kernel) ⟨Nat.le_of_ble_eq_true rfl, Nat.le_of_ble_eq_true rfl⟩) (pR_S (hP.sub (ws' := []) [] rfl) hK) rfl rfl hl.1 rfl (lv_room (Nat.le_of_ble_eq_true rfl)) dX6_readsNumber_71 ⟨Nat.le_of_ble_eq_true rfl, Nat.le_of_ble_eq_true rfl⟩) (fun _ h => h) hS rfl (fun locs hS => ?_)
          by_cases hd9 : 48 ≤ tx i ∧ tx i ≤ 57
          · refine iv_eq (1) (by rw [if_pos hd9]) ?_
            refine iv_if_eq (tgt := 138) hx hb dX6_readsNumber_74 (by decide) (by omega) (fun c_74 => by exfalso; omega) (fun c_74 => ?_)
            refine iv_bipush hx hb dX6_readsNumber_77 (by decide +kernel) ?_
            refine lv_aload_n hx hb dX6_readsNumber_79 rfl (lv_lk hl rfl) ?_
            refine va_get (D := E.1) (ci := 6) hx hb hts inX6 hown hK.1 hP 0 rfl rfl 10 (by decide) (hts _ fl_X6_144) (fun _ h9 => h9) rfl dX6_readsNumber_80 ?_
            refine iv_imul hx hb dX6_readsNumber_83 ?_
            refine lv_aload_n hx hb dX6_readsNumber_84 rfl (lv_lk hl rfl) ?_
            refine va_get (D := E.1) (ci := 6) hx hb hts inX6 hown hK.1 hP 0 rfl rfl 5 (by decide) (hts _ fl_X6_19) (fun _ h9 => h9) rfl dX6_readsNumber_85 ?_
            refine lv_aload_n hx hb dX6_readsNumber_88 rfl (lv_lk hl rfl) ?_
            refine va_get (D := E.1) (ci := 6) hx hb hts inX6 hown hK.1 hP 0 rfl rfl 8 (by decide) (hts _ fl_X6_137) (fun _ h9 => h9) rfl dX6_readsNumber_89 ?_
            refine iv_iald hx hb hK hP 4 rfl (i) (by omega) (by omega) dX6_readsNumber_92 ?_
            refine iv_iadd hx hb dX6_readsNumber_93 ?_
            refine iv_bipush hx hb dX6_readsNumber_94 (by decide +kernel) ?_
            refine iv_isub hx hb dX6_readsNumber_96 ?_
            refine lv_iload_n hx hb dX6_readsNumber_97 rfl (lv_lk hl rfl) ?_
            refine iv_icmp_gt (tgt := 138) hx hb dX6_readsNumber_98 (by decide) (by omega) (by omega) (fun c_98 => ?_) (fun c_98 => ?_)
            · refine iv_iconst hx hb dX6_readsNumber_138 ?_
              exact W.zret (ty := .boolean) hx hb hrt (by rfl) (fun t ht hW => ⟨rfl, by rw [ht]; exact (by rw [← he9, run_e (by omega)]; exact hP), hS.F ht⟩) hS.2.2 dX6_readsNumber_139 hlocks
            · refine lv_aload_n hx hb dX6_readsNumber_101 rfl (lv_lk hl rfl) ?_
              refine iv_bipush hx hb dX6_readsNumber_102 (by decide +kernel) ?_
              refine lv_aload_n hx hb dX6_readsNumber_104 rfl (lv_lk hl rfl) ?_
              refine va_get (D := E.1) (ci := 6) hx hb hts inX6 hown hK.1 hP 0 rfl rfl 10 (by decide) (hts _ fl_X6_144) (fun _ h9 => h9) rfl dX6_readsNumber_105 ?_
              refine iv_imul hx hb dX6_readsNumber_108 ?_
              refine lv_aload_n hx hb dX6_readsNumber_109 rfl (lv_lk hl rfl) ?_
              refine va_get (D := E.1) (ci := 6) hx hb hts inX6 hown hK.1 hP 0 rfl rfl 5 (by decide) (hts _ fl_X6_19) (fun _ h9 => h9) rfl dX6_readsNumber_110 ?_
              refine lv_aload_n hx hb dX6_readsNumber_113 rfl (lv_lk hl rfl) ?_
              refine va_get (D := E.1) (ci := 6) hx hb hts inX6 hown hK.1 hP 0 rfl rfl 8 (by decide) (hts _ fl_X6_137) (fun _ h9 => h9) rfl dX6_readsNumber_114 ?_
              refine iv_iald hx hb hK hP 4 rfl (i) (by omega) (by omega) dX6_readsNumber_117 ?_
              refine iv_iadd hx hb dX6_readsNumber_118 ?_
              refine iv_bipush hx hb dX6_readsNumber_119 (by decide +kernel) ?_
              refine iv_isub hx hb dX6_readsNumber_121 ?_
              refine iv_eq (10 * v + tx i - 48) (by omega) ?_
              refine va_put (ci := 6) (ty := .int) hx hb hts inX6 tyX6 tyX6_ok nmX6 hown hK.1 hP (dm hD rfl) hS 0 rfl rfl 10 (by decide) (hts _ fl_X6_144) (fun _ h9 => h9) rfl (by decide +kernel) rfl rfl (Nat.le_of_ble_eq_true rfl) dX6_readsNumber_122 (fun H locs hP _ hS => ?_)
              have hP : va_P E.1 vwCl (refW E ρ th rc ((N : Int)) ((i : Int)) kd (10 * v + tx i - 48) st hi ke tx wy) H := hP
              refine lv_aload_n hx hb dX6_readsNumber_125 rfl (lv_lk hl rfl) ?_
              refine lv_dup hx hb dX6_readsNumber_126 rfl ?_
              refine va_get (D := E.1) (ci := 6) hx hb hts inX6 hown hK.1 hP 0 rfl rfl 8 (by decide) (hts _ fl_X6_137) (fun _ h9 => h9) rfl dX6_readsNumber_127 ?_
              refine iv_iconst hx hb dX6_readsNumber_130 ?_
              refine iv_iadd hx hb dX6_readsNumber_131 ?_
              refine iv_eq (((i + 1 : Nat) : Int)) (by omega) ?_
              refine va_put (ci := 6) (ty := .int) hx hb hts inX6 tyX6 tyX6_ok nmX6 hown hK.1 hP (dm hD rfl) hS 0 rfl rfl 8 (by decide) (hts _ fl_X6_137) (fun _ h9 => h9) rfl (by decide +kernel) rfl rfl (Nat.le_of_ble_eq_true rfl) dX6_readsNumber_132 (fun H locs hP _ hS => ?_)
              have hP : va_P E.1 vwCl (refW E ρ th rc ((N : Int)) (((i + 1 : Nat) : Int)) kd (10 * v + tx i - 48) st hi ke tx wy) H := hP
              refine lv_goto (tgt := 40) hx hb dX6_readsNumber_135 (by decide) ?_
              exact ih (i + 1) (10 * v + tx i - 48) (by omega) (by omega) (by rw [← he9]; exact (run_s (by omega)).symm) H locs ls hP hS (lv_sub hl [0, 1, 2] rfl)
          · refine iv_eq (0) (by rw [if_neg hd9]) ?_
            refine iv_if_eq (tgt := 138) hx hb dX6_readsNumber_74 (by decide) (by omega) (fun c_74 => ?_) (fun c_74 => by exfalso; omega)
            refine iv_iconst hx hb dX6_readsNumber_138 ?_
            exact W.zret (ty := .boolean) hx hb hrt (by rfl) (fun t ht hW => ⟨rfl, by rw [ht]; exact (by rw [← he9, run_e (by omega)]; exact hP), hS.F ht⟩) hS.2.2 dX6_readsNumber_139 hlocks
    exact LOOP40 (N - (k + 1)) (k + 1) (tx k - 48) (by omega) (by omega) rfl _ _ _ hP hS (lv_sub hl [0, 1, 2] rfl)
  refine lv_aload_n hx hb dX6_readsNumber_0 rfl (lv_lk hl rfl) ?_
  refine lv_iload_n hx hb dX6_readsNumber_1 rfl (lv_lk hl rfl) ?_
  refine iv_if_ne (tgt := 10) hx hb dX6_readsNumber_2 (by decide) (by omega) (fun c_2 => ?_) (fun c_2 => ?_)
  · refine iv_bipush hx hb dX6_readsNumber_10 (by decide +kernel) ?_
    refine iv_eq (48 + lo) (by omega) ?_
    exact CUT12  _ _ _ hP hS (lv_sub hl [0, 1, 2] rfl)
  · refine iv_bipush hx hb dX6_readsNumber_5 (by decide +kernel) ?_
    refine lv_goto (tgt := 12) hx hb dX6_readsNumber_7 (by decide) ?_
    refine iv_eq (48 + lo) (by omega) ?_
    exact CUT12  _ _ _ hP hS (lv_sub hl [0, 1, 2] rfl)
set_option maxHeartbeats 4000000 in
set_option maxRecDepth 100000 in
theorem m_X6_readsNumber_bad (l : Launch) (E : Env3) (ρ : Nat → Nat) (th rc kd nm : Int) (st hi ke tx wy : S) (hρ : dR ρ 6) (N k : Nat) (hk : k ≤ N) (hB : txB N tx) (lo hi9 : Int) (hlo : 0 ≤ lo ∧ lo ≤ 1) (hhi : 0 ≤ hi9 ∧ hi9 ≤ 99) (h9 : ¬ (k < N ∧ 48 + lo ≤ tx k ∧ tx k ≤ 57)) : Met l yX6_readsNumber (Cond.code yX6_readsNumber cX6_readsNumber 3 (some .boolean) :: ALL) ({ frames := 2, cells := 0, slots := 0, locals := 45 }) (pR [.ref (ρ 0), .int (I lo), .int (I hi9)] E (refW E ρ th rc ((N : Int)) ((k : Int)) kd nm st hi ke tx wy)) (qW (some (.int (I 0))) E (refW E ρ th rc ((N : Int)) ((k : Int)) kd nm st hi ke tx wy) (refW E ρ th rc ((N : Int)) ((k : Int)) kd nm st hi ke tx wy)) 0 0 (adIn (refW E ρ th rc ((N : Int)) ((k : Int)) kd nm st hi ke tx wy)) := by
  refine mk_met (by decide) rfl (Nat.le_of_ble_eq_true rfl) ?_
  intro p e s m args below meth c hx hb hrt hml hts hown hlocks hnm hP hK ls hl
  have hown : s.vm.findClass RX6 = some m.cls := hown
  have hl : lv_has ls 3 [(0, .ref (ρ 0)), (1, .int (I lo)), (2, .int (I hi9))] := hl
  have hD : va_D (adIn (refW E ρ th rc ((N : Int)) ((k : Int)) kd nm st hi ke tx wy)) (refW E ρ th rc ((N : Int)) ((k : Int)) kd nm st hi ke tx wy) := D_of_dR hρ rfl
  have hS : va_S (adIn (refW E ρ th rc ((N : Int)) ((k : Int)) kd nm st hi ke tx wy)) s.heap s.heap [] := va_S.rf
  have hB0 := hB.1
  have hBk := hB.2 k
  have CUT12 : ∀ (H : Heap) (locs : List Loc) (ls : Array Slot), va_P E.1 vwCl (refW E ρ th rc ((N : Int)) ((k : Int)) kd nm st hi ke tx wy) H → va_S (adIn (refW E ρ th rc ((N : Int)) ((k : Int)) kd nm st hi ke tx wy)) s.heap H locs → lv_has ls 3 [(0, .ref (ρ 0)), (1, .int (I lo)), (2, .int (I hi9))] → W p l e ({ frames := 2, cells := 0, slots := 0, locals := 45 }) s m args below meth c H locs 0 0 (MQ below (qW (some (.int (I 0))) E (refW E ρ th rc ((N : Int)) ((k : Int)) kd nm st hi ke tx wy) (refW E ρ th rc ((N : Int)) ((k : Int)) kd nm st hi ke tx wy)) args s 0 0 (adIn (refW E ρ th rc ((N : Int)) ((k : Int)) kd nm st hi ke tx wy))) (F0 m 12 ls [.int (I (48 + lo)), .ref (ρ 0)]) := by
    intro   H locs ls hP hS hl
    refine iv_bipush hx hb dX6_readsNumber_12 (by decide +kernel) ?_
    refine call_F (va_runV ⟨hx, hb, hml, hown, hts⟩ (m_X6_accepts_bad l E ρ th rc kd nm st hi ke tx wy hρ N k (by omega) hB (48 + lo) 57 (by omega) (by omega) (by omega)) (cwV 2 hts (gi_V ml_X6_140 im_X6_accepts sl_X6_accepts it_X6 cd_X6_accepts) rfl rfl rfl (by decide +kernel) ⟨Nat.le_of_ble_eq_true rfl, Nat.le_of_ble_eq_true rfl⟩) (pR_V (q0 := 0) (ci := 6) hP hK rfl rfl) rfl rfl hl.1 rfl (lv_room (Nat.le_of_ble_eq_true rfl)) dX6_readsNumber_14 ⟨Nat.le_of_ble_eq_true rfl, Nat.le_of_ble_eq_true rfl⟩) (dm hD rfl) hS rfl (fun H locs hP hS => ?_)
    have hP : va_P E.1 vwCl (refW E ρ th rc ((N : Int)) ((k : Int)) kd nm st hi ke tx wy) H := hP
    refine iv_if_ne (tgt := 22) hx hb dX6_readsNumber_17 (by decide) (by omega) (fun c_17 => by exfalso; omega) (fun c_17 => ?_)
    refine iv_iconst hx hb dX6_readsNumber_20 ?_
    exact W.zret (ty := .boolean) hx hb hrt (by rfl) (fun t ht hW => ⟨rfl, by rw [ht]; exact hP, hS.F ht⟩) hS.2.2 dX6_readsNumber_21 hlocks
  refine lv_aload_n hx hb dX6_readsNumber_0 rfl (lv_lk hl rfl) ?_
  refine lv_iload_n hx hb dX6_readsNumber_1 rfl (lv_lk hl rfl) ?_
  refine iv_if_ne (tgt := 10) hx hb dX6_readsNumber_2 (by decide) (by omega) (fun c_2 => ?_) (fun c_2 => ?_)
  · refine iv_bipush hx hb dX6_readsNumber_10 (by decide +kernel) ?_
    refine iv_eq (48 + lo) (by omega) ?_
    exact CUT12  _ _ _ hP hS (lv_sub hl [0, 1, 2] rfl)
  · refine iv_bipush hx hb dX6_readsNumber_5 (by decide +kernel) ?_
    refine lv_goto (tgt := 12) hx hb dX6_readsNumber_7 (by decide) ?_
    refine iv_eq (48 + lo) (by omega) ?_
    exact CUT12  _ _ _ hP hS (lv_sub hl [0, 1, 2] rfl)
set_option maxHeartbeats 4000000 in
set_option maxRecDepth 100000 in
theorem m_X6_readsAct_ok43 (l : Launch) (E : Env3) (ρ : Nat → Nat) (th rc kd nm : Int) (st hi ke tx wy : S) (hρ : dR ρ 6) (N k : Nat) (hk : k ≤ N) (hB : txB N tx) (h8 : k < N) (h7 : tx k = 43) (h9 : k + 1 < N ∧ 48 + 1 ≤ tx (k + 1) ∧ tx (k + 1) ≤ 57) : Met l yX6_readsAct (Cond.code yX6_readsAct cX6_readsAct 1 (some .boolean) :: ALL) ({ frames := 3, cells := 0, slots := 0, locals := 67 }) (pR [.ref (ρ 0)] E (refW E ρ th rc ((N : Int)) ((k : Int)) kd nm st hi ke tx wy)) (qW (some (.int (I 1))) E (refW E ρ th rc ((N : Int)) ((k : Int)) kd nm st hi ke tx wy) (refW E ρ th rc ((N : Int)) (((runN (N - (k + 1 + 1)) tx (k + 1 + 1) (tx (k + 1) - 48) 99).1 : Int)) 43 ((runN (N - (k + 1 + 1)) tx (k + 1 + 1) (tx (k + 1) - 48) 99).2) st hi ke tx wy)) 0 0 (adIn (refW E ρ th rc ((N : Int)) ((k : Int)) kd nm st hi ke tx wy)) := by
  refine mk_met (by decide) rfl (Nat.le_of_ble_eq_true rfl) ?_
  intro p e s m args below meth c hx hb hrt hml hts hown hlocks hnm hP hK ls hl
  have hown : s.vm.findClass RX6 = some m.cls := hown
  have hl : lv_has ls 1 [(0, .ref (ρ 0))] := hl
  have hD : va_D (adIn (refW E ρ th rc ((N : Int)) ((k : Int)) kd nm st hi ke tx wy)) (refW E ρ th rc ((N : Int)) ((k : Int)) kd nm st hi ke tx wy) := D_of_dR hρ rfl
  have hS : va_S (adIn (refW E ρ th rc ((N : Int)) ((k : Int)) kd nm st hi ke tx wy)) s.heap s.heap [] := va_S.rf
  have hB0 := hB.1
  have hBk := hB.2 k
  have hBk1 := hB.2 (k + 1)
  refine lv_aload_n hx hb dX6_readsAct_0 rfl (lv_lk hl rfl) ?_
  refine lv_aload_n hx hb dX6_readsAct_1 rfl (lv_lk hl rfl) ?_
  refine va_get (D := E.1) (ci := 6) hx hb hts inX6 hown hK.1 hP 0 rfl rfl 8 (by decide) (hts _ fl_X6_137) (fun _ h9 => h9) rfl dX6_readsAct_2 ?_
  refine lv_aload_n hx hb dX6_readsAct_5 rfl (lv_lk hl rfl) ?_
  refine va_get (D := E.1) (ci := 6) hx hb hts inX6 hown hK.1 hP 0 rfl rfl 6 (by decide) (hts _ fl_X6_134) (fun _ h9 => h9) rfl dX6_readsAct_6 ?_
  refine iv_icmp_ge (tgt := 24) hx hb dX6_readsAct_9 (by decide) (by omega) (by omega) (fun c_9 => by exfalso; omega) (fun c_9 => ?_)
  refine lv_aload_n hx hb dX6_readsAct_12 rfl (lv_lk hl rfl) ?_
  refine va_get (D := E.1) (ci := 6) hx hb hts inX6 hown hK.1 hP 0 rfl rfl 5 (by decide) (hts _ fl_X6_19) (fun _ h9 => h9) rfl dX6_readsAct_13 ?_
  refine lv_aload_n hx hb dX6_readsAct_16 rfl (lv_lk hl rfl) ?_
  refine va_get (D := E.1) (ci := 6) hx hb hts inX6 hown hK.1 hP 0 rfl rfl 8 (by decide) (hts _ fl_X6_137) (fun _ h9 => h9) rfl dX6_readsAct_17 ?_
  refine iv_iald hx hb hK hP 4 rfl (k) (by omega) (by omega) dX6_readsAct_20 ?_
  refine lv_goto (tgt := 25) hx hb dX6_readsAct_21 (by decide) ?_
  refine iv_eq (43) (by omega) ?_
  refine va_put (ci := 6) (ty := .int) hx hb hts inX6 tyX6 tyX6_ok nmX6 hown hK.1 hP (dm hD rfl) hS 0 rfl rfl 9 (by decide) (hts _ fl_X6_147) (fun _ h9 => h9) rfl (by decide +kernel) rfl rfl (Nat.le_of_ble_eq_true rfl) dX6_readsAct_25 (fun H locs hP _ hS => ?_)
  have hP : va_P E.1 vwCl (refW E ρ th rc ((N : Int)) ((k : Int)) 43 nm st hi ke tx wy) H := hP
  refine lv_aload_n hx hb dX6_readsAct_28 rfl (lv_lk hl rfl) ?_
  refine iv_bipush hx hb dX6_readsAct_29 (by decide +kernel) ?_
  refine iv_bipush hx hb dX6_readsAct_31 (by decide +kernel) ?_
  refine call_F (va_runV ⟨hx, hb, hml, hown, hts⟩ (m_X6_accepts_ok l E ρ th rc 43 nm st hi ke tx wy hρ N k (by omega) hB 43 43 (by omega) (by omega) (by omega)) (cwV 2 hts (gi_V ml_X6_140 im_X6_accepts sl_X6_accepts it_X6 cd_X6_accepts) rfl rfl rfl (by decide +kernel) ⟨Nat.le_of_ble_eq_true rfl, Nat.le_of_ble_eq_true rfl⟩) (pR_V (q0 := 0) (ci := 6) hP hK rfl rfl) rfl rfl hl.1 rfl (lv_room (Nat.le_of_ble_eq_true rfl)) dX6_readsAct_33 ⟨Nat.le_of_ble_eq_true rfl, Nat.le_of_ble_eq_true rfl⟩) (dm hD rfl) hS rfl (fun H locs hP hS => ?_)
  have hP : va_P E.1 vwCl (refW E ρ th rc ((N : Int)) (((k + 1 : Nat) : Int)) 43 nm st hi ke tx wy) H := hP
  refine iv_if_eq (tgt := 47) hx hb dX6_readsAct_36 (by decide) (by omega) (fun c_36 => by exfalso; omega) (fun c_36 => ?_)
  refine lv_aload_n hx hb dX6_readsAct_39 rfl (lv_lk hl rfl) ?_
  refine iv_iconst hx hb dX6_readsAct_40 ?_
  refine iv_bipush hx hb dX6_readsAct_41 (by decide +kernel) ?_
  refine call_F (va_runV ⟨hx, hb, hml, hown, hts⟩ (m_X6_readsNumber_ok l E ρ th rc 43 nm st hi ke tx wy hρ N (k + 1) (by omega) hB 1 99 (by omega) (by omega) (by omega)) (cwV 2 hts (gi_V ml_X6_150 im_X6_readsNumber sl_X6_readsNumber it_X6 cd_X6_readsNumber) rfl rfl rfl (by decide +kernel) ⟨Nat.le_of_ble_eq_true rfl, Nat.le_of_ble_eq_true rfl⟩) (pR_V (q0 := 0) (ci := 6) hP hK rfl rfl) rfl rfl hl.1 rfl (lv_room (Nat.le_of_ble_eq_true rfl)) dX6_readsAct_43 ⟨Nat.le_of_ble_eq_true rfl, Nat.le_of_ble_eq_true rfl⟩) (dm hD rfl) hS rfl (fun H locs hP hS => ?_)
  have hP : va_P E.1 vwCl (refW E ρ th rc ((N : Int)) (((runN (N - (k + 1 + 1)) tx (k + 1 + 1) (tx (k + 1) - 48) 99).1 : Int)) 43 ((runN (N - (k + 1 + 1)) tx (k + 1 + 1) (tx (k + 1) - 48) 99).2) st hi ke tx wy) H := hP
  exact W.zret (ty := .boolean) hx hb hrt (by rfl) (fun t ht hW => ⟨rfl, by rw [ht]; exact hP, hS.F ht⟩) hS.2.2 dX6_readsAct_46 hlocks
set_option maxHeartbeats 4000000 in
set_option maxRecDepth 100000 in
theorem m_X6_readsAct_bad43 (l : Launch) (E : Env3) (ρ : Nat → Nat) (th rc kd nm : Int) (st hi ke tx wy : S) (hρ : dR ρ 6) (N k : Nat) (hk : k ≤ N) (hB : txB N tx) (h8 : k < N) (h7 : tx k = 43) (h9 : ¬ (k + 1 < N ∧ 48 + 1 ≤ tx (k + 1) ∧ tx (k + 1) ≤ 57)) : Met l yX6_readsAct (Cond.code yX6_readsAct cX6_readsAct 1 (some .boolean) :: ALL) ({ frames := 3, cells := 0, slots := 0, locals := 67 }) (pR [.ref (ρ 0)] E (refW E ρ th rc ((N : Int)) ((k : Int)) kd nm st hi ke tx wy)) (qW (some (.int (I 0))) E (refW E ρ th rc ((N : Int)) ((k : Int)) kd nm st hi ke tx wy) (refW E ρ th rc ((N : Int)) (((k + 1 : Nat) : Int)) 43 nm st hi ke tx wy)) 0 0 (adIn (refW E ρ th rc ((N : Int)) ((k : Int)) kd nm st hi ke tx wy)) := by
  refine mk_met (by decide) rfl (Nat.le_of_ble_eq_true rfl) ?_
  intro p e s m args below meth c hx hb hrt hml hts hown hlocks hnm hP hK ls hl
  have hown : s.vm.findClass RX6 = some m.cls := hown
  have hl : lv_has ls 1 [(0, .ref (ρ 0))] := hl
  have hD : va_D (adIn (refW E ρ th rc ((N : Int)) ((k : Int)) kd nm st hi ke tx wy)) (refW E ρ th rc ((N : Int)) ((k : Int)) kd nm st hi ke tx wy) := D_of_dR hρ rfl
  have hS : va_S (adIn (refW E ρ th rc ((N : Int)) ((k : Int)) kd nm st hi ke tx wy)) s.heap s.heap [] := va_S.rf
  have hB0 := hB.1
  have hBk := hB.2 k
  have hBk1 := hB.2 (k + 1)
  refine lv_aload_n hx hb dX6_readsAct_0 rfl (lv_lk hl rfl) ?_
  refine lv_aload_n hx hb dX6_readsAct_1 rfl (lv_lk hl rfl) ?_
  refine va_get (D := E.1) (ci := 6) hx hb hts inX6 hown hK.1 hP 0 rfl rfl 8 (by decide) (hts _ fl_X6_137) (fun _ h9 => h9) rfl dX6_readsAct_2 ?_
  refine lv_aload_n hx hb dX6_readsAct_5 rfl (lv_lk hl rfl) ?_
  refine va_get (D := E.1) (ci := 6) hx hb hts inX6 hown hK.1 hP 0 rfl rfl 6 (by decide) (hts _ fl_X6_134) (fun _ h9 => h9) rfl dX6_readsAct_6 ?_
  refine iv_icmp_ge (tgt := 24) hx hb dX6_readsAct_9 (by decide) (by omega) (by omega) (fun c_9 => by exfalso; omega) (fun c_9 => ?_)
  refine lv_aload_n hx hb dX6_readsAct_12 rfl (lv_lk hl rfl) ?_
  refine va_get (D := E.1) (ci := 6) hx hb hts inX6 hown hK.1 hP 0 rfl rfl 5 (by decide) (hts _ fl_X6_19) (fun _ h9 => h9) rfl dX6_readsAct_13 ?_
  refine lv_aload_n hx hb dX6_readsAct_16 rfl (lv_lk hl rfl) ?_
  refine va_get (D := E.1) (ci := 6) hx hb hts inX6 hown hK.1 hP 0 rfl rfl 8 (by decide) (hts _ fl_X6_137) (fun _ h9 => h9) rfl dX6_readsAct_17 ?_
  refine iv_iald hx hb hK hP 4 rfl (k) (by omega) (by omega) dX6_readsAct_20 ?_
  refine lv_goto (tgt := 25) hx hb dX6_readsAct_21 (by decide) ?_
  refine iv_eq (43) (by omega) ?_
  refine va_put (ci := 6) (ty := .int) hx hb hts inX6 tyX6 tyX6_ok nmX6 hown hK.1 hP (dm hD rfl) hS 0 rfl rfl 9 (by decide) (hts _ fl_X6_147) (fun _ h9 => h9) rfl (by decide +kernel) rfl rfl (Nat.le_of_ble_eq_true rfl) dX6_readsAct_25 (fun H locs hP _ hS => ?_)
  have hP : va_P E.1 vwCl (refW E ρ th rc ((N : Int)) ((k : Int)) 43 nm st hi ke tx wy) H := hP
  refine lv_aload_n hx hb dX6_readsAct_28 rfl (lv_lk hl rfl) ?_
  refine iv_bipush hx hb dX6_readsAct_29 (by decide +kernel) ?_
  refine iv_bipush hx hb dX6_readsAct_31 (by decide +kernel) ?_
  refine call_F (va_runV ⟨hx, hb, hml, hown, hts⟩ (m_X6_accepts_ok l E ρ th rc 43 nm st hi ke tx wy hρ N k (by omega) hB 43 43 (by omega) (by omega) (by omega)) (cwV 2 hts (gi_V ml_X6_140 im_X6_accepts sl_X6_accepts it_X6 cd_X6_accepts) rfl rfl rfl (by decide +kernel) ⟨Nat.le_of_ble_eq_true rfl, Nat.le_of_ble_eq_true rfl⟩) (pR_V (q0 := 0) (ci := 6) hP hK rfl rfl) rfl rfl hl.1 rfl (lv_room (Nat.le_of_ble_eq_true rfl)) dX6_readsAct_33 ⟨Nat.le_of_ble_eq_true rfl, Nat.le_of_ble_eq_true rfl⟩) (dm hD rfl) hS rfl (fun H locs hP hS => ?_)
  have hP : va_P E.1 vwCl (refW E ρ th rc ((N : Int)) (((k + 1 : Nat) : Int)) 43 nm st hi ke tx wy) H := hP
  refine iv_if_eq (tgt := 47) hx hb dX6_readsAct_36 (by decide) (by omega) (fun c_36 => by exfalso; omega) (fun c_36 => ?_)
  refine lv_aload_n hx hb dX6_readsAct_39 rfl (lv_lk hl rfl) ?_
  refine iv_iconst hx hb dX6_readsAct_40 ?_
  refine iv_bipush hx hb dX6_readsAct_41 (by decide +kernel) ?_
  refine call_F (va_runV ⟨hx, hb, hml, hown, hts⟩ (m_X6_readsNumber_bad l E ρ th rc 43 nm st hi ke tx wy hρ N (k + 1) (by omega) hB 1 99 (by omega) (by omega) (by omega)) (cwV 2 hts (gi_V ml_X6_150 im_X6_readsNumber sl_X6_readsNumber it_X6 cd_X6_readsNumber) rfl rfl rfl (by decide +kernel) ⟨Nat.le_of_ble_eq_true rfl, Nat.le_of_ble_eq_true rfl⟩) (pR_V (q0 := 0) (ci := 6) hP hK rfl rfl) rfl rfl hl.1 rfl (lv_room (Nat.le_of_ble_eq_true rfl)) dX6_readsAct_43 ⟨Nat.le_of_ble_eq_true rfl, Nat.le_of_ble_eq_true rfl⟩) (dm hD rfl) hS rfl (fun H locs hP hS => ?_)
  have hP : va_P E.1 vwCl (refW E ρ th rc ((N : Int)) (((k + 1 : Nat) : Int)) 43 nm st hi ke tx wy) H := hP
  exact W.zret (ty := .boolean) hx hb hrt (by rfl) (fun t ht hW => ⟨rfl, by rw [ht]; exact hP, hS.F ht⟩) hS.2.2 dX6_readsAct_46 hlocks
set_option maxHeartbeats 4000000 in
set_option maxRecDepth 100000 in
theorem m_X6_readsAct_ok63 (l : Launch) (E : Env3) (ρ : Nat → Nat) (th rc kd nm : Int) (st hi ke tx wy : S) (hρ : dR ρ 6) (N k : Nat) (hk : k ≤ N) (hB : txB N tx) (h8 : k < N) (h7 : tx k = 63) (h9 : k + 1 < N ∧ 48 + 0 ≤ tx (k + 1) ∧ tx (k + 1) ≤ 57) : Met l yX6_readsAct (Cond.code yX6_readsAct cX6_readsAct 1 (some .boolean) :: ALL) ({ frames := 3, cells := 0, slots := 0, locals := 67 }) (pR [.ref (ρ 0)] E (refW E ρ th rc ((N : Int)) ((k : Int)) kd nm st hi ke tx wy)) (qW (some (.int (I 1))) E (refW E ρ th rc ((N : Int)) ((k : Int)) kd nm st hi ke tx wy) (refW E ρ th rc ((N : Int)) (((runN (N - (k + 1 + 1)) tx (k + 1 + 1) (tx (k + 1) - 48) 35).1 : Int)) 63 ((runN (N - (k + 1 + 1)) tx (k + 1 + 1) (tx (k + 1) - 48) 35).2) st hi ke tx wy)) 0 0 (adIn (refW E ρ th rc ((N : Int)) ((k : Int)) kd nm st hi ke tx wy)) := by
  refine mk_met (by decide) rfl (Nat.le_of_ble_eq_true rfl) ?_
  intro p e s m args below meth c hx hb hrt hml hts hown hlocks hnm hP hK ls hl
  have hown : s.vm.findClass RX6 = some m.cls := hown
  have hl : lv_has ls 1 [(0, .ref (ρ 0))] := hl
  have hD : va_D (adIn (refW E ρ th rc ((N : Int)) ((k : Int)) kd nm st hi ke tx wy)) (refW E ρ th rc ((N : Int)) ((k : Int)) kd nm st hi ke tx wy) := D_of_dR hρ rfl
  have hS : va_S (adIn (refW E ρ th rc ((N : Int)) ((k : Int)) kd nm st hi ke tx wy)) s.heap s.heap [] := va_S.rf
  have hB0 := hB.1
  have hBk := hB.2 k
  have hBk1 := hB.2 (k + 1)
  refine lv_aload_n hx hb dX6_readsAct_0 rfl (lv_lk hl rfl) ?_
  refine lv_aload_n hx hb dX6_readsAct_1 rfl (lv_lk hl rfl) ?_
  refine va_get (D := E.1) (ci := 6) hx hb hts inX6 hown hK.1 hP 0 rfl rfl 8 (by decide) (hts _ fl_X6_137) (fun _ h9 => h9) rfl dX6_readsAct_2 ?_
  refine lv_aload_n hx hb dX6_readsAct_5 rfl (lv_lk hl rfl) ?_
  refine va_get (D := E.1) (ci := 6) hx hb hts inX6 hown hK.1 hP 0 rfl rfl 6 (by decide) (hts _ fl_X6_134) (fun _ h9 => h9) rfl dX6_readsAct_6 ?_
  refine iv_icmp_ge (tgt := 24) hx hb dX6_readsAct_9 (by decide) (by omega) (by omega) (fun c_9 => by exfalso; omega) (fun c_9 => ?_)
  refine lv_aload_n hx hb dX6_readsAct_12 rfl (lv_lk hl rfl) ?_
  refine va_get (D := E.1) (ci := 6) hx hb hts inX6 hown hK.1 hP 0 rfl rfl 5 (by decide) (hts _ fl_X6_19) (fun _ h9 => h9) rfl dX6_readsAct_13 ?_
  refine lv_aload_n hx hb dX6_readsAct_16 rfl (lv_lk hl rfl) ?_
  refine va_get (D := E.1) (ci := 6) hx hb hts inX6 hown hK.1 hP 0 rfl rfl 8 (by decide) (hts _ fl_X6_137) (fun _ h9 => h9) rfl dX6_readsAct_17 ?_
  refine iv_iald hx hb hK hP 4 rfl (k) (by omega) (by omega) dX6_readsAct_20 ?_
  refine lv_goto (tgt := 25) hx hb dX6_readsAct_21 (by decide) ?_
  refine iv_eq (63) (by omega) ?_
  refine va_put (ci := 6) (ty := .int) hx hb hts inX6 tyX6 tyX6_ok nmX6 hown hK.1 hP (dm hD rfl) hS 0 rfl rfl 9 (by decide) (hts _ fl_X6_147) (fun _ h9 => h9) rfl (by decide +kernel) rfl rfl (Nat.le_of_ble_eq_true rfl) dX6_readsAct_25 (fun H locs hP _ hS => ?_)
  have hP : va_P E.1 vwCl (refW E ρ th rc ((N : Int)) ((k : Int)) 63 nm st hi ke tx wy) H := hP
  refine lv_aload_n hx hb dX6_readsAct_28 rfl (lv_lk hl rfl) ?_
  refine iv_bipush hx hb dX6_readsAct_29 (by decide +kernel) ?_
  refine iv_bipush hx hb dX6_readsAct_31 (by decide +kernel) ?_
  refine call_F (va_runV ⟨hx, hb, hml, hown, hts⟩ (m_X6_accepts_bad l E ρ th rc 63 nm st hi ke tx wy hρ N k (by omega) hB 43 43 (by omega) (by omega) (by omega)) (cwV 2 hts (gi_V ml_X6_140 im_X6_accepts sl_X6_accepts it_X6 cd_X6_accepts) rfl rfl rfl (by decide +kernel) ⟨Nat.le_of_ble_eq_true rfl, Nat.le_of_ble_eq_true rfl⟩) (pR_V (q0 := 0) (ci := 6) hP hK rfl rfl) rfl rfl hl.1 rfl (lv_room (Nat.le_of_ble_eq_true rfl)) dX6_readsAct_33 ⟨Nat.le_of_ble_eq_true rfl, Nat.le_of_ble_eq_true rfl⟩) (dm hD rfl) hS rfl (fun H locs hP hS => ?_)
  have hP : va_P E.1 vwCl (refW E ρ th rc ((N : Int)) ((k : Int)) 63 nm st hi ke tx wy) H := hP
  refine iv_if_eq (tgt := 47) hx hb dX6_readsAct_36 (by decide) (by omega) (fun c_36 => ?_) (fun c_36 => by exfalso; omega)
  refine lv_aload_n hx hb dX6_readsAct_47 rfl (lv_lk hl rfl) ?_
  refine iv_bipush hx hb dX6_readsAct_48 (by decide +kernel) ?_
  refine iv_bipush hx hb dX6_readsAct_50 (by decide +kernel) ?_
  refine call_F (va_runV ⟨hx, hb, hml, hown, hts⟩ (m_X6_accepts_ok l E ρ th rc 63 nm st hi ke tx wy hρ N k (by omega) hB 63 63 (by omega) (by omega) (by omega)) (cwV 2 hts (gi_V ml_X6_140 im_X6_accepts sl_X6_accepts it_X6 cd_X6_accepts) rfl rfl rfl (by decide +kernel) ⟨Nat.le_of_ble_eq_true rfl, Nat.le_of_ble_eq_true rfl⟩) (pR_V (q0 := 0) (ci := 6) hP hK rfl rfl) rfl rfl hl.1 rfl (lv_room (Nat.le_of_ble_eq_true rfl)) dX6_readsAct_52 ⟨Nat.le_of_ble_eq_true rfl, Nat.le_of_ble_eq_true rfl⟩) (dm hD rfl) hS rfl (fun H locs hP hS => ?_)
  have hP : va_P E.1 vwCl (refW E ρ th rc ((N : Int)) (((k + 1 : Nat) : Int)) 63 nm st hi ke tx wy) H := hP
  refine iv_if_eq (tgt := 72) hx hb dX6_readsAct_55 (by decide) (by omega) (fun c_55 => by exfalso; omega) (fun c_55 => ?_)
  refine lv_aload_n hx hb dX6_readsAct_58 rfl (lv_lk hl rfl) ?_
  refine iv_iconst hx hb dX6_readsAct_59 ?_
  refine iv_bipush hx hb dX6_readsAct_60 (by decide +kernel) ?_
  refine call_F (va_runV ⟨hx, hb, hml, hown, hts⟩ (m_X6_readsNumber_ok l E ρ th rc 63 nm st hi ke tx wy hρ N (k + 1) (by omega) hB 0 35 (by omega) (by omega) (by omega)) (cwV 2 hts (gi_V ml_X6_150 im_X6_readsNumber sl_X6_readsNumber it_X6 cd_X6_readsNumber) rfl rfl rfl (by decide +kernel) ⟨Nat.le_of_ble_eq_true rfl, Nat.le_of_ble_eq_true rfl⟩) (pR_V (q0 := 0) (ci := 6) hP hK rfl rfl) rfl rfl hl.1 rfl (lv_room (Nat.le_of_ble_eq_true rfl)) dX6_readsAct_62 ⟨Nat.le_of_ble_eq_true rfl, Nat.le_of_ble_eq_true rfl⟩) (dm hD rfl) hS rfl (fun H locs hP hS => ?_)
  have hP : va_P E.1 vwCl (refW E ρ th rc ((N : Int)) (((runN (N - (k + 1 + 1)) tx (k + 1 + 1) (tx (k + 1) - 48) 35).1 : Int)) 63 ((runN (N - (k + 1 + 1)) tx (k + 1 + 1) (tx (k + 1) - 48) 35).2) st hi ke tx wy) H := hP
  refine iv_if_eq (tgt := 72) hx hb dX6_readsAct_65 (by decide) (by omega) (fun c_65 => by exfalso; omega) (fun c_65 => ?_)
  refine iv_iconst hx hb dX6_readsAct_68 ?_
  refine lv_goto (tgt := 73) hx hb dX6_readsAct_69 (by decide) ?_
  exact W.zret (ty := .boolean) hx hb hrt (by rfl) (fun t ht hW => ⟨rfl, by rw [ht]; exact hP, hS.F ht⟩) hS.2.2 dX6_readsAct_73 hlocks
set_option maxHeartbeats 4000000 in
set_option maxRecDepth 100000 in
theorem m_X6_readsAct_bad63 (l : Launch) (E : Env3) (ρ : Nat → Nat) (th rc kd nm : Int) (st hi ke tx wy : S) (hρ : dR ρ 6) (N k : Nat) (hk : k ≤ N) (hB : txB N tx) (h8 : k < N) (h7 : tx k = 63) (h9 : ¬ (k + 1 < N ∧ 48 + 0 ≤ tx (k + 1) ∧ tx (k + 1) ≤ 57)) : Met l yX6_readsAct (Cond.code yX6_readsAct cX6_readsAct 1 (some .boolean) :: ALL) ({ frames := 3, cells := 0, slots := 0, locals := 67 }) (pR [.ref (ρ 0)] E (refW E ρ th rc ((N : Int)) ((k : Int)) kd nm st hi ke tx wy)) (qW (some (.int (I 0))) E (refW E ρ th rc ((N : Int)) ((k : Int)) kd nm st hi ke tx wy) (refW E ρ th rc ((N : Int)) (((k + 1 : Nat) : Int)) 63 nm st hi ke tx wy)) 0 0 (adIn (refW E ρ th rc ((N : Int)) ((k : Int)) kd nm st hi ke tx wy)) := by
  refine mk_met (by decide) rfl (Nat.le_of_ble_eq_true rfl) ?_
  intro p e s m args below meth c hx hb hrt hml hts hown hlocks hnm hP hK ls hl
  have hown : s.vm.findClass RX6 = some m.cls := hown
  have hl : lv_has ls 1 [(0, .ref (ρ 0))] := hl
  have hD : va_D (adIn (refW E ρ th rc ((N : Int)) ((k : Int)) kd nm st hi ke tx wy)) (refW E ρ th rc ((N : Int)) ((k : Int)) kd nm st hi ke tx wy) := D_of_dR hρ rfl
  have hS : va_S (adIn (refW E ρ th rc ((N : Int)) ((k : Int)) kd nm st hi ke tx wy)) s.heap s.heap [] := va_S.rf
  have hB0 := hB.1
  have hBk := hB.2 k
  have hBk1 := hB.2 (k + 1)
  refine lv_aload_n hx hb dX6_readsAct_0 rfl (lv_lk hl rfl) ?_
  refine lv_aload_n hx hb dX6_readsAct_1 rfl (lv_lk hl rfl) ?_
  refine va_get (D := E.1) (ci := 6) hx hb hts inX6 hown hK.1 hP 0 rfl rfl 8 (by decide) (hts _ fl_X6_137) (fun _ h9 => h9) rfl dX6_readsAct_2 ?_
  refine lv_aload_n hx hb dX6_readsAct_5 rfl (lv_lk hl rfl) ?_
  refine va_get (D := E.1) (ci := 6) hx hb hts inX6 hown hK.1 hP 0 rfl rfl 6 (by decide) (hts _ fl_X6_134) (fun _ h9 => h9) rfl dX6_readsAct_6 ?_
  refine iv_icmp_ge (tgt := 24) hx hb dX6_readsAct_9 (by decide) (by omega) (by omega) (fun c_9 => by exfalso; omega) (fun c_9 => ?_)
  refine lv_aload_n hx hb dX6_readsAct_12 rfl (lv_lk hl rfl) ?_
  refine va_get (D := E.1) (ci := 6) hx hb hts inX6 hown hK.1 hP 0 rfl rfl 5 (by decide) (hts _ fl_X6_19) (fun _ h9 => h9) rfl dX6_readsAct_13 ?_
  refine lv_aload_n hx hb dX6_readsAct_16 rfl (lv_lk hl rfl) ?_
  refine va_get (D := E.1) (ci := 6) hx hb hts inX6 hown hK.1 hP 0 rfl rfl 8 (by decide) (hts _ fl_X6_137) (fun _ h9 => h9) rfl dX6_readsAct_17 ?_
  refine iv_iald hx hb hK hP 4 rfl (k) (by omega) (by omega) dX6_readsAct_20 ?_
  refine lv_goto (tgt := 25) hx hb dX6_readsAct_21 (by decide) ?_
  refine iv_eq (63) (by omega) ?_
  refine va_put (ci := 6) (ty := .int) hx hb hts inX6 tyX6 tyX6_ok nmX6 hown hK.1 hP (dm hD rfl) hS 0 rfl rfl 9 (by decide) (hts _ fl_X6_147) (fun _ h9 => h9) rfl (by decide +kernel) rfl rfl (Nat.le_of_ble_eq_true rfl) dX6_readsAct_25 (fun H locs hP _ hS => ?_)
  have hP : va_P E.1 vwCl (refW E ρ th rc ((N : Int)) ((k : Int)) 63 nm st hi ke tx wy) H := hP
  refine lv_aload_n hx hb dX6_readsAct_28 rfl (lv_lk hl rfl) ?_
  refine iv_bipush hx hb dX6_readsAct_29 (by decide +kernel) ?_
  refine iv_bipush hx hb dX6_readsAct_31 (by decide +kernel) ?_
  refine call_F (va_runV ⟨hx, hb, hml, hown, hts⟩ (m_X6_accepts_bad l E ρ th rc 63 nm st hi ke tx wy hρ N k (by omega) hB 43 43 (by omega) (by omega) (by omega)) (cwV 2 hts (gi_V ml_X6_140 im_X6_accepts sl_X6_accepts it_X6 cd_X6_accepts) rfl rfl rfl (by decide +kernel) ⟨Nat.le_of_ble_eq_true rfl, Nat.le_of_ble_eq_true rfl⟩) (pR_V (q0 := 0) (ci := 6) hP hK rfl rfl) rfl rfl hl.1 rfl (lv_room (Nat.le_of_ble_eq_true rfl)) dX6_readsAct_33 ⟨Nat.le_of_ble_eq_true rfl, Nat.le_of_ble_eq_true rfl⟩) (dm hD rfl) hS rfl (fun H locs hP hS => ?_)
  have hP : va_P E.1 vwCl (refW E ρ th rc ((N : Int)) ((k : Int)) 63 nm st hi ke tx wy) H := hP
  refine iv_if_eq (tgt := 47) hx hb dX6_readsAct_36 (by decide) (by omega) (fun c_36 => ?_) (fun c_36 => by exfalso; omega)
  refine lv_aload_n hx hb dX6_readsAct_47 rfl (lv_lk hl rfl) ?_
  refine iv_bipush hx hb dX6_readsAct_48 (by decide +kernel) ?_
  refine iv_bipush hx hb dX6_readsAct_50 (by decide +kernel) ?_
  refine call_F (va_runV ⟨hx, hb, hml, hown, hts⟩ (m_X6_accepts_ok l E ρ th rc 63 nm st hi ke tx wy hρ N k (by omega) hB 63 63 (by omega) (by omega) (by omega)) (cwV 2 hts (gi_V ml_X6_140 im_X6_accepts sl_X6_accepts it_X6 cd_X6_accepts) rfl rfl rfl (by decide +kernel) ⟨Nat.le_of_ble_eq_true rfl, Nat.le_of_ble_eq_true rfl⟩) (pR_V (q0 := 0) (ci := 6) hP hK rfl rfl) rfl rfl hl.1 rfl (lv_room (Nat.le_of_ble_eq_true rfl)) dX6_readsAct_52 ⟨Nat.le_of_ble_eq_true rfl, Nat.le_of_ble_eq_true rfl⟩) (dm hD rfl) hS rfl (fun H locs hP hS => ?_)
  have hP : va_P E.1 vwCl (refW E ρ th rc ((N : Int)) (((k + 1 : Nat) : Int)) 63 nm st hi ke tx wy) H := hP
  refine iv_if_eq (tgt := 72) hx hb dX6_readsAct_55 (by decide) (by omega) (fun c_55 => by exfalso; omega) (fun c_55 => ?_)
  refine lv_aload_n hx hb dX6_readsAct_58 rfl (lv_lk hl rfl) ?_
  refine iv_iconst hx hb dX6_readsAct_59 ?_
  refine iv_bipush hx hb dX6_readsAct_60 (by decide +kernel) ?_
  refine call_F (va_runV ⟨hx, hb, hml, hown, hts⟩ (m_X6_readsNumber_bad l E ρ th rc 63 nm st hi ke tx wy hρ N (k + 1) (by omega) hB 0 35 (by omega) (by omega) (by omega)) (cwV 2 hts (gi_V ml_X6_150 im_X6_readsNumber sl_X6_readsNumber it_X6 cd_X6_readsNumber) rfl rfl rfl (by decide +kernel) ⟨Nat.le_of_ble_eq_true rfl, Nat.le_of_ble_eq_true rfl⟩) (pR_V (q0 := 0) (ci := 6) hP hK rfl rfl) rfl rfl hl.1 rfl (lv_room (Nat.le_of_ble_eq_true rfl)) dX6_readsAct_62 ⟨Nat.le_of_ble_eq_true rfl, Nat.le_of_ble_eq_true rfl⟩) (dm hD rfl) hS rfl (fun H locs hP hS => ?_)
  have hP : va_P E.1 vwCl (refW E ρ th rc ((N : Int)) (((k + 1 : Nat) : Int)) 63 nm st hi ke tx wy) H := hP
  refine iv_if_eq (tgt := 72) hx hb dX6_readsAct_65 (by decide) (by omega) (fun c_65 => ?_) (fun c_65 => by exfalso; omega)
  refine iv_iconst hx hb dX6_readsAct_72 ?_
  exact W.zret (ty := .boolean) hx hb hrt (by rfl) (fun t ht hW => ⟨rfl, by rw [ht]; exact hP, hS.F ht⟩) hS.2.2 dX6_readsAct_73 hlocks
set_option maxHeartbeats 4000000 in
set_option maxRecDepth 100000 in
theorem m_X6_readsAct_none (l : Launch) (E : Env3) (ρ : Nat → Nat) (th rc kd nm : Int) (st hi ke tx wy : S) (hρ : dR ρ 6) (N k : Nat) (hk : k ≤ N) (hB : txB N tx) (h9 : k < N → tx k ≠ 63 ∧ tx k ≠ 43) : Met l yX6_readsAct (Cond.code yX6_readsAct cX6_readsAct 1 (some .boolean) :: ALL) ({ frames := 3, cells := 0, slots := 0, locals := 67 }) (pR [.ref (ρ 0)] E (refW E ρ th rc ((N : Int)) ((k : Int)) kd nm st hi ke tx wy)) (qW (some (.int (I 0))) E (refW E ρ th rc ((N : Int)) ((k : Int)) kd nm st hi ke tx wy) (refW E ρ th rc ((N : Int)) ((k : Int)) (if k < N then tx k else -1) nm st hi ke tx wy)) 0 0 (adIn (refW E ρ th rc ((N : Int)) ((k : Int)) kd nm st hi ke tx wy)) := by
  refine mk_met (by decide) rfl (Nat.le_of_ble_eq_true rfl) ?_
  intro p e s m args below meth c hx hb hrt hml hts hown hlocks hnm hP hK ls hl
  have hown : s.vm.findClass RX6 = some m.cls := hown
  have hl : lv_has ls 1 [(0, .ref (ρ 0))] := hl
  have hD : va_D (adIn (refW E ρ th rc ((N : Int)) ((k : Int)) kd nm st hi ke tx wy)) (refW E ρ th rc ((N : Int)) ((k : Int)) kd nm st hi ke tx wy) := D_of_dR hρ rfl
  have hS : va_S (adIn (refW E ρ th rc ((N : Int)) ((k : Int)) kd nm st hi ke tx wy)) s.heap s.heap [] := va_S.rf
  have hB0 := hB.1
  have hBk := hB.2 k
  have hBk1 := hB.2 (k + 1)
  have CUT25 : ∀ (H : Heap) (locs : List Loc) (ls : Array Slot), va_P E.1 vwCl (refW E ρ th rc ((N : Int)) ((k : Int)) kd nm st hi ke tx wy) H → va_S (adIn (refW E ρ th rc ((N : Int)) ((k : Int)) kd nm st hi ke tx wy)) s.heap H locs → lv_has ls 1 [(0, .ref (ρ 0))] → W p l e ({ frames := 3, cells := 0, slots := 0, locals := 67 }) s m args below meth c H locs 0 0 (MQ below (qW (some (.int (I 0))) E (refW E ρ th rc ((N : Int)) ((k : Int)) kd nm st hi ke tx wy) (refW E ρ th rc ((N : Int)) ((k : Int)) (if k < N then tx k else -1) nm st hi ke tx wy)) args s 0 0 (adIn (refW E ρ th rc ((N : Int)) ((k : Int)) kd nm st hi ke tx wy))) (F0 m 25 ls [.int (I (if k < N then tx k else -1)), .ref (ρ 0)]) := by
    intro   H locs ls hP hS hl
    refine va_put (ci := 6) (ty := .int) hx hb hts inX6 tyX6 tyX6_ok nmX6 hown hK.1 hP (dm hD rfl) hS 0 rfl rfl 9 (by decide) (hts _ fl_X6_147) (fun _ h9 => h9) rfl (by decide +kernel) rfl rfl (Nat.le_of_ble_eq_true rfl) dX6_readsAct_25 (fun H locs hP _ hS => ?_)
    have hP : va_P E.1 vwCl (refW E ρ th rc ((N : Int)) ((k : Int)) (if k < N then tx k else -1) nm st hi ke tx wy) H := hP
    refine lv_aload_n hx hb dX6_readsAct_28 rfl (lv_lk hl rfl) ?_
    refine iv_bipush hx hb dX6_readsAct_29 (by decide +kernel) ?_
    refine iv_bipush hx hb dX6_readsAct_31 (by decide +kernel) ?_
    refine call_F (va_runV ⟨hx, hb, hml, hown, hts⟩ (m_X6_accepts_bad l E ρ th rc (if k < N then tx k else -1) nm st hi ke tx wy hρ N k (by omega) hB 43 43 (by omega) (by omega) (by omega)) (cwV 2 hts (gi_V ml_X6_140 im_X6_accepts sl_X6_accepts it_X6 cd_X6_accepts) rfl rfl rfl (by decide +kernel) ⟨Nat.le_of_ble_eq_true rfl, Nat.le_of_ble_eq_true rfl⟩) (pR_V (q0 := 0) (ci := 6) hP hK rfl rfl) rfl rfl hl.1 rfl (lv_room (Nat.le_of_ble_eq_true rfl)) dX6_readsAct_33 ⟨Nat.le_of_ble_eq_true rfl, Nat.le_of_ble_eq_true rfl⟩) (dm hD rfl) hS rfl (fun H locs hP hS => ?_)
    have hP : va_P E.1 vwCl (refW E ρ th rc ((N : Int)) ((k : Int)) (if k < N then tx k else -1) nm st hi ke tx wy) H := hP
    refine iv_if_eq (tgt := 47) hx hb dX6_readsAct_36 (by decide) (by omega) (fun c_36 => ?_) (fun c_36 => by exfalso; omega)
    refine lv_aload_n hx hb dX6_readsAct_47 rfl (lv_lk hl rfl) ?_
    refine iv_bipush hx hb dX6_readsAct_48 (by decide +kernel) ?_
    refine iv_bipush hx hb dX6_readsAct_50 (by decide +kernel) ?_
    refine call_F (va_runV ⟨hx, hb, hml, hown, hts⟩ (m_X6_accepts_bad l E ρ th rc (if k < N then tx k else -1) nm st hi ke tx wy hρ N k (by omega) hB 63 63 (by omega) (by omega) (by omega)) (cwV 2 hts (gi_V ml_X6_140 im_X6_accepts sl_X6_accepts it_X6 cd_X6_accepts) rfl rfl rfl (by decide +kernel) ⟨Nat.le_of_ble_eq_true rfl, Nat.le_of_ble_eq_true rfl⟩) (pR_V (q0 := 0) (ci := 6) hP hK rfl rfl) rfl rfl hl.1 rfl (lv_room (Nat.le_of_ble_eq_true rfl)) dX6_readsAct_52 ⟨Nat.le_of_ble_eq_true rfl, Nat.le_of_ble_eq_true rfl⟩) (dm hD rfl) hS rfl (fun H locs hP hS => ?_)
    have hP : va_P E.1 vwCl (refW E ρ th rc ((N : Int)) ((k : Int)) (if k < N then tx k else -1) nm st hi ke tx wy) H := hP
    refine iv_if_eq (tgt := 72) hx hb dX6_readsAct_55 (by decide) (by omega) (fun c_55 => ?_) (fun c_55 => by exfalso; omega)
    refine iv_iconst hx hb dX6_readsAct_72 ?_
    exact W.zret (ty := .boolean) hx hb hrt (by rfl) (fun t ht hW => ⟨rfl, by rw [ht]; exact hP, hS.F ht⟩) hS.2.2 dX6_readsAct_73 hlocks
  refine lv_aload_n hx hb dX6_readsAct_0 rfl (lv_lk hl rfl) ?_
  refine lv_aload_n hx hb dX6_readsAct_1 rfl (lv_lk hl rfl) ?_
  refine va_get (D := E.1) (ci := 6) hx hb hts inX6 hown hK.1 hP 0 rfl rfl 8 (by decide) (hts _ fl_X6_137) (fun _ h9 => h9) rfl dX6_readsAct_2 ?_
  refine lv_aload_n hx hb dX6_readsAct_5 rfl (lv_lk hl rfl) ?_
  refine va_get (D := E.1) (ci := 6) hx hb hts inX6 hown hK.1 hP 0 rfl rfl 6 (by decide) (hts _ fl_X6_134) (fun _ h9 => h9) rfl dX6_readsAct_6 ?_
  refine iv_icmp_ge (tgt := 24) hx hb dX6_readsAct_9 (by decide) (by omega) (by omega) (fun c_9 => ?_) (fun c_9 => ?_)
  · refine iv_iconst hx hb dX6_readsAct_24 ?_
    refine iv_eq (if k < N then tx k else -1) (by rw [if_neg (by omega)]) ?_
    exact CUT25  _ _ _ hP hS (lv_sub hl [0] rfl)
  · refine lv_aload_n hx hb dX6_readsAct_12 rfl (lv_lk hl rfl) ?_
    refine va_get (D := E.1) (ci := 6) hx hb hts inX6 hown hK.1 hP 0 rfl rfl 5 (by decide) (hts _ fl_X6_19) (fun _ h9 => h9) rfl dX6_readsAct_13 ?_
    refine lv_aload_n hx hb dX6_readsAct_16 rfl (lv_lk hl rfl) ?_
    refine va_get (D := E.1) (ci := 6) hx hb hts inX6 hown hK.1 hP 0 rfl rfl 8 (by decide) (hts _ fl_X6_137) (fun _ h9 => h9) rfl dX6_readsAct_17 ?_
    refine iv_iald hx hb hK hP 4 rfl (k) (by omega) (by omega) dX6_readsAct_20 ?_
    refine lv_goto (tgt := 25) hx hb dX6_readsAct_21 (by decide) ?_
    refine iv_eq (if k < N then tx k else -1) (by rw [if_pos (by omega)]) ?_
    exact CUT25  _ _ _ hP hS (lv_sub hl [0] rfl)
end
section
/-! the reference, ninth part: acts; written by ref.py -/
set_option maxHeartbeats 4000000 in
set_option maxRecDepth 100000 in
theorem m_X6_findError (l : Launch) (E : Env3) (ρ : Nat → Nat) (th rc pa kd nm : Int) (st hi ke tx wy : S) (hρ : dR ρ 6) (N : Nat) (hB : txB N tx) : Met l yX6_findError (Cond.code yX6_findError cX6_findError 1 (some .int) :: ALL) ({ frames := 4, cells := 0, slots := 0, locals := 87 }) (pR [.ref (ρ 0)] E (refW E ρ th rc ((N : Int)) pa kd nm st hi ke tx wy)) (qX (some (.int (I (pmF N tx 0 (-1) (-1))))) E (refW E ρ th rc ((N : Int)) pa kd nm st hi ke tx wy) (fun (g : Int × Int × Int) => (refW E ρ th rc ((N : Int)) g.1 g.2.1 g.2.2 st hi ke tx wy))) 0 0 (adIn (refW E ρ th rc ((N : Int)) pa kd nm st hi ke tx wy)) := by
  refine mk_met (by decide) rfl (Nat.le_of_ble_eq_true rfl) ?_
  intro p e s m args below meth c hx hb hrt hml hts hown hlocks hnm hP hK ls hl
  have hown : s.vm.findClass RX6 = some m.cls := hown
  have hl : lv_has ls 1 [(0, .ref (ρ 0))] := hl
  have hD : va_D (adIn (refW E ρ th rc ((N : Int)) pa kd nm st hi ke tx wy)) (refW E ρ th rc ((N : Int)) pa kd nm st hi ke tx wy) := D_of_dR hρ rfl
  have hS : va_S (adIn (refW E ρ th rc ((N : Int)) pa kd nm st hi ke tx wy)) s.heap s.heap [] := va_S.rf
  refine lv_aload_n hx hb dX6_findError_0 rfl (lv_lk hl rfl) ?_
  refine iv_iconst hx hb dX6_findError_1 ?_
  refine va_put (ci := 6) (ty := .int) hx hb hts inX6 tyX6 tyX6_ok nmX6 hown hK.1 hP (dm hD rfl) hS 0 rfl rfl 8 (by decide) (hts _ fl_X6_137) (fun _ h9 => h9) rfl (by decide +kernel) rfl rfl (Nat.le_of_ble_eq_true rfl) dX6_findError_2 (fun H locs hP _ hS => ?_)
  have hP : va_P E.1 vwCl (refW E ρ th rc ((N : Int)) (((0 : Nat) : Int)) kd nm st hi ke tx wy) H := hP
  have LOOP5 : ∀ (n9 i : Nat) (kd1 nm1 : Int), (N - i ≤ n9) → (i ≤ N) → (pmF (N - i) tx i (-1) (-1) = pmF N tx 0 (-1) (-1)) → ∀ (H : Heap) (locs : List Loc) (ls : Array Slot), va_P E.1 vwCl (refW E ρ th rc ((N : Int)) ((i : Int)) kd1 nm1 st hi ke tx wy) H → va_S (adIn (refW E ρ th rc ((N : Int)) pa kd nm st hi ke tx wy)) s.heap H locs → lv_has ls 1 [(0, .ref (ρ 0))] → W p l e ({ frames := 4, cells := 0, slots := 0, locals := 87 }) s m args below meth c H locs 0 0 (MQ below (qX (some (.int (I (pmF N tx 0 (-1) (-1))))) E (refW E ρ th rc ((N : Int)) pa kd nm st hi ke tx wy) (fun (g : Int × Int × Int) => (refW E ρ th rc ((N : Int)) g.1 g.2.1 g.2.2 st hi ke tx wy))) args s 0 0 (adIn (refW E ρ th rc ((N : Int)) pa kd nm st hi ke tx wy))) (F0 m 5 ls []) := by
    intro n9
    induction n9 with
    | zero =>
      intro  i kd1 nm1 hn9 hi8 he9 H locs ls hP hS hl
      have hB0 := hB.1
      refine lv_aload_n hx hb dX6_findError_5 rfl (lv_lk hl rfl) ?_
      refine call_F (va_runV ⟨hx, hb, hml, hown, hts⟩ (m_X6_readsAct_none l E ρ th rc kd1 nm1 st hi ke tx wy hρ N i (by omega) hB (by omega)) (cwV 0 hts (gi_V ml_X6_153 im_X6_readsAct sl_X6_readsAct it_X6 cd_X6_readsAct) rfl rfl rfl (by decide +kernel) ⟨Nat.le_of_ble_eq_true rfl, Nat.le_of_ble_eq_true rfl⟩) (pR_V (q0 := 0) (ci := 6) hP hK rfl rfl) rfl rfl hl.1 rfl (lv_room (Nat.le_of_ble_eq_true rfl)) dX6_findError_6 ⟨Nat.le_of_ble_eq_true rfl, Nat.le_of_ble_eq_true rfl⟩) (dm hD rfl) hS rfl (fun H locs hP hS => ?_)
      have hP : va_P E.1 vwCl (refW E ρ th rc ((N : Int)) ((i : Int)) (if i < N then tx i else -1) nm1 st hi ke tx wy) H := hP
      refine iv_if_ne (tgt := 17) hx hb dX6_findError_9 (by decide) (by omega) (fun c_9 => by exfalso; omega) (fun c_9 => ?_)
      refine lv_aload_n hx hb dX6_findError_12 rfl (lv_lk hl rfl) ?_
      refine va_get (D := E.1) (ci := 6) hx hb hts inX6 hown hK.1 hP 0 rfl rfl 8 (by decide) (hts _ fl_X6_137) (fun _ h9 => h9) rfl dX6_findError_13 ?_
      refine iv_eq (pmF N tx 0 (-1) (-1)) (by rw [← he9, pm_bad0 (by omega) (by omega)]) ?_
      exact W.iret hx hb hrt (fun t ht hW => ⟨rfl, ⟨((i : Int), if i < N then tx i else -1, nm1), by rw [ht]; exact hP⟩, hS.F ht⟩) hS.2.2 dX6_findError_16 hlocks
    | succ n9 ih =>
      intro  i kd1 nm1 hn9 hi8 he9 H locs ls hP hS hl
      have hBi := hB.2 i
      have hBi1 := hB.2 (i + 1)
      have hB0 := hB.1
      by_cases h2 : i < N ∧ tx i = 43
      · by_cases h1 : i + 1 < N ∧ 48 + 1 ≤ tx (i + 1) ∧ tx (i + 1) ≤ 57
        · refine lv_aload_n hx hb dX6_findError_5 rfl (lv_lk hl rfl) ?_
          refine call_F (va_runV ⟨hx, hb, hml, hown, hts⟩ (m_X6_readsAct_ok43 l E ρ th rc kd1 nm1 st hi ke tx wy hρ N i (by omega) hB h2.1 h2.2 h1) (cwV 0 hts (gi_V ml_X6_153 im_X6_readsAct sl_X6_readsAct it_X6 cd_X6_readsAct) rfl rfl rfl (by decide +kernel) ⟨Nat.le_of_ble_eq_true rfl, Nat.le_of_ble_eq_true rfl⟩) (pR_V (q0 := 0) (ci := 6) hP hK rfl rfl) rfl rfl hl.1 rfl (lv_room (Nat.le_of_ble_eq_true rfl)) dX6_findError_6 ⟨Nat.le_of_ble_eq_true rfl, Nat.le_of_ble_eq_true rfl⟩) (dm hD rfl) hS rfl (fun H locs hP hS => ?_)
          have hP : va_P E.1 vwCl (refW E ρ th rc ((N : Int)) (((runN (N - (i + 1 + 1)) tx (i + 1 + 1) (tx (i + 1) - 48) 99).1 : Int)) 43 ((runN (N - (i + 1 + 1)) tx (i + 1 + 1) (tx (i + 1) - 48) 99).2) st hi ke tx wy) H := hP
          obtain ⟨R, hR⟩ : ∃ x, x = runN (N - (i + 2)) tx (i + 2) (tx (i + 1) - 48) 99 := ⟨_, rfl⟩
          have hP : va_P E.1 vwCl (refW E ρ th rc ((N : Int)) ((R.1 : Int)) 43 R.2 st hi ke tx wy) H := by rw [hR]; exact hP
          have hRl : i + 2 ≤ R.1 ∧ R.1 ≤ N := by have := run_le (N - (i + 2)) tx (i + 2) (tx (i + 1) - 48) 99; rw [← hR] at this; omega
          have hBR := hB.2 R.1
          refine iv_if_ne (tgt := 17) hx hb dX6_findError_9 (by decide) (by omega) (fun c_9 => ?_) (fun c_9 => by exfalso; omega)
          refine lv_aload_n hx hb dX6_findError_17 rfl (lv_lk hl rfl) ?_
          refine va_get (D := E.1) (ci := 6) hx hb hts inX6 hown hK.1 hP 0 rfl rfl 8 (by decide) (hts _ fl_X6_137) (fun _ h9 => h9) rfl dX6_findError_18 ?_
          refine lv_aload_n hx hb dX6_findError_21 rfl (lv_lk hl rfl) ?_
          refine va_get (D := E.1) (ci := 6) hx hb hts inX6 hown hK.1 hP 0 rfl rfl 6 (by decide) (hts _ fl_X6_134) (fun _ h9 => h9) rfl dX6_findError_22 ?_
          refine iv_icmp_ne (tgt := 30) hx hb dX6_findError_25 (by decide) (by omega) (by omega) (fun c_25 => ?_) (fun c_25 => ?_)
          · refine lv_aload_n hx hb dX6_findError_30 rfl (lv_lk hl rfl) ?_
            refine va_get (D := E.1) (ci := 6) hx hb hts inX6 hown hK.1 hP 0 rfl rfl 5 (by decide) (hts _ fl_X6_19) (fun _ h9 => h9) rfl dX6_findError_31 ?_
            refine lv_aload_n hx hb dX6_findError_34 rfl (lv_lk hl rfl) ?_
            refine va_get (D := E.1) (ci := 6) hx hb hts inX6 hown hK.1 hP 0 rfl rfl 8 (by decide) (hts _ fl_X6_137) (fun _ h9 => h9) rfl dX6_findError_35 ?_
            refine iv_iald hx hb hK hP 4 rfl (R.1) (by omega) (by omega) dX6_findError_38 ?_
            refine iv_bipush hx hb dX6_findError_39 (by decide +kernel) ?_
            refine iv_icmp_eq (tgt := 49) hx hb dX6_findError_41 (by decide) (by omega) (by omega) (fun c_41 => ?_) (fun c_41 => ?_)
            · refine lv_aload_n hx hb dX6_findError_49 rfl (lv_lk hl rfl) ?_
              refine lv_dup hx hb dX6_findError_50 rfl ?_
              refine va_get (D := E.1) (ci := 6) hx hb hts inX6 hown hK.1 hP 0 rfl rfl 8 (by decide) (hts _ fl_X6_137) (fun _ h9 => h9) rfl dX6_findError_51 ?_
              refine iv_iconst hx hb dX6_findError_54 ?_
              refine iv_iadd hx hb dX6_findError_55 ?_
              refine iv_eq (((R.1 + 1 : Nat) : Int)) (by omega) ?_
              refine va_put (ci := 6) (ty := .int) hx hb hts inX6 tyX6 tyX6_ok nmX6 hown hK.1 hP (dm hD rfl) hS 0 rfl rfl 8 (by decide) (hts _ fl_X6_137) (fun _ h9 => h9) rfl (by decide +kernel) rfl rfl (Nat.le_of_ble_eq_true rfl) dX6_findError_56 (fun H locs hP _ hS => ?_)
              have hP : va_P E.1 vwCl (refW E ρ th rc ((N : Int)) (((R.1 + 1 : Nat) : Int)) 43 R.2 st hi ke tx wy) H := hP
              refine lv_goto (tgt := 5) hx hb dX6_findError_59 (by decide) ?_
              exact ih (R.1 + 1) 43 R.2 (by omega) (by omega) (by rw [← he9, pm_act (sg := 43) (lo := 1) (hi := 99) (Or.inl ⟨rfl, rfl, rfl⟩) h1.1 h2.2 h1.2, ← hR, if_neg (by omega), if_pos c_41]) H locs ls hP hS (lv_sub hl [0] rfl)
            · refine lv_aload_n hx hb dX6_findError_44 rfl (lv_lk hl rfl) ?_
              refine va_get (D := E.1) (ci := 6) hx hb hts inX6 hown hK.1 hP 0 rfl rfl 8 (by decide) (hts _ fl_X6_137) (fun _ h9 => h9) rfl dX6_findError_45 ?_
              refine iv_eq (pmF N tx 0 (-1) (-1)) (by rw [← he9, pm_act (sg := 43) (lo := 1) (hi := 99) (Or.inl ⟨rfl, rfl, rfl⟩) h1.1 h2.2 h1.2, ← hR, if_neg (by omega), if_neg c_41]) ?_
              exact W.iret hx hb hrt (fun t ht hW => ⟨rfl, ⟨((R.1 : Int), 43, R.2), by rw [ht]; exact hP⟩, hS.F ht⟩) hS.2.2 dX6_findError_48 hlocks
          · refine iv_iconst hx hb dX6_findError_28 ?_
            refine iv_eq (pmF N tx 0 (-1) (-1)) (by rw [← he9, pm_act (sg := 43) (lo := 1) (hi := 99) (Or.inl ⟨rfl, rfl, rfl⟩) h1.1 h2.2 h1.2, ← hR, if_pos (by omega)]) ?_
            exact W.iret hx hb hrt (fun t ht hW => ⟨rfl, ⟨((R.1 : Int), 43, R.2), by rw [ht]; exact hP⟩, hS.F ht⟩) hS.2.2 dX6_findError_29 hlocks
        · refine lv_aload_n hx hb dX6_findError_5 rfl (lv_lk hl rfl) ?_
          refine call_F (va_runV ⟨hx, hb, hml, hown, hts⟩ (m_X6_readsAct_bad43 l E ρ th rc kd1 nm1 st hi ke tx wy hρ N i (by omega) hB h2.1 h2.2 h1) (cwV 0 hts (gi_V ml_X6_153 im_X6_readsAct sl_X6_readsAct it_X6 cd_X6_readsAct) rfl rfl rfl (by decide +kernel) ⟨Nat.le_of_ble_eq_true rfl, Nat.le_of_ble_eq_true rfl⟩) (pR_V (q0 := 0) (ci := 6) hP hK rfl rfl) rfl rfl hl.1 rfl (lv_room (Nat.le_of_ble_eq_true rfl)) dX6_findError_6 ⟨Nat.le_of_ble_eq_true rfl, Nat.le_of_ble_eq_true rfl⟩) (dm hD rfl) hS rfl (fun H locs hP hS => ?_)
          have hP : va_P E.1 vwCl (refW E ρ th rc ((N : Int)) (((i + 1 : Nat) : Int)) 43 nm1 st hi ke tx wy) H := hP
          refine iv_if_ne (tgt := 17) hx hb dX6_findError_9 (by decide) (by omega) (fun c_9 => by exfalso; omega) (fun c_9 => ?_)
          refine lv_aload_n hx hb dX6_findError_12 rfl (lv_lk hl rfl) ?_
          refine va_get (D := E.1) (ci := 6) hx hb hts inX6 hown hK.1 hP 0 rfl rfl 8 (by decide) (hts _ fl_X6_137) (fun _ h9 => h9) rfl dX6_findError_13 ?_
          refine iv_eq (pmF N tx 0 (-1) (-1)) (by rw [← he9, pm_bad1 (sg := 43) (lo := 1) (hi := 99) (Or.inl ⟨rfl, rfl, rfl⟩) h2.1 h2.2 h1]; omega) ?_
          exact W.iret hx hb hrt (fun t ht hW => ⟨rfl, ⟨(((i + 1 : Nat) : Int), 43, nm1), by rw [ht]; exact hP⟩, hS.F ht⟩) hS.2.2 dX6_findError_16 hlocks
      · by_cases h3 : i < N ∧ tx i = 63
        · by_cases h1 : i + 1 < N ∧ 48 + 0 ≤ tx (i + 1) ∧ tx (i + 1) ≤ 57
          · refine lv_aload_n hx hb dX6_findError_5 rfl (lv_lk hl rfl) ?_
            refine call_F (va_runV ⟨hx, hb, hml, hown, hts⟩ (m_X6_readsAct_ok63 l E ρ th rc kd1 nm1 st hi ke tx wy hρ N i (by omega) hB h3.1 h3.2 h1) (cwV 0 hts (gi_V ml_X6_153 im_X6_readsAct sl_X6_readsAct it_X6 cd_X6_readsAct) rfl rfl rfl (by decide +kernel) ⟨Nat.le_of_ble_eq_true rfl, Nat.le_of_ble_eq_true rfl⟩) (pR_V (q0 := 0) (ci := 6) hP hK rfl rfl) rfl rfl hl.1 rfl (lv_room (Nat.le_of_ble_eq_true rfl)) dX6_findError_6 ⟨Nat.le_of_ble_eq_true rfl, Nat.le_of_ble_eq_true rfl⟩) (dm hD rfl) hS rfl (fun H locs hP hS => ?_)
            have hP : va_P E.1 vwCl (refW E ρ th rc ((N : Int)) (((runN (N - (i + 1 + 1)) tx (i + 1 + 1) (tx (i + 1) - 48) 35).1 : Int)) 63 ((runN (N - (i + 1 + 1)) tx (i + 1 + 1) (tx (i + 1) - 48) 35).2) st hi ke tx wy) H := hP
            obtain ⟨R, hR⟩ : ∃ x, x = runN (N - (i + 2)) tx (i + 2) (tx (i + 1) - 48) 35 := ⟨_, rfl⟩
            have hP : va_P E.1 vwCl (refW E ρ th rc ((N : Int)) ((R.1 : Int)) 63 R.2 st hi ke tx wy) H := by rw [hR]; exact hP
            have hRl : i + 2 ≤ R.1 ∧ R.1 ≤ N := by have := run_le (N - (i + 2)) tx (i + 2) (tx (i + 1) - 48) 35; rw [← hR] at this; omega
            have hBR := hB.2 R.1
            refine iv_if_ne (tgt := 17) hx hb dX6_findError_9 (by decide) (by omega) (fun c_9 => ?_) (fun c_9 => by exfalso; omega)
            refine lv_aload_n hx hb dX6_findError_17 rfl (lv_lk hl rfl) ?_
            refine va_get (D := E.1) (ci := 6) hx hb hts inX6 hown hK.1 hP 0 rfl rfl 8 (by decide) (hts _ fl_X6_137) (fun _ h9 => h9) rfl dX6_findError_18 ?_
            refine lv_aload_n hx hb dX6_findError_21 rfl (lv_lk hl rfl) ?_
            refine va_get (D := E.1) (ci := 6) hx hb hts inX6 hown hK.1 hP 0 rfl rfl 6 (by decide) (hts _ fl_X6_134) (fun _ h9 => h9) rfl dX6_findError_22 ?_
            refine iv_icmp_ne (tgt := 30) hx hb dX6_findError_25 (by decide) (by omega) (by omega) (fun c_25 => ?_) (fun c_25 => ?_)
            · refine lv_aload_n hx hb dX6_findError_30 rfl (lv_lk hl rfl) ?_
              refine va_get (D := E.1) (ci := 6) hx hb hts inX6 hown hK.1 hP 0 rfl rfl 5 (by decide) (hts _ fl_X6_19) (fun _ h9 => h9) rfl dX6_findError_31 ?_
              refine lv_aload_n hx hb dX6_findError_34 rfl (lv_lk hl rfl) ?_
              refine va_get (D := E.1) (ci := 6) hx hb hts inX6 hown hK.1 hP 0 rfl rfl 8 (by decide) (hts _ fl_X6_137) (fun _ h9 => h9) rfl dX6_findError_35 ?_
              refine iv_iald hx hb hK hP 4 rfl (R.1) (by omega) (by omega) dX6_findError_38 ?_
              refine iv_bipush hx hb dX6_findError_39 (by decide +kernel) ?_
              refine iv_icmp_eq (tgt := 49) hx hb dX6_findError_41 (by decide) (by omega) (by omega) (fun c_41 => ?_) (fun c_41 => ?_)
              · refine lv_aload_n hx hb dX6_findError_49 rfl (lv_lk hl rfl) ?_
                refine lv_dup hx hb dX6_findError_50 rfl ?_
                refine va_get (D := E.1) (ci := 6) hx hb hts inX6 hown hK.1 hP 0 rfl rfl 8 (by decide) (hts _ fl_X6_137) (fun _ h9 => h9) rfl dX6_findError_51 ?_
                refine iv_iconst hx hb dX6_findError_54 ?_
                refine iv_iadd hx hb dX6_findError_55 ?_
                refine iv_eq (((R.1 + 1 : Nat) : Int)) (by omega) ?_
                refine va_put (ci := 6) (ty := .int) hx hb hts inX6 tyX6 tyX6_ok nmX6 hown hK.1 hP (dm hD rfl) hS 0 rfl rfl 8 (by decide) (hts _ fl_X6_137) (fun _ h9 => h9) rfl (by decide +kernel) rfl rfl (Nat.le_of_ble_eq_true rfl) dX6_findError_56 (fun H locs hP _ hS => ?_)
                have hP : va_P E.1 vwCl (refW E ρ th rc ((N : Int)) (((R.1 + 1 : Nat) : Int)) 63 R.2 st hi ke tx wy) H := hP
                refine lv_goto (tgt := 5) hx hb dX6_findError_59 (by decide) ?_
                exact ih (R.1 + 1) 63 R.2 (by omega) (by omega) (by rw [← he9, pm_act (sg := 63) (lo := 0) (hi := 35) (Or.inr ⟨rfl, rfl, rfl⟩) h1.1 h3.2 h1.2, ← hR, if_neg (by omega), if_pos c_41]) H locs ls hP hS (lv_sub hl [0] rfl)
              · refine lv_aload_n hx hb dX6_findError_44 rfl (lv_lk hl rfl) ?_
                refine va_get (D := E.1) (ci := 6) hx hb hts inX6 hown hK.1 hP 0 rfl rfl 8 (by decide) (hts _ fl_X6_137) (fun _ h9 => h9) rfl dX6_findError_45 ?_
                refine iv_eq (pmF N tx 0 (-1) (-1)) (by rw [← he9, pm_act (sg := 63) (lo := 0) (hi := 35) (Or.inr ⟨rfl, rfl, rfl⟩) h1.1 h3.2 h1.2, ← hR, if_neg (by omega), if_neg c_41]) ?_
                exact W.iret hx hb hrt (fun t ht hW => ⟨rfl, ⟨((R.1 : Int), 63, R.2), by rw [ht]; exact hP⟩, hS.F ht⟩) hS.2.2 dX6_findError_48 hlocks
            · refine iv_iconst hx hb dX6_findError_28 ?_
              refine iv_eq (pmF N tx 0 (-1) (-1)) (by rw [← he9, pm_act (sg := 63) (lo := 0) (hi := 35) (Or.inr ⟨rfl, rfl, rfl⟩) h1.1 h3.2 h1.2, ← hR, if_pos (by omega)]) ?_
              exact W.iret hx hb hrt (fun t ht hW => ⟨rfl, ⟨((R.1 : Int), 63, R.2), by rw [ht]; exact hP⟩, hS.F ht⟩) hS.2.2 dX6_findError_29 hlocks
          · refine lv_aload_n hx hb dX6_findError_5 rfl (lv_lk hl rfl) ?_
            refine call_F (va_runV ⟨hx, hb, hml, hown, hts⟩ (m_X6_readsAct_bad63 l E ρ th rc kd1 nm1 st hi ke tx wy hρ N i (by omega) hB h3.1 h3.2 h1) (cwV 0 hts (gi_V ml_X6_153 im_X6_readsAct sl_X6_readsAct it_X6 cd_X6_readsAct) rfl rfl rfl (by decide +kernel) ⟨Nat.le_of_ble_eq_true rfl, Nat.le_of_ble_eq_true rfl⟩) (pR_V (q0 := 0) (ci := 6) hP hK rfl rfl) rfl rfl hl.1 rfl (lv_room (Nat.le_of_ble_eq_true rfl)) dX6_findError_6 ⟨Nat.le_of_ble_eq_true rfl, Nat.le_of_ble_eq_true rfl⟩) (dm hD rfl) hS rfl (fun H locs hP hS => ?_)
            have hP : va_P E.1 vwCl (refW E ρ th rc ((N : Int)) (((i + 1 : Nat) : Int)) 63 nm1 st hi ke tx wy) H := hP
            refine iv_if_ne (tgt := 17) hx hb dX6_findError_9 (by decide) (by omega) (fun c_9 => by exfalso; omega) (fun c_9 => ?_)
            refine lv_aload_n hx hb dX6_findError_12 rfl (lv_lk hl rfl) ?_
            refine va_get (D := E.1) (ci := 6) hx hb hts inX6 hown hK.1 hP 0 rfl rfl 8 (by decide) (hts _ fl_X6_137) (fun _ h9 => h9) rfl dX6_findError_13 ?_
            refine iv_eq (pmF N tx 0 (-1) (-1)) (by rw [← he9, pm_bad1 (sg := 63) (lo := 0) (hi := 35) (Or.inr ⟨rfl, rfl, rfl⟩) h3.1 h3.2 h1]; omega) ?_
            exact W.iret hx hb hrt (fun t ht hW => ⟨rfl, ⟨(((i + 1 : Nat) : Int), 63, nm1), by rw [ht]; exact hP⟩, hS.F ht⟩) hS.2.2 dX6_findError_16 hlocks
        · refine lv_aload_n hx hb dX6_findError_5 rfl (lv_lk hl rfl) ?_
          refine call_F (va_runV ⟨hx, hb, hml, hown, hts⟩ (m_X6_readsAct_none l E ρ th rc kd1 nm1 st hi ke tx wy hρ N i (by omega) hB (by omega)) (cwV 0 hts (gi_V ml_X6_153 im_X6_readsAct sl_X6_readsAct it_X6 cd_X6_readsAct) rfl rfl rfl (by decide +kernel) ⟨Nat.le_of_ble_eq_true rfl, Nat.le_of_ble_eq_true rfl⟩) (pR_V (q0 := 0) (ci := 6) hP hK rfl rfl) rfl rfl hl.1 rfl (lv_room (Nat.le_of_ble_eq_true rfl)) dX6_findError_6 ⟨Nat.le_of_ble_eq_true rfl, Nat.le_of_ble_eq_true rfl⟩) (dm hD rfl) hS rfl (fun H locs hP hS => ?_)
          have hP : va_P E.1 vwCl (refW E ρ th rc ((N : Int)) ((i : Int)) (if i < N then tx i else -1) nm1 st hi ke tx wy) H := hP
          refine iv_if_ne (tgt := 17) hx hb dX6_findError_9 (by decide) (by omega) (fun c_9 => by exfalso; omega) (fun c_9 => ?_)
          refine lv_aload_n hx hb dX6_findError_12 rfl (lv_lk hl rfl) ?_
          refine va_get (D := E.1) (ci := 6) hx hb hts inX6 hown hK.1 hP 0 rfl rfl 8 (by decide) (hts _ fl_X6_137) (fun _ h9 => h9) rfl dX6_findError_13 ?_
          refine iv_eq (pmF N tx 0 (-1) (-1)) (by rw [← he9, pm_bad0 (by omega) (by omega)]) ?_
          exact W.iret hx hb hrt (fun t ht hW => ⟨rfl, ⟨((i : Int), if i < N then tx i else -1, nm1), by rw [ht]; exact hP⟩, hS.F ht⟩) hS.2.2 dX6_findError_16 hlocks
  exact LOOP5 N 0 kd nm (by omega) (by omega) rfl _ _ _ hP hS (lv_sub hl [0] rfl)
set_option maxHeartbeats 4000000 in
set_option maxRecDepth 100000 in
theorem m_X6_firstError (l : Launch) (E : Env3) (ρ : Nat → Nat) (th rc pa kd nm : Int) (st hi ke tx wy : S) (hρ : dR ρ 6) (N : Nat) (hB : txB N tx) : Met l yX6_firstError (Cond.code yX6_firstError cX6_firstError 1 (some .int) :: ALL) ({ frames := 5, cells := 0, slots := 0, locals := 107 }) (pR [.ref (ρ 0)] E (refW E ρ th rc ((N : Int)) pa kd nm st hi ke tx wy)) (qX (some (.int (I (pmF N tx 0 (-1) (-1))))) E (refW E ρ th rc ((N : Int)) pa kd nm st hi ke tx wy) (fun (g : Int × Int × Int) => (refW E ρ 0 rc ((N : Int)) g.1 g.2.1 g.2.2 st hi ke tx wy))) 0 0 (adIn (refW E ρ th rc ((N : Int)) pa kd nm st hi ke tx wy)) := by
  refine mk_met (by decide) rfl (Nat.le_of_ble_eq_true rfl) ?_
  intro p e s m args below meth c hx hb hrt hml hts hown hlocks hnm hP hK ls hl
  have hown : s.vm.findClass RX6 = some m.cls := hown
  have hl : lv_has ls 1 [(0, .ref (ρ 0))] := hl
  have hD : va_D (adIn (refW E ρ th rc ((N : Int)) pa kd nm st hi ke tx wy)) (refW E ρ th rc ((N : Int)) pa kd nm st hi ke tx wy) := D_of_dR hρ rfl
  have hS : va_S (adIn (refW E ρ th rc ((N : Int)) pa kd nm st hi ke tx wy)) s.heap s.heap [] := va_S.rf
  refine lv_aload_n hx hb dX6_firstError_0 rfl (lv_lk hl rfl) ?_
  refine iv_iconst hx hb dX6_firstError_1 ?_
  refine va_put (ci := 6) (ty := .int) hx hb hts inX6 tyX6 tyX6_ok nmX6 hown hK.1 hP (dm hD rfl) hS 0 rfl rfl 0 (by decide) (hts _ fl_X6_32) (fun _ h9 => h9) rfl (by decide +kernel) rfl rfl (Nat.le_of_ble_eq_true rfl) dX6_firstError_2 (fun H locs hP _ hS => ?_)
  have hP : va_P E.1 vwCl (refW E ρ 0 rc ((N : Int)) pa kd nm st hi ke tx wy) H := hP
  refine lv_aload_n hx hb dX6_firstError_5 rfl (lv_lk hl rfl) ?_
  refine call_X (va_runV ⟨hx, hb, hml, hown, hts⟩ (m_X6_findError l E ρ 0 rc pa kd nm st hi ke tx wy hρ N hB ) (cwV 0 hts (gi_V ml_X6_157 im_X6_findError sl_X6_findError it_X6 cd_X6_findError) rfl rfl rfl (by decide +kernel) ⟨Nat.le_of_ble_eq_true rfl, Nat.le_of_ble_eq_true rfl⟩) (pR_V (q0 := 0) (ci := 6) hP hK rfl rfl) rfl rfl hl.1 rfl (lv_room (Nat.le_of_ble_eq_true rfl)) dX6_firstError_6 ⟨Nat.le_of_ble_eq_true rfl, Nat.le_of_ble_eq_true rfl⟩) (dm hD rfl) hS rfl (fun g1 H locs hP hS => ?_)
  have hP : va_P E.1 vwCl (refW E ρ 0 rc ((N : Int)) g1.1 g1.2.1 g1.2.2 st hi ke tx wy) H := hP
  exact W.iret hx hb hrt (fun t ht hW => ⟨rfl, ⟨(g1.1, g1.2.1, g1.2.2), by rw [ht]; exact hP⟩, hS.F ht⟩) hS.2.2 dX6_firstError_9 hlocks
set_option maxHeartbeats 4000000 in
set_option maxRecDepth 100000 in
theorem m_X6_happens_solve (l : Launch) (E : Env3) (ρ : Nat → Nat) (th rc tl pa  : Int) (st hi ke tx wy : S) (hρ : dR ρ 6) (T : Int) (hI : IB T st) (r : Nat) (hr : r < 36) : Met l yX6_happens (Cond.code yX6_happens cX6_happens 2 (some .boolean) :: ALL) ({ frames := 6, cells := 0, slots := 0, locals := 135 }) (pR [.ref (ρ 0)] E (refW E ρ th rc tl pa 63 ((r : Int)) st hi ke tx wy)) (qX (some (.int (I 1))) E (refW E ρ th rc tl pa 63 ((r : Int)) st hi ke tx wy) (fun wy => (refW E ρ th rc tl pa 63 ((r : Int)) ((solve1 st r).1) hi ke tx wy))) 0 0 (adIn (refW E ρ th rc tl pa 63 ((r : Int)) st hi ke tx wy)) := by
  refine mk_met (by decide) rfl (Nat.le_of_ble_eq_true rfl) ?_
  intro p e s m args below meth c hx hb hrt hml hts hown hlocks hnm hP hK ls hl
  have hown : s.vm.findClass RX6 = some m.cls := hown
  have hl : lv_has ls 2 [(0, .ref (ρ 0))] := hl
  have hD : va_D (adIn (refW E ρ th rc tl pa 63 ((r : Int)) st hi ke tx wy)) (refW E ρ th rc tl pa 63 ((r : Int)) st hi ke tx wy) := D_of_dR hρ rfl
  have hS : va_S (adIn (refW E ρ th rc tl pa 63 ((r : Int)) st hi ke tx wy)) s.heap s.heap [] := va_S.rf
  refine lv_aload_n hx hb dX6_happens_0 rfl (lv_lk hl rfl) ?_
  refine va_get (D := E.1) (ci := 6) hx hb hts inX6 hown hK.1 hP 0 rfl rfl 9 (by decide) (hts _ fl_X6_147) (fun _ h9 => h9) rfl dX6_happens_1 ?_
  refine iv_bipush hx hb dX6_happens_4 (by decide +kernel) ?_
  refine iv_icmp_ne (tgt := 20) hx hb dX6_happens_6 (by decide) (by omega) (by omega) (fun c_6 => by exfalso; omega) (fun c_6 => ?_)
  refine lv_aload_n hx hb dX6_happens_9 rfl (lv_lk hl rfl) ?_
  refine lv_aload_n hx hb dX6_happens_10 rfl (lv_lk hl rfl) ?_
  refine va_get (D := E.1) (ci := 6) hx hb hts inX6 hown hK.1 hP 0 rfl rfl 10 (by decide) (hts _ fl_X6_144) (fun _ h9 => h9) rfl dX6_happens_11 ?_
  refine call_X (va_runV ⟨hx, hb, hml, hown, hts⟩ (m_X6_solvesFirst l E ρ th rc tl pa 63 ((r : Int)) st hi ke tx wy hρ T hI r hr) (cwV 1 hts (gi_V ml_X6_85 im_X6_solvesFirst sl_X6_solvesFirst it_X6 cd_X6_solvesFirst) rfl rfl rfl (by decide +kernel) ⟨Nat.le_of_ble_eq_true rfl, Nat.le_of_ble_eq_true rfl⟩) (pR_V (q0 := 0) (ci := 6) hP hK rfl rfl) rfl rfl hl.1 rfl (lv_room (Nat.le_of_ble_eq_true rfl)) dX6_happens_14 ⟨Nat.le_of_ble_eq_true rfl, Nat.le_of_ble_eq_true rfl⟩) (dm hD rfl) hS rfl (fun wy1 H locs hP hS => ?_)
  have hP : va_P E.1 vwCl (refW E ρ th rc tl pa 63 ((r : Int)) ((solve1 st r).1) hi ke tx wy1) H := hP
  refine lv_pop hx hb dX6_happens_17 rfl ?_
  refine iv_iconst hx hb dX6_happens_18 ?_
  exact W.zret (ty := .boolean) hx hb hrt (by rfl) (fun t ht hW => ⟨rfl, ⟨wy1, by rw [ht]; exact hP⟩, hS.F ht⟩) hS.2.2 dX6_happens_19 hlocks
set_option maxHeartbeats 4000000 in
set_option maxRecDepth 100000 in
theorem m_X6_happens_pass (l : Launch) (E : Env3) (ρ : Nat → Nat) (th rc tl pa  : Int) (st hi ke tx wy : S) (hρ : dR ρ 6) (T : Int) (hI : IB T st) (v : Int) (hv : 1 ≤ v ∧ v ≤ 99) (hT : T ≤ 99900) (h9 : st 0 + v ≤ 9999) : Met l yX6_happens (Cond.code yX6_happens cX6_happens 2 (some .boolean) :: ALL) ({ frames := 6, cells := 0, slots := 0, locals := 135 }) (pR [.ref (ρ 0)] E (refW E ρ th rc tl pa 43 v st hi ke tx wy)) (qW (some (.int (I 1))) E (refW E ρ th rc tl pa 43 v st hi ke tx wy) (refW E ρ th rc tl pa 43 v (passes st v) hi ke tx wy)) 0 0 (adIn (refW E ρ th rc tl pa 43 v st hi ke tx wy)) := by
  refine mk_met (by decide) rfl (Nat.le_of_ble_eq_true rfl) ?_
  intro p e s m args below meth c hx hb hrt hml hts hown hlocks hnm hP hK ls hl
  have hown : s.vm.findClass RX6 = some m.cls := hown
  have hl : lv_has ls 2 [(0, .ref (ρ 0))] := hl
  have hD : va_D (adIn (refW E ρ th rc tl pa 43 v st hi ke tx wy)) (refW E ρ th rc tl pa 43 v st hi ke tx wy) := D_of_dR hρ rfl
  have hS : va_S (adIn (refW E ρ th rc tl pa 43 v st hi ke tx wy)) s.heap s.heap [] := va_S.rf
  have h09 := hI.1
  refine lv_aload_n hx hb dX6_happens_0 rfl (lv_lk hl rfl) ?_
  refine va_get (D := E.1) (ci := 6) hx hb hts inX6 hown hK.1 hP 0 rfl rfl 9 (by decide) (hts _ fl_X6_147) (fun _ h9 => h9) rfl dX6_happens_1 ?_
  refine iv_bipush hx hb dX6_happens_4 (by decide +kernel) ?_
  refine iv_icmp_ne (tgt := 20) hx hb dX6_happens_6 (by decide) (by omega) (by omega) (fun c_6 => ?_) (fun c_6 => by exfalso; omega)
  refine lv_aload_n hx hb dX6_happens_20 rfl (lv_lk hl rfl) ?_
  refine va_get (D := E.1) (ci := 6) hx hb hts inX6 hown hK.1 hP 0 rfl rfl 1 (by decide) (hts _ fl_X6_7) (fun _ h9 => h9) rfl dX6_happens_21 ?_
  refine iv_iconst hx hb dX6_happens_24 ?_
  refine iv_iald hx hb hK hP 1 rfl (0) (by omega) (by omega) dX6_happens_25 ?_
  refine lv_aload_n hx hb dX6_happens_26 rfl (lv_lk hl rfl) ?_
  refine va_get (D := E.1) (ci := 6) hx hb hts inX6 hown hK.1 hP 0 rfl rfl 10 (by decide) (hts _ fl_X6_144) (fun _ h9 => h9) rfl dX6_happens_27 ?_
  refine iv_iadd hx hb dX6_happens_30 ?_
  refine iv_sipush hx hb dX6_happens_31 (by decide +kernel) ?_
  refine iv_icmp_gt (tgt := 41) hx hb dX6_happens_34 (by decide) (by omega) (by omega) (fun c_34 => by exfalso; omega) (fun c_34 => ?_)
  refine iv_iconst hx hb dX6_happens_37 ?_
  refine lv_goto (tgt := 42) hx hb dX6_happens_38 (by decide) ?_
  refine lv_istore_n (lv' := [(1, .int (I _)), (0, .ref _)]) hx hb dX6_happens_42 rfl hl (by decide) rfl (fun ls hl => ?_)
  refine lv_iload_n hx hb dX6_happens_43 rfl (lv_lk hl rfl) ?_
  refine iv_if_eq (tgt := 56) hx hb dX6_happens_44 (by decide) (by omega) (fun c_44 => by exfalso; omega) (fun c_44 => ?_)
  refine lv_aload_n hx hb dX6_happens_47 rfl (lv_lk hl rfl) ?_
  refine lv_aload_n hx hb dX6_happens_48 rfl (lv_lk hl rfl) ?_
  refine va_get (D := E.1) (ci := 6) hx hb hts inX6 hown hK.1 hP 0 rfl rfl 10 (by decide) (hts _ fl_X6_144) (fun _ h9 => h9) rfl dX6_happens_49 ?_
  refine call_F (va_runV ⟨hx, hb, hml, hown, hts⟩ (m_X6_passes l E ρ th rc tl pa 43 v st hi ke tx wy hρ T hI v (by omega)) (cwV 1 hts (gi_V ml_X6_91 im_X6_passes sl_X6_passes it_X6 cd_X6_passes) rfl rfl rfl (by decide +kernel) ⟨Nat.le_of_ble_eq_true rfl, Nat.le_of_ble_eq_true rfl⟩) (pR_V (q0 := 0) (ci := 6) hP hK rfl rfl) rfl rfl hl.1 rfl (lv_room (Nat.le_of_ble_eq_true rfl)) dX6_happens_52 ⟨Nat.le_of_ble_eq_true rfl, Nat.le_of_ble_eq_true rfl⟩) (dm hD rfl) hS rfl (fun H locs hP hS => ?_)
  have hP : va_P E.1 vwCl (refW E ρ th rc tl pa 43 v (passes st v) hi ke tx wy) H := hP
  refine lv_pop hx hb dX6_happens_55 rfl ?_
  refine lv_iload_n hx hb dX6_happens_56 rfl (lv_lk hl rfl) ?_
  exact W.zret (ty := .boolean) hx hb hrt (by rfl) (fun t ht hW => ⟨rfl, by rw [ht]; exact hP, hS.F ht⟩) hS.2.2 dX6_happens_57 hlocks
set_option maxHeartbeats 4000000 in
set_option maxRecDepth 100000 in
theorem m_X6_happens_no (l : Launch) (E : Env3) (ρ : Nat → Nat) (th rc tl pa  : Int) (st hi ke tx wy : S) (hρ : dR ρ 6) (T : Int) (hI : IB T st) (v : Int) (hv : 1 ≤ v ∧ v ≤ 99) (hT : T ≤ 99900) (h9 : ¬ st 0 + v ≤ 9999) : Met l yX6_happens (Cond.code yX6_happens cX6_happens 2 (some .boolean) :: ALL) ({ frames := 6, cells := 0, slots := 0, locals := 135 }) (pR [.ref (ρ 0)] E (refW E ρ th rc tl pa 43 v st hi ke tx wy)) (qW (some (.int (I 0))) E (refW E ρ th rc tl pa 43 v st hi ke tx wy) (refW E ρ th rc tl pa 43 v st hi ke tx wy)) 0 0 (adIn (refW E ρ th rc tl pa 43 v st hi ke tx wy)) := by
  refine mk_met (by decide) rfl (Nat.le_of_ble_eq_true rfl) ?_
  intro p e s m args below meth c hx hb hrt hml hts hown hlocks hnm hP hK ls hl
  have hown : s.vm.findClass RX6 = some m.cls := hown
  have hl : lv_has ls 2 [(0, .ref (ρ 0))] := hl
  have hD : va_D (adIn (refW E ρ th rc tl pa 43 v st hi ke tx wy)) (refW E ρ th rc tl pa 43 v st hi ke tx wy) := D_of_dR hρ rfl
  have hS : va_S (adIn (refW E ρ th rc tl pa 43 v st hi ke tx wy)) s.heap s.heap [] := va_S.rf
  have h09 := hI.1
  refine lv_aload_n hx hb dX6_happens_0 rfl (lv_lk hl rfl) ?_
  refine va_get (D := E.1) (ci := 6) hx hb hts inX6 hown hK.1 hP 0 rfl rfl 9 (by decide) (hts _ fl_X6_147) (fun _ h9 => h9) rfl dX6_happens_1 ?_
  refine iv_bipush hx hb dX6_happens_4 (by decide +kernel) ?_
  refine iv_icmp_ne (tgt := 20) hx hb dX6_happens_6 (by decide) (by omega) (by omega) (fun c_6 => ?_) (fun c_6 => by exfalso; omega)
  refine lv_aload_n hx hb dX6_happens_20 rfl (lv_lk hl rfl) ?_
  refine va_get (D := E.1) (ci := 6) hx hb hts inX6 hown hK.1 hP 0 rfl rfl 1 (by decide) (hts _ fl_X6_7) (fun _ h9 => h9) rfl dX6_happens_21 ?_
  refine iv_iconst hx hb dX6_happens_24 ?_
  refine iv_iald hx hb hK hP 1 rfl (0) (by omega) (by omega) dX6_happens_25 ?_
  refine lv_aload_n hx hb dX6_happens_26 rfl (lv_lk hl rfl) ?_
  refine va_get (D := E.1) (ci := 6) hx hb hts inX6 hown hK.1 hP 0 rfl rfl 10 (by decide) (hts _ fl_X6_144) (fun _ h9 => h9) rfl dX6_happens_27 ?_
  refine iv_iadd hx hb dX6_happens_30 ?_
  refine iv_sipush hx hb dX6_happens_31 (by decide +kernel) ?_
  refine iv_icmp_gt (tgt := 41) hx hb dX6_happens_34 (by decide) (by omega) (by omega) (fun c_34 => ?_) (fun c_34 => by exfalso; omega)
  refine iv_iconst hx hb dX6_happens_41 ?_
  refine lv_istore_n (lv' := [(1, .int (I _)), (0, .ref _)]) hx hb dX6_happens_42 rfl hl (by decide) rfl (fun ls hl => ?_)
  refine lv_iload_n hx hb dX6_happens_43 rfl (lv_lk hl rfl) ?_
  refine iv_if_eq (tgt := 56) hx hb dX6_happens_44 (by decide) (by omega) (fun c_44 => ?_) (fun c_44 => by exfalso; omega)
  refine lv_iload_n hx hb dX6_happens_56 rfl (lv_lk hl rfl) ?_
  exact W.zret (ty := .boolean) hx hb hrt (by rfl) (fun t ht hW => ⟨rfl, by rw [ht]; exact hP, hS.F ht⟩) hS.2.2 dX6_happens_57 hlocks
set_option maxHeartbeats 4000000 in
set_option maxRecDepth 100000 in
theorem m_X6_runActs_ok (l : Launch) (E : Env3) (ρ : Nat → Nat) (th pa kd nm : Int) (st hi ke tx wy : S) (hρ : dR ρ 6) (N : Nat) (hB : txB N tx) (n : Nat) (hn : n ≤ 6) (hI : IB 9999 st) (hp0 : pmF N tx 0 (-1) (-1) = -1) : Met l yX6_runActs (Cond.code yX6_runActs cX6_runActs 3 (some .int) :: ALL) ({ frames := 7, cells := 0, slots := 0, locals := 156 }) (pR [.ref (ρ 0)] E (refW E ρ th ((n : Int)) ((N : Int)) pa kd nm st hi ke tx wy)) (qX (some (.int (I (runA (acF N tx 0 (-1) (-1)) st).2))) E (refW E ρ th ((n : Int)) ((N : Int)) pa kd nm st hi ke tx wy) (fun (g : Int × Int × Int × S) => (refW E ρ 0 ((recN n : Int)) 0 g.1 g.2.1 g.2.2.1 ((runA (acF N tx 0 (-1) (-1)) st).1) (recH st hi n) ke tx g.2.2.2))) 0 0 (adIn (refW E ρ th ((n : Int)) ((N : Int)) pa kd nm st hi ke tx wy)) := by
  refine mk_met (by decide) rfl (Nat.le_of_ble_eq_true rfl) ?_
  intro p e s m args below meth c hx hb hrt hml hts hown hlocks hnm hP hK ls hl
  have hown : s.vm.findClass RX6 = some m.cls := hown
  have hl : lv_has ls 3 [(0, .ref (ρ 0))] := hl
  have hD : va_D (adIn (refW E ρ th ((n : Int)) ((N : Int)) pa kd nm st hi ke tx wy)) (refW E ρ th ((n : Int)) ((N : Int)) pa kd nm st hi ke tx wy) := D_of_dR hρ rfl
  have hS : va_S (adIn (refW E ρ th ((n : Int)) ((N : Int)) pa kd nm st hi ke tx wy)) s.heap s.heap [] := va_S.rf
  have hB9 := hB.1
  have hN0 : 0 < N := by rcases Nat.eq_zero_or_pos N with h | h; (· subst h; rw [pmF, if_pos rfl] at hp0; exact absurd hp0 (by decide)); (· exact h)
  refine lv_aload_n hx hb dX6_runActs_0 rfl (lv_lk hl rfl) ?_
  refine lv_aload_n hx hb dX6_runActs_1 rfl (lv_lk hl rfl) ?_
  refine call_X (va_runV ⟨hx, hb, hml, hown, hts⟩ (m_X6_findError l E ρ th ((n : Int)) pa kd nm st hi ke tx wy hρ N hB ) (cwV 0 hts (gi_V ml_X6_157 im_X6_findError sl_X6_findError it_X6 cd_X6_findError) rfl rfl rfl (by decide +kernel) ⟨Nat.le_of_ble_eq_true rfl, Nat.le_of_ble_eq_true rfl⟩) (pR_V (q0 := 0) (ci := 6) hP hK rfl rfl) rfl rfl hl.1 rfl (lv_room (Nat.le_of_ble_eq_true rfl)) dX6_runActs_2 ⟨Nat.le_of_ble_eq_true rfl, Nat.le_of_ble_eq_true rfl⟩) (dm hD rfl) hS rfl (fun g1 H locs hP hS => ?_)
  have hP : va_P E.1 vwCl (refW E ρ th ((n : Int)) ((N : Int)) g1.1 g1.2.1 g1.2.2 st hi ke tx wy) H := hP
  refine iv_iconst hx hb dX6_runActs_5 ?_
  refine iv_icmp_ne (tgt := 13) hx hb dX6_runActs_6 (by decide) (by omega) (by omega) (fun c_6 => by exfalso; omega) (fun c_6 => ?_)
  refine iv_iconst hx hb dX6_runActs_9 ?_
  refine lv_goto (tgt := 14) hx hb dX6_runActs_10 (by decide) ?_
  refine va_put (ci := 6) (ty := .int) hx hb hts inX6 tyX6 tyX6_ok nmX6 hown hK.1 hP (dm hD rfl) hS 0 rfl rfl 0 (by decide) (hts _ fl_X6_32) (fun _ h9 => h9) rfl (by decide +kernel) rfl rfl (Nat.le_of_ble_eq_true rfl) dX6_runActs_14 (fun H locs hP _ hS => ?_)
  have hP : va_P E.1 vwCl (refW E ρ 0 ((n : Int)) ((N : Int)) g1.1 g1.2.1 g1.2.2 st hi ke tx wy) H := hP
  refine lv_aload_n hx hb dX6_runActs_17 rfl (lv_lk hl rfl) ?_
  refine va_get (D := E.1) (ci := 6) hx hb hts inX6 hown hK.1 hP 0 rfl rfl 0 (by decide) (hts _ fl_X6_32) (fun _ h9 => h9) rfl dX6_runActs_18 ?_
  refine iv_if_le (tgt := 26) hx hb dX6_runActs_21 (by decide) (by omega) (fun c_21 => ?_) (fun c_21 => by exfalso; omega)
  refine lv_aload_n hx hb dX6_runActs_26 rfl (lv_lk hl rfl) ?_
  refine call_F (va_runV ⟨hx, hb, hml, hown, hts⟩ (m_X6_record l E ρ 0 ((N : Int)) g1.1 g1.2.1 g1.2.2 st hi ke tx wy hρ n hn) (cwV 0 hts (gi_V ml_X6_47 im_X6_record sl_X6_record it_X6 cd_X6_record) rfl rfl rfl (by decide +kernel) ⟨Nat.le_of_ble_eq_true rfl, Nat.le_of_ble_eq_true rfl⟩) (pR_V (q0 := 0) (ci := 6) hP hK rfl rfl) rfl rfl hl.1 rfl (lv_room (Nat.le_of_ble_eq_true rfl)) dX6_runActs_27 ⟨Nat.le_of_ble_eq_true rfl, Nat.le_of_ble_eq_true rfl⟩) (dm hD rfl) hS rfl (fun H locs hP hS => ?_)
  have hP : va_P E.1 vwCl (refW E ρ 0 ((recN n : Int)) ((N : Int)) g1.1 g1.2.1 g1.2.2 st (recH st hi n) ke tx wy) H := hP
  refine iv_iconst hx hb dX6_runActs_30 ?_
  refine lv_istore_n (lv' := [(1, .int (I _)), (0, .ref _)]) hx hb dX6_runActs_31 rfl hl (by decide) rfl (fun ls hl => ?_)
  refine lv_aload_n hx hb dX6_runActs_32 rfl (lv_lk hl rfl) ?_
  refine iv_iconst hx hb dX6_runActs_33 ?_
  refine va_put (ci := 6) (ty := .int) hx hb hts inX6 tyX6 tyX6_ok nmX6 hown hK.1 hP (dm hD rfl) hS 0 rfl rfl 8 (by decide) (hts _ fl_X6_137) (fun _ h9 => h9) rfl (by decide +kernel) rfl rfl (Nat.le_of_ble_eq_true rfl) dX6_runActs_34 (fun H locs hP _ hS => ?_)
  have hP : va_P E.1 vwCl (refW E ρ 0 ((recN n : Int)) ((N : Int)) (((0 : Nat) : Int)) g1.2.1 g1.2.2 st (recH st hi n) ke tx wy) H := hP
  refine iv_iconst hx hb dX6_runActs_37 ?_
  refine lv_istore_n (lv' := [(2, .int (I _)), (1, .int (I _)), (0, .ref _)]) hx hb dX6_runActs_38 rfl hl (by decide) rfl (fun ls hl => ?_)
  have LOOP39 : ∀ (n9 i : Nat) (L : List (Int × Int)) (s1 wy1 : S) (c9 kd1 nm1 : Int), (N + 1 ≤ i + n9) → ((L = [] ∧ N ≤ i ∧ i ≤ N + 1) ∨ (i < N ∧ pmF (N - i) tx i (-1) (-1) = -1 ∧ acF (N - i) tx i (-1) (-1) = L)) → (IB 9999 s1) → (c9 + (runA L s1).2 = (runA (acF N tx 0 (-1) (-1)) st).2) → ((runA L s1).1 = (runA (acF N tx 0 (-1) (-1)) st).1) → ∀ (H : Heap) (locs : List Loc) (ls : Array Slot), va_P E.1 vwCl (refW E ρ 0 ((recN n : Int)) ((N : Int)) ((i : Int)) kd1 nm1 s1 (recH st hi n) ke tx wy1) H → va_S (adIn (refW E ρ th ((n : Int)) ((N : Int)) pa kd nm st hi ke tx wy)) s.heap H locs → lv_has ls 3 [(0, .ref (ρ 0)), (1, .int (I c9)), (2, .int (I 1))] → W p l e ({ frames := 7, cells := 0, slots := 0, locals := 156 }) s m args below meth c H locs 0 0 (MQ below (qX (some (.int (I (runA (acF N tx 0 (-1) (-1)) st).2))) E (refW E ρ th ((n : Int)) ((N : Int)) pa kd nm st hi ke tx wy) (fun (g : Int × Int × Int × S) => (refW E ρ 0 ((recN n : Int)) 0 g.1 g.2.1 g.2.2.1 ((runA (acF N tx 0 (-1) (-1)) st).1) (recH st hi n) ke tx g.2.2.2))) args s 0 0 (adIn (refW E ρ th ((n : Int)) ((N : Int)) pa kd nm st hi ke tx wy))) (F0 m 39 ls []) := by
    intro n9
    induction n9 with
    | zero =>
      intro  i L s1 wy1 c9 kd1 nm1 hn9 hcase hI1 he9 he8 H locs ls hP hS hl
      have hB0 := hB.1
      obtain ⟨rfl, hi1, hi2⟩ : L = [] ∧ N ≤ i ∧ i ≤ N + 1 := by rcases hcase with h | h; (· exact h); (· exact absurd h.1 (by omega))
      refine lv_iload_n hx hb dX6_runActs_39 rfl (lv_lk hl rfl) ?_
      refine iv_if_eq (tgt := 89) hx hb dX6_runActs_40 (by decide) (by omega) (fun c_40 => by exfalso; omega) (fun c_40 => ?_)
      refine lv_aload_n hx hb dX6_runActs_43 rfl (lv_lk hl rfl) ?_
      refine va_get (D := E.1) (ci := 6) hx hb hts inX6 hown hK.1 hP 0 rfl rfl 8 (by decide) (hts _ fl_X6_137) (fun _ h9 => h9) rfl dX6_runActs_44 ?_
      refine lv_aload_n hx hb dX6_runActs_47 rfl (lv_lk hl rfl) ?_
      refine va_get (D := E.1) (ci := 6) hx hb hts inX6 hown hK.1 hP 0 rfl rfl 6 (by decide) (hts _ fl_X6_134) (fun _ h9 => h9) rfl dX6_runActs_48 ?_
      refine iv_icmp_ge (tgt := 89) hx hb dX6_runActs_51 (by decide) (by omega) (by omega) (fun c_51 => ?_) (fun c_51 => by exfalso; omega)
      refine lv_aload_n hx hb dX6_runActs_89 rfl (lv_lk hl rfl) ?_
      refine iv_iconst hx hb dX6_runActs_90 ?_
      refine va_put (ci := 6) (ty := .int) hx hb hts inX6 tyX6 tyX6_ok nmX6 hown hK.1 hP (dm hD rfl) hS 0 rfl rfl 6 (by decide) (hts _ fl_X6_134) (fun _ h9 => h9) rfl (by decide +kernel) rfl rfl (Nat.le_of_ble_eq_true rfl) dX6_runActs_91 (fun H locs hP _ hS => ?_)
      have hP : va_P E.1 vwCl (refW E ρ 0 ((recN n : Int)) 0 ((i : Int)) kd1 nm1 s1 (recH st hi n) ke tx wy1) H := hP
      refine lv_iload_n hx hb dX6_runActs_94 rfl (lv_lk hl rfl) ?_
      refine iv_eq ((runA (acF N tx 0 (-1) (-1)) st).2) (by rw [← he9]; exact (Int.add_zero _).symm) ?_
      exact W.iret hx hb hrt (fun t ht hW => ⟨rfl, ⟨((i : Int), kd1, nm1, wy1), by rw [ht]; exact (by rw [← he8]; exact hP)⟩, hS.F ht⟩) hS.2.2 dX6_runActs_95 hlocks
    | succ n9 ih =>
      intro  i L s1 wy1 c9 kd1 nm1 hn9 hcase hI1 he9 he8 H locs ls hP hS hl
      have hB0 := hB.1
      have h09 := hI1.1
      rcases hcase with ⟨rfl, hi1, hi2⟩ | ⟨hi1, hp1, ha1⟩
      · refine lv_iload_n hx hb dX6_runActs_39 rfl (lv_lk hl rfl) ?_
        refine iv_if_eq (tgt := 89) hx hb dX6_runActs_40 (by decide) (by omega) (fun c_40 => by exfalso; omega) (fun c_40 => ?_)
        refine lv_aload_n hx hb dX6_runActs_43 rfl (lv_lk hl rfl) ?_
        refine va_get (D := E.1) (ci := 6) hx hb hts inX6 hown hK.1 hP 0 rfl rfl 8 (by decide) (hts _ fl_X6_137) (fun _ h9 => h9) rfl dX6_runActs_44 ?_
        refine lv_aload_n hx hb dX6_runActs_47 rfl (lv_lk hl rfl) ?_
        refine va_get (D := E.1) (ci := 6) hx hb hts inX6 hown hK.1 hP 0 rfl rfl 6 (by decide) (hts _ fl_X6_134) (fun _ h9 => h9) rfl dX6_runActs_48 ?_
        refine iv_icmp_ge (tgt := 89) hx hb dX6_runActs_51 (by decide) (by omega) (by omega) (fun c_51 => ?_) (fun c_51 => by exfalso; omega)
        refine lv_aload_n hx hb dX6_runActs_89 rfl (lv_lk hl rfl) ?_
        refine iv_iconst hx hb dX6_runActs_90 ?_
        refine va_put (ci := 6) (ty := .int) hx hb hts inX6 tyX6 tyX6_ok nmX6 hown hK.1 hP (dm hD rfl) hS 0 rfl rfl 6 (by decide) (hts _ fl_X6_134) (fun _ h9 => h9) rfl (by decide +kernel) rfl rfl (Nat.le_of_ble_eq_true rfl) dX6_runActs_91 (fun H locs hP _ hS => ?_)
        have hP : va_P E.1 vwCl (refW E ρ 0 ((recN n : Int)) 0 ((i : Int)) kd1 nm1 s1 (recH st hi n) ke tx wy1) H := hP
        refine lv_iload_n hx hb dX6_runActs_94 rfl (lv_lk hl rfl) ?_
        refine iv_eq ((runA (acF N tx 0 (-1) (-1)) st).2) (by rw [← he9]; exact (Int.add_zero _).symm) ?_
        exact W.iret hx hb hrt (fun t ht hW => ⟨rfl, ⟨((i : Int), kd1, nm1, wy1), by rw [ht]; exact (by rw [← he8]; exact hP)⟩, hS.F ht⟩) hS.2.2 dX6_runActs_95 hlocks
      · refine lv_iload_n hx hb dX6_runActs_39 rfl (lv_lk hl rfl) ?_
        refine iv_if_eq (tgt := 89) hx hb dX6_runActs_40 (by decide) (by omega) (fun c_40 => by exfalso; omega) (fun c_40 => ?_)
        refine lv_aload_n hx hb dX6_runActs_43 rfl (lv_lk hl rfl) ?_
        refine va_get (D := E.1) (ci := 6) hx hb hts inX6 hown hK.1 hP 0 rfl rfl 8 (by decide) (hts _ fl_X6_137) (fun _ h9 => h9) rfl dX6_runActs_44 ?_
        refine lv_aload_n hx hb dX6_runActs_47 rfl (lv_lk hl rfl) ?_
        refine va_get (D := E.1) (ci := 6) hx hb hts inX6 hown hK.1 hP 0 rfl rfl 6 (by decide) (hts _ fl_X6_134) (fun _ h9 => h9) rfl dX6_runActs_48 ?_
        refine iv_icmp_ge (tgt := 89) hx hb dX6_runActs_51 (by decide) (by omega) (by omega) (fun c_51 => by exfalso; omega) (fun c_51 => ?_)
        obtain ⟨sg, lo, hi9, R, L', hs, htx, hd1, hd2, hd3, hR, hR1, hR2, hR3, hR4, hac, hnx⟩ := act_at hi1 hp1
        have hLe : L = (sg, R.2) :: L' := ha1.symm.trans hac
        have hBi := hB.2 i (by omega)
        have hBi1 := hB.2 (i + 1) (by omega)
        rcases hs with ⟨rfl, rfl, rfl⟩ | ⟨rfl, rfl, rfl⟩
        · refine lv_aload_n hx hb dX6_runActs_54 rfl (lv_lk hl rfl) ?_
          refine call_F (va_runV ⟨hx, hb, hml, hown, hts⟩ (m_X6_readsAct_ok43 l E ρ 0 ((recN n : Int)) kd1 nm1 s1 (recH st hi n) ke tx wy1 hρ N i (by omega) hB hi1 htx ⟨hd1, hd2, hd3⟩) (cwV 0 hts (gi_V ml_X6_153 im_X6_readsAct sl_X6_readsAct it_X6 cd_X6_readsAct) rfl rfl rfl (by decide +kernel) ⟨Nat.le_of_ble_eq_true rfl, Nat.le_of_ble_eq_true rfl⟩) (pR_V (q0 := 0) (ci := 6) hP hK rfl rfl) rfl rfl hl.1 rfl (lv_room (Nat.le_of_ble_eq_true rfl)) dX6_runActs_55 ⟨Nat.le_of_ble_eq_true rfl, Nat.le_of_ble_eq_true rfl⟩) (dm hD rfl) hS rfl (fun H locs hP hS => ?_)
          have hP : va_P E.1 vwCl (refW E ρ 0 ((recN n : Int)) ((N : Int)) (((runN (N - (i + 1 + 1)) tx (i + 1 + 1) (tx (i + 1) - 48) 99).1 : Int)) 43 ((runN (N - (i + 1 + 1)) tx (i + 1 + 1) (tx (i + 1) - 48) 99).2) s1 (recH st hi n) ke tx wy1) H := hP
          refine lv_pop hx hb dX6_runActs_58 rfl ?_
          have hP : va_P E.1 vwCl (refW E ρ 0 ((recN n : Int)) ((N : Int)) ((R.1 : Int)) 43 R.2 s1 (recH st hi n) ke tx wy1) H := by rw [hR]; exact hP
          refine lv_aload_n hx hb dX6_runActs_59 rfl (lv_lk hl rfl) ?_
          refine lv_dup hx hb dX6_runActs_60 rfl ?_
          refine va_get (D := E.1) (ci := 6) hx hb hts inX6 hown hK.1 hP 0 rfl rfl 8 (by decide) (hts _ fl_X6_137) (fun _ h9 => h9) rfl dX6_runActs_61 ?_
          refine iv_iconst hx hb dX6_runActs_64 ?_
          refine iv_iadd hx hb dX6_runActs_65 ?_
          refine iv_eq (((R.1 + 1 : Nat) : Int)) (by omega) ?_
          refine va_put (ci := 6) (ty := .int) hx hb hts inX6 tyX6 tyX6_ok nmX6 hown hK.1 hP (dm hD rfl) hS 0 rfl rfl 8 (by decide) (hts _ fl_X6_137) (fun _ h9 => h9) rfl (by decide +kernel) rfl rfl (Nat.le_of_ble_eq_true rfl) dX6_runActs_66 (fun H locs hP _ hS => ?_)
          have hP : va_P E.1 vwCl (refW E ρ 0 ((recN n : Int)) ((N : Int)) (((R.1 + 1 : Nat) : Int)) 43 R.2 s1 (recH st hi n) ke tx wy1) H := hP
          by_cases h9 : s1 0 + R.2 ≤ 9999
          · refine lv_aload_n hx hb dX6_runActs_69 rfl (lv_lk hl rfl) ?_
            refine call_F (va_runV ⟨hx, hb, hml, hown, hts⟩ (m_X6_happens_pass l E ρ 0 ((recN n : Int)) ((N : Int)) (((R.1 + 1 : Nat) : Int)) s1 (recH st hi n) ke tx wy1 hρ 9999 hI1 R.2 (by omega) (by omega) h9) (cwV 0 hts (gi_V ml_X6_160 im_X6_happens sl_X6_happens it_X6 cd_X6_happens) rfl rfl rfl (by decide +kernel) ⟨Nat.le_of_ble_eq_true rfl, Nat.le_of_ble_eq_true rfl⟩) (pR_V (q0 := 0) (ci := 6) hP hK rfl rfl) rfl rfl hl.1 rfl (lv_room (Nat.le_of_ble_eq_true rfl)) dX6_runActs_70 ⟨Nat.le_of_ble_eq_true rfl, Nat.le_of_ble_eq_true rfl⟩) (dm hD rfl) hS rfl (fun H locs hP hS => ?_)
            have hP : va_P E.1 vwCl (refW E ρ 0 ((recN n : Int)) ((N : Int)) (((R.1 + 1 : Nat) : Int)) 43 R.2 (passes s1 R.2) (recH st hi n) ke tx wy1) H := hP
            refine lv_istore_n (lv' := [(2, .int (I _)), (0, .ref _), (1, .int (I _))]) hx hb dX6_runActs_73 rfl hl (by decide) rfl (fun ls hl => ?_)
            refine lv_iload_n hx hb dX6_runActs_74 rfl (lv_lk hl rfl) ?_
            refine lv_iload_n hx hb dX6_runActs_75 rfl (lv_lk hl rfl) ?_
            refine iv_if_eq (tgt := 83) hx hb dX6_runActs_76 (by decide) (by omega) (fun c_76 => by exfalso; omega) (fun c_76 => ?_)
            refine iv_iconst hx hb dX6_runActs_79 ?_
            refine lv_goto (tgt := 84) hx hb dX6_runActs_80 (by decide) ?_
            refine iv_iadd hx hb dX6_runActs_84 ?_
            refine lv_istore_n (lv' := [(1, .int (I _)), (2, .int (I _)), (0, .ref _)]) hx hb dX6_runActs_85 rfl hl (by decide) rfl (fun ls hl => ?_)
            refine lv_goto (tgt := 39) hx hb dX6_runActs_86 (by decide) ?_
            exact ih (R.1 + 1) L' (actSt s1 (43, R.2)) wy1 (c9 + 1) 43 R.2 (by omega) hnx (by exact IB_passes2 hI1 R.2 (by omega) 9999 (by omega)) (by rw [← he9, hLe, runA, if_pos (by exact Or.inr h9)]; show c9 + 1 + (runA L' (actSt s1 _)).2 = _; omega) (by rw [← he8, hLe, runA, if_pos (by exact Or.inr h9)]) H locs ls hP hS (lv_sub hl [2, 0, 1] rfl)
          · refine lv_aload_n hx hb dX6_runActs_69 rfl (lv_lk hl rfl) ?_
            refine call_F (va_runV ⟨hx, hb, hml, hown, hts⟩ (m_X6_happens_no l E ρ 0 ((recN n : Int)) ((N : Int)) (((R.1 + 1 : Nat) : Int)) s1 (recH st hi n) ke tx wy1 hρ 9999 hI1 R.2 (by omega) (by omega) h9) (cwV 0 hts (gi_V ml_X6_160 im_X6_happens sl_X6_happens it_X6 cd_X6_happens) rfl rfl rfl (by decide +kernel) ⟨Nat.le_of_ble_eq_true rfl, Nat.le_of_ble_eq_true rfl⟩) (pR_V (q0 := 0) (ci := 6) hP hK rfl rfl) rfl rfl hl.1 rfl (lv_room (Nat.le_of_ble_eq_true rfl)) dX6_runActs_70 ⟨Nat.le_of_ble_eq_true rfl, Nat.le_of_ble_eq_true rfl⟩) (dm hD rfl) hS rfl (fun H locs hP hS => ?_)
            have hP : va_P E.1 vwCl (refW E ρ 0 ((recN n : Int)) ((N : Int)) (((R.1 + 1 : Nat) : Int)) 43 R.2 s1 (recH st hi n) ke tx wy1) H := hP
            refine lv_istore_n (lv' := [(2, .int (I _)), (0, .ref _), (1, .int (I _))]) hx hb dX6_runActs_73 rfl hl (by decide) rfl (fun ls hl => ?_)
            refine lv_iload_n hx hb dX6_runActs_74 rfl (lv_lk hl rfl) ?_
            refine lv_iload_n hx hb dX6_runActs_75 rfl (lv_lk hl rfl) ?_
            refine iv_if_eq (tgt := 83) hx hb dX6_runActs_76 (by decide) (by omega) (fun c_76 => ?_) (fun c_76 => by exfalso; omega)
            refine iv_iconst hx hb dX6_runActs_83 ?_
            refine iv_iadd hx hb dX6_runActs_84 ?_
            refine lv_istore_n (lv' := [(1, .int (I _)), (2, .int (I _)), (0, .ref _)]) hx hb dX6_runActs_85 rfl hl (by decide) rfl (fun ls hl => ?_)
            refine lv_goto (tgt := 39) hx hb dX6_runActs_86 (by decide) ?_
            refine lv_iload_n hx hb dX6_runActs_39 rfl (lv_lk hl rfl) ?_
            refine iv_if_eq (tgt := 89) hx hb dX6_runActs_40 (by decide) (by omega) (fun c_40 => ?_) (fun c_40 => by exfalso; omega)
            refine lv_aload_n hx hb dX6_runActs_89 rfl (lv_lk hl rfl) ?_
            refine iv_iconst hx hb dX6_runActs_90 ?_
            refine va_put (ci := 6) (ty := .int) hx hb hts inX6 tyX6 tyX6_ok nmX6 hown hK.1 hP (dm hD rfl) hS 0 rfl rfl 6 (by decide) (hts _ fl_X6_134) (fun _ h9 => h9) rfl (by decide +kernel) rfl rfl (Nat.le_of_ble_eq_true rfl) dX6_runActs_91 (fun H locs hP _ hS => ?_)
            have hP : va_P E.1 vwCl (refW E ρ 0 ((recN n : Int)) 0 (((R.1 + 1 : Nat) : Int)) 43 R.2 s1 (recH st hi n) ke tx wy1) H := hP
            refine lv_iload_n hx hb dX6_runActs_94 rfl (lv_lk hl rfl) ?_
            refine iv_eq ((runA (acF N tx 0 (-1) (-1)) st).2) (by rw [← he9, hLe, runA, if_neg (by omega)]) ?_
            exact W.iret hx hb hrt (fun t ht hW => ⟨rfl, ⟨(((R.1 + 1 : Nat) : Int), 43, R.2, wy1), by rw [ht]; exact (by rw [← he8, hLe, runA, if_neg (by omega)]; exact hP)⟩, hS.F ht⟩) hS.2.2 dX6_runActs_95 hlocks
        · refine lv_aload_n hx hb dX6_runActs_54 rfl (lv_lk hl rfl) ?_
          refine call_F (va_runV ⟨hx, hb, hml, hown, hts⟩ (m_X6_readsAct_ok63 l E ρ 0 ((recN n : Int)) kd1 nm1 s1 (recH st hi n) ke tx wy1 hρ N i (by omega) hB hi1 htx ⟨hd1, hd2, hd3⟩) (cwV 0 hts (gi_V ml_X6_153 im_X6_readsAct sl_X6_readsAct it_X6 cd_X6_readsAct) rfl rfl rfl (by decide +kernel) ⟨Nat.le_of_ble_eq_true rfl, Nat.le_of_ble_eq_true rfl⟩) (pR_V (q0 := 0) (ci := 6) hP hK rfl rfl) rfl rfl hl.1 rfl (lv_room (Nat.le_of_ble_eq_true rfl)) dX6_runActs_55 ⟨Nat.le_of_ble_eq_true rfl, Nat.le_of_ble_eq_true rfl⟩) (dm hD rfl) hS rfl (fun H locs hP hS => ?_)
          have hP : va_P E.1 vwCl (refW E ρ 0 ((recN n : Int)) ((N : Int)) (((runN (N - (i + 1 + 1)) tx (i + 1 + 1) (tx (i + 1) - 48) 35).1 : Int)) 63 ((runN (N - (i + 1 + 1)) tx (i + 1 + 1) (tx (i + 1) - 48) 35).2) s1 (recH st hi n) ke tx wy1) H := hP
          refine lv_pop hx hb dX6_runActs_58 rfl ?_
          have hP : va_P E.1 vwCl (refW E ρ 0 ((recN n : Int)) ((N : Int)) ((R.1 : Int)) 63 R.2 s1 (recH st hi n) ke tx wy1) H := by rw [hR]; exact hP
          refine lv_aload_n hx hb dX6_runActs_59 rfl (lv_lk hl rfl) ?_
          refine lv_dup hx hb dX6_runActs_60 rfl ?_
          refine va_get (D := E.1) (ci := 6) hx hb hts inX6 hown hK.1 hP 0 rfl rfl 8 (by decide) (hts _ fl_X6_137) (fun _ h9 => h9) rfl dX6_runActs_61 ?_
          refine iv_iconst hx hb dX6_runActs_64 ?_
          refine iv_iadd hx hb dX6_runActs_65 ?_
          refine iv_eq (((R.1 + 1 : Nat) : Int)) (by omega) ?_
          refine va_put (ci := 6) (ty := .int) hx hb hts inX6 tyX6 tyX6_ok nmX6 hown hK.1 hP (dm hD rfl) hS 0 rfl rfl 8 (by decide) (hts _ fl_X6_137) (fun _ h9 => h9) rfl (by decide +kernel) rfl rfl (Nat.le_of_ble_eq_true rfl) dX6_runActs_66 (fun H locs hP _ hS => ?_)
          have hP : va_P E.1 vwCl (refW E ρ 0 ((recN n : Int)) ((N : Int)) (((R.1 + 1 : Nat) : Int)) 63 R.2 s1 (recH st hi n) ke tx wy1) H := hP
          have hP : va_P E.1 vwCl (refW E ρ 0 ((recN n : Int)) ((N : Int)) (((R.1 + 1 : Nat) : Int)) 63 ((R.2.toNat : Int)) s1 (recH st hi n) ke tx wy1) H := by rw [show ((R.2.toNat : Nat) : Int) = R.2 by omega]; exact hP
          refine lv_aload_n hx hb dX6_runActs_69 rfl (lv_lk hl rfl) ?_
          refine call_X (va_runV ⟨hx, hb, hml, hown, hts⟩ (m_X6_happens_solve l E ρ 0 ((recN n : Int)) ((N : Int)) (((R.1 + 1 : Nat) : Int)) s1 (recH st hi n) ke tx wy1 hρ 9999 hI1 R.2.toNat (by omega)) (cwV 0 hts (gi_V ml_X6_160 im_X6_happens sl_X6_happens it_X6 cd_X6_happens) rfl rfl rfl (by decide +kernel) ⟨Nat.le_of_ble_eq_true rfl, Nat.le_of_ble_eq_true rfl⟩) (pR_V (q0 := 0) (ci := 6) hP hK rfl rfl) rfl rfl hl.1 rfl (lv_room (Nat.le_of_ble_eq_true rfl)) dX6_runActs_70 ⟨Nat.le_of_ble_eq_true rfl, Nat.le_of_ble_eq_true rfl⟩) (dm hD rfl) hS rfl (fun wy2 H locs hP hS => ?_)
          have hP : va_P E.1 vwCl (refW E ρ 0 ((recN n : Int)) ((N : Int)) (((R.1 + 1 : Nat) : Int)) 63 ((R.2.toNat : Int)) ((solve1 s1 R.2.toNat).1) (recH st hi n) ke tx wy2) H := hP
          refine lv_istore_n (lv' := [(2, .int (I _)), (0, .ref _), (1, .int (I _))]) hx hb dX6_runActs_73 rfl hl (by decide) rfl (fun ls hl => ?_)
          refine lv_iload_n hx hb dX6_runActs_74 rfl (lv_lk hl rfl) ?_
          refine lv_iload_n hx hb dX6_runActs_75 rfl (lv_lk hl rfl) ?_
          refine iv_if_eq (tgt := 83) hx hb dX6_runActs_76 (by decide) (by omega) (fun c_76 => by exfalso; omega) (fun c_76 => ?_)
          refine iv_iconst hx hb dX6_runActs_79 ?_
          refine lv_goto (tgt := 84) hx hb dX6_runActs_80 (by decide) ?_
          refine iv_iadd hx hb dX6_runActs_84 ?_
          refine iv_eq (c9 + 1) rfl ?_
          refine lv_istore_n (lv' := [(1, .int (I _)), (2, .int (I _)), (0, .ref _)]) hx hb dX6_runActs_85 rfl hl (by decide) rfl (fun ls hl => ?_)
          refine lv_goto (tgt := 39) hx hb dX6_runActs_86 (by decide) ?_
          exact ih (R.1 + 1) L' (actSt s1 (63, R.2)) wy2 (c9 + 1) 63 ((R.2.toNat : Int)) (by omega) hnx (by exact IB_solve1 hI1 (by omega)) (by rw [← he9, hLe, runA, if_pos (by exact Or.inl rfl)]; show c9 + 1 + (runA L' (actSt s1 _)).2 = _; omega) (by rw [← he8, hLe, runA, if_pos (by exact Or.inl rfl)]) H locs ls hP hS (lv_sub hl [2, 0, 1] rfl)
  exact LOOP39 (N + 1) 0 (acF N tx 0 (-1) (-1)) st wy 0 g1.2.1 g1.2.2 (by omega) (Or.inr ⟨hN0, hp0, rfl⟩) hI (by omega) rfl _ _ _ hP hS (lv_sub hl [2, 1, 0] rfl)
set_option maxHeartbeats 4000000 in
set_option maxRecDepth 100000 in
theorem m_X6_runActs_bad (l : Launch) (E : Env3) (ρ : Nat → Nat) (th rc pa kd nm : Int) (st hi ke tx wy : S) (hρ : dR ρ 6) (N : Nat) (hB : txB N tx) (hp0 : ¬ pmF N tx 0 (-1) (-1) = -1) (hp1 : -1 ≤ pmF N tx 0 (-1) (-1) ∧ pmF N tx 0 (-1) (-1) ≤ 100) : Met l yX6_runActs (Cond.code yX6_runActs cX6_runActs 3 (some .int) :: ALL) ({ frames := 7, cells := 0, slots := 0, locals := 156 }) (pR [.ref (ρ 0)] E (refW E ρ th rc ((N : Int)) pa kd nm st hi ke tx wy)) (qX (some (.int (I 0))) E (refW E ρ th rc ((N : Int)) pa kd nm st hi ke tx wy) (fun (g : Int × Int × Int) => (refW E ρ 1 rc ((N : Int)) g.1 g.2.1 g.2.2 st hi ke tx wy))) 0 0 (adIn (refW E ρ th rc ((N : Int)) pa kd nm st hi ke tx wy)) := by
  refine mk_met (by decide) rfl (Nat.le_of_ble_eq_true rfl) ?_
  intro p e s m args below meth c hx hb hrt hml hts hown hlocks hnm hP hK ls hl
  have hown : s.vm.findClass RX6 = some m.cls := hown
  have hl : lv_has ls 3 [(0, .ref (ρ 0))] := hl
  have hD : va_D (adIn (refW E ρ th rc ((N : Int)) pa kd nm st hi ke tx wy)) (refW E ρ th rc ((N : Int)) pa kd nm st hi ke tx wy) := D_of_dR hρ rfl
  have hS : va_S (adIn (refW E ρ th rc ((N : Int)) pa kd nm st hi ke tx wy)) s.heap s.heap [] := va_S.rf
  refine lv_aload_n hx hb dX6_runActs_0 rfl (lv_lk hl rfl) ?_
  refine lv_aload_n hx hb dX6_runActs_1 rfl (lv_lk hl rfl) ?_
  refine call_X (va_runV ⟨hx, hb, hml, hown, hts⟩ (m_X6_findError l E ρ th rc pa kd nm st hi ke tx wy hρ N hB ) (cwV 0 hts (gi_V ml_X6_157 im_X6_findError sl_X6_findError it_X6 cd_X6_findError) rfl rfl rfl (by decide +kernel) ⟨Nat.le_of_ble_eq_true rfl, Nat.le_of_ble_eq_true rfl⟩) (pR_V (q0 := 0) (ci := 6) hP hK rfl rfl) rfl rfl hl.1 rfl (lv_room (Nat.le_of_ble_eq_true rfl)) dX6_runActs_2 ⟨Nat.le_of_ble_eq_true rfl, Nat.le_of_ble_eq_true rfl⟩) (dm hD rfl) hS rfl (fun g1 H locs hP hS => ?_)
  have hP : va_P E.1 vwCl (refW E ρ th rc ((N : Int)) g1.1 g1.2.1 g1.2.2 st hi ke tx wy) H := hP
  refine iv_iconst hx hb dX6_runActs_5 ?_
  refine iv_icmp_ne (tgt := 13) hx hb dX6_runActs_6 (by decide) (by omega) (by omega) (fun c_6 => ?_) (fun c_6 => by exfalso; omega)
  refine iv_iconst hx hb dX6_runActs_13 ?_
  refine va_put (ci := 6) (ty := .int) hx hb hts inX6 tyX6 tyX6_ok nmX6 hown hK.1 hP (dm hD rfl) hS 0 rfl rfl 0 (by decide) (hts _ fl_X6_32) (fun _ h9 => h9) rfl (by decide +kernel) rfl rfl (Nat.le_of_ble_eq_true rfl) dX6_runActs_14 (fun H locs hP _ hS => ?_)
  have hP : va_P E.1 vwCl (refW E ρ 1 rc ((N : Int)) g1.1 g1.2.1 g1.2.2 st hi ke tx wy) H := hP
  refine lv_aload_n hx hb dX6_runActs_17 rfl (lv_lk hl rfl) ?_
  refine va_get (D := E.1) (ci := 6) hx hb hts inX6 hown hK.1 hP 0 rfl rfl 0 (by decide) (hts _ fl_X6_32) (fun _ h9 => h9) rfl dX6_runActs_18 ?_
  refine iv_if_le (tgt := 26) hx hb dX6_runActs_21 (by decide) (by omega) (fun c_21 => by exfalso; omega) (fun c_21 => ?_)
  refine iv_iconst hx hb dX6_runActs_24 ?_
  exact W.iret hx hb hrt (fun t ht hW => ⟨rfl, ⟨(g1.1, g1.2.1, g1.2.2), by rw [ht]; exact hP⟩, hS.F ht⟩) hS.2.2 dX6_runActs_25 hlocks
end
section
/-! the reference, tenth part: the digest; written by ref.py -/
set_option maxHeartbeats 4000000 in
set_option maxRecDepth 100000 in
theorem m_X6_digest (l : Launch) (E : Env3) (ρ : Nat → Nat) (th rc tl pa kd nm : Int) (st hi ke tx wy : S) (hρ : dR ρ 6) (T : Int) (hI : IB T st) : Met l yX6_digest (Cond.code yX6_digest cX6_digest 4 (some .long) :: ALL) ({ frames := 6, cells := 0, slots := 0, locals := 136 }) (pR [.ref (ρ 0)] E (refW E ρ th rc tl pa kd nm st hi ke tx wy)) (qX (some (.long (dig st))) E (refW E ρ th rc tl pa kd nm st hi ke tx wy) (fun (g : S × S) => (refW E ρ 0 rc tl pa kd nm st hi g.1 tx g.2))) 0 0 (adIn (refW E ρ th rc tl pa kd nm st hi ke tx wy)) := by
  refine mk_met (by decide) rfl (Nat.le_of_ble_eq_true rfl) ?_
  intro p e s m args below meth c hx hb hrt hml hts hown hlocks hnm hP hK ls hl
  have hown : s.vm.findClass RX6 = some m.cls := hown
  have hl : lv_has ls 4 [(0, .ref (ρ 0))] := hl
  have hD : va_D (adIn (refW E ρ th rc tl pa kd nm st hi ke tx wy)) (refW E ρ th rc tl pa kd nm st hi ke tx wy) := D_of_dR hρ rfl
  have hS : va_S (adIn (refW E ρ th rc tl pa kd nm st hi ke tx wy)) s.heap s.heap [] := va_S.rf
  refine lv_aload_n hx hb dX6_digest_0 rfl (lv_lk hl rfl) ?_
  refine iv_iconst hx hb dX6_digest_1 ?_
  refine va_put (ci := 6) (ty := .int) hx hb hts inX6 tyX6 tyX6_ok nmX6 hown hK.1 hP (dm hD rfl) hS 0 rfl rfl 0 (by decide) (hts _ fl_X6_32) (fun _ h9 => h9) rfl (by decide +kernel) rfl rfl (Nat.le_of_ble_eq_true rfl) dX6_digest_2 (fun H locs hP _ hS => ?_)
  have hP : va_P E.1 vwCl (refW E ρ 0 rc tl pa kd nm st hi ke tx wy) H := hP
  refine lv_ldc2 hx hb hown (hts _ kl_X6_163) dX6_digest_5 ?_
  refine lv_lstore_n (lv' := [(1, .long _), (0, .ref _)]) hx hb dX6_digest_8 rfl hl (by decide) rfl (fun ls hl => ?_)
  refine lv_ldc2 hx hb hown (hts _ kl_X6_165) dX6_digest_9 ?_
  refine lv_lload_n hx hb dX6_digest_12 rfl (lv_lk hl rfl) ?_
  refine lv_lmul hx hb dX6_digest_13 ?_
  refine lv_aload_n hx hb dX6_digest_14 rfl (lv_lk hl rfl) ?_
  refine va_get (D := E.1) (ci := 6) hx hb hts inX6 hown hK.1 hP 0 rfl rfl 1 (by decide) (hts _ fl_X6_7) (fun _ h9 => h9) rfl dX6_digest_15 ?_
  refine iv_iconst hx hb dX6_digest_18 ?_
  refine iv_iald hx hb hK hP 1 rfl (0) (by omega) (by omega) dX6_digest_19 ?_
  refine lv_i2l hx hb dX6_digest_20 rfl ?_
  refine lv_ladd hx hb dX6_digest_21 ?_
  refine lv_mix ?_
  refine lv_lstore_n (lv' := [(1, .long _), (0, .ref _)]) hx hb dX6_digest_22 rfl hl (by decide) rfl (fun ls hl => ?_)
  refine lv_ldc2 hx hb hown (hts _ kl_X6_165) dX6_digest_23 ?_
  refine lv_lload_n hx hb dX6_digest_26 rfl (lv_lk hl rfl) ?_
  refine lv_lmul hx hb dX6_digest_27 ?_
  refine lv_aload_n hx hb dX6_digest_28 rfl (lv_lk hl rfl) ?_
  refine call_S (va_runV ⟨hx, hb, hml, hown, hts⟩ (m_X6_memories l E ρ 0 rc tl pa kd nm st hi ke tx wy T hI) (cwV 0 hts (gi_V ml_X6_112 im_X6_memories sl_X6_memories it_X6 cd_X6_memories) rfl rfl rfl (by decide +kernel) ⟨Nat.le_of_ble_eq_true rfl, Nat.le_of_ble_eq_true rfl⟩) (pR_V (q0 := 0) (ci := 6) hP hK rfl rfl) rfl rfl hl.1 rfl (lv_room (Nat.le_of_ble_eq_true rfl)) dX6_digest_29 ⟨Nat.le_of_ble_eq_true rfl, Nat.le_of_ble_eq_true rfl⟩) (fun _ h => h) hS rfl (fun locs hS => ?_)
  refine lv_i2l hx hb dX6_digest_32 rfl ?_
  refine lv_ladd hx hb dX6_digest_33 ?_
  refine lv_mix ?_
  refine lv_lstore_n (lv' := [(1, .long _), (0, .ref _)]) hx hb dX6_digest_34 rfl hl (by decide) rfl (fun ls hl => ?_)
  refine lv_ldc2 hx hb hown (hts _ kl_X6_165) dX6_digest_35 ?_
  refine lv_lload_n hx hb dX6_digest_38 rfl (lv_lk hl rfl) ?_
  refine lv_lmul hx hb dX6_digest_39 ?_
  refine lv_aload_n hx hb dX6_digest_40 rfl (lv_lk hl rfl) ?_
  refine call_S (va_runV ⟨hx, hb, hml, hown, hts⟩ (m_X6_untilForgetting l E ρ 0 rc tl pa kd nm st hi ke tx wy T hI) (cwV 0 hts (gi_V ml_X6_119 im_X6_untilForgetting sl_X6_untilForgetting it_X6 cd_X6_untilForgetting) rfl rfl rfl (by decide +kernel) ⟨Nat.le_of_ble_eq_true rfl, Nat.le_of_ble_eq_true rfl⟩) (pR_V (q0 := 0) (ci := 6) hP hK rfl rfl) rfl rfl hl.1 rfl (lv_room (Nat.le_of_ble_eq_true rfl)) dX6_digest_41 ⟨Nat.le_of_ble_eq_true rfl, Nat.le_of_ble_eq_true rfl⟩) (fun _ h => h) hS rfl (fun locs hS => ?_)
  refine lv_i2l hx hb dX6_digest_44 rfl ?_
  refine lv_ladd hx hb dX6_digest_45 ?_
  refine lv_mix ?_
  refine lv_lstore_n (lv' := [(1, .long _), (0, .ref _)]) hx hb dX6_digest_46 rfl hl (by decide) rfl (fun ls hl => ?_)
  refine lv_ldc2 hx hb hown (hts _ kl_X6_165) dX6_digest_47 ?_
  refine lv_lload_n hx hb dX6_digest_50 rfl (lv_lk hl rfl) ?_
  refine lv_lmul hx hb dX6_digest_51 ?_
  refine lv_aload_n hx hb dX6_digest_52 rfl (lv_lk hl rfl) ?_
  refine va_get (D := E.1) (ci := 6) hx hb hts inX6 hown hK.1 hP 0 rfl rfl 1 (by decide) (hts _ fl_X6_7) (fun _ h9 => h9) rfl dX6_digest_53 ?_
  refine iv_iconst hx hb dX6_digest_56 ?_
  refine iv_iald hx hb hK hP 1 rfl (1) (by omega) (by omega) dX6_digest_57 ?_
  refine lv_i2l hx hb dX6_digest_58 rfl ?_
  refine lv_ladd hx hb dX6_digest_59 ?_
  refine lv_mix ?_
  refine lv_lstore_n (lv' := [(1, .long _), (0, .ref _)]) hx hb dX6_digest_60 rfl hl (by decide) rfl (fun ls hl => ?_)
  refine lv_ldc2 hx hb hown (hts _ kl_X6_165) dX6_digest_61 ?_
  refine lv_lload_n hx hb dX6_digest_64 rfl (lv_lk hl rfl) ?_
  refine lv_lmul hx hb dX6_digest_65 ?_
  refine lv_aload_n hx hb dX6_digest_66 rfl (lv_lk hl rfl) ?_
  refine va_get (D := E.1) (ci := 6) hx hb hts inX6 hown hK.1 hP 0 rfl rfl 1 (by decide) (hts _ fl_X6_7) (fun _ h9 => h9) rfl dX6_digest_67 ?_
  refine iv_iconst hx hb dX6_digest_70 ?_
  refine iv_iald hx hb hK hP 1 rfl (2) (by omega) (by omega) dX6_digest_71 ?_
  refine lv_i2l hx hb dX6_digest_72 rfl ?_
  refine lv_ladd hx hb dX6_digest_73 ?_
  refine lv_mix ?_
  refine lv_lstore_n (lv' := [(1, .long _), (0, .ref _)]) hx hb dX6_digest_74 rfl hl (by decide) rfl (fun ls hl => ?_)
  refine lv_ldc2 hx hb hown (hts _ kl_X6_165) dX6_digest_75 ?_
  refine lv_lload_n hx hb dX6_digest_78 rfl (lv_lk hl rfl) ?_
  refine lv_lmul hx hb dX6_digest_79 ?_
  refine lv_aload_n hx hb dX6_digest_80 rfl (lv_lk hl rfl) ?_
  refine va_get (D := E.1) (ci := 6) hx hb hts inX6 hown hK.1 hP 0 rfl rfl 1 (by decide) (hts _ fl_X6_7) (fun _ h9 => h9) rfl dX6_digest_81 ?_
  refine iv_iconst hx hb dX6_digest_84 ?_
  refine iv_iald hx hb hK hP 1 rfl (3) (by omega) (by omega) dX6_digest_85 ?_
  refine lv_i2l hx hb dX6_digest_86 rfl ?_
  refine lv_ladd hx hb dX6_digest_87 ?_
  refine lv_mix ?_
  refine lv_lstore_n (lv' := [(1, .long _), (0, .ref _)]) hx hb dX6_digest_88 rfl hl (by decide) rfl (fun ls hl => ?_)
  refine iv_iconst hx hb dX6_digest_89 ?_
  refine lv_istore_n (lv' := [(3, .int (I _)), (1, .long _), (0, .ref _)]) hx hb dX6_digest_90 rfl hl (by decide) rfl (fun ls hl => ?_)
  have LOOP91 : ∀ (n9 i : Nat) (h9 : Int64), (i + n9 = 6) → (h9 = iterL (digZ st) i (dig0 st)) → ∀ (H : Heap) (locs : List Loc) (ls : Array Slot), va_P E.1 vwCl (refW E ρ 0 rc tl pa kd nm st hi ke tx wy) H → va_S (adIn (refW E ρ th rc tl pa kd nm st hi ke tx wy)) s.heap H locs → lv_has ls 4 [(0, .ref (ρ 0)), (1, .long h9), (3, .int (I (i : Int)))] → W p l e ({ frames := 6, cells := 0, slots := 0, locals := 136 }) s m args below meth c H locs 0 0 (MQ below (qX (some (.long (dig st))) E (refW E ρ th rc tl pa kd nm st hi ke tx wy) (fun (g : S × S) => (refW E ρ 0 rc tl pa kd nm st hi g.1 tx g.2))) args s 0 0 (adIn (refW E ρ th rc tl pa kd nm st hi ke tx wy))) (F0 m 91 ls []) := by
    intro n9
    induction n9 with
    | zero =>
      intro  i h9 hi9 hh9 H locs ls hP hS hl
      obtain rfl : i = 6 := by omega
      refine lv_iload_n hx hb dX6_digest_91 rfl (lv_lk hl rfl) ?_
      refine iv_bipush hx hb dX6_digest_92 (by decide +kernel) ?_
      refine iv_icmp_ge (tgt := 162) hx hb dX6_digest_94 (by decide) (by omega) (by omega) (fun c_94 => ?_) (fun c_94 => by exfalso; omega)
      refine iv_iconst hx hb dX6_digest_162 ?_
      refine lv_istore_n (lv' := [(3, .int (I _)), (0, .ref _), (1, .long _)]) hx hb dX6_digest_163 rfl hl (by decide) rfl (fun ls hl => ?_)
      have LOOP164 : ∀ (n9 i : Nat) (g1 : S × S) (h9 : Int64), (i + n9 = 36) → (h9 = iterL (digR st) i (iterL (digZ st) 6 (dig0 st))) → ∀ (H : Heap) (locs : List Loc) (ls : Array Slot), va_P E.1 vwCl (refW E ρ 0 rc tl pa kd nm st hi g1.1 tx g1.2) H → va_S (adIn (refW E ρ th rc tl pa kd nm st hi ke tx wy)) s.heap H locs → lv_has ls 4 [(0, .ref (ρ 0)), (1, .long h9), (3, .int (I (i : Int)))] → W p l e ({ frames := 6, cells := 0, slots := 0, locals := 136 }) s m args below meth c H locs 0 0 (MQ below (qX (some (.long (dig st))) E (refW E ρ th rc tl pa kd nm st hi ke tx wy) (fun (g : S × S) => (refW E ρ 0 rc tl pa kd nm st hi g.1 tx g.2))) args s 0 0 (adIn (refW E ρ th rc tl pa kd nm st hi ke tx wy))) (F0 m 164 ls []) := by
        intro n9
        induction n9 with
        | zero =>
          intro  i g1 h9 hi9 hh8 H locs ls hP hS hl
          obtain rfl : i = 36 := by omega
          rw [dig_eq] at hh8
          subst hh8
          refine lv_iload_n hx hb dX6_digest_164 rfl (lv_lk hl rfl) ?_
          refine iv_bipush hx hb dX6_digest_165 (by decide +kernel) ?_
          refine iv_icmp_ge (tgt := 296) hx hb dX6_digest_167 (by decide) (by omega) (by omega) (fun c_167 => ?_) (fun c_167 => by exfalso; omega)
          refine lv_lload_n hx hb dX6_digest_296 rfl (lv_lk hl rfl) ?_
          exact W.lret hx hb hrt (fun t ht hW => ⟨rfl, ⟨(g1.1, g1.2), by rw [ht]; exact hP⟩, hS.F ht⟩) hS.2.2 dX6_digest_297 hlocks
        | succ n9 ih =>
          intro  i g1 h9 hi9 hh8 H locs ls hP hS hl
          have t3 := (hI.2.2.2 i (by omega)).2
          unfold triM at t3
          have t0 := hI.1
          have q9 := old_01 st i
          refine lv_iload_n hx hb dX6_digest_164 rfl (lv_lk hl rfl) ?_
          refine iv_bipush hx hb dX6_digest_165 (by decide +kernel) ?_
          refine iv_icmp_ge (tgt := 296) hx hb dX6_digest_167 (by decide) (by omega) (by omega) (fun c_167 => by exfalso; omega) (fun c_167 => ?_)
          refine lv_ldc2 hx hb hown (hts _ kl_X6_165) dX6_digest_170 ?_
          refine lv_lload_n hx hb dX6_digest_173 rfl (lv_lk hl rfl) ?_
          refine lv_lmul hx hb dX6_digest_174 ?_
          refine lv_aload_n hx hb dX6_digest_175 rfl (lv_lk hl rfl) ?_
          refine lv_iload_n hx hb dX6_digest_176 rfl (lv_lk hl rfl) ?_
          refine iv_iconst hx hb dX6_digest_177 ?_
          refine call_S (va_runV ⟨hx, hb, hml, hown, hts⟩ (m_X6_of l E ρ 0 rc tl pa kd nm st hi g1.1 tx g1.2 i 0 (by omega) (by decide)) (cwV 2 hts (gi_V ml_X6_61 im_X6_of sl_X6_of it_X6 cd_X6_of) rfl rfl rfl (by decide +kernel) ⟨Nat.le_of_ble_eq_true rfl, Nat.le_of_ble_eq_true rfl⟩) (pR_V (q0 := 0) (ci := 6) hP hK rfl rfl) rfl rfl hl.1 rfl (lv_room (Nat.le_of_ble_eq_true rfl)) dX6_digest_178 ⟨Nat.le_of_ble_eq_true rfl, Nat.le_of_ble_eq_true rfl⟩) (fun _ h => h) hS rfl (fun locs hS => ?_)
          refine lv_i2l hx hb dX6_digest_181 rfl ?_
          refine lv_ladd hx hb dX6_digest_182 ?_
          refine lv_mix ?_
          refine lv_lstore_n (lv' := [(1, .long _), (0, .ref _), (3, .int (I _))]) hx hb dX6_digest_183 rfl hl (by decide) rfl (fun ls hl => ?_)
          refine lv_ldc2 hx hb hown (hts _ kl_X6_165) dX6_digest_184 ?_
          refine lv_lload_n hx hb dX6_digest_187 rfl (lv_lk hl rfl) ?_
          refine lv_lmul hx hb dX6_digest_188 ?_
          refine lv_aload_n hx hb dX6_digest_189 rfl (lv_lk hl rfl) ?_
          refine lv_iload_n hx hb dX6_digest_190 rfl (lv_lk hl rfl) ?_
          refine iv_iconst hx hb dX6_digest_191 ?_
          refine call_S (va_runV ⟨hx, hb, hml, hown, hts⟩ (m_X6_of l E ρ 0 rc tl pa kd nm st hi g1.1 tx g1.2 i 1 (by omega) (by decide)) (cwV 2 hts (gi_V ml_X6_61 im_X6_of sl_X6_of it_X6 cd_X6_of) rfl rfl rfl (by decide +kernel) ⟨Nat.le_of_ble_eq_true rfl, Nat.le_of_ble_eq_true rfl⟩) (pR_V (q0 := 0) (ci := 6) hP hK rfl rfl) rfl rfl hl.1 rfl (lv_room (Nat.le_of_ble_eq_true rfl)) dX6_digest_192 ⟨Nat.le_of_ble_eq_true rfl, Nat.le_of_ble_eq_true rfl⟩) (fun _ h => h) hS rfl (fun locs hS => ?_)
          refine lv_i2l hx hb dX6_digest_195 rfl ?_
          refine lv_ladd hx hb dX6_digest_196 ?_
          refine lv_mix ?_
          refine lv_lstore_n (lv' := [(1, .long _), (0, .ref _), (3, .int (I _))]) hx hb dX6_digest_197 rfl hl (by decide) rfl (fun ls hl => ?_)
          refine lv_ldc2 hx hb hown (hts _ kl_X6_165) dX6_digest_198 ?_
          refine lv_lload_n hx hb dX6_digest_201 rfl (lv_lk hl rfl) ?_
          refine lv_lmul hx hb dX6_digest_202 ?_
          refine lv_aload_n hx hb dX6_digest_203 rfl (lv_lk hl rfl) ?_
          refine lv_iload_n hx hb dX6_digest_204 rfl (lv_lk hl rfl) ?_
          refine call_S (va_runV ⟨hx, hb, hml, hown, hts⟩ (m_X6_truth l E ρ 0 rc tl pa kd nm st hi g1.1 tx g1.2 T hI i (by omega)) (cwV 1 hts (gi_V ml_X6_106 im_X6_truth sl_X6_truth it_X6 cd_X6_truth) rfl rfl rfl (by decide +kernel) ⟨Nat.le_of_ble_eq_true rfl, Nat.le_of_ble_eq_true rfl⟩) (pR_V (q0 := 0) (ci := 6) hP hK rfl rfl) rfl rfl hl.1 rfl (lv_room (Nat.le_of_ble_eq_true rfl)) dX6_digest_205 ⟨Nat.le_of_ble_eq_true rfl, Nat.le_of_ble_eq_true rfl⟩) (fun _ h => h) hS rfl (fun locs hS => ?_)
          refine lv_i2l hx hb dX6_digest_208 rfl ?_
          refine lv_ladd hx hb dX6_digest_209 ?_
          refine lv_mix ?_
          refine lv_lstore_n (lv' := [(1, .long _), (0, .ref _), (3, .int (I _))]) hx hb dX6_digest_210 rfl hl (by decide) rfl (fun ls hl => ?_)
          refine lv_ldc2 hx hb hown (hts _ kl_X6_165) dX6_digest_211 ?_
          refine lv_lload_n hx hb dX6_digest_214 rfl (lv_lk hl rfl) ?_
          refine lv_lmul hx hb dX6_digest_215 ?_
          refine lv_aload_n hx hb dX6_digest_216 rfl (lv_lk hl rfl) ?_
          refine lv_iload_n hx hb dX6_digest_217 rfl (lv_lk hl rfl) ?_
          refine iv_iconst hx hb dX6_digest_218 ?_
          refine call_S (va_runV ⟨hx, hb, hml, hown, hts⟩ (m_X6_of l E ρ 0 rc tl pa kd nm st hi g1.1 tx g1.2 i 3 (by omega) (by decide)) (cwV 2 hts (gi_V ml_X6_61 im_X6_of sl_X6_of it_X6 cd_X6_of) rfl rfl rfl (by decide +kernel) ⟨Nat.le_of_ble_eq_true rfl, Nat.le_of_ble_eq_true rfl⟩) (pR_V (q0 := 0) (ci := 6) hP hK rfl rfl) rfl rfl hl.1 rfl (lv_room (Nat.le_of_ble_eq_true rfl)) dX6_digest_219 ⟨Nat.le_of_ble_eq_true rfl, Nat.le_of_ble_eq_true rfl⟩) (fun _ h => h) hS rfl (fun locs hS => ?_)
          refine lv_i2l hx hb dX6_digest_222 rfl ?_
          refine lv_ladd hx hb dX6_digest_223 ?_
          refine lv_mix ?_
          refine lv_lstore_n (lv' := [(1, .long _), (0, .ref _), (3, .int (I _))]) hx hb dX6_digest_224 rfl hl (by decide) rfl (fun ls hl => ?_)
          refine lv_ldc2 hx hb hown (hts _ kl_X6_165) dX6_digest_225 ?_
          refine lv_lload_n hx hb dX6_digest_228 rfl (lv_lk hl rfl) ?_
          refine lv_lmul hx hb dX6_digest_229 ?_
          refine lv_aload_n hx hb dX6_digest_230 rfl (lv_lk hl rfl) ?_
          refine lv_aload_n hx hb dX6_digest_231 rfl (lv_lk hl rfl) ?_
          refine lv_iload_n hx hb dX6_digest_232 rfl (lv_lk hl rfl) ?_
          refine iv_iconst hx hb dX6_digest_233 ?_
          refine call_S (va_runV ⟨hx, hb, hml, hown, hts⟩ (m_X6_of l E ρ 0 rc tl pa kd nm st hi g1.1 tx g1.2 i 5 (by omega) (by decide)) (cwV 2 hts (gi_V ml_X6_61 im_X6_of sl_X6_of it_X6 cd_X6_of) rfl rfl rfl (by decide +kernel) ⟨Nat.le_of_ble_eq_true rfl, Nat.le_of_ble_eq_true rfl⟩) (pR_V (q0 := 0) (ci := 6) hP hK rfl rfl) rfl rfl hl.1 rfl (lv_room (Nat.le_of_ble_eq_true rfl)) dX6_digest_234 ⟨Nat.le_of_ble_eq_true rfl, Nat.le_of_ble_eq_true rfl⟩) (fun _ h => h) hS rfl (fun locs hS => ?_)
          refine call_S (va_runV ⟨hx, hb, hml, hown, hts⟩ (m_X6_leftUntil l E ρ 0 rc tl pa kd nm st hi g1.1 tx g1.2 _ (by omega)) (cwV 1 hts (gi_V ml_X6_109 im_X6_leftUntil sl_X6_leftUntil it_X6 cd_X6_leftUntil) rfl rfl rfl (by decide +kernel) ⟨Nat.le_of_ble_eq_true rfl, Nat.le_of_ble_eq_true rfl⟩) (pR_V (q0 := 0) (ci := 6) hP hK rfl rfl) rfl rfl hl.1 rfl (lv_room (Nat.le_of_ble_eq_true rfl)) dX6_digest_237 ⟨Nat.le_of_ble_eq_true rfl, Nat.le_of_ble_eq_true rfl⟩) (fun _ h => h) hS rfl (fun locs hS => ?_)
          refine lv_i2l hx hb dX6_digest_240 rfl ?_
          refine lv_ladd hx hb dX6_digest_241 ?_
          refine lv_mix ?_
          refine lv_lstore_n (lv' := [(1, .long _), (0, .ref _), (3, .int (I _))]) hx hb dX6_digest_242 rfl hl (by decide) rfl (fun ls hl => ?_)
          refine lv_ldc2 hx hb hown (hts _ kl_X6_165) dX6_digest_243 ?_
          refine lv_lload_n hx hb dX6_digest_246 rfl (lv_lk hl rfl) ?_
          refine lv_lmul hx hb dX6_digest_247 ?_
          refine lv_aload_n hx hb dX6_digest_248 rfl (lv_lk hl rfl) ?_
          refine lv_iload_n hx hb dX6_digest_249 rfl (lv_lk hl rfl) ?_
          refine call_S (va_runV ⟨hx, hb, hml, hown, hts⟩ (m_X6_isOld l E ρ 0 rc tl pa kd nm st hi g1.1 tx g1.2 T hI i (by omega)) (cwV 1 hts (gi_V ml_X6_122 im_X6_isOld sl_X6_isOld it_X6 cd_X6_isOld) rfl rfl rfl (by decide +kernel) ⟨Nat.le_of_ble_eq_true rfl, Nat.le_of_ble_eq_true rfl⟩) (pR_V (q0 := 0) (ci := 6) hP hK rfl rfl) rfl rfl hl.1 rfl (lv_room (Nat.le_of_ble_eq_true rfl)) dX6_digest_250 ⟨Nat.le_of_ble_eq_true rfl, Nat.le_of_ble_eq_true rfl⟩) (fun _ h => h) hS rfl (fun locs hS => ?_)
          refine iv_if_eq (tgt := 260) hx hb dX6_digest_253 (by decide) (by omega) (fun c_253 => ?_) (fun c_253 => ?_)
          · refine iv_iconst hx hb dX6_digest_260 ?_
            refine iv_eq (oldI st i) (by omega) ?_
            refine lv_i2l hx hb dX6_digest_261 rfl ?_
            refine lv_ladd hx hb dX6_digest_262 ?_
            refine lv_mix ?_
            refine lv_lstore_n (lv' := [(1, .long _), (0, .ref _), (3, .int (I _))]) hx hb dX6_digest_263 rfl hl (by decide) rfl (fun ls hl => ?_)
            refine lv_ldc2 hx hb hown (hts _ kl_X6_165) dX6_digest_264 ?_
            refine lv_lload_n hx hb dX6_digest_267 rfl (lv_lk hl rfl) ?_
            refine lv_lmul hx hb dX6_digest_268 ?_
            refine lv_aload_n hx hb dX6_digest_269 rfl (lv_lk hl rfl) ?_
            refine lv_iload_n hx hb dX6_digest_270 rfl (lv_lk hl rfl) ?_
            refine call_X (va_runV ⟨hx, hb, hml, hown, hts⟩ (m_X6_would l E ρ 0 rc tl pa kd nm st hi g1.1 tx g1.2 hρ T hI i (by omega)) (cwV 1 hts (gi_V ml_X6_125 im_X6_would sl_X6_would it_X6 cd_X6_would) rfl rfl rfl (by decide +kernel) ⟨Nat.le_of_ble_eq_true rfl, Nat.le_of_ble_eq_true rfl⟩) (pR_V (q0 := 0) (ci := 6) hP hK rfl rfl) rfl rfl hl.1 rfl (lv_room (Nat.le_of_ble_eq_true rfl)) dX6_digest_271 ⟨Nat.le_of_ble_eq_true rfl, Nat.le_of_ble_eq_true rfl⟩) (dm hD rfl) hS rfl (fun g2 H locs hP hS => ?_)
            have hP : va_P E.1 vwCl (refW E ρ 0 rc tl pa kd nm st hi g2.1 tx g2.2) H := hP
            refine lv_i2l hx hb dX6_digest_274 rfl ?_
            refine lv_ladd hx hb dX6_digest_275 ?_
            refine lv_mix ?_
            refine lv_lstore_n (lv' := [(1, .long _), (0, .ref _), (3, .int (I _))]) hx hb dX6_digest_276 rfl hl (by decide) rfl (fun ls hl => ?_)
            refine lv_ldc2 hx hb hown (hts _ kl_X6_165) dX6_digest_277 ?_
            refine lv_lload_n hx hb dX6_digest_280 rfl (lv_lk hl rfl) ?_
            refine lv_lmul hx hb dX6_digest_281 ?_
            refine lv_aload_n hx hb dX6_digest_282 rfl (lv_lk hl rfl) ?_
            refine lv_iload_n hx hb dX6_digest_283 rfl (lv_lk hl rfl) ?_
            refine call_X (va_runV ⟨hx, hb, hml, hown, hts⟩ (m_X6_cost l E ρ 0 rc tl pa kd nm st hi g2.1 tx g2.2 hρ T hI i (by omega)) (cwV 1 hts (gi_V ml_X6_128 im_X6_cost sl_X6_cost it_X6 cd_X6_cost) rfl rfl rfl (by decide +kernel) ⟨Nat.le_of_ble_eq_true rfl, Nat.le_of_ble_eq_true rfl⟩) (pR_V (q0 := 0) (ci := 6) hP hK rfl rfl) rfl rfl hl.1 rfl (lv_room (Nat.le_of_ble_eq_true rfl)) dX6_digest_284 ⟨Nat.le_of_ble_eq_true rfl, Nat.le_of_ble_eq_true rfl⟩) (dm hD rfl) hS rfl (fun g3 H locs hP hS => ?_)
            have hP : va_P E.1 vwCl (refW E ρ 0 rc tl pa kd nm st hi g3.1 tx g3.2) H := hP
            refine lv_i2l hx hb dX6_digest_287 rfl ?_
            refine lv_ladd hx hb dX6_digest_288 ?_
            refine lv_mix ?_
            refine lv_lstore_n (lv' := [(1, .long _), (0, .ref _), (3, .int (I _))]) hx hb dX6_digest_289 rfl hl (by decide) rfl (fun ls hl => ?_)
            refine iv_iinc (k := 2) hx hb dX6_digest_290 hl rfl (((i + 1 : Nat) : Int)) (by omega) (by decide) [(3, .int (I _)), (1, .long _), (0, .ref _)] rfl (fun ls hl => ?_)
            refine lv_goto (tgt := 164) hx hb dX6_digest_293 (by decide) ?_
            exact ih (i + 1) g3 (digR st h9 i) (by omega) (by rw [iterL_s, ← hh8]) H locs ls hP hS (lv_sub hl [2, 1, 0] rfl)
          · refine iv_iconst hx hb dX6_digest_256 ?_
            refine lv_goto (tgt := 261) hx hb dX6_digest_257 (by decide) ?_
            refine iv_eq (oldI st i) (by omega) ?_
            refine lv_i2l hx hb dX6_digest_261 rfl ?_
            refine lv_ladd hx hb dX6_digest_262 ?_
            refine lv_mix ?_
            refine lv_lstore_n (lv' := [(1, .long _), (0, .ref _), (3, .int (I _))]) hx hb dX6_digest_263 rfl hl (by decide) rfl (fun ls hl => ?_)
            refine lv_ldc2 hx hb hown (hts _ kl_X6_165) dX6_digest_264 ?_
            refine lv_lload_n hx hb dX6_digest_267 rfl (lv_lk hl rfl) ?_
            refine lv_lmul hx hb dX6_digest_268 ?_
            refine lv_aload_n hx hb dX6_digest_269 rfl (lv_lk hl rfl) ?_
            refine lv_iload_n hx hb dX6_digest_270 rfl (lv_lk hl rfl) ?_
            refine call_X (va_runV ⟨hx, hb, hml, hown, hts⟩ (m_X6_would l E ρ 0 rc tl pa kd nm st hi g1.1 tx g1.2 hρ T hI i (by omega)) (cwV 1 hts (gi_V ml_X6_125 im_X6_would sl_X6_would it_X6 cd_X6_would) rfl rfl rfl (by decide +kernel) ⟨Nat.le_of_ble_eq_true rfl, Nat.le_of_ble_eq_true rfl⟩) (pR_V (q0 := 0) (ci := 6) hP hK rfl rfl) rfl rfl hl.1 rfl (lv_room (Nat.le_of_ble_eq_true rfl)) dX6_digest_271 ⟨Nat.le_of_ble_eq_true rfl, Nat.le_of_ble_eq_true rfl⟩) (dm hD rfl) hS rfl (fun g2 H locs hP hS => ?_)
            have hP : va_P E.1 vwCl (refW E ρ 0 rc tl pa kd nm st hi g2.1 tx g2.2) H := hP
            refine lv_i2l hx hb dX6_digest_274 rfl ?_
            refine lv_ladd hx hb dX6_digest_275 ?_
            refine lv_mix ?_
            refine lv_lstore_n (lv' := [(1, .long _), (0, .ref _), (3, .int (I _))]) hx hb dX6_digest_276 rfl hl (by decide) rfl (fun ls hl => ?_)
            refine lv_ldc2 hx hb hown (hts _ kl_X6_165) dX6_digest_277 ?_
            refine lv_lload_n hx hb dX6_digest_280 rfl (lv_lk hl rfl) ?_
            refine lv_lmul hx hb dX6_digest_281 ?_
            refine lv_aload_n hx hb dX6_digest_282 rfl (lv_lk hl rfl) ?_
            refine lv_iload_n hx hb dX6_digest_283 rfl (lv_lk hl rfl) ?_
            refine call_X (va_runV ⟨hx, hb, hml, hown, hts⟩ (m_X6_cost l E ρ 0 rc tl pa kd nm st hi g2.1 tx g2.2 hρ T hI i (by omega)) (cwV 1 hts (gi_V ml_X6_128 im_X6_cost sl_X6_cost it_X6 cd_X6_cost) rfl rfl rfl (by decide +kernel) ⟨Nat.le_of_ble_eq_true rfl, Nat.le_of_ble_eq_true rfl⟩) (pR_V (q0 := 0) (ci := 6) hP hK rfl rfl) rfl rfl hl.1 rfl (lv_room (Nat.le_of_ble_eq_true rfl)) dX6_digest_284 ⟨Nat.le_of_ble_eq_true rfl, Nat.le_of_ble_eq_true rfl⟩) (dm hD rfl) hS rfl (fun g3 H locs hP hS => ?_)
            have hP : va_P E.1 vwCl (refW E ρ 0 rc tl pa kd nm st hi g3.1 tx g3.2) H := hP
            refine lv_i2l hx hb dX6_digest_287 rfl ?_
            refine lv_ladd hx hb dX6_digest_288 ?_
            refine lv_mix ?_
            refine lv_lstore_n (lv' := [(1, .long _), (0, .ref _), (3, .int (I _))]) hx hb dX6_digest_289 rfl hl (by decide) rfl (fun ls hl => ?_)
            refine iv_iinc (k := 2) hx hb dX6_digest_290 hl rfl (((i + 1 : Nat) : Int)) (by omega) (by decide) [(3, .int (I _)), (1, .long _), (0, .ref _)] rfl (fun ls hl => ?_)
            refine lv_goto (tgt := 164) hx hb dX6_digest_293 (by decide) ?_
            exact ih (i + 1) g3 (digR st h9 i) (by omega) (by rw [iterL_s, ← hh8]) H locs ls hP hS (lv_sub hl [2, 1, 0] rfl)
      exact LOOP164 36 0 (ke, wy) h9 (by omega) (by rw [iterL_0]; exact hh9) _ _ _ hP hS (lv_sub hl [1, 2, 0] rfl)
    | succ n9 ih =>
      intro  i h9 hi9 hh9 H locs ls hP hS hl
      have t3 := (hI.2.2.1 i (by omega)).2.2.2.2.2
      have t0 := hI.1
      refine lv_iload_n hx hb dX6_digest_91 rfl (lv_lk hl rfl) ?_
      refine iv_bipush hx hb dX6_digest_92 (by decide +kernel) ?_
      refine iv_icmp_ge (tgt := 162) hx hb dX6_digest_94 (by decide) (by omega) (by omega) (fun c_94 => by exfalso; omega) (fun c_94 => ?_)
      refine lv_ldc2 hx hb hown (hts _ kl_X6_165) dX6_digest_97 ?_
      refine lv_lload_n hx hb dX6_digest_100 rfl (lv_lk hl rfl) ?_
      refine lv_lmul hx hb dX6_digest_101 ?_
      refine lv_aload_n hx hb dX6_digest_102 rfl (lv_lk hl rfl) ?_
      refine lv_iload_n hx hb dX6_digest_103 rfl (lv_lk hl rfl) ?_
      refine iv_iconst hx hb dX6_digest_104 ?_
      refine call_S (va_runV ⟨hx, hb, hml, hown, hts⟩ (m_X6_ofZone l E ρ 0 rc tl pa kd nm st hi ke tx wy i 0 (by omega) (by decide)) (cwV 2 hts (gi_V ml_X6_50 im_X6_ofZone sl_X6_ofZone it_X6 cd_X6_ofZone) rfl rfl rfl (by decide +kernel) ⟨Nat.le_of_ble_eq_true rfl, Nat.le_of_ble_eq_true rfl⟩) (pR_V (q0 := 0) (ci := 6) hP hK rfl rfl) rfl rfl hl.1 rfl (lv_room (Nat.le_of_ble_eq_true rfl)) dX6_digest_105 ⟨Nat.le_of_ble_eq_true rfl, Nat.le_of_ble_eq_true rfl⟩) (fun _ h => h) hS rfl (fun locs hS => ?_)
      refine lv_i2l hx hb dX6_digest_108 rfl ?_
      refine lv_ladd hx hb dX6_digest_109 ?_
      refine lv_mix ?_
      refine lv_lstore_n (lv' := [(1, .long _), (0, .ref _), (3, .int (I _))]) hx hb dX6_digest_110 rfl hl (by decide) rfl (fun ls hl => ?_)
      refine lv_ldc2 hx hb hown (hts _ kl_X6_165) dX6_digest_111 ?_
      refine lv_lload_n hx hb dX6_digest_114 rfl (lv_lk hl rfl) ?_
      refine lv_lmul hx hb dX6_digest_115 ?_
      refine lv_aload_n hx hb dX6_digest_116 rfl (lv_lk hl rfl) ?_
      refine lv_iload_n hx hb dX6_digest_117 rfl (lv_lk hl rfl) ?_
      refine call_S (va_runV ⟨hx, hb, hml, hown, hts⟩ (m_X6_depth l E ρ 0 rc tl pa kd nm st hi ke tx wy T hI i (by omega)) (cwV 1 hts (gi_V ml_X6_100 im_X6_depth sl_X6_depth it_X6 cd_X6_depth) rfl rfl rfl (by decide +kernel) ⟨Nat.le_of_ble_eq_true rfl, Nat.le_of_ble_eq_true rfl⟩) (pR_V (q0 := 0) (ci := 6) hP hK rfl rfl) rfl rfl hl.1 rfl (lv_room (Nat.le_of_ble_eq_true rfl)) dX6_digest_118 ⟨Nat.le_of_ble_eq_true rfl, Nat.le_of_ble_eq_true rfl⟩) (fun _ h => h) hS rfl (fun locs hS => ?_)
      refine lv_i2l hx hb dX6_digest_121 rfl ?_
      refine lv_ladd hx hb dX6_digest_122 ?_
      refine lv_mix ?_
      refine lv_lstore_n (lv' := [(1, .long _), (0, .ref _), (3, .int (I _))]) hx hb dX6_digest_123 rfl hl (by decide) rfl (fun ls hl => ?_)
      refine lv_ldc2 hx hb hown (hts _ kl_X6_165) dX6_digest_124 ?_
      refine lv_lload_n hx hb dX6_digest_127 rfl (lv_lk hl rfl) ?_
      refine lv_lmul hx hb dX6_digest_128 ?_
      refine lv_aload_n hx hb dX6_digest_129 rfl (lv_lk hl rfl) ?_
      refine lv_aload_n hx hb dX6_digest_130 rfl (lv_lk hl rfl) ?_
      refine lv_iload_n hx hb dX6_digest_131 rfl (lv_lk hl rfl) ?_
      refine iv_iconst hx hb dX6_digest_132 ?_
      refine call_S (va_runV ⟨hx, hb, hml, hown, hts⟩ (m_X6_ofZone l E ρ 0 rc tl pa kd nm st hi ke tx wy i 3 (by omega) (by decide)) (cwV 2 hts (gi_V ml_X6_50 im_X6_ofZone sl_X6_ofZone it_X6 cd_X6_ofZone) rfl rfl rfl (by decide +kernel) ⟨Nat.le_of_ble_eq_true rfl, Nat.le_of_ble_eq_true rfl⟩) (pR_V (q0 := 0) (ci := 6) hP hK rfl rfl) rfl rfl hl.1 rfl (lv_room (Nat.le_of_ble_eq_true rfl)) dX6_digest_133 ⟨Nat.le_of_ble_eq_true rfl, Nat.le_of_ble_eq_true rfl⟩) (fun _ h => h) hS rfl (fun locs hS => ?_)
      refine call_S (va_runV ⟨hx, hb, hml, hown, hts⟩ (m_X6_leftUntil l E ρ 0 rc tl pa kd nm st hi ke tx wy _ (by omega)) (cwV 1 hts (gi_V ml_X6_109 im_X6_leftUntil sl_X6_leftUntil it_X6 cd_X6_leftUntil) rfl rfl rfl (by decide +kernel) ⟨Nat.le_of_ble_eq_true rfl, Nat.le_of_ble_eq_true rfl⟩) (pR_V (q0 := 0) (ci := 6) hP hK rfl rfl) rfl rfl hl.1 rfl (lv_room (Nat.le_of_ble_eq_true rfl)) dX6_digest_136 ⟨Nat.le_of_ble_eq_true rfl, Nat.le_of_ble_eq_true rfl⟩) (fun _ h => h) hS rfl (fun locs hS => ?_)
      refine lv_i2l hx hb dX6_digest_139 rfl ?_
      refine lv_ladd hx hb dX6_digest_140 ?_
      refine lv_mix ?_
      refine lv_lstore_n (lv' := [(1, .long _), (0, .ref _), (3, .int (I _))]) hx hb dX6_digest_141 rfl hl (by decide) rfl (fun ls hl => ?_)
      refine lv_ldc2 hx hb hown (hts _ kl_X6_165) dX6_digest_142 ?_
      refine lv_lload_n hx hb dX6_digest_145 rfl (lv_lk hl rfl) ?_
      refine lv_lmul hx hb dX6_digest_146 ?_
      refine lv_aload_n hx hb dX6_digest_147 rfl (lv_lk hl rfl) ?_
      refine lv_iload_n hx hb dX6_digest_148 rfl (lv_lk hl rfl) ?_
      refine iv_iconst hx hb dX6_digest_149 ?_
      refine call_S (va_runV ⟨hx, hb, hml, hown, hts⟩ (m_X6_ofZone l E ρ 0 rc tl pa kd nm st hi ke tx wy i 4 (by omega) (by decide)) (cwV 2 hts (gi_V ml_X6_50 im_X6_ofZone sl_X6_ofZone it_X6 cd_X6_ofZone) rfl rfl rfl (by decide +kernel) ⟨Nat.le_of_ble_eq_true rfl, Nat.le_of_ble_eq_true rfl⟩) (pR_V (q0 := 0) (ci := 6) hP hK rfl rfl) rfl rfl hl.1 rfl (lv_room (Nat.le_of_ble_eq_true rfl)) dX6_digest_150 ⟨Nat.le_of_ble_eq_true rfl, Nat.le_of_ble_eq_true rfl⟩) (fun _ h => h) hS rfl (fun locs hS => ?_)
      refine lv_i2l hx hb dX6_digest_153 rfl ?_
      refine lv_ladd hx hb dX6_digest_154 ?_
      refine lv_mix ?_
      refine lv_lstore_n (lv' := [(1, .long _), (0, .ref _), (3, .int (I _))]) hx hb dX6_digest_155 rfl hl (by decide) rfl (fun ls hl => ?_)
      refine iv_iinc (k := 2) hx hb dX6_digest_156 hl rfl (((i + 1 : Nat) : Int)) (by omega) (by decide) [(3, .int (I _)), (1, .long _), (0, .ref _)] rfl (fun ls hl => ?_)
      refine lv_goto (tgt := 91) hx hb dX6_digest_159 (by decide) ?_
      exact ih (i + 1) (digZ st h9 i) (by omega) (by rw [iterL_s, ← hh9]) H locs ls hP hS (lv_sub hl [2, 1, 0] rfl)
  exact LOOP91 6 0 (dig0 st) (by omega) (iterL_0 _ _).symm _ _ _ hP hS (lv_sub hl [2, 1, 0] rfl)
end
