section
-- ===== PART A: goes FIRST, ahead of the names: the tables' words, and 'selects' of the private methods out of them =====
/-- a private method of a class that the tables say can be made, by its rows of tables_1 -/
def lw_okq (q : MethodName × Nat) : Prop := (q.1.cls ≠ "java/lang/invoke/MethodHandle" ∧ q.1.cls ≠ "java/lang/invoke/VarHandle") ∧ Cond.instantiable q.1.cls q.2 ∈ tables_1 ∧ Cond.privateMethod q.1 ∈ tables_1 ∧ Cond.instanceMethod q.1 ∈ tables_1
theorem lw_p0 : lw_okq (⟨"ClockedFlows$Text", "letterAt", "(I)I"⟩, 2) := ⟨⟨by decide +kernel, by decide +kernel⟩, List.mem_of_getElem? (i := 26) (by decide +kernel), List.mem_of_getElem? (i := 218) (by decide +kernel), List.mem_of_getElem? (i := 219) (by decide +kernel)⟩
theorem lw_p1 : lw_okq (⟨"ClockedFlows$Text", "readEquation", "(LClockedFlows$Flow;II)I"⟩, 2) := ⟨⟨by decide +kernel, by decide +kernel⟩, List.mem_of_getElem? (i := 26) (by decide +kernel), List.mem_of_getElem? (i := 222) (by decide +kernel), List.mem_of_getElem? (i := 223) (by decide +kernel)⟩
theorem lw_p2 : lw_okq (⟨"ClockedFlows$Flow", "heldAtFirst", "(I)I"⟩, 6) := ⟨⟨by decide +kernel, by decide +kernel⟩, List.mem_of_getElem? (i := 41) (by decide +kernel), List.mem_of_getElem? (i := 354) (by decide +kernel), List.mem_of_getElem? (i := 355) (by decide +kernel)⟩
theorem lw_p3 : lw_okq (⟨"ClockedFlows$Sense", "findClash", "(LClockedFlows$Flow;)I"⟩, 11) := ⟨⟨by decide +kernel, by decide +kernel⟩, List.mem_of_getElem? (i := 74) (by decide +kernel), List.mem_of_getElem? (i := 372) (by decide +kernel), List.mem_of_getElem? (i := 373) (by decide +kernel)⟩
theorem lw_p4 : lw_okq (⟨"ClockedFlows$Sense", "meet", "(LClockedFlows$Flow;I)Z"⟩, 11) := ⟨⟨by decide +kernel, by decide +kernel⟩, List.mem_of_getElem? (i := 74) (by decide +kernel), List.mem_of_getElem? (i := 376) (by decide +kernel), List.mem_of_getElem? (i := 377) (by decide +kernel)⟩
theorem lw_p5 : lw_okq (⟨"ClockedFlows$Sense", "bind", "(II)Z"⟩, 11) := ⟨⟨by decide +kernel, by decide +kernel⟩, List.mem_of_getElem? (i := 74) (by decide +kernel), List.mem_of_getElem? (i := 382) (by decide +kernel), List.mem_of_getElem? (i := 383) (by decide +kernel)⟩
theorem lw_p6 : lw_okq (⟨"ClockedFlows$Sense", "liken", "(II)Z"⟩, 11) := ⟨⟨by decide +kernel, by decide +kernel⟩, List.mem_of_getElem? (i := 74) (by decide +kernel), List.mem_of_getElem? (i := 386) (by decide +kernel), List.mem_of_getElem? (i := 387) (by decide +kernel)⟩
theorem lw_p7 : lw_okq (⟨"ClockedFlows$Sense", "likenAll", "(LClockedFlows$Flow;I)Z"⟩, 11) := ⟨⟨by decide +kernel, by decide +kernel⟩, List.mem_of_getElem? (i := 74) (by decide +kernel), List.mem_of_getElem? (i := 390) (by decide +kernel), List.mem_of_getElem? (i := 391) (by decide +kernel)⟩
theorem lw_p8 : lw_okq (⟨"ClockedFlows$Sense", "haveEnds", "()Z"⟩, 11) := ⟨⟨by decide +kernel, by decide +kernel⟩, List.mem_of_getElem? (i := 74) (by decide +kernel), List.mem_of_getElem? (i := 395) (by decide +kernel), List.mem_of_getElem? (i := 396) (by decide +kernel)⟩
theorem lw_p9 : lw_okq (⟨"ClockedFlows$Sense", "settle", "()V"⟩, 11) := ⟨⟨by decide +kernel, by decide +kernel⟩, List.mem_of_getElem? (i := 74) (by decide +kernel), List.mem_of_getElem? (i := 399) (by decide +kernel), List.mem_of_getElem? (i := 400) (by decide +kernel)⟩
theorem lw_p10 : lw_okq (⟨"ClockedFlows$Sense", "putInOrder", "(LClockedFlows$Flow;)V"⟩, 11) := ⟨⟨by decide +kernel, by decide +kernel⟩, List.mem_of_getElem? (i := 74) (by decide +kernel), List.mem_of_getElem? (i := 403) (by decide +kernel), List.mem_of_getElem? (i := 404) (by decide +kernel)⟩
theorem lw_p11 : lw_okq (⟨"ClockedFlows$Sense", "leastReady", "(LClockedFlows$Flow;I)I"⟩, 11) := ⟨⟨by decide +kernel, by decide +kernel⟩, List.mem_of_getElem? (i := 74) (by decide +kernel), List.mem_of_getElem? (i := 408) (by decide +kernel), List.mem_of_getElem? (i := 409) (by decide +kernel)⟩
theorem lw_p12 : lw_okq (⟨"ClockedFlows$Sense", "waits", "(LClockedFlows$Flow;I)I"⟩, 11) := ⟨⟨by decide +kernel, by decide +kernel⟩, List.mem_of_getElem? (i := 74) (by decide +kernel), List.mem_of_getElem? (i := 412) (by decide +kernel), List.mem_of_getElem? (i := 413) (by decide +kernel)⟩
theorem lw_p13 : lw_okq (⟨"ClockedFlows$Sense", "findLevels", "(LClockedFlows$Flow;)V"⟩, 11) := ⟨⟨by decide +kernel, by decide +kernel⟩, List.mem_of_getElem? (i := 74) (by decide +kernel), List.mem_of_getElem? (i := 416) (by decide +kernel), List.mem_of_getElem? (i := 417) (by decide +kernel)⟩
theorem lw_p14 : lw_okq (⟨"ClockedFlows$Sense", "levelByParts", "(LClockedFlows$Flow;I)I"⟩, 11) := ⟨⟨by decide +kernel, by decide +kernel⟩, List.mem_of_getElem? (i := 74) (by decide +kernel), List.mem_of_getElem? (i := 420) (by decide +kernel), List.mem_of_getElem? (i := 421) (by decide +kernel)⟩
theorem lw_p15 : lw_okq (⟨"ClockedFlows$Sense", "highest", "(LClockedFlows$Flow;I)I"⟩, 11) := ⟨⟨by decide +kernel, by decide +kernel⟩, List.mem_of_getElem? (i := 74) (by decide +kernel), List.mem_of_getElem? (i := 424) (by decide +kernel), List.mem_of_getElem? (i := 425) (by decide +kernel)⟩
def lw_privs_1 : List (MethodName × Nat) := [(⟨"ClockedFlows$Text", "letterAt", "(I)I"⟩, 2), (⟨"ClockedFlows$Text", "readEquation", "(LClockedFlows$Flow;II)I"⟩, 2), (⟨"ClockedFlows$Flow", "heldAtFirst", "(I)I"⟩, 6), (⟨"ClockedFlows$Sense", "findClash", "(LClockedFlows$Flow;)I"⟩, 11), (⟨"ClockedFlows$Sense", "meet", "(LClockedFlows$Flow;I)Z"⟩, 11), (⟨"ClockedFlows$Sense", "bind", "(II)Z"⟩, 11), (⟨"ClockedFlows$Sense", "liken", "(II)Z"⟩, 11), (⟨"ClockedFlows$Sense", "likenAll", "(LClockedFlows$Flow;I)Z"⟩, 11), (⟨"ClockedFlows$Sense", "haveEnds", "()Z"⟩, 11), (⟨"ClockedFlows$Sense", "settle", "()V"⟩, 11), (⟨"ClockedFlows$Sense", "putInOrder", "(LClockedFlows$Flow;)V"⟩, 11), (⟨"ClockedFlows$Sense", "leastReady", "(LClockedFlows$Flow;I)I"⟩, 11), (⟨"ClockedFlows$Sense", "waits", "(LClockedFlows$Flow;I)I"⟩, 11), (⟨"ClockedFlows$Sense", "findLevels", "(LClockedFlows$Flow;)V"⟩, 11), (⟨"ClockedFlows$Sense", "levelByParts", "(LClockedFlows$Flow;I)I"⟩, 11), (⟨"ClockedFlows$Sense", "highest", "(LClockedFlows$Flow;I)I"⟩, 11)]
theorem lw_r1 : ∀ q ∈ lw_privs_1, lw_okq q := List.forall_mem_cons.mpr ⟨lw_p0, List.forall_mem_cons.mpr ⟨lw_p1, List.forall_mem_cons.mpr ⟨lw_p2, List.forall_mem_cons.mpr ⟨lw_p3, List.forall_mem_cons.mpr ⟨lw_p4, List.forall_mem_cons.mpr ⟨lw_p5, List.forall_mem_cons.mpr ⟨lw_p6, List.forall_mem_cons.mpr ⟨lw_p7, List.forall_mem_cons.mpr ⟨lw_p8, List.forall_mem_cons.mpr ⟨lw_p9, List.forall_mem_cons.mpr ⟨lw_p10, List.forall_mem_cons.mpr ⟨lw_p11, List.forall_mem_cons.mpr ⟨lw_p12, List.forall_mem_cons.mpr ⟨lw_p13, List.forall_mem_cons.mpr ⟨lw_p14, List.forall_mem_cons.mpr ⟨lw_p15, fun _ h => absurd h List.not_mem_nil⟩⟩⟩⟩⟩⟩⟩⟩⟩⟩⟩⟩⟩⟩⟩⟩
theorem lw_p16 : lw_okq (⟨"ClockedFlows$Sense", "findRaw", "(LClockedFlows$Flow;)I"⟩, 11) := ⟨⟨by decide +kernel, by decide +kernel⟩, List.mem_of_getElem? (i := 74) (by decide +kernel), List.mem_of_getElem? (i := 429) (by decide +kernel), List.mem_of_getElem? (i := 430) (by decide +kernel)⟩
theorem lw_p17 : lw_okq (⟨"ClockedFlows$Sense", "isRaw", "(LClockedFlows$Flow;I)Z"⟩, 11) := ⟨⟨by decide +kernel, by decide +kernel⟩, List.mem_of_getElem? (i := 74) (by decide +kernel), List.mem_of_getElem? (i := 433) (by decide +kernel), List.mem_of_getElem? (i := 434) (by decide +kernel)⟩
theorem lw_p18 : lw_okq (⟨"ClockedFlows", "soundness", "()I"⟩, 10) := ⟨⟨by decide +kernel, by decide +kernel⟩, List.mem_of_getElem? (i := 18) (by decide +kernel), List.mem_of_getElem? (i := 437) (by decide +kernel), List.mem_of_getElem? (i := 438) (by decide +kernel)⟩
theorem lw_p19 : lw_okq (⟨"ClockedFlows", "isStream", "(I)Z"⟩, 10) := ⟨⟨by decide +kernel, by decide +kernel⟩, List.mem_of_getElem? (i := 18) (by decide +kernel), List.mem_of_getElem? (i := 457) (by decide +kernel), List.mem_of_getElem? (i := 458) (by decide +kernel)⟩
theorem lw_p20 : lw_okq (⟨"ClockedFlows$Flow", "isThere", "(I)Z"⟩, 6) := ⟨⟨by decide +kernel, by decide +kernel⟩, List.mem_of_getElem? (i := 41) (by decide +kernel), List.mem_of_getElem? (i := 495) (by decide +kernel), List.mem_of_getElem? (i := 496) (by decide +kernel)⟩
theorem lw_p21 : lw_okq (⟨"ClockedFlows$Flow", "reckon", "(III)I"⟩, 6) := ⟨⟨by decide +kernel, by decide +kernel⟩, List.mem_of_getElem? (i := 41) (by decide +kernel), List.mem_of_getElem? (i := 500) (by decide +kernel), List.mem_of_getElem? (i := 501) (by decide +kernel)⟩
theorem lw_p22 : lw_okq (⟨"ClockedFlows$Flow", "combine", "(III)I"⟩, 6) := ⟨⟨by decide +kernel, by decide +kernel⟩, List.mem_of_getElem? (i := 41) (by decide +kernel), List.mem_of_getElem? (i := 504) (by decide +kernel), List.mem_of_getElem? (i := 505) (by decide +kernel)⟩
theorem lw_p23 : lw_okq (⟨"ClockedFlows$Flow", "choose", "(III)I"⟩, 6) := ⟨⟨by decide +kernel, by decide +kernel⟩, List.mem_of_getElem? (i := 41) (by decide +kernel), List.mem_of_getElem? (i := 508) (by decide +kernel), List.mem_of_getElem? (i := 509) (by decide +kernel)⟩
theorem lw_p24 : lw_okq (⟨"ClockedFlows$Flow", "heldNext", "(I)I"⟩, 6) := ⟨⟨by decide +kernel, by decide +kernel⟩, List.mem_of_getElem? (i := 41) (by decide +kernel), List.mem_of_getElem? (i := 512) (by decide +kernel), List.mem_of_getElem? (i := 513) (by decide +kernel)⟩
theorem lw_p25 : lw_okq (⟨"ClockedFlows", "isEquation", "(IIII)Z"⟩, 10) := ⟨⟨by decide +kernel, by decide +kernel⟩, List.mem_of_getElem? (i := 18) (by decide +kernel), List.mem_of_getElem? (i := 530) (by decide +kernel), List.mem_of_getElem? (i := 531) (by decide +kernel)⟩
theorem lw_p26 : lw_okq (⟨"ClockedFlows", "layTrail", "(II)V"⟩, 10) := ⟨⟨by decide +kernel, by decide +kernel⟩, List.mem_of_getElem? (i := 18) (by decide +kernel), List.mem_of_getElem? (i := 556) (by decide +kernel), List.mem_of_getElem? (i := 557) (by decide +kernel)⟩
theorem lw_p27 : lw_okq (⟨"ClockedFlows", "sameOnTrail", "(II)Z"⟩, 10) := ⟨⟨by decide +kernel, by decide +kernel⟩, List.mem_of_getElem? (i := 18) (by decide +kernel), List.mem_of_getElem? (i := 561) (by decide +kernel), List.mem_of_getElem? (i := 562) (by decide +kernel)⟩
theorem lw_p28 : lw_okq (⟨"ClockedFlows", "holds", "(I)Z"⟩, 10) := ⟨⟨by decide +kernel, by decide +kernel⟩, List.mem_of_getElem? (i := 18) (by decide +kernel), List.mem_of_getElem? (i := 573) (by decide +kernel), List.mem_of_getElem? (i := 574) (by decide +kernel)⟩
theorem lw_p29 : lw_okq (⟨"ClockedFlows", "explains", "(II)Z"⟩, 10) := ⟨⟨by decide +kernel, by decide +kernel⟩, List.mem_of_getElem? (i := 18) (by decide +kernel), List.mem_of_getElem? (i := 593) (by decide +kernel), List.mem_of_getElem? (i := 594) (by decide +kernel)⟩
theorem lw_p30 : lw_okq (⟨"ClockedFlows", "timesThere", "(III)I"⟩, 10) := ⟨⟨by decide +kernel, by decide +kernel⟩, List.mem_of_getElem? (i := 18) (by decide +kernel), List.mem_of_getElem? (i := 611) (by decide +kernel), List.mem_of_getElem? (i := 612) (by decide +kernel)⟩
theorem lw_p31 : lw_okq (⟨"ClockedFlowsModel", "readProgram", "()I"⟩, 28) := ⟨⟨by decide +kernel, by decide +kernel⟩, List.mem_of_getElem? (i := 644) (by decide +kernel), List.mem_of_getElem? (i := 751) (by decide +kernel), List.mem_of_getElem? (i := 752) (by decide +kernel)⟩
def lw_privs_2 : List (MethodName × Nat) := [(⟨"ClockedFlows$Sense", "findRaw", "(LClockedFlows$Flow;)I"⟩, 11), (⟨"ClockedFlows$Sense", "isRaw", "(LClockedFlows$Flow;I)Z"⟩, 11), (⟨"ClockedFlows", "soundness", "()I"⟩, 10), (⟨"ClockedFlows", "isStream", "(I)Z"⟩, 10), (⟨"ClockedFlows$Flow", "isThere", "(I)Z"⟩, 6), (⟨"ClockedFlows$Flow", "reckon", "(III)I"⟩, 6), (⟨"ClockedFlows$Flow", "combine", "(III)I"⟩, 6), (⟨"ClockedFlows$Flow", "choose", "(III)I"⟩, 6), (⟨"ClockedFlows$Flow", "heldNext", "(I)I"⟩, 6), (⟨"ClockedFlows", "isEquation", "(IIII)Z"⟩, 10), (⟨"ClockedFlows", "layTrail", "(II)V"⟩, 10), (⟨"ClockedFlows", "sameOnTrail", "(II)Z"⟩, 10), (⟨"ClockedFlows", "holds", "(I)Z"⟩, 10), (⟨"ClockedFlows", "explains", "(II)Z"⟩, 10), (⟨"ClockedFlows", "timesThere", "(III)I"⟩, 10), (⟨"ClockedFlowsModel", "readProgram", "()I"⟩, 28)]
theorem lw_r2 : ∀ q ∈ lw_privs_2, lw_okq q := List.forall_mem_cons.mpr ⟨lw_p16, List.forall_mem_cons.mpr ⟨lw_p17, List.forall_mem_cons.mpr ⟨lw_p18, List.forall_mem_cons.mpr ⟨lw_p19, List.forall_mem_cons.mpr ⟨lw_p20, List.forall_mem_cons.mpr ⟨lw_p21, List.forall_mem_cons.mpr ⟨lw_p22, List.forall_mem_cons.mpr ⟨lw_p23, List.forall_mem_cons.mpr ⟨lw_p24, List.forall_mem_cons.mpr ⟨lw_p25, List.forall_mem_cons.mpr ⟨lw_p26, List.forall_mem_cons.mpr ⟨lw_p27, List.forall_mem_cons.mpr ⟨lw_p28, List.forall_mem_cons.mpr ⟨lw_p29, List.forall_mem_cons.mpr ⟨lw_p30, List.forall_mem_cons.mpr ⟨lw_p31, fun _ h => absurd h List.not_mem_nil⟩⟩⟩⟩⟩⟩⟩⟩⟩⟩⟩⟩⟩⟩⟩⟩
theorem lw_p32 : lw_okq (⟨"ClockedFlowsModel", "letterAt", "(I)I"⟩, 28) := ⟨⟨by decide +kernel, by decide +kernel⟩, List.mem_of_getElem? (i := 644) (by decide +kernel), List.mem_of_getElem? (i := 755) (by decide +kernel), List.mem_of_getElem? (i := 756) (by decide +kernel)⟩
theorem lw_p33 : lw_okq (⟨"ClockedFlowsModel", "readEquation", "(II)Z"⟩, 28) := ⟨⟨by decide +kernel, by decide +kernel⟩, List.mem_of_getElem? (i := 644) (by decide +kernel), List.mem_of_getElem? (i := 760) (by decide +kernel), List.mem_of_getElem? (i := 761) (by decide +kernel)⟩
theorem lw_p34 : lw_okq (⟨"ClockedFlowsModel", "soundNow", "()Z"⟩, 28) := ⟨⟨by decide +kernel, by decide +kernel⟩, List.mem_of_getElem? (i := 644) (by decide +kernel), List.mem_of_getElem? (i := 780) (by decide +kernel), List.mem_of_getElem? (i := 781) (by decide +kernel)⟩
theorem lw_p35 : lw_okq (⟨"ClockedFlowsModel", "find", "([I)V"⟩, 28) := ⟨⟨by decide +kernel, by decide +kernel⟩, List.mem_of_getElem? (i := 644) (by decide +kernel), List.mem_of_getElem? (i := 784) (by decide +kernel), List.mem_of_getElem? (i := 785) (by decide +kernel)⟩
theorem lw_p36 : lw_okq (⟨"ClockedFlowsModel", "findClocks", "([I)V"⟩, 28) := ⟨⟨by decide +kernel, by decide +kernel⟩, List.mem_of_getElem? (i := 644) (by decide +kernel), List.mem_of_getElem? (i := 788) (by decide +kernel), List.mem_of_getElem? (i := 789) (by decide +kernel)⟩
theorem lw_p37 : lw_okq (⟨"ClockedFlowsModel", "asks", "([II)Z"⟩, 28) := ⟨⟨by decide +kernel, by decide +kernel⟩, List.mem_of_getElem? (i := 644) (by decide +kernel), List.mem_of_getElem? (i := 792) (by decide +kernel), List.mem_of_getElem? (i := 793) (by decide +kernel)⟩
theorem lw_p38 : lw_okq (⟨"ClockedFlowsModel", "settle", "(II)Z"⟩, 28) := ⟨⟨by decide +kernel, by decide +kernel⟩, List.mem_of_getElem? (i := 644) (by decide +kernel), List.mem_of_getElem? (i := 796) (by decide +kernel), List.mem_of_getElem? (i := 797) (by decide +kernel)⟩
theorem lw_p39 : lw_okq (⟨"ClockedFlowsModel", "root", "(I)I"⟩, 28) := ⟨⟨by decide +kernel, by decide +kernel⟩, List.mem_of_getElem? (i := 644) (by decide +kernel), List.mem_of_getElem? (i := 800) (by decide +kernel), List.mem_of_getElem? (i := 801) (by decide +kernel)⟩
theorem lw_p40 : lw_okq (⟨"ClockedFlowsModel", "isMet", "(II)Z"⟩, 28) := ⟨⟨by decide +kernel, by decide +kernel⟩, List.mem_of_getElem? (i := 644) (by decide +kernel), List.mem_of_getElem? (i := 804) (by decide +kernel), List.mem_of_getElem? (i := 805) (by decide +kernel)⟩
theorem lw_p41 : lw_okq (⟨"ClockedFlowsModel", "like", "(II)Z"⟩, 28) := ⟨⟨by decide +kernel, by decide +kernel⟩, List.mem_of_getElem? (i := 644) (by decide +kernel), List.mem_of_getElem? (i := 808) (by decide +kernel), List.mem_of_getElem? (i := 809) (by decide +kernel)⟩
theorem lw_p42 : lw_okq (⟨"ClockedFlowsModel", "findOrder", "([I)V"⟩, 28) := ⟨⟨by decide +kernel, by decide +kernel⟩, List.mem_of_getElem? (i := 644) (by decide +kernel), List.mem_of_getElem? (i := 812) (by decide +kernel), List.mem_of_getElem? (i := 813) (by decide +kernel)⟩
theorem lw_p43 : lw_okq (⟨"ClockedFlowsModel", "waits", "([II)I"⟩, 28) := ⟨⟨by decide +kernel, by decide +kernel⟩, List.mem_of_getElem? (i := 644) (by decide +kernel), List.mem_of_getElem? (i := 819) (by decide +kernel), List.mem_of_getElem? (i := 820) (by decide +kernel)⟩
theorem lw_p44 : lw_okq (⟨"ClockedFlowsModel", "clocks", "(I)I"⟩, 28) := ⟨⟨by decide +kernel, by decide +kernel⟩, List.mem_of_getElem? (i := 644) (by decide +kernel), List.mem_of_getElem? (i := 826) (by decide +kernel), List.mem_of_getElem? (i := 827) (by decide +kernel)⟩
theorem lw_p45 : lw_okq (⟨"ClockedFlowsModel", "findLevels", "([I)V"⟩, 28) := ⟨⟨by decide +kernel, by decide +kernel⟩, List.mem_of_getElem? (i := 644) (by decide +kernel), List.mem_of_getElem? (i := 830) (by decide +kernel), List.mem_of_getElem? (i := 831) (by decide +kernel)⟩
theorem lw_p46 : lw_okq (⟨"ClockedFlowsModel", "isOne", "([II)Z"⟩, 28) := ⟨⟨by decide +kernel, by decide +kernel⟩, List.mem_of_getElem? (i := 644) (by decide +kernel), List.mem_of_getElem? (i := 834) (by decide +kernel), List.mem_of_getElem? (i := 835) (by decide +kernel)⟩
theorem lw_p47 : lw_okq (⟨"ClockedFlowsModel", "isRaw", "([II)Z"⟩, 28) := ⟨⟨by decide +kernel, by decide +kernel⟩, List.mem_of_getElem? (i := 644) (by decide +kernel), List.mem_of_getElem? (i := 840) (by decide +kernel), List.mem_of_getElem? (i := 841) (by decide +kernel)⟩
def lw_privs_3 : List (MethodName × Nat) := [(⟨"ClockedFlowsModel", "letterAt", "(I)I"⟩, 28), (⟨"ClockedFlowsModel", "readEquation", "(II)Z"⟩, 28), (⟨"ClockedFlowsModel", "soundNow", "()Z"⟩, 28), (⟨"ClockedFlowsModel", "find", "([I)V"⟩, 28), (⟨"ClockedFlowsModel", "findClocks", "([I)V"⟩, 28), (⟨"ClockedFlowsModel", "asks", "([II)Z"⟩, 28), (⟨"ClockedFlowsModel", "settle", "(II)Z"⟩, 28), (⟨"ClockedFlowsModel", "root", "(I)I"⟩, 28), (⟨"ClockedFlowsModel", "isMet", "(II)Z"⟩, 28), (⟨"ClockedFlowsModel", "like", "(II)Z"⟩, 28), (⟨"ClockedFlowsModel", "findOrder", "([I)V"⟩, 28), (⟨"ClockedFlowsModel", "waits", "([II)I"⟩, 28), (⟨"ClockedFlowsModel", "clocks", "(I)I"⟩, 28), (⟨"ClockedFlowsModel", "findLevels", "([I)V"⟩, 28), (⟨"ClockedFlowsModel", "isOne", "([II)Z"⟩, 28), (⟨"ClockedFlowsModel", "isRaw", "([II)Z"⟩, 28)]
theorem lw_r3 : ∀ q ∈ lw_privs_3, lw_okq q := List.forall_mem_cons.mpr ⟨lw_p32, List.forall_mem_cons.mpr ⟨lw_p33, List.forall_mem_cons.mpr ⟨lw_p34, List.forall_mem_cons.mpr ⟨lw_p35, List.forall_mem_cons.mpr ⟨lw_p36, List.forall_mem_cons.mpr ⟨lw_p37, List.forall_mem_cons.mpr ⟨lw_p38, List.forall_mem_cons.mpr ⟨lw_p39, List.forall_mem_cons.mpr ⟨lw_p40, List.forall_mem_cons.mpr ⟨lw_p41, List.forall_mem_cons.mpr ⟨lw_p42, List.forall_mem_cons.mpr ⟨lw_p43, List.forall_mem_cons.mpr ⟨lw_p44, List.forall_mem_cons.mpr ⟨lw_p45, List.forall_mem_cons.mpr ⟨lw_p46, List.forall_mem_cons.mpr ⟨lw_p47, fun _ h => absurd h List.not_mem_nil⟩⟩⟩⟩⟩⟩⟩⟩⟩⟩⟩⟩⟩⟩⟩⟩
theorem lw_p48 : lw_okq (⟨"ClockedFlowsModel", "isSound", "()Z"⟩, 28) := ⟨⟨by decide +kernel, by decide +kernel⟩, List.mem_of_getElem? (i := 644) (by decide +kernel), List.mem_of_getElem? (i := 844) (by decide +kernel), List.mem_of_getElem? (i := 845) (by decide +kernel)⟩
theorem lw_p49 : lw_okq (⟨"ClockedFlowsModel", "there", "()I"⟩, 28) := ⟨⟨by decide +kernel, by decide +kernel⟩, List.mem_of_getElem? (i := 644) (by decide +kernel), List.mem_of_getElem? (i := 852) (by decide +kernel), List.mem_of_getElem? (i := 853) (by decide +kernel)⟩
theorem lw_p50 : lw_okq (⟨"ClockedFlowsModel", "noStream", "(I)Z"⟩, 28) := ⟨⟨by decide +kernel, by decide +kernel⟩, List.mem_of_getElem? (i := 644) (by decide +kernel), List.mem_of_getElem? (i := 860) (by decide +kernel), List.mem_of_getElem? (i := 861) (by decide +kernel)⟩
theorem lw_p51 : lw_okq (⟨"ClockedFlowsModel", "note", "()V"⟩, 28) := ⟨⟨by decide +kernel, by decide +kernel⟩, List.mem_of_getElem? (i := 644) (by decide +kernel), List.mem_of_getElem? (i := 880) (by decide +kernel), List.mem_of_getElem? (i := 881) (by decide +kernel)⟩
theorem lw_p52 : lw_okq (⟨"ClockedFlowsModel", "goTick", "([III)I"⟩, 28) := ⟨⟨by decide +kernel, by decide +kernel⟩, List.mem_of_getElem? (i := 644) (by decide +kernel), List.mem_of_getElem? (i := 884) (by decide +kernel), List.mem_of_getElem? (i := 885) (by decide +kernel)⟩
theorem lw_p53 : lw_okq (⟨"ClockedFlowsModel", "isThere", "([II)Z"⟩, 28) := ⟨⟨by decide +kernel, by decide +kernel⟩, List.mem_of_getElem? (i := 644) (by decide +kernel), List.mem_of_getElem? (i := 888) (by decide +kernel), List.mem_of_getElem? (i := 889) (by decide +kernel)⟩
theorem lw_p54 : lw_okq (⟨"ClockedFlowsModel", "valueOf", "([IIII)I"⟩, 28) := ⟨⟨by decide +kernel, by decide +kernel⟩, List.mem_of_getElem? (i := 644) (by decide +kernel), List.mem_of_getElem? (i := 892) (by decide +kernel), List.mem_of_getElem? (i := 893) (by decide +kernel)⟩
theorem lw_p55 : lw_okq (⟨"ClockedFlowsModel", "keepOn", "([I)V"⟩, 28) := ⟨⟨by decide +kernel, by decide +kernel⟩, List.mem_of_getElem? (i := 644) (by decide +kernel), List.mem_of_getElem? (i := 899) (by decide +kernel), List.mem_of_getElem? (i := 900) (by decide +kernel)⟩
theorem lw_p56 : lw_okq (⟨"ClockedFlowsModel", "areFigures", "(IIII)Z"⟩, 28) := ⟨⟨by decide +kernel, by decide +kernel⟩, List.mem_of_getElem? (i := 644) (by decide +kernel), List.mem_of_getElem? (i := 912) (by decide +kernel), List.mem_of_getElem? (i := 913) (by decide +kernel)⟩
theorem lw_p57 : lw_okq (⟨"ClockedFlowsModel", "begin", "()V"⟩, 28) := ⟨⟨by decide +kernel, by decide +kernel⟩, List.mem_of_getElem? (i := 644) (by decide +kernel), List.mem_of_getElem? (i := 925) (by decide +kernel), List.mem_of_getElem? (i := 926) (by decide +kernel)⟩
theorem lw_p58 : lw_okq (⟨"ClockedFlowsModel", "goTicks", "(III)V"⟩, 28) := ⟨⟨by decide +kernel, by decide +kernel⟩, List.mem_of_getElem? (i := 644) (by decide +kernel), List.mem_of_getElem? (i := 929) (by decide +kernel), List.mem_of_getElem? (i := 930) (by decide +kernel)⟩
theorem lw_p59 : lw_okq (⟨"ClockedFlowsModel", "layStates", "(II)V"⟩, 28) := ⟨⟨by decide +kernel, by decide +kernel⟩, List.mem_of_getElem? (i := 644) (by decide +kernel), List.mem_of_getElem? (i := 941) (by decide +kernel), List.mem_of_getElem? (i := 942) (by decide +kernel)⟩
theorem lw_p60 : lw_okq (⟨"ClockedFlowsModel", "areAlike", "(II)Z"⟩, 28) := ⟨⟨by decide +kernel, by decide +kernel⟩, List.mem_of_getElem? (i := 644) (by decide +kernel), List.mem_of_getElem? (i := 946) (by decide +kernel), List.mem_of_getElem? (i := 947) (by decide +kernel)⟩
theorem lw_p61 : lw_okq (⟨"ClockedFlowsModel", "does", "(I)Z"⟩, 28) := ⟨⟨by decide +kernel, by decide +kernel⟩, List.mem_of_getElem? (i := 644) (by decide +kernel), List.mem_of_getElem? (i := 959) (by decide +kernel), List.mem_of_getElem? (i := 960) (by decide +kernel)⟩
theorem lw_p62 : lw_okq (⟨"ClockedFlowsModel", "isSo", "(IIII)Z"⟩, 28) := ⟨⟨by decide +kernel, by decide +kernel⟩, List.mem_of_getElem? (i := 644) (by decide +kernel), List.mem_of_getElem? (i := 963) (by decide +kernel), List.mem_of_getElem? (i := 964) (by decide +kernel)⟩
theorem lw_p63 : lw_okq (⟨"ClockedFlowsModel", "areLike", "(II)Z"⟩, 28) := ⟨⟨by decide +kernel, by decide +kernel⟩, List.mem_of_getElem? (i := 644) (by decide +kernel), List.mem_of_getElem? (i := 967) (by decide +kernel), List.mem_of_getElem? (i := 968) (by decide +kernel)⟩
def lw_privs_4 : List (MethodName × Nat) := [(⟨"ClockedFlowsModel", "isSound", "()Z"⟩, 28), (⟨"ClockedFlowsModel", "there", "()I"⟩, 28), (⟨"ClockedFlowsModel", "noStream", "(I)Z"⟩, 28), (⟨"ClockedFlowsModel", "note", "()V"⟩, 28), (⟨"ClockedFlowsModel", "goTick", "([III)I"⟩, 28), (⟨"ClockedFlowsModel", "isThere", "([II)Z"⟩, 28), (⟨"ClockedFlowsModel", "valueOf", "([IIII)I"⟩, 28), (⟨"ClockedFlowsModel", "keepOn", "([I)V"⟩, 28), (⟨"ClockedFlowsModel", "areFigures", "(IIII)Z"⟩, 28), (⟨"ClockedFlowsModel", "begin", "()V"⟩, 28), (⟨"ClockedFlowsModel", "goTicks", "(III)V"⟩, 28), (⟨"ClockedFlowsModel", "layStates", "(II)V"⟩, 28), (⟨"ClockedFlowsModel", "areAlike", "(II)Z"⟩, 28), (⟨"ClockedFlowsModel", "does", "(I)Z"⟩, 28), (⟨"ClockedFlowsModel", "isSo", "(IIII)Z"⟩, 28), (⟨"ClockedFlowsModel", "areLike", "(II)Z"⟩, 28)]
theorem lw_r4 : ∀ q ∈ lw_privs_4, lw_okq q := List.forall_mem_cons.mpr ⟨lw_p48, List.forall_mem_cons.mpr ⟨lw_p49, List.forall_mem_cons.mpr ⟨lw_p50, List.forall_mem_cons.mpr ⟨lw_p51, List.forall_mem_cons.mpr ⟨lw_p52, List.forall_mem_cons.mpr ⟨lw_p53, List.forall_mem_cons.mpr ⟨lw_p54, List.forall_mem_cons.mpr ⟨lw_p55, List.forall_mem_cons.mpr ⟨lw_p56, List.forall_mem_cons.mpr ⟨lw_p57, List.forall_mem_cons.mpr ⟨lw_p58, List.forall_mem_cons.mpr ⟨lw_p59, List.forall_mem_cons.mpr ⟨lw_p60, List.forall_mem_cons.mpr ⟨lw_p61, List.forall_mem_cons.mpr ⟨lw_p62, List.forall_mem_cons.mpr ⟨lw_p63, fun _ h => absurd h List.not_mem_nil⟩⟩⟩⟩⟩⟩⟩⟩⟩⟩⟩⟩⟩⟩⟩⟩
theorem lw_p64 : lw_okq (⟨"ClockedFlowsModel", "explains", "(II)Z"⟩, 28) := ⟨⟨by decide +kernel, by decide +kernel⟩, List.mem_of_getElem? (i := 644) (by decide +kernel), List.mem_of_getElem? (i := 985) (by decide +kernel), List.mem_of_getElem? (i := 986) (by decide +kernel)⟩
theorem lw_p65 : lw_okq (⟨"ClockedFlowsModel", "timesThere", "(III)I"⟩, 28) := ⟨⟨by decide +kernel, by decide +kernel⟩, List.mem_of_getElem? (i := 644) (by decide +kernel), List.mem_of_getElem? (i := 994) (by decide +kernel), List.mem_of_getElem? (i := 995) (by decide +kernel)⟩
theorem lw_p66 : lw_okq (⟨"ClockedFlowsModel", "sumOf", "(I)I"⟩, 28) := ⟨⟨by decide +kernel, by decide +kernel⟩, List.mem_of_getElem? (i := 644) (by decide +kernel), List.mem_of_getElem? (i := 1018) (by decide +kernel), List.mem_of_getElem? (i := 1019) (by decide +kernel)⟩
def lw_privs_5 : List (MethodName × Nat) := [(⟨"ClockedFlowsModel", "explains", "(II)Z"⟩, 28), (⟨"ClockedFlowsModel", "timesThere", "(III)I"⟩, 28), (⟨"ClockedFlowsModel", "sumOf", "(I)I"⟩, 28)]
theorem lw_r5 : ∀ q ∈ lw_privs_5, lw_okq q := List.forall_mem_cons.mpr ⟨lw_p64, List.forall_mem_cons.mpr ⟨lw_p65, List.forall_mem_cons.mpr ⟨lw_p66, fun _ h => absurd h List.not_mem_nil⟩⟩⟩
def lw_privs : List (MethodName × Nat) := lw_privs_1 ++ (lw_privs_2 ++ (lw_privs_3 ++ (lw_privs_4 ++ (lw_privs_5))))
def lw_tbl : List Cond := k2_sels lw_privs ++ tables_1
theorem lw_privs_ok : ∀ q ∈ lw_privs, lw_okq q := by
  show ∀ q ∈ lw_privs_1 ++ (lw_privs_2 ++ (lw_privs_3 ++ (lw_privs_4 ++ (lw_privs_5)))), lw_okq q
  exact List.forall_mem_append.mpr ⟨lw_r1, List.forall_mem_append.mpr ⟨lw_r2, List.forall_mem_append.mpr ⟨lw_r3, List.forall_mem_append.mpr ⟨lw_r4, lw_r5⟩⟩⟩⟩
-- ===== end of PART A; then your names; then what follows =====
end
section
/-! ===== BEGIN words of one list among another's, by their places ===== -/
theorem goodIn_r {big : List Cond} (ws : List Cond) (ps : List Nat) (hp : ws = ps.filterMap (fun i => big[i]?)) (h : ws.all goodWord = true) : GoodIn big ws := by
  intro w hw
  have h1 := List.all_eq_true.mp h w hw
  rw [hp] at hw
  obtain ⟨i, -, hi⟩ := List.mem_filterMap.mp hw
  have hm : w ∈ big := by first | exact List.mem_of_getElem? hi | exact List.getElem?_mem hi
  exact ⟨hm, good_of_word h1⟩
theorem goodIn_app {big a b : List Cond} (ha : GoodIn big a) (hb : GoodIn big b) : GoodIn big (a ++ b) := fun w h => (List.mem_append.mp h).elim (ha w) (hb w)
theorem goodIn_ca {big a b : List Cond} {c : Cond} (ha : GoodIn big (c :: a)) (hb : GoodIn big b) : GoodIn big (c :: (a ++ b)) := fun w h => (List.mem_cons.mp h).elim (fun e => ha w (List.mem_cons.mpr (Or.inl e))) (fun h => (List.mem_append.mp h).elim (fun h => ha w (List.mem_cons.mpr (Or.inr h))) (hb w))
theorem goodIn_sub {big ws : List Cond} (hm : ∀ w ∈ ws, w ∈ big) (h : ws.all goodWord = true) : GoodIn big ws := fun w hw => ⟨hm w hw, good_of_word (List.all_eq_true.mp h w hw)⟩
/-! ===== END ===== -/

/-! ===== BEGIN printed: names, fields, word lists, decode rows ===== -/
def RX0 : String := "ClockedFlows$Doings"
def TX0 : u_T := fun k => match k with
  | 0 => ("ClockedFlows$Doings", "count", "I", false)
  | 1 => ("ClockedFlows$Doings", "oldest", "I", false)
  | _ => ("ClockedFlows$Doings", "row", "[LClockedFlows$Flow;", true)
def tyX0 : Nat → FieldType := fun k => match k with
  | 0 => .int
  | 1 => .int
  | _ => .array (.object "ClockedFlows$Flow")
abbrev wsX00 : List Cond := u_ws RX0 TX0 3
theorem nmX0 : ∀ a, a < 3 → ∀ b, b < 3 → a ≠ b → (TX0 a).2.1 ≠ (TX0 b).2.1 := by decide +kernel
theorem tyX0_ok : ∀ k, k < 3 → parseFieldDescriptor (TX0 k).2.2.1 = some (tyX0 k) := by decide +kernel
abbrev cX0_init : ByteArray := prog_2_method_1_code
def yX0_init : MethodName := ⟨RX0, "<init>", "()V"⟩
abbrev cX0_forget : ByteArray := prog_2_method_2_code
def yX0_forget : MethodName := ⟨RX0, "forget", "()V"⟩
abbrev cX0_remember : ByteArray := prog_2_method_3_code
def yX0_remember : MethodName := ⟨RX0, "remember", "(LClockedFlows$Flow;)V"⟩
abbrev cX0_takeBack : ByteArray := prog_2_method_4_code
def yX0_takeBack : MethodName := ⟨RX0, "takeBack", "(LClockedFlows$Flow;)V"⟩
def RX1 : String := "ClockedFlows$Flow"
def TX1 : u_T := fun k => match k with
  | 0 => ("ClockedFlows$Flow", "count", "I", false)
  | 1 => ("ClockedFlows$Flow", "ticks", "I", false)
  | 2 => ("ClockedFlows$Flow", "kinds", "[I", true)
  | 3 => ("ClockedFlows$Flow", "parts", "[I", true)
  | 4 => ("ClockedFlows$Flow", "held", "[I", true)
  | _ => ("ClockedFlows$Flow", "values", "[I", true)
def tyX1 : Nat → FieldType := fun k => match k with
  | 0 => .int
  | 1 => .int
  | 2 => .array .int
  | 3 => .array .int
  | 4 => .array .int
  | _ => .array .int
abbrev wsX10 : List Cond := u_ws RX1 TX1 6
theorem nmX1 : ∀ a, a < 6 → ∀ b, b < 6 → a ≠ b → (TX1 a).2.1 ≠ (TX1 b).2.1 := by decide +kernel
theorem tyX1_ok : ∀ k, k < 6 → parseFieldDescriptor (TX1 k).2.2.1 = some (tyX1 k) := by decide +kernel
abbrev cX1_init : ByteArray := prog_3_method_1_code
def yX1_init : MethodName := ⟨RX1, "<init>", "()V"⟩
abbrev cX1_become : ByteArray := prog_3_method_2_code
def yX1_become : MethodName := ⟨RX1, "become", "(LClockedFlows$Flow;)V"⟩
abbrev cX1_equate : ByteArray := prog_3_method_3_code
def yX1_equate : MethodName := ⟨RX1, "equate", "(IIIII)V"⟩
abbrev cX1_setPart : ByteArray := prog_3_method_4_code
def yX1_setPart : MethodName := ⟨RX1, "setPart", "(III)V"⟩
abbrev cX1_part : ByteArray := prog_3_method_5_code
def yX1_part : MethodName := ⟨RX1, "part", "(II)I"⟩
abbrev cX1_kindOf : ByteArray := prog_3_method_6_code
def yX1_kindOf : MethodName := ⟨RX1, "kindOf", "(I)I"⟩
abbrev cX1_valueOf : ByteArray := prog_3_method_7_code
def yX1_valueOf : MethodName := ⟨RX1, "valueOf", "(I)I"⟩
abbrev cX1_restart : ByteArray := prog_3_method_8_code
def yX1_restart : MethodName := ⟨RX1, "restart", "()V"⟩
abbrev cX1_heldAtFirst : ByteArray := prog_3_method_9_code
def yX1_heldAtFirst : MethodName := ⟨RX1, "heldAtFirst", "(I)I"⟩
abbrev cX1_thereBits : ByteArray := prog_3_method_10_code
def yX1_thereBits : MethodName := ⟨RX1, "thereBits", "()I"⟩
abbrev cX1_sumOfThere : ByteArray := prog_3_method_11_code
def yX1_sumOfThere : MethodName := ⟨RX1, "sumOfThere", "()I"⟩
abbrev cX1_work : ByteArray := prog_3_method_12_code
def yX1_work : MethodName := ⟨RX1, "work", "(LClockedFlows$Sense;II)V"⟩
abbrev cX1_isThere : ByteArray := prog_3_method_13_code
def yX1_isThere : MethodName := ⟨RX1, "isThere", "(I)Z"⟩
abbrev cX1_heldNext : ByteArray := prog_3_method_14_code
def yX1_heldNext : MethodName := ⟨RX1, "heldNext", "(I)I"⟩
abbrev cX1_reckon : ByteArray := prog_3_method_15_code
def yX1_reckon : MethodName := ⟨RX1, "reckon", "(III)I"⟩
abbrev cX1_combine : ByteArray := prog_3_method_16_code
def yX1_combine : MethodName := ⟨RX1, "combine", "(III)I"⟩
abbrev cX1_choose : ByteArray := prog_3_method_17_code
def yX1_choose : MethodName := ⟨RX1, "choose", "(III)I"⟩
def RX2 : String := "ClockedFlows$Sense"
def TX2 : u_T := fun k => match k with
  | 0 => ("ClockedFlows$Sense", "clash", "I", false)
  | 1 => ("ClockedFlows$Sense", "knot", "I", false)
  | 2 => ("ClockedFlows$Sense", "raw", "I", false)
  | 3 => ("ClockedFlows$Sense", "count", "I", false)
  | 4 => ("ClockedFlows$Sense", "group", "[I", true)
  | 5 => ("ClockedFlows$Sense", "bound", "[I", true)
  | 6 => ("ClockedFlows$Sense", "settled", "[I", true)
  | 7 => ("ClockedFlows$Sense", "depth", "[I", true)
  | 8 => ("ClockedFlows$Sense", "order", "[I", true)
  | 9 => ("ClockedFlows$Sense", "turn", "[I", true)
  | _ => ("ClockedFlows$Sense", "level", "[I", true)
def tyX2 : Nat → FieldType := fun k => match k with
  | 0 => .int
  | 1 => .int
  | 2 => .int
  | 3 => .int
  | 4 => .array .int
  | 5 => .array .int
  | 6 => .array .int
  | 7 => .array .int
  | 8 => .array .int
  | 9 => .array .int
  | _ => .array .int
abbrev wsX20 : List Cond := u_ws RX2 TX2 11
theorem nmX2 : ∀ a, a < 11 → ∀ b, b < 11 → a ≠ b → (TX2 a).2.1 ≠ (TX2 b).2.1 := by decide +kernel
theorem tyX2_ok : ∀ k, k < 11 → parseFieldDescriptor (TX2 k).2.2.1 = some (tyX2 k) := by decide +kernel
abbrev cX2_init : ByteArray := prog_4_method_1_code
def yX2_init : MethodName := ⟨RX2, "<init>", "()V"⟩
abbrev cX2_isSound : ByteArray := prog_4_method_2_code
def yX2_isSound : MethodName := ⟨RX2, "isSound", "()Z"⟩
abbrev cX2_study : ByteArray := prog_4_method_3_code
def yX2_study : MethodName := ⟨RX2, "study", "(LClockedFlows$Flow;)V"⟩
abbrev cX2_clockAt : ByteArray := prog_4_method_4_code
def yX2_clockAt : MethodName := ⟨RX2, "clockAt", "(II)I"⟩
abbrev cX2_findClash : ByteArray := prog_4_method_5_code
def yX2_findClash : MethodName := ⟨RX2, "findClash", "(LClockedFlows$Flow;)I"⟩
abbrev cX2_meet : ByteArray := prog_4_method_6_code
def yX2_meet : MethodName := ⟨RX2, "meet", "(LClockedFlows$Flow;I)Z"⟩
abbrev cX2_likenAll : ByteArray := prog_4_method_7_code
def yX2_likenAll : MethodName := ⟨RX2, "likenAll", "(LClockedFlows$Flow;I)Z"⟩
abbrev cX2_liken : ByteArray := prog_4_method_8_code
def yX2_liken : MethodName := ⟨RX2, "liken", "(II)Z"⟩
abbrev cX2_bind : ByteArray := prog_4_method_9_code
def yX2_bind : MethodName := ⟨RX2, "bind", "(II)Z"⟩
abbrev cX2_haveEnds : ByteArray := prog_4_method_10_code
def yX2_haveEnds : MethodName := ⟨RX2, "haveEnds", "()Z"⟩
abbrev cX2_settle : ByteArray := prog_4_method_11_code
def yX2_settle : MethodName := ⟨RX2, "settle", "()V"⟩
abbrev cX2_putInOrder : ByteArray := prog_4_method_12_code
def yX2_putInOrder : MethodName := ⟨RX2, "putInOrder", "(LClockedFlows$Flow;)V"⟩
abbrev cX2_leastReady : ByteArray := prog_4_method_13_code
def yX2_leastReady : MethodName := ⟨RX2, "leastReady", "(LClockedFlows$Flow;I)I"⟩
abbrev cX2_waits : ByteArray := prog_4_method_14_code
def yX2_waits : MethodName := ⟨RX2, "waits", "(LClockedFlows$Flow;I)I"⟩
abbrev cX2_findLevels : ByteArray := prog_4_method_15_code
def yX2_findLevels : MethodName := ⟨RX2, "findLevels", "(LClockedFlows$Flow;)V"⟩
abbrev cX2_levelByParts : ByteArray := prog_4_method_16_code
def yX2_levelByParts : MethodName := ⟨RX2, "levelByParts", "(LClockedFlows$Flow;I)I"⟩
abbrev cX2_highest : ByteArray := prog_4_method_17_code
def yX2_highest : MethodName := ⟨RX2, "highest", "(LClockedFlows$Flow;I)I"⟩
abbrev cX2_findRaw : ByteArray := prog_4_method_18_code
def yX2_findRaw : MethodName := ⟨RX2, "findRaw", "(LClockedFlows$Flow;)I"⟩
abbrev cX2_isRaw : ByteArray := prog_4_method_19_code
def yX2_isRaw : MethodName := ⟨RX2, "isRaw", "(LClockedFlows$Flow;I)Z"⟩
def RX3 : String := "ClockedFlows$Sights"
def TX3 : u_T := fun k => match k with
  | 0 => ("ClockedFlows$Sights", "count", "I", false)
  | 1 => ("ClockedFlows$Sights", "at", "[I", true)
  | 2 => ("ClockedFlows$Sights", "streams", "[I", true)
  | 3 => ("ClockedFlows$Sights", "seen", "[I", true)
  | _ => ("ClockedFlows$Sights", "so", "[Z", true)
def tyX3 : Nat → FieldType := fun k => match k with
  | 0 => .int
  | 1 => .array .int
  | 2 => .array .int
  | 3 => .array .int
  | _ => .array .boolean
abbrev wsX30 : List Cond := u_ws RX3 TX3 5
theorem nmX3 : ∀ a, a < 5 → ∀ b, b < 5 → a ≠ b → (TX3 a).2.1 ≠ (TX3 b).2.1 := by decide +kernel
theorem tyX3_ok : ∀ k, k < 5 → parseFieldDescriptor (TX3 k).2.2.1 = some (tyX3 k) := by decide +kernel
abbrev cX3_init : ByteArray := prog_5_method_1_code
def yX3_init : MethodName := ⟨RX3, "<init>", "()V"⟩
abbrev cX3_add : ByteArray := prog_5_method_2_code
def yX3_add : MethodName := ⟨RX3, "add", "(IIII)Z"⟩
abbrev cX3_lastTick : ByteArray := prog_5_method_3_code
def yX3_lastTick : MethodName := ⟨RX3, "lastTick", "()I"⟩
abbrev cX3_fit : ByteArray := prog_5_method_4_code
def yX3_fit : MethodName := ⟨RX3, "fit", "(ILClockedFlows$Flow;)Z"⟩
def RX4 : String := "ClockedFlows$Text"
def TX4 : u_T := fun k => match k with
  | 0 => ("ClockedFlows$Text", "letters", "[I", true)
  | _ => ("ClockedFlows$Text", "length", "I", false)
def tyX4 : Nat → FieldType := fun k => match k with
  | 0 => .array .int
  | _ => .int
abbrev wsX40 : List Cond := u_ws RX4 TX4 2
theorem nmX4 : ∀ a, a < 2 → ∀ b, b < 2 → a ≠ b → (TX4 a).2.1 ≠ (TX4 b).2.1 := by decide +kernel
theorem tyX4_ok : ∀ k, k < 2 → parseFieldDescriptor (TX4 k).2.2.1 = some (tyX4 k) := by decide +kernel
abbrev cX4_init : ByteArray := prog_6_method_1_code
def yX4_init : MethodName := ⟨RX4, "<init>", "()V"⟩
abbrev cX4_append : ByteArray := prog_6_method_2_code
def yX4_append : MethodName := ⟨RX4, "append", "(I)Z"⟩
abbrev cX4_readInto : ByteArray := prog_6_method_3_code
def yX4_readInto : MethodName := ⟨RX4, "readInto", "(LClockedFlows$Flow;)I"⟩
abbrev cX4_readEquation : ByteArray := prog_6_method_4_code
def yX4_readEquation : MethodName := ⟨RX4, "readEquation", "(LClockedFlows$Flow;II)I"⟩
abbrev cX4_letterAt : ByteArray := prog_6_method_5_code
def yX4_letterAt : MethodName := ⟨RX4, "letterAt", "(I)I"⟩
def RX5 : String := "ClockedFlows"
def TX5 : u_T := fun k => match k with
  | 0 => ("ClockedFlows", "text", "LClockedFlows$Text;", true)
  | 1 => ("ClockedFlows", "now", "LClockedFlows$Flow;", true)
  | 2 => ("ClockedFlows", "spare", "LClockedFlows$Flow;", true)
  | 3 => ("ClockedFlows", "sense", "LClockedFlows$Sense;", true)
  | 4 => ("ClockedFlows", "doings", "LClockedFlows$Doings;", true)
  | 5 => ("ClockedFlows", "sights", "LClockedFlows$Sights;", true)
  | 6 => ("ClockedFlows", "slots", "[LClockedFlows$Flow;", true)
  | 7 => ("ClockedFlows", "slotKept", "[Z", true)
  | 8 => ("ClockedFlows", "trail", "[I", true)
  | _ => ("ClockedFlows", "theSeed", "J", false)
def tyX5 : Nat → FieldType := fun k => match k with
  | 0 => .object "ClockedFlows$Text"
  | 1 => .object "ClockedFlows$Flow"
  | 2 => .object "ClockedFlows$Flow"
  | 3 => .object "ClockedFlows$Sense"
  | 4 => .object "ClockedFlows$Doings"
  | 5 => .object "ClockedFlows$Sights"
  | 6 => .array (.object "ClockedFlows$Flow")
  | 7 => .array .boolean
  | 8 => .array .int
  | _ => .long
abbrev wsX50 : List Cond := u_ws RX5 TX5 10
theorem nmX5 : ∀ a, a < 10 → ∀ b, b < 10 → a ≠ b → (TX5 a).2.1 ≠ (TX5 b).2.1 := by decide +kernel
theorem tyX5_ok : ∀ k, k < 10 → parseFieldDescriptor (TX5 k).2.2.1 = some (tyX5 k) := by decide +kernel
abbrev cX5_init : ByteArray := prog_1_method_1_code
def yX5_init : MethodName := ⟨RX5, "<init>", "()V"⟩
abbrev cX5_write : ByteArray := prog_1_method_2_code
def yX5_write : MethodName := ⟨RX5, "write", "(I)I"⟩
abbrev cX5_wipe : ByteArray := prog_1_method_3_code
def yX5_wipe : MethodName := ⟨RX5, "wipe", "()I"⟩
abbrev cX5_fault : ByteArray := prog_1_method_4_code
def yX5_fault : MethodName := ⟨RX5, "fault", "()I"⟩
abbrev cX5_program : ByteArray := prog_1_method_5_code
def yX5_program : MethodName := ⟨RX5, "program", "()I"⟩
abbrev cX5_about : ByteArray := prog_1_method_6_code
def yX5_about : MethodName := ⟨RX5, "about", "(I)I"⟩
abbrev cX5_stream : ByteArray := prog_1_method_7_code
def yX5_stream : MethodName := ⟨RX5, "stream", "(II)I"⟩
abbrev cX5_figure : ByteArray := prog_1_method_8_code
def yX5_figure : MethodName := ⟨RX5, "figure", "(II)I"⟩
abbrev cX5_clock : ByteArray := prog_1_method_9_code
def yX5_clock : MethodName := ⟨RX5, "clock", "(II)I"⟩
abbrev cX5_tick : ByteArray := prog_1_method_10_code
def yX5_tick : MethodName := ⟨RX5, "tick", "(II)I"⟩
abbrev cX5_afresh : ByteArray := prog_1_method_11_code
def yX5_afresh : MethodName := ⟨RX5, "afresh", "()I"⟩
abbrev cX5_tell : ByteArray := prog_1_method_12_code
def yX5_tell : MethodName := ⟨RX5, "tell", "(IIIII)I"⟩
abbrev cX5_undo : ByteArray := prog_1_method_13_code
def yX5_undo : MethodName := ⟨RX5, "undo", "()I"⟩
abbrev cX5_later : ByteArray := prog_1_method_14_code
def yX5_later : MethodName := ⟨RX5, "later", "(IIII)I"⟩
abbrev cX5_first : ByteArray := prog_1_method_15_code
def yX5_first : MethodName := ⟨RX5, "first", "(IIII)I"⟩
abbrev cX5_round : ByteArray := prog_1_method_16_code
def yX5_round : MethodName := ⟨RX5, "round", "(III)I"⟩
abbrev cX5_judge : ByteArray := prog_1_method_17_code
def yX5_judge : MethodName := ⟨RX5, "judge", "(IJ)I"⟩
abbrev cX5_see : ByteArray := prog_1_method_18_code
def yX5_see : MethodName := ⟨RX5, "see", "(IIII)I"⟩
abbrev cX5_unsee : ByteArray := prog_1_method_19_code
def yX5_unsee : MethodName := ⟨RX5, "unsee", "()I"⟩
abbrev cX5_inputs : ByteArray := prog_1_method_20_code
def yX5_inputs : MethodName := ⟨RX5, "inputs", "(I)I"⟩
abbrev cX5_odds : ByteArray := prog_1_method_21_code
def yX5_odds : MethodName := ⟨RX5, "odds", "(IIIIZ)I"⟩
abbrev cX5_seed : ByteArray := prog_1_method_22_code
def yX5_seed : MethodName := ⟨RX5, "seed", "(J)J"⟩
abbrev cX5_runs : ByteArray := prog_1_method_23_code
def yX5_runs : MethodName := ⟨RX5, "runs", "(I)I"⟩
abbrev cX5_keep : ByteArray := prog_1_method_24_code
def yX5_keep : MethodName := ⟨RX5, "keep", "(I)I"⟩
abbrev cX5_again : ByteArray := prog_1_method_25_code
def yX5_again : MethodName := ⟨RX5, "again", "(I)I"⟩
abbrev cX5_isStream : ByteArray := prog_1_method_26_code
def yX5_isStream : MethodName := ⟨RX5, "isStream", "(I)Z"⟩
abbrev cX5_soundness : ByteArray := prog_1_method_27_code
def yX5_soundness : MethodName := ⟨RX5, "soundness", "()I"⟩
abbrev cX5_isEquation : ByteArray := prog_1_method_28_code
def yX5_isEquation : MethodName := ⟨RX5, "isEquation", "(IIII)Z"⟩
abbrev cX5_layTrail : ByteArray := prog_1_method_29_code
def yX5_layTrail : MethodName := ⟨RX5, "layTrail", "(II)V"⟩
abbrev cX5_sameOnTrail : ByteArray := prog_1_method_30_code
def yX5_sameOnTrail : MethodName := ⟨RX5, "sameOnTrail", "(II)Z"⟩
abbrev cX5_holds : ByteArray := prog_1_method_31_code
def yX5_holds : MethodName := ⟨RX5, "holds", "(I)Z"⟩
abbrev cX5_explains : ByteArray := prog_1_method_32_code
def yX5_explains : MethodName := ⟨RX5, "explains", "(II)Z"⟩
abbrev cX5_timesThere : ByteArray := prog_1_method_33_code
def yX5_timesThere : MethodName := ⟨RX5, "timesThere", "(III)I"⟩
abbrev cX5_weight : ByteArray := prog_1_method_34_code
def yX5_weight : MethodName := ⟨RX5, "weight", "(III)I"⟩
abbrev cX5_commonDivisor : ByteArray := prog_1_method_35_code
def yX5_commonDivisor : MethodName := ⟨RX5, "commonDivisor", "(II)I"⟩
abbrev cX5_power : ByteArray := prog_1_method_36_code
def yX5_power : MethodName := ⟨RX5, "power", "(JI)J"⟩
abbrev cX5_isValue : ByteArray := prog_1_method_37_code
def yX5_isValue : MethodName := ⟨RX5, "isValue", "(I)Z"⟩
abbrev cX5_figuresOf : ByteArray := prog_1_method_38_code
def yX5_figuresOf : MethodName := ⟨RX5, "figuresOf", "(I)I"⟩
abbrev cX5_namesStream : ByteArray := prog_1_method_39_code
def yX5_namesStream : MethodName := ⟨RX5, "namesStream", "(II)Z"⟩
abbrev cX5_isFigure : ByteArray := prog_1_method_40_code
def yX5_isFigure : MethodName := ⟨RX5, "isFigure", "(IIII)Z"⟩
def RX6 : String := "ClockedFlowsModel"
def TX6 : u_T := fun k => match k with
  | 0 => ("ClockedFlowsModel", "thrown", "I", false)
  | 1 => ("ClockedFlowsModel", "text", "[I", true)
  | 2 => ("ClockedFlowsModel", "textSize", "I", false)
  | 3 => ("ClockedFlowsModel", "place", "I", false)
  | 4 => ("ClockedFlowsModel", "readPage", "[I", true)
  | 5 => ("ClockedFlowsModel", "page", "[I", true)
  | 6 => ("ClockedFlowsModel", "trial", "[I", true)
  | 7 => ("ClockedFlowsModel", "book", "[I", true)
  | 8 => ("ClockedFlowsModel", "doings", "I", false)
  | 9 => ("ClockedFlowsModel", "slots", "[I", true)
  | 10 => ("ClockedFlowsModel", "isKept", "[Z", true)
  | 11 => ("ClockedFlowsModel", "seen", "I", false)
  | 12 => ("ClockedFlowsModel", "seenWhen", "[I", true)
  | 13 => ("ClockedFlowsModel", "seenWho", "[I", true)
  | 14 => ("ClockedFlowsModel", "seenWhat", "[I", true)
  | 15 => ("ClockedFlowsModel", "seenIs", "[I", true)
  | 16 => ("ClockedFlowsModel", "seed", "J", false)
  | 17 => ("ClockedFlowsModel", "up", "[I", true)
  | 18 => ("ClockedFlowsModel", "term", "[I", true)
  | 19 => ("ClockedFlowsModel", "clash", "I", false)
  | 20 => ("ClockedFlowsModel", "knot", "I", false)
  | 21 => ("ClockedFlowsModel", "raw", "I", false)
  | 22 => ("ClockedFlowsModel", "order", "[I", true)
  | 23 => ("ClockedFlowsModel", "level", "[I", true)
  | 24 => ("ClockedFlowsModel", "chain", "[I", true)
  | 25 => ("ClockedFlowsModel", "states", "[I", true)
  | 26 => ("ClockedFlowsModel", "inputMany", "I", false)
  | _ => ("ClockedFlowsModel", "inputFirst", "I", false)
def tyX6 : Nat → FieldType := fun k => match k with
  | 0 => .int
  | 1 => .array .int
  | 2 => .int
  | 3 => .int
  | 4 => .array .int
  | 5 => .array .int
  | 6 => .array .int
  | 7 => .array .int
  | 8 => .int
  | 9 => .array .int
  | 10 => .array .boolean
  | 11 => .int
  | 12 => .array .int
  | 13 => .array .int
  | 14 => .array .int
  | 15 => .array .int
  | 16 => .long
  | 17 => .array .int
  | 18 => .array .int
  | 19 => .int
  | 20 => .int
  | 21 => .int
  | 22 => .array .int
  | 23 => .array .int
  | 24 => .array .int
  | 25 => .array .int
  | 26 => .int
  | _ => .int
abbrev wsX60 : List Cond := u_ws RX6 TX6 28
theorem nmX6 : ∀ a, a < 28 → ∀ b, b < 28 → a ≠ b → (TX6 a).2.1 ≠ (TX6 b).2.1 := by decide +kernel
theorem tyX6_ok : ∀ k, k < 28 → parseFieldDescriptor (TX6 k).2.2.1 = some (tyX6 k) := by decide +kernel
abbrev cX6_init : ByteArray := prog_8_method_1_code
def yX6_init : MethodName := ⟨RX6, "<init>", "()V"⟩
abbrev cX6_in : ByteArray := prog_8_method_3_code
def yX6_in : MethodName := ⟨RX6, "in", "(JJJ)Z"⟩
abbrev cX6_has : ByteArray := prog_8_method_4_code
def yX6_has : MethodName := ⟨RX6, "has", "(II)Z"⟩
abbrev cX6_power : ByteArray := prog_8_method_5_code
def yX6_power : MethodName := ⟨RX6, "power", "(II)I"⟩
abbrev cX6_noStream : ByteArray := prog_8_method_6_code
def yX6_noStream : MethodName := ⟨RX6, "noStream", "(I)Z"⟩
abbrev cX6_figures : ByteArray := prog_8_method_7_code
def yX6_figures : MethodName := ⟨RX6, "figures", "(I)I"⟩
abbrev cX6_kindOf : ByteArray := prog_8_method_8_code
def yX6_kindOf : MethodName := ⟨RX6, "kindOf", "(I)I"⟩
abbrev cX6_most : ByteArray := prog_8_method_9_code
def yX6_most : MethodName := ⟨RX6, "most", "(III)I"⟩
abbrev cX6_streamOf : ByteArray := prog_8_method_10_code
def yX6_streamOf : MethodName := ⟨RX6, "streamOf", "([III)I"⟩
abbrev cX6_write : ByteArray := prog_8_method_11_code
def yX6_write : MethodName := ⟨RX6, "write", "(I)I"⟩
abbrev cX6_wipe : ByteArray := prog_8_method_12_code
def yX6_wipe : MethodName := ⟨RX6, "wipe", "()I"⟩
abbrev cX6_letterAt : ByteArray := prog_8_method_13_code
def yX6_letterAt : MethodName := ⟨RX6, "letterAt", "(I)I"⟩
abbrev cX6_readEquation : ByteArray := prog_8_method_14_code
def yX6_readEquation : MethodName := ⟨RX6, "readEquation", "(II)Z"⟩
abbrev cX6_readProgram : ByteArray := prog_8_method_15_code
def yX6_readProgram : MethodName := ⟨RX6, "readProgram", "()I"⟩
abbrev cX6_fault : ByteArray := prog_8_method_16_code
def yX6_fault : MethodName := ⟨RX6, "fault", "()I"⟩
abbrev cX6_root : ByteArray := prog_8_method_17_code
def yX6_root : MethodName := ⟨RX6, "root", "(I)I"⟩
abbrev cX6_isMet : ByteArray := prog_8_method_18_code
def yX6_isMet : MethodName := ⟨RX6, "isMet", "(II)Z"⟩
abbrev cX6_settle : ByteArray := prog_8_method_19_code
def yX6_settle : MethodName := ⟨RX6, "settle", "(II)Z"⟩
abbrev cX6_like : ByteArray := prog_8_method_20_code
def yX6_like : MethodName := ⟨RX6, "like", "(II)Z"⟩
abbrev cX6_asks : ByteArray := prog_8_method_21_code
def yX6_asks : MethodName := ⟨RX6, "asks", "([II)Z"⟩
abbrev cX6_findClocks : ByteArray := prog_8_method_22_code
def yX6_findClocks : MethodName := ⟨RX6, "findClocks", "([I)V"⟩
abbrev cX6_clocks : ByteArray := prog_8_method_23_code
def yX6_clocks : MethodName := ⟨RX6, "clocks", "(I)I"⟩
abbrev cX6_waits : ByteArray := prog_8_method_24_code
def yX6_waits : MethodName := ⟨RX6, "waits", "([II)I"⟩
abbrev cX6_findOrder : ByteArray := prog_8_method_25_code
def yX6_findOrder : MethodName := ⟨RX6, "findOrder", "([I)V"⟩
abbrev cX6_isOne : ByteArray := prog_8_method_26_code
def yX6_isOne : MethodName := ⟨RX6, "isOne", "([II)Z"⟩
abbrev cX6_findLevels : ByteArray := prog_8_method_27_code
def yX6_findLevels : MethodName := ⟨RX6, "findLevels", "([I)V"⟩
abbrev cX6_isRaw : ByteArray := prog_8_method_28_code
def yX6_isRaw : MethodName := ⟨RX6, "isRaw", "([II)Z"⟩
abbrev cX6_find : ByteArray := prog_8_method_29_code
def yX6_find : MethodName := ⟨RX6, "find", "([I)V"⟩
abbrev cX6_isSound : ByteArray := prog_8_method_30_code
def yX6_isSound : MethodName := ⟨RX6, "isSound", "()Z"⟩
abbrev cX6_soundNow : ByteArray := prog_8_method_31_code
def yX6_soundNow : MethodName := ⟨RX6, "soundNow", "()Z"⟩
abbrev cX6_goAfresh : ByteArray := prog_8_method_32_code
def yX6_goAfresh : MethodName := ⟨RX6, "goAfresh", "([I)V"⟩
abbrev cX6_isThere : ByteArray := prog_8_method_33_code
def yX6_isThere : MethodName := ⟨RX6, "isThere", "([II)Z"⟩
abbrev cX6_made : ByteArray := prog_8_method_34_code
def yX6_made : MethodName := ⟨RX6, "made", "(III)I"⟩
abbrev cX6_valueOf : ByteArray := prog_8_method_35_code
def yX6_valueOf : MethodName := ⟨RX6, "valueOf", "([IIII)I"⟩
abbrev cX6_keepOn : ByteArray := prog_8_method_36_code
def yX6_keepOn : MethodName := ⟨RX6, "keepOn", "([I)V"⟩
abbrev cX6_goTick : ByteArray := prog_8_method_37_code
def yX6_goTick : MethodName := ⟨RX6, "goTick", "([III)I"⟩
abbrev cX6_program : ByteArray := prog_8_method_38_code
def yX6_program : MethodName := ⟨RX6, "program", "()I"⟩
abbrev cX6_there : ByteArray := prog_8_method_39_code
def yX6_there : MethodName := ⟨RX6, "there", "()I"⟩
abbrev cX6_about : ByteArray := prog_8_method_40_code
def yX6_about : MethodName := ⟨RX6, "about", "(I)I"⟩
abbrev cX6_stream : ByteArray := prog_8_method_41_code
def yX6_stream : MethodName := ⟨RX6, "stream", "(II)I"⟩
abbrev cX6_figure : ByteArray := prog_8_method_42_code
def yX6_figure : MethodName := ⟨RX6, "figure", "(II)I"⟩
abbrev cX6_clock : ByteArray := prog_8_method_43_code
def yX6_clock : MethodName := ⟨RX6, "clock", "(II)I"⟩
abbrev cX6_note : ByteArray := prog_8_method_44_code
def yX6_note : MethodName := ⟨RX6, "note", "()V"⟩
abbrev cX6_areInputs : ByteArray := prog_8_method_45_code
def yX6_areInputs : MethodName := ⟨RX6, "areInputs", "(II)Z"⟩
abbrev cX6_tick : ByteArray := prog_8_method_46_code
def yX6_tick : MethodName := ⟨RX6, "tick", "(II)I"⟩
abbrev cX6_afresh : ByteArray := prog_8_method_47_code
def yX6_afresh : MethodName := ⟨RX6, "afresh", "()I"⟩
abbrev cX6_areFigures : ByteArray := prog_8_method_48_code
def yX6_areFigures : MethodName := ⟨RX6, "areFigures", "(IIII)Z"⟩
abbrev cX6_tell : ByteArray := prog_8_method_49_code
def yX6_tell : MethodName := ⟨RX6, "tell", "(IIIII)I"⟩
abbrev cX6_undo : ByteArray := prog_8_method_50_code
def yX6_undo : MethodName := ⟨RX6, "undo", "()I"⟩
abbrev cX6_begin : ByteArray := prog_8_method_51_code
def yX6_begin : MethodName := ⟨RX6, "begin", "()V"⟩
abbrev cX6_goTicks : ByteArray := prog_8_method_52_code
def yX6_goTicks : MethodName := ⟨RX6, "goTicks", "(III)V"⟩
abbrev cX6_later : ByteArray := prog_8_method_53_code
def yX6_later : MethodName := ⟨RX6, "later", "(IIII)I"⟩
abbrev cX6_first : ByteArray := prog_8_method_54_code
def yX6_first : MethodName := ⟨RX6, "first", "(IIII)I"⟩
abbrev cX6_areAlike : ByteArray := prog_8_method_55_code
def yX6_areAlike : MethodName := ⟨RX6, "areAlike", "(II)Z"⟩
abbrev cX6_layStates : ByteArray := prog_8_method_56_code
def yX6_layStates : MethodName := ⟨RX6, "layStates", "(II)V"⟩
abbrev cX6_round : ByteArray := prog_8_method_57_code
def yX6_round : MethodName := ⟨RX6, "round", "(III)I"⟩
abbrev cX6_longPower : ByteArray := prog_8_method_58_code
def yX6_longPower : MethodName := ⟨RX6, "longPower", "(JI)J"⟩
abbrev cX6_areLike : ByteArray := prog_8_method_59_code
def yX6_areLike : MethodName := ⟨RX6, "areLike", "(II)Z"⟩
abbrev cX6_isSo : ByteArray := prog_8_method_60_code
def yX6_isSo : MethodName := ⟨RX6, "isSo", "(IIII)Z"⟩
abbrev cX6_does : ByteArray := prog_8_method_61_code
def yX6_does : MethodName := ⟨RX6, "does", "(I)Z"⟩
abbrev cX6_judge : ByteArray := prog_8_method_62_code
def yX6_judge : MethodName := ⟨RX6, "judge", "(IJ)I"⟩
abbrev cX6_see : ByteArray := prog_8_method_63_code
def yX6_see : MethodName := ⟨RX6, "see", "(IIII)I"⟩
abbrev cX6_unsee : ByteArray := prog_8_method_64_code
def yX6_unsee : MethodName := ⟨RX6, "unsee", "()I"⟩
abbrev cX6_explains : ByteArray := prog_8_method_65_code
def yX6_explains : MethodName := ⟨RX6, "explains", "(II)Z"⟩
abbrev cX6_inputs : ByteArray := prog_8_method_66_code
def yX6_inputs : MethodName := ⟨RX6, "inputs", "(I)I"⟩
abbrev cX6_divisor : ByteArray := prog_8_method_67_code
def yX6_divisor : MethodName := ⟨RX6, "divisor", "(II)I"⟩
abbrev cX6_fraction : ByteArray := prog_8_method_68_code
def yX6_fraction : MethodName := ⟨RX6, "fraction", "(IIZ)I"⟩
abbrev cX6_timesThere : ByteArray := prog_8_method_69_code
def yX6_timesThere : MethodName := ⟨RX6, "timesThere", "(III)I"⟩
abbrev cX6_odds : ByteArray := prog_8_method_70_code
def yX6_odds : MethodName := ⟨RX6, "odds", "(IIIIZ)I"⟩
abbrev cX6_seed : ByteArray := prog_8_method_71_code
def yX6_seed : MethodName := ⟨RX6, "seed", "(J)J"⟩
abbrev cX6_sumOf : ByteArray := prog_8_method_72_code
def yX6_sumOf : MethodName := ⟨RX6, "sumOf", "(I)I"⟩
abbrev cX6_runs : ByteArray := prog_8_method_73_code
def yX6_runs : MethodName := ⟨RX6, "runs", "(I)I"⟩
abbrev cX6_keep : ByteArray := prog_8_method_74_code
def yX6_keep : MethodName := ⟨RX6, "keep", "(I)I"⟩
abbrev cX6_again : ByteArray := prog_8_method_75_code
def yX6_again : MethodName := ⟨RX6, "again", "(I)I"⟩
def RJx145de : String := "java/io/Serializable"
def TJx145de : u_T := fun k => match k with
  | _ => ("", "", "", false)
def tyJx145de : Nat → FieldType := fun k => match k with
  | _ => .int
abbrev wsJx145de0 : List Cond := u_ws RJx145de TJx145de 0
theorem nmJx145de : ∀ a, a < 0 → ∀ b, b < 0 → a ≠ b → (TJx145de a).2.1 ≠ (TJx145de b).2.1 := by decide +kernel
theorem tyJx145de_ok : ∀ k, k < 0 → parseFieldDescriptor (TJx145de k).2.2.1 = some (tyJx145de k) := by decide +kernel
def RJx9f9b0 : String := "java/lang/CharSequence"
def TJx9f9b0 : u_T := fun k => match k with
  | _ => ("", "", "", false)
def tyJx9f9b0 : Nat → FieldType := fun k => match k with
  | _ => .int
abbrev wsJx9f9b00 : List Cond := u_ws RJx9f9b0 TJx9f9b0 0
theorem nmJx9f9b0 : ∀ a, a < 0 → ∀ b, b < 0 → a ≠ b → (TJx9f9b0 a).2.1 ≠ (TJx9f9b0 b).2.1 := by decide +kernel
theorem tyJx9f9b0_ok : ∀ k, k < 0 → parseFieldDescriptor (TJx9f9b0 k).2.2.1 = some (tyJx9f9b0 k) := by decide +kernel
def RJ11 : String := "java/lang/Character"
def TJ11 : u_T := fun k => match k with
  | _ => ("", "", "", false)
def tyJ11 : Nat → FieldType := fun k => match k with
  | _ => .int
abbrev wsJ110 : List Cond := u_ws RJ11 TJ11 0
theorem nmJ11 : ∀ a, a < 0 → ∀ b, b < 0 → a ≠ b → (TJ11 a).2.1 ≠ (TJ11 b).2.1 := by decide +kernel
theorem tyJ11_ok : ∀ k, k < 0 → parseFieldDescriptor (TJ11 k).2.2.1 = some (tyJ11 k) := by decide +kernel
abbrev cJ11_isValidCodePoint_9a6ad : ByteArray := prog_9_method_11_code
def yJ11_isValidCodePoint_9a6ad : MethodName := ⟨RJ11, "isValidCodePoint", "(I)Z"⟩
abbrev cJ11_highSurrogate_5068e : ByteArray := prog_9_method_28_code
def yJ11_highSurrogate_5068e : MethodName := ⟨RJ11, "highSurrogate", "(I)C"⟩
abbrev cJ11_lowSurrogate_5068e : ByteArray := prog_9_method_29_code
def yJ11_lowSurrogate_5068e : MethodName := ⟨RJ11, "lowSurrogate", "(I)C"⟩
def RJxb160c : String := "java/lang/Comparable"
def TJxb160c : u_T := fun k => match k with
  | _ => ("", "", "", false)
def tyJxb160c : Nat → FieldType := fun k => match k with
  | _ => .int
abbrev wsJxb160c0 : List Cond := u_ws RJxb160c TJxb160c 0
theorem nmJxb160c : ∀ a, a < 0 → ∀ b, b < 0 → a ≠ b → (TJxb160c a).2.1 ≠ (TJxb160c b).2.1 := by decide +kernel
theorem tyJxb160c_ok : ∀ k, k < 0 → parseFieldDescriptor (TJxb160c k).2.2.1 = some (tyJxb160c k) := by decide +kernel
def RJ6 : String := "java/lang/Integer"
def TJ6 : u_T := fun k => match k with
  | _ => ("", "", "", false)
def tyJ6 : Nat → FieldType := fun k => match k with
  | _ => .int
abbrev wsJ60 : List Cond := u_ws RJ6 TJ6 0
theorem nmJ6 : ∀ a, a < 0 → ∀ b, b < 0 → a ≠ b → (TJ6 a).2.1 ≠ (TJ6 b).2.1 := by decide +kernel
theorem tyJ6_ok : ∀ k, k < 0 → parseFieldDescriptor (TJ6 k).2.2.1 = some (tyJ6 k) := by decide +kernel
abbrev cJ6_bitCount_0f7a4 : ByteArray := prog_10_method_49_code
def yJ6_bitCount_0f7a4 : MethodName := ⟨RJ6, "bitCount", "(I)I"⟩
def RJ9 : String := "java/lang/Math"
def TJ9 : u_T := fun k => match k with
  | _ => ("", "", "", false)
def tyJ9 : Nat → FieldType := fun k => match k with
  | _ => .int
abbrev wsJ90 : List Cond := u_ws RJ9 TJ9 0
theorem nmJ9 : ∀ a, a < 0 → ∀ b, b < 0 → a ≠ b → (TJ9 a).2.1 ≠ (TJ9 b).2.1 := by decide +kernel
theorem tyJ9_ok : ∀ k, k < 0 → parseFieldDescriptor (TJ9 k).2.2.1 = some (tyJ9 k) := by decide +kernel
abbrev cJ9_max_7cf53 : ByteArray := prog_11_method_65_code
def yJ9_max_7cf53 : MethodName := ⟨RJ9, "max", "(II)I"⟩
abbrev cJ9_min_7cf53 : ByteArray := prog_11_method_69_code
def yJ9_min_7cf53 : MethodName := ⟨RJ9, "min", "(II)I"⟩
def RJ0 : String := "java/lang/String"
def TJ0 : u_T := fun k => match k with
  | _ => ("", "", "", false)
def tyJ0 : Nat → FieldType := fun k => match k with
  | _ => .int
abbrev wsJ00 : List Cond := u_ws RJ0 TJ0 0
theorem nmJ0 : ∀ a, a < 0 → ∀ b, b < 0 → a ≠ b → (TJ0 a).2.1 ≠ (TJ0 b).2.1 := by decide +kernel
theorem tyJ0_ok : ∀ k, k < 0 → parseFieldDescriptor (TJ0 k).2.2.1 = some (tyJ0 k) := by decide +kernel
abbrev cJ0_length_8abf5 : ByteArray := prog_12_method_54_code
def yJ0_length_8abf5 : MethodName := ⟨RJ0, "length", "()I"⟩
abbrev cJ0_indexOf_0f7a4 : ByteArray := prog_12_method_79_code
def yJ0_indexOf_0f7a4 : MethodName := ⟨RJ0, "indexOf", "(I)I"⟩
abbrev cJ0_indexOf_7cf53 : ByteArray := prog_12_method_80_code
def yJ0_indexOf_7cf53 : MethodName := ⟨RJ0, "indexOf", "(II)I"⟩
abbrev cJ0_coder_7d493 : ByteArray := prog_12_method_152_code
def yJ0_coder_7d493 : MethodName := ⟨RJ0, "coder", "()B"⟩
abbrev cJ0_isLatin1_aae02 : ByteArray := prog_12_method_154_code
def yJ0_isLatin1_aae02 : MethodName := ⟨RJ0, "isLatin1", "()Z"⟩
abbrev cJ0_checkBoundsBeginEnd_23922 : ByteArray := prog_12_method_158_code
def yJ0_checkBoundsBeginEnd_23922 : MethodName := ⟨RJ0, "checkBoundsBeginEnd", "(III)V"⟩
def RJ1 : String := "java/lang/StringLatin1"
def TJ1 : u_T := fun k => match k with
  | _ => ("", "", "", false)
def tyJ1 : Nat → FieldType := fun k => match k with
  | _ => .int
abbrev wsJ10 : List Cond := u_ws RJ1 TJ1 0
theorem nmJ1 : ∀ a, a < 0 → ∀ b, b < 0 → a ≠ b → (TJ1 a).2.1 ≠ (TJ1 b).2.1 := by decide +kernel
theorem tyJ1_ok : ∀ k, k < 0 → parseFieldDescriptor (TJ1 k).2.2.1 = some (tyJ1 k) := by decide +kernel
abbrev cJ1_canEncode_9a6ad : ByteArray := prog_13_method_4_code
def yJ1_canEncode_9a6ad : MethodName := ⟨RJ1, "canEncode", "(I)Z"⟩
abbrev cJ1_indexOf_4cfef : ByteArray := prog_13_method_22_code
def yJ1_indexOf_4cfef : MethodName := ⟨RJ1, "indexOf", "([BIII)I"⟩
abbrev cJ1_indexOfChar_4cfef : ByteArray := prog_13_method_23_code
def yJ1_indexOfChar_4cfef : MethodName := ⟨RJ1, "indexOfChar", "([BIII)I"⟩
def RJ2 : String := "java/lang/StringUTF16"
def TJ2 : u_T := fun k => match k with
  | _ => ("", "", "", false)
def tyJ2 : Nat → FieldType := fun k => match k with
  | _ => .int
abbrev wsJ20 : List Cond := u_ws RJ2 TJ2 0
theorem nmJ2 : ∀ a, a < 0 → ∀ b, b < 0 → a ≠ b → (TJ2 a).2.1 ≠ (TJ2 b).2.1 := by decide +kernel
theorem tyJ2_ok : ∀ k, k < 0 → parseFieldDescriptor (TJ2 k).2.2.1 = some (tyJ2 k) := by decide +kernel
abbrev cJ2_getChar_3b067 : ByteArray := prog_14_method_5_code
def yJ2_getChar_3b067 : MethodName := ⟨RJ2, "getChar", "([BI)C"⟩
abbrev cJ2_length_9d52b : ByteArray := prog_14_method_6_code
def yJ2_length_9d52b : MethodName := ⟨RJ2, "length", "([B)I"⟩
abbrev cJ2_indexOf_4cfef : ByteArray := prog_14_method_40_code
def yJ2_indexOf_4cfef : MethodName := ⟨RJ2, "indexOf", "([BIII)I"⟩
abbrev cJ2_indexOfChar_4cfef : ByteArray := prog_14_method_47_code
def yJ2_indexOfChar_4cfef : MethodName := ⟨RJ2, "indexOfChar", "([BIII)I"⟩
abbrev cJ2_indexOfCharUnsafe_4cfef : ByteArray := prog_14_method_48_code
def yJ2_indexOfCharUnsafe_4cfef : MethodName := ⟨RJ2, "indexOfCharUnsafe", "([BIII)I"⟩
abbrev cJ2_indexOfSupplementary_4cfef : ByteArray := prog_14_method_49_code
def yJ2_indexOfSupplementary_4cfef : MethodName := ⟨RJ2, "indexOfSupplementary", "([BIII)I"⟩
abbrev cJ2_checkBoundsBeginEnd_d044e : ByteArray := prog_14_method_93_code
def yJ2_checkBoundsBeginEnd_d044e : MethodName := ⟨RJ2, "checkBoundsBeginEnd", "(II[B)V"⟩
def RJ10 : String := "java/lang/System"
def TJ10 : u_T := fun k => match k with
  | _ => ("", "", "", false)
def tyJ10 : Nat → FieldType := fun k => match k with
  | _ => .int
abbrev wsJ100 : List Cond := u_ws RJ10 TJ10 0
theorem nmJ10 : ∀ a, a < 0 → ∀ b, b < 0 → a ≠ b → (TJ10 a).2.1 ≠ (TJ10 b).2.1 := by decide +kernel
theorem tyJ10_ok : ∀ k, k < 0 → parseFieldDescriptor (TJ10 k).2.2.1 = some (tyJ10 k) := by decide +kernel
def RJxfd54e : String := "java/lang/constant/Constable"
def TJxfd54e : u_T := fun k => match k with
  | _ => ("", "", "", false)
def tyJxfd54e : Nat → FieldType := fun k => match k with
  | _ => .int
abbrev wsJxfd54e0 : List Cond := u_ws RJxfd54e TJxfd54e 0
theorem nmJxfd54e : ∀ a, a < 0 → ∀ b, b < 0 → a ≠ b → (TJxfd54e a).2.1 ≠ (TJxfd54e b).2.1 := by decide +kernel
theorem tyJxfd54e_ok : ∀ k, k < 0 → parseFieldDescriptor (TJxfd54e k).2.2.1 = some (tyJxfd54e k) := by decide +kernel
def RJx3cf43 : String := "java/lang/constant/ConstantDesc"
def TJx3cf43 : u_T := fun k => match k with
  | _ => ("", "", "", false)
def tyJx3cf43 : Nat → FieldType := fun k => match k with
  | _ => .int
abbrev wsJx3cf430 : List Cond := u_ws RJx3cf43 TJx3cf43 0
theorem nmJx3cf43 : ∀ a, a < 0 → ∀ b, b < 0 → a ≠ b → (TJx3cf43 a).2.1 ≠ (TJx3cf43 b).2.1 := by decide +kernel
theorem tyJx3cf43_ok : ∀ k, k < 0 → parseFieldDescriptor (TJx3cf43 k).2.2.1 = some (tyJx3cf43 k) := by decide +kernel
def RJ7 : String := "java/util/Arrays"
def TJ7 : u_T := fun k => match k with
  | _ => ("", "", "", false)
def tyJ7 : Nat → FieldType := fun k => match k with
  | _ => .int
abbrev wsJ70 : List Cond := u_ws RJ7 TJ7 0
theorem nmJ7 : ∀ a, a < 0 → ∀ b, b < 0 → a ≠ b → (TJ7 a).2.1 ≠ (TJ7 b).2.1 := by decide +kernel
theorem tyJ7_ok : ∀ k, k < 0 → parseFieldDescriptor (TJ7 k).2.2.1 = some (tyJ7 k) := by decide +kernel
abbrev cJ7_fill_53178 : ByteArray := prog_16_method_103_code
def yJ7_fill_53178 : MethodName := ⟨RJ7, "fill", "([II)V"⟩
def RJ3 : String := "jdk/internal/util/Preconditions"
def TJ3 : u_T := fun k => match k with
  | _ => ("", "", "", false)
def tyJ3 : Nat → FieldType := fun k => match k with
  | _ => .int
abbrev wsJ30 : List Cond := u_ws RJ3 TJ3 0
theorem nmJ3 : ∀ a, a < 0 → ∀ b, b < 0 → a ≠ b → (TJ3 a).2.1 ≠ (TJ3 b).2.1 := by decide +kernel
theorem tyJ3_ok : ∀ k, k < 0 → parseFieldDescriptor (TJ3 k).2.2.1 = some (tyJ3 k) := by decide +kernel
abbrev cJ3_checkFromToIndex_8c36e : ByteArray := prog_17_method_12_code
def yJ3_checkFromToIndex_8c36e : MethodName := ⟨RJ3, "checkFromToIndex", "(IIILjava/util/function/BiFunction;)I"⟩
def RL : String := "ClockedFlowsLaw"
abbrev cL_law : ByteArray := code
def yL_law : MethodName := ⟨RL, "law", "([I)Z"⟩
abbrev vwCl : List vw_C := [(RX0, TX0, 3), (RX1, TX1, 6), (RX2, TX2, 11), (RX3, TX3, 5), (RX4, TX4, 2), (RX5, TX5, 10), (RX6, TX6, 28)]
end
section
theorem dX0_init_0 : decode cX0_init 0 = .ok (.aload_n 0, 1) := by decide +kernel
theorem dX0_init_1 : decode cX0_init 1 = .ok (.invokespecial 3, 3) := by decide +kernel
theorem dX0_init_4 : decode cX0_init 4 = .ok (.aload_n 0, 1) := by decide +kernel
theorem dX0_init_5 : decode cX0_init 5 = .ok (.iconst 0, 1) := by decide +kernel
theorem dX0_init_6 : decode cX0_init 6 = .ok (.putfield 9, 3) := by decide +kernel
theorem dX0_init_9 : decode cX0_init 9 = .ok (.aload_n 0, 1) := by decide +kernel
theorem dX0_init_10 : decode cX0_init 10 = .ok (.iconst 0, 1) := by decide +kernel
theorem dX0_init_11 : decode cX0_init 11 = .ok (.putfield 15, 3) := by decide +kernel
theorem dX0_init_14 : decode cX0_init 14 = .ok (.aload_n 0, 1) := by decide +kernel
theorem dX0_init_15 : decode cX0_init 15 = .ok (.bipush 14, 2) := by decide +kernel
theorem dX0_init_17 : decode cX0_init 17 = .ok (.anewarray 18, 3) := by decide +kernel
theorem dX0_init_20 : decode cX0_init 20 = .ok (.putfield 20, 3) := by decide +kernel
theorem dX0_init_23 : decode cX0_init 23 = .ok (.iconst 0, 1) := by decide +kernel
theorem dX0_init_24 : decode cX0_init 24 = .ok (.istore_n 1, 1) := by decide +kernel
theorem dX0_init_25 : decode cX0_init 25 = .ok (.iload_n 1, 1) := by decide +kernel
theorem dX0_init_26 : decode cX0_init 26 = .ok (.bipush 14, 2) := by decide +kernel
theorem dX0_init_28 : decode cX0_init 28 = .ok (.if_icmp .ge 22, 3) := by decide +kernel
theorem dX0_init_31 : decode cX0_init 31 = .ok (.aload_n 0, 1) := by decide +kernel
theorem dX0_init_32 : decode cX0_init 32 = .ok (.getfield 20, 3) := by decide +kernel
theorem dX0_init_35 : decode cX0_init 35 = .ok (.iload_n 1, 1) := by decide +kernel
theorem dX0_init_36 : decode cX0_init 36 = .ok (.new 18, 3) := by decide +kernel
theorem dX0_init_39 : decode cX0_init 39 = .ok (.dup, 1) := by decide +kernel
theorem dX0_init_40 : decode cX0_init 40 = .ok (.invokespecial 24, 3) := by decide +kernel
theorem dX0_init_43 : decode cX0_init 43 = .ok (.aastore, 1) := by decide +kernel
theorem dX0_init_44 : decode cX0_init 44 = .ok (.iinc 1 1, 3) := by decide +kernel
theorem dX0_init_47 : decode cX0_init 47 = .ok (.goto (-22), 3) := by decide +kernel
theorem dX0_init_50 : decode cX0_init 50 = .ok (.return_, 1) := by decide +kernel
theorem dX0_forget_0 : decode cX0_forget 0 = .ok (.aload_n 0, 1) := by decide +kernel
theorem dX0_forget_1 : decode cX0_forget 1 = .ok (.iconst 0, 1) := by decide +kernel
theorem dX0_forget_2 : decode cX0_forget 2 = .ok (.putfield 9, 3) := by decide +kernel
theorem dX0_forget_5 : decode cX0_forget 5 = .ok (.return_, 1) := by decide +kernel
theorem dX0_remember_0 : decode cX0_remember 0 = .ok (.aload_n 0, 1) := by decide +kernel
theorem dX0_remember_1 : decode cX0_remember 1 = .ok (.getfield 20, 3) := by decide +kernel
theorem dX0_remember_4 : decode cX0_remember 4 = .ok (.aload_n 0, 1) := by decide +kernel
theorem dX0_remember_5 : decode cX0_remember 5 = .ok (.getfield 15, 3) := by decide +kernel
theorem dX0_remember_8 : decode cX0_remember 8 = .ok (.aload_n 0, 1) := by decide +kernel
theorem dX0_remember_9 : decode cX0_remember 9 = .ok (.getfield 9, 3) := by decide +kernel
theorem dX0_remember_12 : decode cX0_remember 12 = .ok (.iadd, 1) := by decide +kernel
theorem dX0_remember_13 : decode cX0_remember 13 = .ok (.bipush 14, 2) := by decide +kernel
theorem dX0_remember_15 : decode cX0_remember 15 = .ok (.irem, 1) := by decide +kernel
theorem dX0_remember_16 : decode cX0_remember 16 = .ok (.aaload, 1) := by decide +kernel
theorem dX0_remember_17 : decode cX0_remember 17 = .ok (.aload_n 1, 1) := by decide +kernel
theorem dX0_remember_18 : decode cX0_remember 18 = .ok (.invokevirtual 25, 3) := by decide +kernel
theorem dX0_remember_21 : decode cX0_remember 21 = .ok (.aload_n 0, 1) := by decide +kernel
theorem dX0_remember_22 : decode cX0_remember 22 = .ok (.getfield 9, 3) := by decide +kernel
theorem dX0_remember_25 : decode cX0_remember 25 = .ok (.bipush 14, 2) := by decide +kernel
theorem dX0_remember_27 : decode cX0_remember 27 = .ok (.if_icmp .ge 16, 3) := by decide +kernel
theorem dX0_remember_30 : decode cX0_remember 30 = .ok (.aload_n 0, 1) := by decide +kernel
theorem dX0_remember_31 : decode cX0_remember 31 = .ok (.dup, 1) := by decide +kernel
theorem dX0_remember_32 : decode cX0_remember 32 = .ok (.getfield 9, 3) := by decide +kernel
theorem dX0_remember_35 : decode cX0_remember 35 = .ok (.iconst 1, 1) := by decide +kernel
theorem dX0_remember_36 : decode cX0_remember 36 = .ok (.iadd, 1) := by decide +kernel
theorem dX0_remember_37 : decode cX0_remember 37 = .ok (.putfield 9, 3) := by decide +kernel
theorem dX0_remember_40 : decode cX0_remember 40 = .ok (.goto 16, 3) := by decide +kernel
theorem dX0_remember_43 : decode cX0_remember 43 = .ok (.aload_n 0, 1) := by decide +kernel
theorem dX0_remember_44 : decode cX0_remember 44 = .ok (.aload_n 0, 1) := by decide +kernel
theorem dX0_remember_45 : decode cX0_remember 45 = .ok (.getfield 15, 3) := by decide +kernel
theorem dX0_remember_48 : decode cX0_remember 48 = .ok (.iconst 1, 1) := by decide +kernel
theorem dX0_remember_49 : decode cX0_remember 49 = .ok (.iadd, 1) := by decide +kernel
theorem dX0_remember_50 : decode cX0_remember 50 = .ok (.bipush 14, 2) := by decide +kernel
theorem dX0_remember_52 : decode cX0_remember 52 = .ok (.irem, 1) := by decide +kernel
theorem dX0_remember_53 : decode cX0_remember 53 = .ok (.putfield 15, 3) := by decide +kernel
theorem dX0_remember_56 : decode cX0_remember 56 = .ok (.return_, 1) := by decide +kernel
theorem dX0_takeBack_0 : decode cX0_takeBack 0 = .ok (.aload_n 0, 1) := by decide +kernel
theorem dX0_takeBack_1 : decode cX0_takeBack 1 = .ok (.getfield 9, 3) := by decide +kernel
theorem dX0_takeBack_4 : decode cX0_takeBack 4 = .ok (.ifCond .le 34, 3) := by decide +kernel
theorem dX0_takeBack_7 : decode cX0_takeBack 7 = .ok (.aload_n 0, 1) := by decide +kernel
theorem dX0_takeBack_8 : decode cX0_takeBack 8 = .ok (.dup, 1) := by decide +kernel
theorem dX0_takeBack_9 : decode cX0_takeBack 9 = .ok (.getfield 9, 3) := by decide +kernel
theorem dX0_takeBack_12 : decode cX0_takeBack 12 = .ok (.iconst 1, 1) := by decide +kernel
theorem dX0_takeBack_13 : decode cX0_takeBack 13 = .ok (.isub, 1) := by decide +kernel
theorem dX0_takeBack_14 : decode cX0_takeBack 14 = .ok (.putfield 9, 3) := by decide +kernel
theorem dX0_takeBack_17 : decode cX0_takeBack 17 = .ok (.aload_n 1, 1) := by decide +kernel
theorem dX0_takeBack_18 : decode cX0_takeBack 18 = .ok (.aload_n 0, 1) := by decide +kernel
theorem dX0_takeBack_19 : decode cX0_takeBack 19 = .ok (.getfield 20, 3) := by decide +kernel
theorem dX0_takeBack_22 : decode cX0_takeBack 22 = .ok (.aload_n 0, 1) := by decide +kernel
theorem dX0_takeBack_23 : decode cX0_takeBack 23 = .ok (.getfield 15, 3) := by decide +kernel
theorem dX0_takeBack_26 : decode cX0_takeBack 26 = .ok (.aload_n 0, 1) := by decide +kernel
theorem dX0_takeBack_27 : decode cX0_takeBack 27 = .ok (.getfield 9, 3) := by decide +kernel
theorem dX0_takeBack_30 : decode cX0_takeBack 30 = .ok (.iadd, 1) := by decide +kernel
theorem dX0_takeBack_31 : decode cX0_takeBack 31 = .ok (.bipush 14, 2) := by decide +kernel
theorem dX0_takeBack_33 : decode cX0_takeBack 33 = .ok (.irem, 1) := by decide +kernel
theorem dX0_takeBack_34 : decode cX0_takeBack 34 = .ok (.aaload, 1) := by decide +kernel
theorem dX0_takeBack_35 : decode cX0_takeBack 35 = .ok (.invokevirtual 25, 3) := by decide +kernel
theorem dX0_takeBack_38 : decode cX0_takeBack 38 = .ok (.return_, 1) := by decide +kernel
theorem dX1_init_0 : decode cX1_init 0 = .ok (.aload_n 0, 1) := by decide +kernel
theorem dX1_init_1 : decode cX1_init 1 = .ok (.invokespecial 3, 3) := by decide +kernel
theorem dX1_init_4 : decode cX1_init 4 = .ok (.aload_n 0, 1) := by decide +kernel
theorem dX1_init_5 : decode cX1_init 5 = .ok (.iconst 0, 1) := by decide +kernel
theorem dX1_init_6 : decode cX1_init 6 = .ok (.putfield 9, 3) := by decide +kernel
theorem dX1_init_9 : decode cX1_init 9 = .ok (.aload_n 0, 1) := by decide +kernel
theorem dX1_init_10 : decode cX1_init 10 = .ok (.iconst 0, 1) := by decide +kernel
theorem dX1_init_11 : decode cX1_init 11 = .ok (.putfield 15, 3) := by decide +kernel
theorem dX1_init_14 : decode cX1_init 14 = .ok (.aload_n 0, 1) := by decide +kernel
theorem dX1_init_15 : decode cX1_init 15 = .ok (.bipush 8, 2) := by decide +kernel
theorem dX1_init_17 : decode cX1_init 17 = .ok (.newarray .int, 2) := by decide +kernel
theorem dX1_init_19 : decode cX1_init 19 = .ok (.putfield 18, 3) := by decide +kernel
theorem dX1_init_22 : decode cX1_init 22 = .ok (.aload_n 0, 1) := by decide +kernel
theorem dX1_init_23 : decode cX1_init 23 = .ok (.bipush 24, 2) := by decide +kernel
theorem dX1_init_25 : decode cX1_init 25 = .ok (.newarray .int, 2) := by decide +kernel
theorem dX1_init_27 : decode cX1_init 27 = .ok (.putfield 22, 3) := by decide +kernel
theorem dX1_init_30 : decode cX1_init 30 = .ok (.aload_n 0, 1) := by decide +kernel
theorem dX1_init_31 : decode cX1_init 31 = .ok (.bipush 8, 2) := by decide +kernel
theorem dX1_init_33 : decode cX1_init 33 = .ok (.newarray .int, 2) := by decide +kernel
theorem dX1_init_35 : decode cX1_init 35 = .ok (.putfield 25, 3) := by decide +kernel
theorem dX1_init_38 : decode cX1_init 38 = .ok (.aload_n 0, 1) := by decide +kernel
theorem dX1_init_39 : decode cX1_init 39 = .ok (.bipush 8, 2) := by decide +kernel
theorem dX1_init_41 : decode cX1_init 41 = .ok (.newarray .int, 2) := by decide +kernel
theorem dX1_init_43 : decode cX1_init 43 = .ok (.putfield 28, 3) := by decide +kernel
theorem dX1_init_46 : decode cX1_init 46 = .ok (.aload_n 0, 1) := by decide +kernel
theorem dX1_init_47 : decode cX1_init 47 = .ok (.getfield 28, 3) := by decide +kernel
theorem dX1_init_50 : decode cX1_init 50 = .ok (.bipush (-9), 2) := by decide +kernel
theorem dX1_init_52 : decode cX1_init 52 = .ok (.invokestatic 31, 3) := by decide +kernel
theorem dX1_init_55 : decode cX1_init 55 = .ok (.return_, 1) := by decide +kernel
theorem dX1_become_0 : decode cX1_become 0 = .ok (.aload_n 0, 1) := by decide +kernel
theorem dX1_become_1 : decode cX1_become 1 = .ok (.aload_n 1, 1) := by decide +kernel
theorem dX1_become_2 : decode cX1_become 2 = .ok (.getfield 9, 3) := by decide +kernel
theorem dX1_become_5 : decode cX1_become 5 = .ok (.putfield 9, 3) := by decide +kernel
theorem dX1_become_8 : decode cX1_become 8 = .ok (.aload_n 0, 1) := by decide +kernel
theorem dX1_become_9 : decode cX1_become 9 = .ok (.aload_n 1, 1) := by decide +kernel
theorem dX1_become_10 : decode cX1_become 10 = .ok (.getfield 15, 3) := by decide +kernel
theorem dX1_become_13 : decode cX1_become 13 = .ok (.putfield 15, 3) := by decide +kernel
theorem dX1_become_16 : decode cX1_become 16 = .ok (.aload_n 1, 1) := by decide +kernel
theorem dX1_become_17 : decode cX1_become 17 = .ok (.getfield 18, 3) := by decide +kernel
theorem dX1_become_20 : decode cX1_become 20 = .ok (.iconst 0, 1) := by decide +kernel
theorem dX1_become_21 : decode cX1_become 21 = .ok (.aload_n 0, 1) := by decide +kernel
theorem dX1_become_22 : decode cX1_become 22 = .ok (.getfield 18, 3) := by decide +kernel
theorem dX1_become_25 : decode cX1_become 25 = .ok (.iconst 0, 1) := by decide +kernel
theorem dX1_become_26 : decode cX1_become 26 = .ok (.bipush 8, 2) := by decide +kernel
theorem dX1_become_28 : decode cX1_become 28 = .ok (.invokestatic 37, 3) := by decide +kernel
theorem dX1_become_31 : decode cX1_become 31 = .ok (.aload_n 1, 1) := by decide +kernel
theorem dX1_become_32 : decode cX1_become 32 = .ok (.getfield 22, 3) := by decide +kernel
theorem dX1_become_35 : decode cX1_become 35 = .ok (.iconst 0, 1) := by decide +kernel
theorem dX1_become_36 : decode cX1_become 36 = .ok (.aload_n 0, 1) := by decide +kernel
theorem dX1_become_37 : decode cX1_become 37 = .ok (.getfield 22, 3) := by decide +kernel
theorem dX1_become_40 : decode cX1_become 40 = .ok (.iconst 0, 1) := by decide +kernel
theorem dX1_become_41 : decode cX1_become 41 = .ok (.bipush 24, 2) := by decide +kernel
theorem dX1_become_43 : decode cX1_become 43 = .ok (.invokestatic 37, 3) := by decide +kernel
theorem dX1_become_46 : decode cX1_become 46 = .ok (.aload_n 1, 1) := by decide +kernel
theorem dX1_become_47 : decode cX1_become 47 = .ok (.getfield 25, 3) := by decide +kernel
theorem dX1_become_50 : decode cX1_become 50 = .ok (.iconst 0, 1) := by decide +kernel
theorem dX1_become_51 : decode cX1_become 51 = .ok (.aload_n 0, 1) := by decide +kernel
theorem dX1_become_52 : decode cX1_become 52 = .ok (.getfield 25, 3) := by decide +kernel
theorem dX1_become_55 : decode cX1_become 55 = .ok (.iconst 0, 1) := by decide +kernel
theorem dX1_become_56 : decode cX1_become 56 = .ok (.bipush 8, 2) := by decide +kernel
theorem dX1_become_58 : decode cX1_become 58 = .ok (.invokestatic 37, 3) := by decide +kernel
theorem dX1_become_61 : decode cX1_become 61 = .ok (.aload_n 1, 1) := by decide +kernel
theorem dX1_become_62 : decode cX1_become 62 = .ok (.getfield 28, 3) := by decide +kernel
theorem dX1_become_65 : decode cX1_become 65 = .ok (.iconst 0, 1) := by decide +kernel
theorem dX1_become_66 : decode cX1_become 66 = .ok (.aload_n 0, 1) := by decide +kernel
theorem dX1_become_67 : decode cX1_become 67 = .ok (.getfield 28, 3) := by decide +kernel
theorem dX1_become_70 : decode cX1_become 70 = .ok (.iconst 0, 1) := by decide +kernel
theorem dX1_become_71 : decode cX1_become 71 = .ok (.bipush 8, 2) := by decide +kernel
theorem dX1_become_73 : decode cX1_become 73 = .ok (.invokestatic 37, 3) := by decide +kernel
theorem dX1_become_76 : decode cX1_become 76 = .ok (.return_, 1) := by decide +kernel
theorem dX1_equate_0 : decode cX1_equate 0 = .ok (.iload_n 1, 1) := by decide +kernel
theorem dX1_equate_1 : decode cX1_equate 1 = .ok (.ifCond .lt 9, 3) := by decide +kernel
theorem dX1_equate_4 : decode cX1_equate 4 = .ok (.iload_n 1, 1) := by decide +kernel
theorem dX1_equate_5 : decode cX1_equate 5 = .ok (.bipush 8, 2) := by decide +kernel
theorem dX1_equate_7 : decode cX1_equate 7 = .ok (.if_icmp .lt 4, 3) := by decide +kernel
theorem dX1_equate_10 : decode cX1_equate 10 = .ok (.return_, 1) := by decide +kernel
theorem dX1_equate_11 : decode cX1_equate 11 = .ok (.aload_n 0, 1) := by decide +kernel
theorem dX1_equate_12 : decode cX1_equate 12 = .ok (.getfield 18, 3) := by decide +kernel
theorem dX1_equate_15 : decode cX1_equate 15 = .ok (.iload_n 1, 1) := by decide +kernel
theorem dX1_equate_16 : decode cX1_equate 16 = .ok (.iload_n 2, 1) := by decide +kernel
theorem dX1_equate_17 : decode cX1_equate 17 = .ok (.iastore, 1) := by decide +kernel
theorem dX1_equate_18 : decode cX1_equate 18 = .ok (.aload_n 0, 1) := by decide +kernel
theorem dX1_equate_19 : decode cX1_equate 19 = .ok (.iload_n 1, 1) := by decide +kernel
theorem dX1_equate_20 : decode cX1_equate 20 = .ok (.iconst 0, 1) := by decide +kernel
theorem dX1_equate_21 : decode cX1_equate 21 = .ok (.iload_n 3, 1) := by decide +kernel
theorem dX1_equate_22 : decode cX1_equate 22 = .ok (.invokevirtual 43, 3) := by decide +kernel
theorem dX1_equate_25 : decode cX1_equate 25 = .ok (.aload_n 0, 1) := by decide +kernel
theorem dX1_equate_26 : decode cX1_equate 26 = .ok (.iload_n 1, 1) := by decide +kernel
theorem dX1_equate_27 : decode cX1_equate 27 = .ok (.iconst 1, 1) := by decide +kernel
theorem dX1_equate_28 : decode cX1_equate 28 = .ok (.iload 4, 2) := by decide +kernel
theorem dX1_equate_30 : decode cX1_equate 30 = .ok (.invokevirtual 43, 3) := by decide +kernel
theorem dX1_equate_33 : decode cX1_equate 33 = .ok (.aload_n 0, 1) := by decide +kernel
theorem dX1_equate_34 : decode cX1_equate 34 = .ok (.iload_n 1, 1) := by decide +kernel
theorem dX1_equate_35 : decode cX1_equate 35 = .ok (.iconst 2, 1) := by decide +kernel
theorem dX1_equate_36 : decode cX1_equate 36 = .ok (.iload 5, 2) := by decide +kernel
theorem dX1_equate_38 : decode cX1_equate 38 = .ok (.invokevirtual 43, 3) := by decide +kernel
theorem dX1_equate_41 : decode cX1_equate 41 = .ok (.return_, 1) := by decide +kernel
theorem dX1_setPart_0 : decode cX1_setPart 0 = .ok (.iload_n 1, 1) := by decide +kernel
theorem dX1_setPart_1 : decode cX1_setPart 1 = .ok (.ifCond .lt 29, 3) := by decide +kernel
theorem dX1_setPart_4 : decode cX1_setPart 4 = .ok (.iload_n 1, 1) := by decide +kernel
theorem dX1_setPart_5 : decode cX1_setPart 5 = .ok (.bipush 8, 2) := by decide +kernel
theorem dX1_setPart_7 : decode cX1_setPart 7 = .ok (.if_icmp .ge 23, 3) := by decide +kernel
theorem dX1_setPart_10 : decode cX1_setPart 10 = .ok (.iload_n 2, 1) := by decide +kernel
theorem dX1_setPart_11 : decode cX1_setPart 11 = .ok (.ifCond .lt 19, 3) := by decide +kernel
theorem dX1_setPart_14 : decode cX1_setPart 14 = .ok (.iload_n 2, 1) := by decide +kernel
theorem dX1_setPart_15 : decode cX1_setPart 15 = .ok (.iconst 3, 1) := by decide +kernel
theorem dX1_setPart_16 : decode cX1_setPart 16 = .ok (.if_icmp .ge 14, 3) := by decide +kernel
theorem dX1_setPart_19 : decode cX1_setPart 19 = .ok (.aload_n 0, 1) := by decide +kernel
theorem dX1_setPart_20 : decode cX1_setPart 20 = .ok (.getfield 22, 3) := by decide +kernel
theorem dX1_setPart_23 : decode cX1_setPart 23 = .ok (.iload_n 1, 1) := by decide +kernel
theorem dX1_setPart_24 : decode cX1_setPart 24 = .ok (.iconst 3, 1) := by decide +kernel
theorem dX1_setPart_25 : decode cX1_setPart 25 = .ok (.imul, 1) := by decide +kernel
theorem dX1_setPart_26 : decode cX1_setPart 26 = .ok (.iload_n 2, 1) := by decide +kernel
theorem dX1_setPart_27 : decode cX1_setPart 27 = .ok (.iadd, 1) := by decide +kernel
theorem dX1_setPart_28 : decode cX1_setPart 28 = .ok (.iload_n 3, 1) := by decide +kernel
theorem dX1_setPart_29 : decode cX1_setPart 29 = .ok (.iastore, 1) := by decide +kernel
theorem dX1_setPart_30 : decode cX1_setPart 30 = .ok (.return_, 1) := by decide +kernel
theorem dX1_part_0 : decode cX1_part 0 = .ok (.iload_n 1, 1) := by decide +kernel
theorem dX1_part_1 : decode cX1_part 1 = .ok (.ifCond .lt 18, 3) := by decide +kernel
theorem dX1_part_4 : decode cX1_part 4 = .ok (.iload_n 1, 1) := by decide +kernel
theorem dX1_part_5 : decode cX1_part 5 = .ok (.bipush 8, 2) := by decide +kernel
theorem dX1_part_7 : decode cX1_part 7 = .ok (.if_icmp .ge 12, 3) := by decide +kernel
theorem dX1_part_10 : decode cX1_part 10 = .ok (.iload_n 2, 1) := by decide +kernel
theorem dX1_part_11 : decode cX1_part 11 = .ok (.ifCond .lt 8, 3) := by decide +kernel
theorem dX1_part_14 : decode cX1_part 14 = .ok (.iload_n 2, 1) := by decide +kernel
theorem dX1_part_15 : decode cX1_part 15 = .ok (.iconst 3, 1) := by decide +kernel
theorem dX1_part_16 : decode cX1_part 16 = .ok (.if_icmp .lt 5, 3) := by decide +kernel
theorem dX1_part_19 : decode cX1_part 19 = .ok (.iconst 0, 1) := by decide +kernel
theorem dX1_part_20 : decode cX1_part 20 = .ok (.ireturn, 1) := by decide +kernel
theorem dX1_part_21 : decode cX1_part 21 = .ok (.aload_n 0, 1) := by decide +kernel
theorem dX1_part_22 : decode cX1_part 22 = .ok (.getfield 22, 3) := by decide +kernel
theorem dX1_part_25 : decode cX1_part 25 = .ok (.iload_n 1, 1) := by decide +kernel
theorem dX1_part_26 : decode cX1_part 26 = .ok (.iconst 3, 1) := by decide +kernel
theorem dX1_part_27 : decode cX1_part 27 = .ok (.imul, 1) := by decide +kernel
theorem dX1_part_28 : decode cX1_part 28 = .ok (.iload_n 2, 1) := by decide +kernel
theorem dX1_part_29 : decode cX1_part 29 = .ok (.iadd, 1) := by decide +kernel
theorem dX1_part_30 : decode cX1_part 30 = .ok (.iaload, 1) := by decide +kernel
theorem dX1_part_31 : decode cX1_part 31 = .ok (.ireturn, 1) := by decide +kernel
theorem dX1_kindOf_0 : decode cX1_kindOf 0 = .ok (.iload_n 1, 1) := by decide +kernel
theorem dX1_kindOf_1 : decode cX1_kindOf 1 = .ok (.ifCond .lt 9, 3) := by decide +kernel
theorem dX1_kindOf_4 : decode cX1_kindOf 4 = .ok (.iload_n 1, 1) := by decide +kernel
theorem dX1_kindOf_5 : decode cX1_kindOf 5 = .ok (.bipush 8, 2) := by decide +kernel
theorem dX1_kindOf_7 : decode cX1_kindOf 7 = .ok (.if_icmp .lt 7, 3) := by decide +kernel
theorem dX1_kindOf_10 : decode cX1_kindOf 10 = .ok (.iconst 1, 1) := by decide +kernel
theorem dX1_kindOf_11 : decode cX1_kindOf 11 = .ok (.goto 9, 3) := by decide +kernel
theorem dX1_kindOf_14 : decode cX1_kindOf 14 = .ok (.aload_n 0, 1) := by decide +kernel
theorem dX1_kindOf_15 : decode cX1_kindOf 15 = .ok (.getfield 18, 3) := by decide +kernel
theorem dX1_kindOf_18 : decode cX1_kindOf 18 = .ok (.iload_n 1, 1) := by decide +kernel
theorem dX1_kindOf_19 : decode cX1_kindOf 19 = .ok (.iaload, 1) := by decide +kernel
theorem dX1_kindOf_20 : decode cX1_kindOf 20 = .ok (.ireturn, 1) := by decide +kernel
theorem dX1_valueOf_0 : decode cX1_valueOf 0 = .ok (.iload_n 1, 1) := by decide +kernel
theorem dX1_valueOf_1 : decode cX1_valueOf 1 = .ok (.ifCond .lt 9, 3) := by decide +kernel
theorem dX1_valueOf_4 : decode cX1_valueOf 4 = .ok (.iload_n 1, 1) := by decide +kernel
theorem dX1_valueOf_5 : decode cX1_valueOf 5 = .ok (.bipush 8, 2) := by decide +kernel
theorem dX1_valueOf_7 : decode cX1_valueOf 7 = .ok (.if_icmp .lt 8, 3) := by decide +kernel
theorem dX1_valueOf_10 : decode cX1_valueOf 10 = .ok (.bipush (-9), 2) := by decide +kernel
theorem dX1_valueOf_12 : decode cX1_valueOf 12 = .ok (.goto 9, 3) := by decide +kernel
theorem dX1_valueOf_15 : decode cX1_valueOf 15 = .ok (.aload_n 0, 1) := by decide +kernel
theorem dX1_valueOf_16 : decode cX1_valueOf 16 = .ok (.getfield 28, 3) := by decide +kernel
theorem dX1_valueOf_19 : decode cX1_valueOf 19 = .ok (.iload_n 1, 1) := by decide +kernel
theorem dX1_valueOf_20 : decode cX1_valueOf 20 = .ok (.iaload, 1) := by decide +kernel
theorem dX1_valueOf_21 : decode cX1_valueOf 21 = .ok (.ireturn, 1) := by decide +kernel
theorem dX1_restart_0 : decode cX1_restart 0 = .ok (.aload_n 0, 1) := by decide +kernel
theorem dX1_restart_1 : decode cX1_restart 1 = .ok (.iconst 0, 1) := by decide +kernel
theorem dX1_restart_2 : decode cX1_restart 2 = .ok (.putfield 15, 3) := by decide +kernel
theorem dX1_restart_5 : decode cX1_restart 5 = .ok (.iconst 0, 1) := by decide +kernel
theorem dX1_restart_6 : decode cX1_restart 6 = .ok (.istore_n 1, 1) := by decide +kernel
theorem dX1_restart_7 : decode cX1_restart 7 = .ok (.iload_n 1, 1) := by decide +kernel
theorem dX1_restart_8 : decode cX1_restart 8 = .ok (.bipush 8, 2) := by decide +kernel
theorem dX1_restart_10 : decode cX1_restart 10 = .ok (.if_icmp .ge 40, 3) := by decide +kernel
theorem dX1_restart_13 : decode cX1_restart 13 = .ok (.aload_n 0, 1) := by decide +kernel
theorem dX1_restart_14 : decode cX1_restart 14 = .ok (.getfield 28, 3) := by decide +kernel
theorem dX1_restart_17 : decode cX1_restart 17 = .ok (.iload_n 1, 1) := by decide +kernel
theorem dX1_restart_18 : decode cX1_restart 18 = .ok (.bipush (-9), 2) := by decide +kernel
theorem dX1_restart_20 : decode cX1_restart 20 = .ok (.iastore, 1) := by decide +kernel
theorem dX1_restart_21 : decode cX1_restart 21 = .ok (.aload_n 0, 1) := by decide +kernel
theorem dX1_restart_22 : decode cX1_restart 22 = .ok (.getfield 25, 3) := by decide +kernel
theorem dX1_restart_25 : decode cX1_restart 25 = .ok (.iload_n 1, 1) := by decide +kernel
theorem dX1_restart_26 : decode cX1_restart 26 = .ok (.iload_n 1, 1) := by decide +kernel
theorem dX1_restart_27 : decode cX1_restart 27 = .ok (.aload_n 0, 1) := by decide +kernel
theorem dX1_restart_28 : decode cX1_restart 28 = .ok (.getfield 9, 3) := by decide +kernel
theorem dX1_restart_31 : decode cX1_restart 31 = .ok (.if_icmp .ge 11, 3) := by decide +kernel
theorem dX1_restart_34 : decode cX1_restart 34 = .ok (.aload_n 0, 1) := by decide +kernel
theorem dX1_restart_35 : decode cX1_restart 35 = .ok (.iload_n 1, 1) := by decide +kernel
theorem dX1_restart_36 : decode cX1_restart 36 = .ok (.invokevirtual 47, 3) := by decide +kernel
theorem dX1_restart_39 : decode cX1_restart 39 = .ok (.goto 4, 3) := by decide +kernel
theorem dX1_restart_42 : decode cX1_restart 42 = .ok (.iconst 0, 1) := by decide +kernel
theorem dX1_restart_43 : decode cX1_restart 43 = .ok (.iastore, 1) := by decide +kernel
theorem dX1_restart_44 : decode cX1_restart 44 = .ok (.iinc 1 1, 3) := by decide +kernel
theorem dX1_restart_47 : decode cX1_restart 47 = .ok (.goto (-40), 3) := by decide +kernel
theorem dX1_restart_50 : decode cX1_restart 50 = .ok (.return_, 1) := by decide +kernel
theorem dX1_heldAtFirst_0 : decode cX1_heldAtFirst 0 = .ok (.aload_n 0, 1) := by decide +kernel
theorem dX1_heldAtFirst_1 : decode cX1_heldAtFirst 1 = .ok (.iload_n 1, 1) := by decide +kernel
theorem dX1_heldAtFirst_2 : decode cX1_heldAtFirst 2 = .ok (.invokevirtual 51, 3) := by decide +kernel
theorem dX1_heldAtFirst_5 : decode cX1_heldAtFirst 5 = .ok (.lookupswitch 37 #[(6, 27), (7, 34)], 27) := by decide +kernel
theorem dX1_heldAtFirst_32 : decode cX1_heldAtFirst 32 = .ok (.aload_n 0, 1) := by decide +kernel
theorem dX1_heldAtFirst_33 : decode cX1_heldAtFirst 33 = .ok (.iload_n 1, 1) := by decide +kernel
theorem dX1_heldAtFirst_34 : decode cX1_heldAtFirst 34 = .ok (.iconst 0, 1) := by decide +kernel
theorem dX1_heldAtFirst_35 : decode cX1_heldAtFirst 35 = .ok (.invokevirtual 54, 3) := by decide +kernel
theorem dX1_heldAtFirst_38 : decode cX1_heldAtFirst 38 = .ok (.ireturn, 1) := by decide +kernel
theorem dX1_heldAtFirst_39 : decode cX1_heldAtFirst 39 = .ok (.bipush (-8), 2) := by decide +kernel
theorem dX1_heldAtFirst_41 : decode cX1_heldAtFirst 41 = .ok (.ireturn, 1) := by decide +kernel
theorem dX1_heldAtFirst_42 : decode cX1_heldAtFirst 42 = .ok (.iconst 0, 1) := by decide +kernel
theorem dX1_heldAtFirst_43 : decode cX1_heldAtFirst 43 = .ok (.ireturn, 1) := by decide +kernel
theorem dX1_thereBits_0 : decode cX1_thereBits 0 = .ok (.iconst 0, 1) := by decide +kernel
theorem dX1_thereBits_1 : decode cX1_thereBits 1 = .ok (.istore_n 1, 1) := by decide +kernel
theorem dX1_thereBits_2 : decode cX1_thereBits 2 = .ok (.iconst 0, 1) := by decide +kernel
theorem dX1_thereBits_3 : decode cX1_thereBits 3 = .ok (.istore_n 2, 1) := by decide +kernel
theorem dX1_thereBits_4 : decode cX1_thereBits 4 = .ok (.iload_n 2, 1) := by decide +kernel
theorem dX1_thereBits_5 : decode cX1_thereBits 5 = .ok (.bipush 8, 2) := by decide +kernel
theorem dX1_thereBits_7 : decode cX1_thereBits 7 = .ok (.if_icmp .ge 26, 3) := by decide +kernel
theorem dX1_thereBits_10 : decode cX1_thereBits 10 = .ok (.aload_n 0, 1) := by decide +kernel
theorem dX1_thereBits_11 : decode cX1_thereBits 11 = .ok (.getfield 28, 3) := by decide +kernel
theorem dX1_thereBits_14 : decode cX1_thereBits 14 = .ok (.iload_n 2, 1) := by decide +kernel
theorem dX1_thereBits_15 : decode cX1_thereBits 15 = .ok (.iaload, 1) := by decide +kernel
theorem dX1_thereBits_16 : decode cX1_thereBits 16 = .ok (.bipush (-9), 2) := by decide +kernel
theorem dX1_thereBits_18 : decode cX1_thereBits 18 = .ok (.if_icmp .eq 9, 3) := by decide +kernel
theorem dX1_thereBits_21 : decode cX1_thereBits 21 = .ok (.iload_n 1, 1) := by decide +kernel
theorem dX1_thereBits_22 : decode cX1_thereBits 22 = .ok (.iconst 1, 1) := by decide +kernel
theorem dX1_thereBits_23 : decode cX1_thereBits 23 = .ok (.iload_n 2, 1) := by decide +kernel
theorem dX1_thereBits_24 : decode cX1_thereBits 24 = .ok (.ishl, 1) := by decide +kernel
theorem dX1_thereBits_25 : decode cX1_thereBits 25 = .ok (.ior, 1) := by decide +kernel
theorem dX1_thereBits_26 : decode cX1_thereBits 26 = .ok (.istore_n 1, 1) := by decide +kernel
theorem dX1_thereBits_27 : decode cX1_thereBits 27 = .ok (.iinc 2 1, 3) := by decide +kernel
theorem dX1_thereBits_30 : decode cX1_thereBits 30 = .ok (.goto (-26), 3) := by decide +kernel
theorem dX1_thereBits_33 : decode cX1_thereBits 33 = .ok (.iload_n 1, 1) := by decide +kernel
theorem dX1_thereBits_34 : decode cX1_thereBits 34 = .ok (.ireturn, 1) := by decide +kernel
theorem dX1_sumOfThere_0 : decode cX1_sumOfThere 0 = .ok (.iconst 0, 1) := by decide +kernel
theorem dX1_sumOfThere_1 : decode cX1_sumOfThere 1 = .ok (.istore_n 1, 1) := by decide +kernel
theorem dX1_sumOfThere_2 : decode cX1_sumOfThere 2 = .ok (.iconst 0, 1) := by decide +kernel
theorem dX1_sumOfThere_3 : decode cX1_sumOfThere 3 = .ok (.istore_n 2, 1) := by decide +kernel
theorem dX1_sumOfThere_4 : decode cX1_sumOfThere 4 = .ok (.iload_n 2, 1) := by decide +kernel
theorem dX1_sumOfThere_5 : decode cX1_sumOfThere 5 = .ok (.bipush 8, 2) := by decide +kernel
theorem dX1_sumOfThere_7 : decode cX1_sumOfThere 7 = .ok (.if_icmp .ge 46, 3) := by decide +kernel
theorem dX1_sumOfThere_10 : decode cX1_sumOfThere 10 = .ok (.aload_n 0, 1) := by decide +kernel
theorem dX1_sumOfThere_11 : decode cX1_sumOfThere 11 = .ok (.getfield 28, 3) := by decide +kernel
theorem dX1_sumOfThere_14 : decode cX1_sumOfThere 14 = .ok (.iload_n 2, 1) := by decide +kernel
theorem dX1_sumOfThere_15 : decode cX1_sumOfThere 15 = .ok (.iaload, 1) := by decide +kernel
theorem dX1_sumOfThere_16 : decode cX1_sumOfThere 16 = .ok (.bipush (-9), 2) := by decide +kernel
theorem dX1_sumOfThere_18 : decode cX1_sumOfThere 18 = .ok (.if_icmp .eq 29, 3) := by decide +kernel
theorem dX1_sumOfThere_21 : decode cX1_sumOfThere 21 = .ok (.iload_n 1, 1) := by decide +kernel
theorem dX1_sumOfThere_22 : decode cX1_sumOfThere 22 = .ok (.iconst 1, 1) := by decide +kernel
theorem dX1_sumOfThere_23 : decode cX1_sumOfThere 23 = .ok (.aload_n 0, 1) := by decide +kernel
theorem dX1_sumOfThere_24 : decode cX1_sumOfThere 24 = .ok (.getfield 28, 3) := by decide +kernel
theorem dX1_sumOfThere_27 : decode cX1_sumOfThere 27 = .ok (.iload_n 2, 1) := by decide +kernel
theorem dX1_sumOfThere_28 : decode cX1_sumOfThere 28 = .ok (.iaload, 1) := by decide +kernel
theorem dX1_sumOfThere_29 : decode cX1_sumOfThere 29 = .ok (.bipush (-8), 2) := by decide +kernel
theorem dX1_sumOfThere_31 : decode cX1_sumOfThere 31 = .ok (.if_icmp .ne 7, 3) := by decide +kernel
theorem dX1_sumOfThere_34 : decode cX1_sumOfThere 34 = .ok (.iconst 0, 1) := by decide +kernel
theorem dX1_sumOfThere_35 : decode cX1_sumOfThere 35 = .ok (.goto 9, 3) := by decide +kernel
theorem dX1_sumOfThere_38 : decode cX1_sumOfThere 38 = .ok (.aload_n 0, 1) := by decide +kernel
theorem dX1_sumOfThere_39 : decode cX1_sumOfThere 39 = .ok (.getfield 28, 3) := by decide +kernel
theorem dX1_sumOfThere_42 : decode cX1_sumOfThere 42 = .ok (.iload_n 2, 1) := by decide +kernel
theorem dX1_sumOfThere_43 : decode cX1_sumOfThere 43 = .ok (.iaload, 1) := by decide +kernel
theorem dX1_sumOfThere_44 : decode cX1_sumOfThere 44 = .ok (.iadd, 1) := by decide +kernel
theorem dX1_sumOfThere_45 : decode cX1_sumOfThere 45 = .ok (.iadd, 1) := by decide +kernel
theorem dX1_sumOfThere_46 : decode cX1_sumOfThere 46 = .ok (.istore_n 1, 1) := by decide +kernel
theorem dX1_sumOfThere_47 : decode cX1_sumOfThere 47 = .ok (.iinc 2 1, 3) := by decide +kernel
theorem dX1_sumOfThere_50 : decode cX1_sumOfThere 50 = .ok (.goto (-46), 3) := by decide +kernel
theorem dX1_sumOfThere_53 : decode cX1_sumOfThere 53 = .ok (.iload_n 1, 1) := by decide +kernel
theorem dX1_sumOfThere_54 : decode cX1_sumOfThere 54 = .ok (.ireturn, 1) := by decide +kernel
theorem dX1_work_0 : decode cX1_work 0 = .ok (.aload_n 0, 1) := by decide +kernel
theorem dX1_work_1 : decode cX1_work 1 = .ok (.getfield 28, 3) := by decide +kernel
theorem dX1_work_4 : decode cX1_work 4 = .ok (.bipush (-9), 2) := by decide +kernel
theorem dX1_work_6 : decode cX1_work 6 = .ok (.invokestatic 31, 3) := by decide +kernel
theorem dX1_work_9 : decode cX1_work 9 = .ok (.iconst 0, 1) := by decide +kernel
theorem dX1_work_10 : decode cX1_work 10 = .ok (.istore 4, 2) := by decide +kernel
theorem dX1_work_12 : decode cX1_work 12 = .ok (.iload 4, 2) := by decide +kernel
theorem dX1_work_14 : decode cX1_work 14 = .ok (.bipush 8, 2) := by decide +kernel
theorem dX1_work_16 : decode cX1_work 16 = .ok (.if_icmp .ge 68, 3) := by decide +kernel
theorem dX1_work_19 : decode cX1_work 19 = .ok (.iload 4, 2) := by decide +kernel
theorem dX1_work_21 : decode cX1_work 21 = .ok (.aload_n 0, 1) := by decide +kernel
theorem dX1_work_22 : decode cX1_work 22 = .ok (.getfield 9, 3) := by decide +kernel
theorem dX1_work_25 : decode cX1_work 25 = .ok (.if_icmp .ge 59, 3) := by decide +kernel
theorem dX1_work_28 : decode cX1_work 28 = .ok (.aload_n 1, 1) := by decide +kernel
theorem dX1_work_29 : decode cX1_work 29 = .ok (.getfield 58, 3) := by decide +kernel
theorem dX1_work_32 : decode cX1_work 32 = .ok (.iload 4, 2) := by decide +kernel
theorem dX1_work_34 : decode cX1_work 34 = .ok (.iaload, 1) := by decide +kernel
theorem dX1_work_35 : decode cX1_work 35 = .ok (.istore 5, 2) := by decide +kernel
theorem dX1_work_37 : decode cX1_work 37 = .ok (.iload 5, 2) := by decide +kernel
theorem dX1_work_39 : decode cX1_work 39 = .ok (.ifCond .lt 39, 3) := by decide +kernel
theorem dX1_work_42 : decode cX1_work 42 = .ok (.iload 5, 2) := by decide +kernel
theorem dX1_work_44 : decode cX1_work 44 = .ok (.bipush 8, 2) := by decide +kernel
theorem dX1_work_46 : decode cX1_work 46 = .ok (.if_icmp .ge 32, 3) := by decide +kernel
theorem dX1_work_49 : decode cX1_work 49 = .ok (.aload_n 0, 1) := by decide +kernel
theorem dX1_work_50 : decode cX1_work 50 = .ok (.aload_n 1, 1) := by decide +kernel
theorem dX1_work_51 : decode cX1_work 51 = .ok (.getfield 63, 3) := by decide +kernel
theorem dX1_work_54 : decode cX1_work 54 = .ok (.iload 5, 2) := by decide +kernel
theorem dX1_work_56 : decode cX1_work 56 = .ok (.iaload, 1) := by decide +kernel
theorem dX1_work_57 : decode cX1_work 57 = .ok (.invokevirtual 66, 3) := by decide +kernel
theorem dX1_work_60 : decode cX1_work 60 = .ok (.ifCond .eq 18, 3) := by decide +kernel
theorem dX1_work_63 : decode cX1_work 63 = .ok (.aload_n 0, 1) := by decide +kernel
theorem dX1_work_64 : decode cX1_work 64 = .ok (.getfield 28, 3) := by decide +kernel
theorem dX1_work_67 : decode cX1_work 67 = .ok (.iload 5, 2) := by decide +kernel
theorem dX1_work_69 : decode cX1_work 69 = .ok (.aload_n 0, 1) := by decide +kernel
theorem dX1_work_70 : decode cX1_work 70 = .ok (.iload 5, 2) := by decide +kernel
theorem dX1_work_72 : decode cX1_work 72 = .ok (.iload_n 2, 1) := by decide +kernel
theorem dX1_work_73 : decode cX1_work 73 = .ok (.iload_n 3, 1) := by decide +kernel
theorem dX1_work_74 : decode cX1_work 74 = .ok (.invokevirtual 70, 3) := by decide +kernel
theorem dX1_work_77 : decode cX1_work 77 = .ok (.iastore, 1) := by decide +kernel
theorem dX1_work_78 : decode cX1_work 78 = .ok (.iinc 4 1, 3) := by decide +kernel
theorem dX1_work_81 : decode cX1_work 81 = .ok (.goto (-69), 3) := by decide +kernel
theorem dX1_work_84 : decode cX1_work 84 = .ok (.iconst 0, 1) := by decide +kernel
theorem dX1_work_85 : decode cX1_work 85 = .ok (.istore 4, 2) := by decide +kernel
theorem dX1_work_87 : decode cX1_work 87 = .ok (.iload 4, 2) := by decide +kernel
theorem dX1_work_89 : decode cX1_work 89 = .ok (.bipush 8, 2) := by decide +kernel
theorem dX1_work_91 : decode cX1_work 91 = .ok (.if_icmp .ge 43, 3) := by decide +kernel
theorem dX1_work_94 : decode cX1_work 94 = .ok (.iload 4, 2) := by decide +kernel
theorem dX1_work_96 : decode cX1_work 96 = .ok (.aload_n 0, 1) := by decide +kernel
theorem dX1_work_97 : decode cX1_work 97 = .ok (.getfield 9, 3) := by decide +kernel
theorem dX1_work_100 : decode cX1_work 100 = .ok (.if_icmp .ge 34, 3) := by decide +kernel
theorem dX1_work_103 : decode cX1_work 103 = .ok (.aload_n 0, 1) := by decide +kernel
theorem dX1_work_104 : decode cX1_work 104 = .ok (.getfield 28, 3) := by decide +kernel
theorem dX1_work_107 : decode cX1_work 107 = .ok (.iload 4, 2) := by decide +kernel
theorem dX1_work_109 : decode cX1_work 109 = .ok (.iaload, 1) := by decide +kernel
theorem dX1_work_110 : decode cX1_work 110 = .ok (.bipush (-9), 2) := by decide +kernel
theorem dX1_work_112 : decode cX1_work 112 = .ok (.if_icmp .eq 16, 3) := by decide +kernel
theorem dX1_work_115 : decode cX1_work 115 = .ok (.aload_n 0, 1) := by decide +kernel
theorem dX1_work_116 : decode cX1_work 116 = .ok (.getfield 25, 3) := by decide +kernel
theorem dX1_work_119 : decode cX1_work 119 = .ok (.iload 4, 2) := by decide +kernel
theorem dX1_work_121 : decode cX1_work 121 = .ok (.aload_n 0, 1) := by decide +kernel
theorem dX1_work_122 : decode cX1_work 122 = .ok (.iload 4, 2) := by decide +kernel
theorem dX1_work_124 : decode cX1_work 124 = .ok (.invokevirtual 74, 3) := by decide +kernel
theorem dX1_work_127 : decode cX1_work 127 = .ok (.iastore, 1) := by decide +kernel
theorem dX1_work_128 : decode cX1_work 128 = .ok (.iinc 4 1, 3) := by decide +kernel
theorem dX1_work_131 : decode cX1_work 131 = .ok (.goto (-44), 3) := by decide +kernel
theorem dX1_work_134 : decode cX1_work 134 = .ok (.aload_n 0, 1) := by decide +kernel
theorem dX1_work_135 : decode cX1_work 135 = .ok (.dup, 1) := by decide +kernel
theorem dX1_work_136 : decode cX1_work 136 = .ok (.getfield 15, 3) := by decide +kernel
theorem dX1_work_139 : decode cX1_work 139 = .ok (.iconst 1, 1) := by decide +kernel
theorem dX1_work_140 : decode cX1_work 140 = .ok (.iadd, 1) := by decide +kernel
theorem dX1_work_141 : decode cX1_work 141 = .ok (.putfield 15, 3) := by decide +kernel
theorem dX1_work_144 : decode cX1_work 144 = .ok (.return_, 1) := by decide +kernel
theorem dX1_isThere_0 : decode cX1_isThere 0 = .ok (.iload_n 1, 1) := by decide +kernel
theorem dX1_isThere_1 : decode cX1_isThere 1 = .ok (.ifCond .ge 5, 3) := by decide +kernel
theorem dX1_isThere_4 : decode cX1_isThere 4 = .ok (.iconst 1, 1) := by decide +kernel
theorem dX1_isThere_5 : decode cX1_isThere 5 = .ok (.ireturn, 1) := by decide +kernel
theorem dX1_isThere_6 : decode cX1_isThere 6 = .ok (.aload_n 0, 1) := by decide +kernel
theorem dX1_isThere_7 : decode cX1_isThere 7 = .ok (.iload_n 1, 1) := by decide +kernel
theorem dX1_isThere_8 : decode cX1_isThere 8 = .ok (.bipush 10, 2) := by decide +kernel
theorem dX1_isThere_10 : decode cX1_isThere 10 = .ok (.idiv, 1) := by decide +kernel
theorem dX1_isThere_11 : decode cX1_isThere 11 = .ok (.invokevirtual 77, 3) := by decide +kernel
theorem dX1_isThere_14 : decode cX1_isThere 14 = .ok (.istore_n 2, 1) := by decide +kernel
theorem dX1_isThere_15 : decode cX1_isThere 15 = .ok (.iload_n 2, 1) := by decide +kernel
theorem dX1_isThere_16 : decode cX1_isThere 16 = .ok (.bipush (-9), 2) := by decide +kernel
theorem dX1_isThere_18 : decode cX1_isThere 18 = .ok (.if_icmp .eq 9, 3) := by decide +kernel
theorem dX1_isThere_21 : decode cX1_isThere 21 = .ok (.iload_n 2, 1) := by decide +kernel
theorem dX1_isThere_22 : decode cX1_isThere 22 = .ok (.bipush (-8), 2) := by decide +kernel
theorem dX1_isThere_24 : decode cX1_isThere 24 = .ok (.if_icmp .ne 5, 3) := by decide +kernel
theorem dX1_isThere_27 : decode cX1_isThere 27 = .ok (.iconst 0, 1) := by decide +kernel
theorem dX1_isThere_28 : decode cX1_isThere 28 = .ok (.ireturn, 1) := by decide +kernel
theorem dX1_isThere_29 : decode cX1_isThere 29 = .ok (.iload_n 2, 1) := by decide +kernel
theorem dX1_isThere_30 : decode cX1_isThere 30 = .ok (.ifCond .eq 7, 3) := by decide +kernel
theorem dX1_isThere_33 : decode cX1_isThere 33 = .ok (.iconst 1, 1) := by decide +kernel
theorem dX1_isThere_34 : decode cX1_isThere 34 = .ok (.goto 4, 3) := by decide +kernel
theorem dX1_isThere_37 : decode cX1_isThere 37 = .ok (.iconst 0, 1) := by decide +kernel
theorem dX1_isThere_38 : decode cX1_isThere 38 = .ok (.iload_n 1, 1) := by decide +kernel
theorem dX1_isThere_39 : decode cX1_isThere 39 = .ok (.bipush 10, 2) := by decide +kernel
theorem dX1_isThere_41 : decode cX1_isThere 41 = .ok (.irem, 1) := by decide +kernel
theorem dX1_isThere_42 : decode cX1_isThere 42 = .ok (.iconst 1, 1) := by decide +kernel
theorem dX1_isThere_43 : decode cX1_isThere 43 = .ok (.if_icmp .ne 7, 3) := by decide +kernel
theorem dX1_isThere_46 : decode cX1_isThere 46 = .ok (.iconst 1, 1) := by decide +kernel
theorem dX1_isThere_47 : decode cX1_isThere 47 = .ok (.goto 4, 3) := by decide +kernel
theorem dX1_isThere_50 : decode cX1_isThere 50 = .ok (.iconst 0, 1) := by decide +kernel
theorem dX1_isThere_51 : decode cX1_isThere 51 = .ok (.if_icmp .ne 7, 3) := by decide +kernel
theorem dX1_isThere_54 : decode cX1_isThere 54 = .ok (.iconst 1, 1) := by decide +kernel
theorem dX1_isThere_55 : decode cX1_isThere 55 = .ok (.goto 4, 3) := by decide +kernel
theorem dX1_isThere_58 : decode cX1_isThere 58 = .ok (.iconst 0, 1) := by decide +kernel
theorem dX1_isThere_59 : decode cX1_isThere 59 = .ok (.ireturn, 1) := by decide +kernel
theorem dX1_heldNext_0 : decode cX1_heldNext 0 = .ok (.aload_n 0, 1) := by decide +kernel
theorem dX1_heldNext_1 : decode cX1_heldNext 1 = .ok (.iload_n 1, 1) := by decide +kernel
theorem dX1_heldNext_2 : decode cX1_heldNext 2 = .ok (.invokevirtual 51, 3) := by decide +kernel
theorem dX1_heldNext_5 : decode cX1_heldNext 5 = .ok (.tableswitch 51 6 8 #[27, 38, 49], 27) := by decide +kernel
theorem dX1_heldNext_32 : decode cX1_heldNext 32 = .ok (.aload_n 0, 1) := by decide +kernel
theorem dX1_heldNext_33 : decode cX1_heldNext 33 = .ok (.aload_n 0, 1) := by decide +kernel
theorem dX1_heldNext_34 : decode cX1_heldNext 34 = .ok (.iload_n 1, 1) := by decide +kernel
theorem dX1_heldNext_35 : decode cX1_heldNext 35 = .ok (.iconst 1, 1) := by decide +kernel
theorem dX1_heldNext_36 : decode cX1_heldNext 36 = .ok (.invokevirtual 54, 3) := by decide +kernel
theorem dX1_heldNext_39 : decode cX1_heldNext 39 = .ok (.invokevirtual 77, 3) := by decide +kernel
theorem dX1_heldNext_42 : decode cX1_heldNext 42 = .ok (.ireturn, 1) := by decide +kernel
theorem dX1_heldNext_43 : decode cX1_heldNext 43 = .ok (.aload_n 0, 1) := by decide +kernel
theorem dX1_heldNext_44 : decode cX1_heldNext 44 = .ok (.aload_n 0, 1) := by decide +kernel
theorem dX1_heldNext_45 : decode cX1_heldNext 45 = .ok (.iload_n 1, 1) := by decide +kernel
theorem dX1_heldNext_46 : decode cX1_heldNext 46 = .ok (.iconst 0, 1) := by decide +kernel
theorem dX1_heldNext_47 : decode cX1_heldNext 47 = .ok (.invokevirtual 54, 3) := by decide +kernel
theorem dX1_heldNext_50 : decode cX1_heldNext 50 = .ok (.invokevirtual 77, 3) := by decide +kernel
theorem dX1_heldNext_53 : decode cX1_heldNext 53 = .ok (.ireturn, 1) := by decide +kernel
theorem dX1_heldNext_54 : decode cX1_heldNext 54 = .ok (.iconst 1, 1) := by decide +kernel
theorem dX1_heldNext_55 : decode cX1_heldNext 55 = .ok (.ireturn, 1) := by decide +kernel
theorem dX1_heldNext_56 : decode cX1_heldNext 56 = .ok (.iconst 0, 1) := by decide +kernel
theorem dX1_heldNext_57 : decode cX1_heldNext 57 = .ok (.ireturn, 1) := by decide +kernel
theorem dX1_reckon_0 : decode cX1_reckon 0 = .ok (.aload_n 0, 1) := by decide +kernel
theorem dX1_reckon_1 : decode cX1_reckon 1 = .ok (.iload_n 1, 1) := by decide +kernel
theorem dX1_reckon_2 : decode cX1_reckon 2 = .ok (.iconst 0, 1) := by decide +kernel
theorem dX1_reckon_3 : decode cX1_reckon 3 = .ok (.invokevirtual 54, 3) := by decide +kernel
theorem dX1_reckon_6 : decode cX1_reckon 6 = .ok (.istore 4, 2) := by decide +kernel
theorem dX1_reckon_8 : decode cX1_reckon 8 = .ok (.aload_n 0, 1) := by decide +kernel
theorem dX1_reckon_9 : decode cX1_reckon 9 = .ok (.iload_n 1, 1) := by decide +kernel
theorem dX1_reckon_10 : decode cX1_reckon 10 = .ok (.iconst 1, 1) := by decide +kernel
theorem dX1_reckon_11 : decode cX1_reckon 11 = .ok (.invokevirtual 54, 3) := by decide +kernel
theorem dX1_reckon_14 : decode cX1_reckon 14 = .ok (.istore 5, 2) := by decide +kernel
theorem dX1_reckon_16 : decode cX1_reckon 16 = .ok (.aload_n 0, 1) := by decide +kernel
theorem dX1_reckon_17 : decode cX1_reckon 17 = .ok (.iload_n 1, 1) := by decide +kernel
theorem dX1_reckon_18 : decode cX1_reckon 18 = .ok (.invokevirtual 51, 3) := by decide +kernel
theorem dX1_reckon_21 : decode cX1_reckon 21 = .ok (.tableswitch 146 0 11 #[63, 74, 77, 77, 77, 99, 118, 118, 125, 146, 146, 99], 63) := by decide +kernel
theorem dX1_reckon_84 : decode cX1_reckon 84 = .ok (.iload 4, 2) := by decide +kernel
theorem dX1_reckon_86 : decode cX1_reckon 86 = .ok (.ifCond .ne 7, 3) := by decide +kernel
theorem dX1_reckon_89 : decode cX1_reckon 89 = .ok (.iload_n 2, 1) := by decide +kernel
theorem dX1_reckon_90 : decode cX1_reckon 90 = .ok (.goto 4, 3) := by decide +kernel
theorem dX1_reckon_93 : decode cX1_reckon 93 = .ok (.iload_n 3, 1) := by decide +kernel
theorem dX1_reckon_94 : decode cX1_reckon 94 = .ok (.ireturn, 1) := by decide +kernel
theorem dX1_reckon_95 : decode cX1_reckon 95 = .ok (.iload 4, 2) := by decide +kernel
theorem dX1_reckon_97 : decode cX1_reckon 97 = .ok (.ireturn, 1) := by decide +kernel
theorem dX1_reckon_98 : decode cX1_reckon 98 = .ok (.aload_n 0, 1) := by decide +kernel
theorem dX1_reckon_99 : decode cX1_reckon 99 = .ok (.aload_n 0, 1) := by decide +kernel
theorem dX1_reckon_100 : decode cX1_reckon 100 = .ok (.iload_n 1, 1) := by decide +kernel
theorem dX1_reckon_101 : decode cX1_reckon 101 = .ok (.invokevirtual 51, 3) := by decide +kernel
theorem dX1_reckon_104 : decode cX1_reckon 104 = .ok (.aload_n 0, 1) := by decide +kernel
theorem dX1_reckon_105 : decode cX1_reckon 105 = .ok (.iload 4, 2) := by decide +kernel
theorem dX1_reckon_107 : decode cX1_reckon 107 = .ok (.invokevirtual 77, 3) := by decide +kernel
theorem dX1_reckon_110 : decode cX1_reckon 110 = .ok (.aload_n 0, 1) := by decide +kernel
theorem dX1_reckon_111 : decode cX1_reckon 111 = .ok (.iload 5, 2) := by decide +kernel
theorem dX1_reckon_113 : decode cX1_reckon 113 = .ok (.invokevirtual 77, 3) := by decide +kernel
theorem dX1_reckon_116 : decode cX1_reckon 116 = .ok (.invokevirtual 80, 3) := by decide +kernel
theorem dX1_reckon_119 : decode cX1_reckon 119 = .ok (.ireturn, 1) := by decide +kernel
theorem dX1_reckon_120 : decode cX1_reckon 120 = .ok (.aload_n 0, 1) := by decide +kernel
theorem dX1_reckon_121 : decode cX1_reckon 121 = .ok (.aload_n 0, 1) := by decide +kernel
theorem dX1_reckon_122 : decode cX1_reckon 122 = .ok (.iload 4, 2) := by decide +kernel
theorem dX1_reckon_124 : decode cX1_reckon 124 = .ok (.invokevirtual 77, 3) := by decide +kernel
theorem dX1_reckon_127 : decode cX1_reckon 127 = .ok (.iload 5, 2) := by decide +kernel
theorem dX1_reckon_129 : decode cX1_reckon 129 = .ok (.aload_n 0, 1) := by decide +kernel
theorem dX1_reckon_130 : decode cX1_reckon 130 = .ok (.iload_n 1, 1) := by decide +kernel
theorem dX1_reckon_131 : decode cX1_reckon 131 = .ok (.iconst 2, 1) := by decide +kernel
theorem dX1_reckon_132 : decode cX1_reckon 132 = .ok (.invokevirtual 54, 3) := by decide +kernel
theorem dX1_reckon_135 : decode cX1_reckon 135 = .ok (.invokevirtual 83, 3) := by decide +kernel
theorem dX1_reckon_138 : decode cX1_reckon 138 = .ok (.ireturn, 1) := by decide +kernel
theorem dX1_reckon_139 : decode cX1_reckon 139 = .ok (.aload_n 0, 1) := by decide +kernel
theorem dX1_reckon_140 : decode cX1_reckon 140 = .ok (.getfield 25, 3) := by decide +kernel
theorem dX1_reckon_143 : decode cX1_reckon 143 = .ok (.iload_n 1, 1) := by decide +kernel
theorem dX1_reckon_144 : decode cX1_reckon 144 = .ok (.iaload, 1) := by decide +kernel
theorem dX1_reckon_145 : decode cX1_reckon 145 = .ok (.ireturn, 1) := by decide +kernel
theorem dX1_reckon_146 : decode cX1_reckon 146 = .ok (.aload_n 0, 1) := by decide +kernel
theorem dX1_reckon_147 : decode cX1_reckon 147 = .ok (.aload_n 0, 1) := by decide +kernel
theorem dX1_reckon_148 : decode cX1_reckon 148 = .ok (.getfield 25, 3) := by decide +kernel
theorem dX1_reckon_151 : decode cX1_reckon 151 = .ok (.iload_n 1, 1) := by decide +kernel
theorem dX1_reckon_152 : decode cX1_reckon 152 = .ok (.iaload, 1) := by decide +kernel
theorem dX1_reckon_153 : decode cX1_reckon 153 = .ok (.ifCond .ne 8, 3) := by decide +kernel
theorem dX1_reckon_156 : decode cX1_reckon 156 = .ok (.iload 4, 2) := by decide +kernel
theorem dX1_reckon_158 : decode cX1_reckon 158 = .ok (.goto 5, 3) := by decide +kernel
theorem dX1_reckon_161 : decode cX1_reckon 161 = .ok (.iload 5, 2) := by decide +kernel
theorem dX1_reckon_163 : decode cX1_reckon 163 = .ok (.invokevirtual 77, 3) := by decide +kernel
theorem dX1_reckon_166 : decode cX1_reckon 166 = .ok (.ireturn, 1) := by decide +kernel
theorem dX1_reckon_167 : decode cX1_reckon 167 = .ok (.aload_n 0, 1) := by decide +kernel
theorem dX1_reckon_168 : decode cX1_reckon 168 = .ok (.iload 4, 2) := by decide +kernel
theorem dX1_reckon_170 : decode cX1_reckon 170 = .ok (.invokevirtual 77, 3) := by decide +kernel
theorem dX1_reckon_173 : decode cX1_reckon 173 = .ok (.ireturn, 1) := by decide +kernel
theorem dX1_combine_0 : decode cX1_combine 0 = .ok (.iload_n 2, 1) := by decide +kernel
theorem dX1_combine_1 : decode cX1_combine 1 = .ok (.bipush (-8), 2) := by decide +kernel
theorem dX1_combine_3 : decode cX1_combine 3 = .ok (.if_icmp .eq 9, 3) := by decide +kernel
theorem dX1_combine_6 : decode cX1_combine 6 = .ok (.iload_n 3, 1) := by decide +kernel
theorem dX1_combine_7 : decode cX1_combine 7 = .ok (.bipush (-8), 2) := by decide +kernel
theorem dX1_combine_9 : decode cX1_combine 9 = .ok (.if_icmp .ne 6, 3) := by decide +kernel
theorem dX1_combine_12 : decode cX1_combine 12 = .ok (.bipush (-8), 2) := by decide +kernel
theorem dX1_combine_14 : decode cX1_combine 14 = .ok (.ireturn, 1) := by decide +kernel
theorem dX1_combine_15 : decode cX1_combine 15 = .ok (.iload_n 1, 1) := by decide +kernel
theorem dX1_combine_16 : decode cX1_combine 16 = .ok (.lookupswitch 45 #[(2, 28), (3, 35)], 28) := by decide +kernel
theorem dX1_combine_44 : decode cX1_combine 44 = .ok (.iload_n 2, 1) := by decide +kernel
theorem dX1_combine_45 : decode cX1_combine 45 = .ok (.iload_n 3, 1) := by decide +kernel
theorem dX1_combine_46 : decode cX1_combine 46 = .ok (.iadd, 1) := by decide +kernel
theorem dX1_combine_47 : decode cX1_combine 47 = .ok (.bipush 100, 2) := by decide +kernel
theorem dX1_combine_49 : decode cX1_combine 49 = .ok (.irem, 1) := by decide +kernel
theorem dX1_combine_50 : decode cX1_combine 50 = .ok (.ireturn, 1) := by decide +kernel
theorem dX1_combine_51 : decode cX1_combine 51 = .ok (.iload_n 2, 1) := by decide +kernel
theorem dX1_combine_52 : decode cX1_combine 52 = .ok (.iload_n 3, 1) := by decide +kernel
theorem dX1_combine_53 : decode cX1_combine 53 = .ok (.isub, 1) := by decide +kernel
theorem dX1_combine_54 : decode cX1_combine 54 = .ok (.bipush 100, 2) := by decide +kernel
theorem dX1_combine_56 : decode cX1_combine 56 = .ok (.iadd, 1) := by decide +kernel
theorem dX1_combine_57 : decode cX1_combine 57 = .ok (.bipush 100, 2) := by decide +kernel
theorem dX1_combine_59 : decode cX1_combine 59 = .ok (.irem, 1) := by decide +kernel
theorem dX1_combine_60 : decode cX1_combine 60 = .ok (.ireturn, 1) := by decide +kernel
theorem dX1_combine_61 : decode cX1_combine 61 = .ok (.iload_n 2, 1) := by decide +kernel
theorem dX1_combine_62 : decode cX1_combine 62 = .ok (.iload_n 3, 1) := by decide +kernel
theorem dX1_combine_63 : decode cX1_combine 63 = .ok (.if_icmp .ge 7, 3) := by decide +kernel
theorem dX1_combine_66 : decode cX1_combine 66 = .ok (.iconst 1, 1) := by decide +kernel
theorem dX1_combine_67 : decode cX1_combine 67 = .ok (.goto 4, 3) := by decide +kernel
theorem dX1_combine_70 : decode cX1_combine 70 = .ok (.iconst 0, 1) := by decide +kernel
theorem dX1_combine_71 : decode cX1_combine 71 = .ok (.ireturn, 1) := by decide +kernel
theorem dX1_choose_0 : decode cX1_choose 0 = .ok (.iload_n 1, 1) := by decide +kernel
theorem dX1_choose_1 : decode cX1_choose 1 = .ok (.bipush (-8), 2) := by decide +kernel
theorem dX1_choose_3 : decode cX1_choose 3 = .ok (.if_icmp .ne 6, 3) := by decide +kernel
theorem dX1_choose_6 : decode cX1_choose 6 = .ok (.bipush (-8), 2) := by decide +kernel
theorem dX1_choose_8 : decode cX1_choose 8 = .ok (.ireturn, 1) := by decide +kernel
theorem dX1_choose_9 : decode cX1_choose 9 = .ok (.aload_n 0, 1) := by decide +kernel
theorem dX1_choose_10 : decode cX1_choose 10 = .ok (.iload_n 1, 1) := by decide +kernel
theorem dX1_choose_11 : decode cX1_choose 11 = .ok (.ifCond .eq 7, 3) := by decide +kernel
theorem dX1_choose_14 : decode cX1_choose 14 = .ok (.iload_n 2, 1) := by decide +kernel
theorem dX1_choose_15 : decode cX1_choose 15 = .ok (.goto 4, 3) := by decide +kernel
theorem dX1_choose_18 : decode cX1_choose 18 = .ok (.iload_n 3, 1) := by decide +kernel
theorem dX1_choose_19 : decode cX1_choose 19 = .ok (.invokevirtual 77, 3) := by decide +kernel
theorem dX1_choose_22 : decode cX1_choose 22 = .ok (.ireturn, 1) := by decide +kernel
theorem dX3_init_0 : decode cX3_init 0 = .ok (.aload_n 0, 1) := by decide +kernel
theorem dX3_init_1 : decode cX3_init 1 = .ok (.invokespecial 3, 3) := by decide +kernel
theorem dX3_init_4 : decode cX3_init 4 = .ok (.aload_n 0, 1) := by decide +kernel
theorem dX3_init_5 : decode cX3_init 5 = .ok (.iconst 0, 1) := by decide +kernel
theorem dX3_init_6 : decode cX3_init 6 = .ok (.putfield 9, 3) := by decide +kernel
theorem dX3_init_9 : decode cX3_init 9 = .ok (.aload_n 0, 1) := by decide +kernel
theorem dX3_init_10 : decode cX3_init 10 = .ok (.bipush 6, 2) := by decide +kernel
theorem dX3_init_12 : decode cX3_init 12 = .ok (.newarray .int, 2) := by decide +kernel
theorem dX3_init_14 : decode cX3_init 14 = .ok (.putfield 15, 3) := by decide +kernel
theorem dX3_init_17 : decode cX3_init 17 = .ok (.aload_n 0, 1) := by decide +kernel
theorem dX3_init_18 : decode cX3_init 18 = .ok (.bipush 6, 2) := by decide +kernel
theorem dX3_init_20 : decode cX3_init 20 = .ok (.newarray .int, 2) := by decide +kernel
theorem dX3_init_22 : decode cX3_init 22 = .ok (.putfield 19, 3) := by decide +kernel
theorem dX3_init_25 : decode cX3_init 25 = .ok (.aload_n 0, 1) := by decide +kernel
theorem dX3_init_26 : decode cX3_init 26 = .ok (.bipush 6, 2) := by decide +kernel
theorem dX3_init_28 : decode cX3_init 28 = .ok (.newarray .int, 2) := by decide +kernel
theorem dX3_init_30 : decode cX3_init 30 = .ok (.putfield 22, 3) := by decide +kernel
theorem dX3_init_33 : decode cX3_init 33 = .ok (.aload_n 0, 1) := by decide +kernel
theorem dX3_init_34 : decode cX3_init 34 = .ok (.bipush 6, 2) := by decide +kernel
theorem dX3_init_36 : decode cX3_init 36 = .ok (.newarray .boolean, 2) := by decide +kernel
theorem dX3_init_38 : decode cX3_init 38 = .ok (.putfield 25, 3) := by decide +kernel
theorem dX3_init_41 : decode cX3_init 41 = .ok (.return_, 1) := by decide +kernel
theorem dX3_add_0 : decode cX3_add 0 = .ok (.aload_n 0, 1) := by decide +kernel
theorem dX3_add_1 : decode cX3_add 1 = .ok (.getfield 9, 3) := by decide +kernel
theorem dX3_add_4 : decode cX3_add 4 = .ok (.ifCond .lt 12, 3) := by decide +kernel
theorem dX3_add_7 : decode cX3_add 7 = .ok (.aload_n 0, 1) := by decide +kernel
theorem dX3_add_8 : decode cX3_add 8 = .ok (.getfield 9, 3) := by decide +kernel
theorem dX3_add_11 : decode cX3_add 11 = .ok (.bipush 6, 2) := by decide +kernel
theorem dX3_add_13 : decode cX3_add 13 = .ok (.if_icmp .lt 5, 3) := by decide +kernel
theorem dX3_add_16 : decode cX3_add 16 = .ok (.iconst 0, 1) := by decide +kernel
theorem dX3_add_17 : decode cX3_add 17 = .ok (.ireturn, 1) := by decide +kernel
theorem dX3_add_18 : decode cX3_add 18 = .ok (.aload_n 0, 1) := by decide +kernel
theorem dX3_add_19 : decode cX3_add 19 = .ok (.getfield 15, 3) := by decide +kernel
theorem dX3_add_22 : decode cX3_add 22 = .ok (.aload_n 0, 1) := by decide +kernel
theorem dX3_add_23 : decode cX3_add 23 = .ok (.getfield 9, 3) := by decide +kernel
theorem dX3_add_26 : decode cX3_add 26 = .ok (.iload_n 1, 1) := by decide +kernel
theorem dX3_add_27 : decode cX3_add 27 = .ok (.iastore, 1) := by decide +kernel
theorem dX3_add_28 : decode cX3_add 28 = .ok (.aload_n 0, 1) := by decide +kernel
theorem dX3_add_29 : decode cX3_add 29 = .ok (.getfield 19, 3) := by decide +kernel
theorem dX3_add_32 : decode cX3_add 32 = .ok (.aload_n 0, 1) := by decide +kernel
theorem dX3_add_33 : decode cX3_add 33 = .ok (.getfield 9, 3) := by decide +kernel
theorem dX3_add_36 : decode cX3_add 36 = .ok (.iload_n 2, 1) := by decide +kernel
theorem dX3_add_37 : decode cX3_add 37 = .ok (.iastore, 1) := by decide +kernel
theorem dX3_add_38 : decode cX3_add 38 = .ok (.aload_n 0, 1) := by decide +kernel
theorem dX3_add_39 : decode cX3_add 39 = .ok (.getfield 22, 3) := by decide +kernel
theorem dX3_add_42 : decode cX3_add 42 = .ok (.aload_n 0, 1) := by decide +kernel
theorem dX3_add_43 : decode cX3_add 43 = .ok (.getfield 9, 3) := by decide +kernel
theorem dX3_add_46 : decode cX3_add 46 = .ok (.iload_n 3, 1) := by decide +kernel
theorem dX3_add_47 : decode cX3_add 47 = .ok (.iastore, 1) := by decide +kernel
theorem dX3_add_48 : decode cX3_add 48 = .ok (.aload_n 0, 1) := by decide +kernel
theorem dX3_add_49 : decode cX3_add 49 = .ok (.getfield 25, 3) := by decide +kernel
theorem dX3_add_52 : decode cX3_add 52 = .ok (.aload_n 0, 1) := by decide +kernel
theorem dX3_add_53 : decode cX3_add 53 = .ok (.getfield 9, 3) := by decide +kernel
theorem dX3_add_56 : decode cX3_add 56 = .ok (.iload 4, 2) := by decide +kernel
theorem dX3_add_58 : decode cX3_add 58 = .ok (.iconst 1, 1) := by decide +kernel
theorem dX3_add_59 : decode cX3_add 59 = .ok (.if_icmp .ne 7, 3) := by decide +kernel
theorem dX3_add_62 : decode cX3_add 62 = .ok (.iconst 1, 1) := by decide +kernel
theorem dX3_add_63 : decode cX3_add 63 = .ok (.goto 4, 3) := by decide +kernel
theorem dX3_add_66 : decode cX3_add 66 = .ok (.iconst 0, 1) := by decide +kernel
theorem dX3_add_67 : decode cX3_add 67 = .ok (.bastore, 1) := by decide +kernel
theorem dX3_add_68 : decode cX3_add 68 = .ok (.aload_n 0, 1) := by decide +kernel
theorem dX3_add_69 : decode cX3_add 69 = .ok (.dup, 1) := by decide +kernel
theorem dX3_add_70 : decode cX3_add 70 = .ok (.getfield 9, 3) := by decide +kernel
theorem dX3_add_73 : decode cX3_add 73 = .ok (.iconst 1, 1) := by decide +kernel
theorem dX3_add_74 : decode cX3_add 74 = .ok (.iadd, 1) := by decide +kernel
theorem dX3_add_75 : decode cX3_add 75 = .ok (.putfield 9, 3) := by decide +kernel
theorem dX3_add_78 : decode cX3_add 78 = .ok (.iconst 1, 1) := by decide +kernel
theorem dX3_add_79 : decode cX3_add 79 = .ok (.ireturn, 1) := by decide +kernel
theorem dX3_lastTick_0 : decode cX3_lastTick 0 = .ok (.iconst 0, 1) := by decide +kernel
theorem dX3_lastTick_1 : decode cX3_lastTick 1 = .ok (.istore_n 1, 1) := by decide +kernel
theorem dX3_lastTick_2 : decode cX3_lastTick 2 = .ok (.iconst 0, 1) := by decide +kernel
theorem dX3_lastTick_3 : decode cX3_lastTick 3 = .ok (.istore_n 2, 1) := by decide +kernel
theorem dX3_lastTick_4 : decode cX3_lastTick 4 = .ok (.iload_n 2, 1) := by decide +kernel
theorem dX3_lastTick_5 : decode cX3_lastTick 5 = .ok (.aload_n 0, 1) := by decide +kernel
theorem dX3_lastTick_6 : decode cX3_lastTick 6 = .ok (.getfield 9, 3) := by decide +kernel
theorem dX3_lastTick_9 : decode cX3_lastTick 9 = .ok (.if_icmp .ge 26, 3) := by decide +kernel
theorem dX3_lastTick_12 : decode cX3_lastTick 12 = .ok (.iload_n 2, 1) := by decide +kernel
theorem dX3_lastTick_13 : decode cX3_lastTick 13 = .ok (.bipush 6, 2) := by decide +kernel
theorem dX3_lastTick_15 : decode cX3_lastTick 15 = .ok (.if_icmp .ge 20, 3) := by decide +kernel
theorem dX3_lastTick_18 : decode cX3_lastTick 18 = .ok (.iload_n 1, 1) := by decide +kernel
theorem dX3_lastTick_19 : decode cX3_lastTick 19 = .ok (.aload_n 0, 1) := by decide +kernel
theorem dX3_lastTick_20 : decode cX3_lastTick 20 = .ok (.getfield 15, 3) := by decide +kernel
theorem dX3_lastTick_23 : decode cX3_lastTick 23 = .ok (.iload_n 2, 1) := by decide +kernel
theorem dX3_lastTick_24 : decode cX3_lastTick 24 = .ok (.iaload, 1) := by decide +kernel
theorem dX3_lastTick_25 : decode cX3_lastTick 25 = .ok (.invokestatic 29, 3) := by decide +kernel
theorem dX3_lastTick_28 : decode cX3_lastTick 28 = .ok (.istore_n 1, 1) := by decide +kernel
theorem dX3_lastTick_29 : decode cX3_lastTick 29 = .ok (.iinc 2 1, 3) := by decide +kernel
theorem dX3_lastTick_32 : decode cX3_lastTick 32 = .ok (.goto (-28), 3) := by decide +kernel
theorem dX3_lastTick_35 : decode cX3_lastTick 35 = .ok (.iload_n 1, 1) := by decide +kernel
theorem dX3_lastTick_36 : decode cX3_lastTick 36 = .ok (.ireturn, 1) := by decide +kernel
theorem dX3_fit_0 : decode cX3_fit 0 = .ok (.iconst 0, 1) := by decide +kernel
theorem dX3_fit_1 : decode cX3_fit 1 = .ok (.istore_n 3, 1) := by decide +kernel
theorem dX3_fit_2 : decode cX3_fit 2 = .ok (.iload_n 3, 1) := by decide +kernel
theorem dX3_fit_3 : decode cX3_fit 3 = .ok (.aload_n 0, 1) := by decide +kernel
theorem dX3_fit_4 : decode cX3_fit 4 = .ok (.getfield 9, 3) := by decide +kernel
theorem dX3_fit_7 : decode cX3_fit 7 = .ok (.if_icmp .ge 60, 3) := by decide +kernel
theorem dX3_fit_10 : decode cX3_fit 10 = .ok (.iload_n 3, 1) := by decide +kernel
theorem dX3_fit_11 : decode cX3_fit 11 = .ok (.bipush 6, 2) := by decide +kernel
theorem dX3_fit_13 : decode cX3_fit 13 = .ok (.if_icmp .ge 54, 3) := by decide +kernel
theorem dX3_fit_16 : decode cX3_fit 16 = .ok (.aload_n 0, 1) := by decide +kernel
theorem dX3_fit_17 : decode cX3_fit 17 = .ok (.getfield 15, 3) := by decide +kernel
theorem dX3_fit_20 : decode cX3_fit 20 = .ok (.iload_n 3, 1) := by decide +kernel
theorem dX3_fit_21 : decode cX3_fit 21 = .ok (.iaload, 1) := by decide +kernel
theorem dX3_fit_22 : decode cX3_fit 22 = .ok (.iload_n 1, 1) := by decide +kernel
theorem dX3_fit_23 : decode cX3_fit 23 = .ok (.if_icmp .ne 38, 3) := by decide +kernel
theorem dX3_fit_26 : decode cX3_fit 26 = .ok (.aload_n 2, 1) := by decide +kernel
theorem dX3_fit_27 : decode cX3_fit 27 = .ok (.aload_n 0, 1) := by decide +kernel
theorem dX3_fit_28 : decode cX3_fit 28 = .ok (.getfield 19, 3) := by decide +kernel
theorem dX3_fit_31 : decode cX3_fit 31 = .ok (.iload_n 3, 1) := by decide +kernel
theorem dX3_fit_32 : decode cX3_fit 32 = .ok (.iaload, 1) := by decide +kernel
theorem dX3_fit_33 : decode cX3_fit 33 = .ok (.invokevirtual 35, 3) := by decide +kernel
theorem dX3_fit_36 : decode cX3_fit 36 = .ok (.aload_n 0, 1) := by decide +kernel
theorem dX3_fit_37 : decode cX3_fit 37 = .ok (.getfield 22, 3) := by decide +kernel
theorem dX3_fit_40 : decode cX3_fit 40 = .ok (.iload_n 3, 1) := by decide +kernel
theorem dX3_fit_41 : decode cX3_fit 41 = .ok (.iaload, 1) := by decide +kernel
theorem dX3_fit_42 : decode cX3_fit 42 = .ok (.if_icmp .ne 7, 3) := by decide +kernel
theorem dX3_fit_45 : decode cX3_fit 45 = .ok (.iconst 1, 1) := by decide +kernel
theorem dX3_fit_46 : decode cX3_fit 46 = .ok (.goto 4, 3) := by decide +kernel
theorem dX3_fit_49 : decode cX3_fit 49 = .ok (.iconst 0, 1) := by decide +kernel
theorem dX3_fit_50 : decode cX3_fit 50 = .ok (.aload_n 0, 1) := by decide +kernel
theorem dX3_fit_51 : decode cX3_fit 51 = .ok (.getfield 25, 3) := by decide +kernel
theorem dX3_fit_54 : decode cX3_fit 54 = .ok (.iload_n 3, 1) := by decide +kernel
theorem dX3_fit_55 : decode cX3_fit 55 = .ok (.baload, 1) := by decide +kernel
theorem dX3_fit_56 : decode cX3_fit 56 = .ok (.if_icmp .eq 5, 3) := by decide +kernel
theorem dX3_fit_59 : decode cX3_fit 59 = .ok (.iconst 0, 1) := by decide +kernel
theorem dX3_fit_60 : decode cX3_fit 60 = .ok (.ireturn, 1) := by decide +kernel
theorem dX3_fit_61 : decode cX3_fit 61 = .ok (.iinc 3 1, 3) := by decide +kernel
theorem dX3_fit_64 : decode cX3_fit 64 = .ok (.goto (-62), 3) := by decide +kernel
theorem dX3_fit_67 : decode cX3_fit 67 = .ok (.iconst 1, 1) := by decide +kernel
theorem dX3_fit_68 : decode cX3_fit 68 = .ok (.ireturn, 1) := by decide +kernel
theorem dX4_init_0 : decode cX4_init 0 = .ok (.aload_n 0, 1) := by decide +kernel
theorem dX4_init_1 : decode cX4_init 1 = .ok (.invokespecial 3, 3) := by decide +kernel
theorem dX4_init_4 : decode cX4_init 4 = .ok (.aload_n 0, 1) := by decide +kernel
theorem dX4_init_5 : decode cX4_init 5 = .ok (.bipush 40, 2) := by decide +kernel
theorem dX4_init_7 : decode cX4_init 7 = .ok (.newarray .int, 2) := by decide +kernel
theorem dX4_init_9 : decode cX4_init 9 = .ok (.putfield 9, 3) := by decide +kernel
theorem dX4_init_12 : decode cX4_init 12 = .ok (.aload_n 0, 1) := by decide +kernel
theorem dX4_init_13 : decode cX4_init 13 = .ok (.iconst 0, 1) := by decide +kernel
theorem dX4_init_14 : decode cX4_init 14 = .ok (.putfield 15, 3) := by decide +kernel
theorem dX4_init_17 : decode cX4_init 17 = .ok (.return_, 1) := by decide +kernel
theorem dX4_append_0 : decode cX4_append 0 = .ok (.aload_n 0, 1) := by decide +kernel
theorem dX4_append_1 : decode cX4_append 1 = .ok (.getfield 15, 3) := by decide +kernel
theorem dX4_append_4 : decode cX4_append 4 = .ok (.ifCond .lt 12, 3) := by decide +kernel
theorem dX4_append_7 : decode cX4_append 7 = .ok (.aload_n 0, 1) := by decide +kernel
theorem dX4_append_8 : decode cX4_append 8 = .ok (.getfield 15, 3) := by decide +kernel
theorem dX4_append_11 : decode cX4_append 11 = .ok (.bipush 40, 2) := by decide +kernel
theorem dX4_append_13 : decode cX4_append 13 = .ok (.if_icmp .lt 5, 3) := by decide +kernel
theorem dX4_append_16 : decode cX4_append 16 = .ok (.iconst 0, 1) := by decide +kernel
theorem dX4_append_17 : decode cX4_append 17 = .ok (.ireturn, 1) := by decide +kernel
theorem dX4_append_18 : decode cX4_append 18 = .ok (.aload_n 0, 1) := by decide +kernel
theorem dX4_append_19 : decode cX4_append 19 = .ok (.getfield 9, 3) := by decide +kernel
theorem dX4_append_22 : decode cX4_append 22 = .ok (.aload_n 0, 1) := by decide +kernel
theorem dX4_append_23 : decode cX4_append 23 = .ok (.getfield 15, 3) := by decide +kernel
theorem dX4_append_26 : decode cX4_append 26 = .ok (.iload_n 1, 1) := by decide +kernel
theorem dX4_append_27 : decode cX4_append 27 = .ok (.iastore, 1) := by decide +kernel
theorem dX4_append_28 : decode cX4_append 28 = .ok (.aload_n 0, 1) := by decide +kernel
theorem dX4_append_29 : decode cX4_append 29 = .ok (.dup, 1) := by decide +kernel
theorem dX4_append_30 : decode cX4_append 30 = .ok (.getfield 15, 3) := by decide +kernel
theorem dX4_append_33 : decode cX4_append 33 = .ok (.iconst 1, 1) := by decide +kernel
theorem dX4_append_34 : decode cX4_append 34 = .ok (.iadd, 1) := by decide +kernel
theorem dX4_append_35 : decode cX4_append 35 = .ok (.putfield 15, 3) := by decide +kernel
theorem dX4_append_38 : decode cX4_append 38 = .ok (.iconst 1, 1) := by decide +kernel
theorem dX4_append_39 : decode cX4_append 39 = .ok (.ireturn, 1) := by decide +kernel
theorem dX4_readInto_0 : decode cX4_readInto 0 = .ok (.aload_n 0, 1) := by decide +kernel
theorem dX4_readInto_1 : decode cX4_readInto 1 = .ok (.getfield 15, 3) := by decide +kernel
theorem dX4_readInto_4 : decode cX4_readInto 4 = .ok (.iconst 1, 1) := by decide +kernel
theorem dX4_readInto_5 : decode cX4_readInto 5 = .ok (.if_icmp .lt 13, 3) := by decide +kernel
theorem dX4_readInto_8 : decode cX4_readInto 8 = .ok (.aload_n 0, 1) := by decide +kernel
theorem dX4_readInto_9 : decode cX4_readInto 9 = .ok (.iconst 0, 1) := by decide +kernel
theorem dX4_readInto_10 : decode cX4_readInto 10 = .ok (.invokevirtual 19, 3) := by decide +kernel
theorem dX4_readInto_13 : decode cX4_readInto 13 = .ok (.bipush 83, 2) := by decide +kernel
theorem dX4_readInto_15 : decode cX4_readInto 15 = .ok (.if_icmp .eq 5, 3) := by decide +kernel
theorem dX4_readInto_18 : decode cX4_readInto 18 = .ok (.iconst 0, 1) := by decide +kernel
theorem dX4_readInto_19 : decode cX4_readInto 19 = .ok (.ireturn, 1) := by decide +kernel
theorem dX4_readInto_20 : decode cX4_readInto 20 = .ok (.aload_n 0, 1) := by decide +kernel
theorem dX4_readInto_21 : decode cX4_readInto 21 = .ok (.getfield 15, 3) := by decide +kernel
theorem dX4_readInto_24 : decode cX4_readInto 24 = .ok (.iconst 2, 1) := by decide +kernel
theorem dX4_readInto_25 : decode cX4_readInto 25 = .ok (.if_icmp .lt 23, 3) := by decide +kernel
theorem dX4_readInto_28 : decode cX4_readInto 28 = .ok (.aload_n 0, 1) := by decide +kernel
theorem dX4_readInto_29 : decode cX4_readInto 29 = .ok (.iconst 1, 1) := by decide +kernel
theorem dX4_readInto_30 : decode cX4_readInto 30 = .ok (.invokevirtual 19, 3) := by decide +kernel
theorem dX4_readInto_33 : decode cX4_readInto 33 = .ok (.bipush 49, 2) := by decide +kernel
theorem dX4_readInto_35 : decode cX4_readInto 35 = .ok (.if_icmp .lt 13, 3) := by decide +kernel
theorem dX4_readInto_38 : decode cX4_readInto 38 = .ok (.aload_n 0, 1) := by decide +kernel
theorem dX4_readInto_39 : decode cX4_readInto 39 = .ok (.iconst 1, 1) := by decide +kernel
theorem dX4_readInto_40 : decode cX4_readInto 40 = .ok (.invokevirtual 19, 3) := by decide +kernel
theorem dX4_readInto_43 : decode cX4_readInto 43 = .ok (.bipush 56, 2) := by decide +kernel
theorem dX4_readInto_45 : decode cX4_readInto 45 = .ok (.if_icmp .le 5, 3) := by decide +kernel
theorem dX4_readInto_48 : decode cX4_readInto 48 = .ok (.iconst 1, 1) := by decide +kernel
theorem dX4_readInto_49 : decode cX4_readInto 49 = .ok (.ireturn, 1) := by decide +kernel
theorem dX4_readInto_50 : decode cX4_readInto 50 = .ok (.aload_n 1, 1) := by decide +kernel
theorem dX4_readInto_51 : decode cX4_readInto 51 = .ok (.aload_n 0, 1) := by decide +kernel
theorem dX4_readInto_52 : decode cX4_readInto 52 = .ok (.iconst 1, 1) := by decide +kernel
theorem dX4_readInto_53 : decode cX4_readInto 53 = .ok (.invokevirtual 19, 3) := by decide +kernel
theorem dX4_readInto_56 : decode cX4_readInto 56 = .ok (.bipush 48, 2) := by decide +kernel
theorem dX4_readInto_58 : decode cX4_readInto 58 = .ok (.isub, 1) := by decide +kernel
theorem dX4_readInto_59 : decode cX4_readInto 59 = .ok (.putfield 23, 3) := by decide +kernel
theorem dX4_readInto_62 : decode cX4_readInto 62 = .ok (.iconst 2, 1) := by decide +kernel
theorem dX4_readInto_63 : decode cX4_readInto 63 = .ok (.istore_n 2, 1) := by decide +kernel
theorem dX4_readInto_64 : decode cX4_readInto 64 = .ok (.iconst 0, 1) := by decide +kernel
theorem dX4_readInto_65 : decode cX4_readInto 65 = .ok (.istore_n 3, 1) := by decide +kernel
theorem dX4_readInto_66 : decode cX4_readInto 66 = .ok (.iload_n 3, 1) := by decide +kernel
theorem dX4_readInto_67 : decode cX4_readInto 67 = .ok (.aload_n 1, 1) := by decide +kernel
theorem dX4_readInto_68 : decode cX4_readInto 68 = .ok (.getfield 23, 3) := by decide +kernel
theorem dX4_readInto_71 : decode cX4_readInto 71 = .ok (.if_icmp .ge 41, 3) := by decide +kernel
theorem dX4_readInto_74 : decode cX4_readInto 74 = .ok (.aload_n 0, 1) := by decide +kernel
theorem dX4_readInto_75 : decode cX4_readInto 75 = .ok (.aload_n 1, 1) := by decide +kernel
theorem dX4_readInto_76 : decode cX4_readInto 76 = .ok (.iload_n 3, 1) := by decide +kernel
theorem dX4_readInto_77 : decode cX4_readInto 77 = .ok (.iload_n 2, 1) := by decide +kernel
theorem dX4_readInto_78 : decode cX4_readInto 78 = .ok (.invokevirtual 28, 3) := by decide +kernel
theorem dX4_readInto_81 : decode cX4_readInto 81 = .ok (.istore 4, 2) := by decide +kernel
theorem dX4_readInto_83 : decode cX4_readInto 83 = .ok (.iload 4, 2) := by decide +kernel
theorem dX4_readInto_85 : decode cX4_readInto 85 = .ok (.bipush (-9), 2) := by decide +kernel
theorem dX4_readInto_87 : decode cX4_readInto 87 = .ok (.if_icmp .eq 6, 3) := by decide +kernel
theorem dX4_readInto_90 : decode cX4_readInto 90 = .ok (.iload 4, 2) := by decide +kernel
theorem dX4_readInto_92 : decode cX4_readInto 92 = .ok (.ireturn, 1) := by decide +kernel
theorem dX4_readInto_93 : decode cX4_readInto 93 = .ok (.iload_n 2, 1) := by decide +kernel
theorem dX4_readInto_94 : decode cX4_readInto 94 = .ok (.iconst 1, 1) := by decide +kernel
theorem dX4_readInto_95 : decode cX4_readInto 95 = .ok (.aload_n 1, 1) := by decide +kernel
theorem dX4_readInto_96 : decode cX4_readInto 96 = .ok (.iload_n 3, 1) := by decide +kernel
theorem dX4_readInto_97 : decode cX4_readInto 97 = .ok (.invokevirtual 32, 3) := by decide +kernel
theorem dX4_readInto_100 : decode cX4_readInto 100 = .ok (.invokestatic 35, 3) := by decide +kernel
theorem dX4_readInto_103 : decode cX4_readInto 103 = .ok (.iadd, 1) := by decide +kernel
theorem dX4_readInto_104 : decode cX4_readInto 104 = .ok (.iadd, 1) := by decide +kernel
theorem dX4_readInto_105 : decode cX4_readInto 105 = .ok (.istore_n 2, 1) := by decide +kernel
theorem dX4_readInto_106 : decode cX4_readInto 106 = .ok (.iinc 3 1, 3) := by decide +kernel
theorem dX4_readInto_109 : decode cX4_readInto 109 = .ok (.goto (-43), 3) := by decide +kernel
theorem dX4_readInto_112 : decode cX4_readInto 112 = .ok (.iload_n 2, 1) := by decide +kernel
theorem dX4_readInto_113 : decode cX4_readInto 113 = .ok (.aload_n 0, 1) := by decide +kernel
theorem dX4_readInto_114 : decode cX4_readInto 114 = .ok (.getfield 15, 3) := by decide +kernel
theorem dX4_readInto_117 : decode cX4_readInto 117 = .ok (.if_icmp .ge 7, 3) := by decide +kernel
theorem dX4_readInto_120 : decode cX4_readInto 120 = .ok (.iload_n 2, 1) := by decide +kernel
theorem dX4_readInto_121 : decode cX4_readInto 121 = .ok (.goto 5, 3) := by decide +kernel
theorem dX4_readInto_124 : decode cX4_readInto 124 = .ok (.bipush (-9), 2) := by decide +kernel
theorem dX4_readInto_126 : decode cX4_readInto 126 = .ok (.ireturn, 1) := by decide +kernel
theorem dX4_readEquation_0 : decode cX4_readEquation 0 = .ok (.iload_n 3, 1) := by decide +kernel
theorem dX4_readEquation_1 : decode cX4_readEquation 1 = .ok (.aload_n 0, 1) := by decide +kernel
theorem dX4_readEquation_2 : decode cX4_readEquation 2 = .ok (.getfield 15, 3) := by decide +kernel
theorem dX4_readEquation_5 : decode cX4_readEquation 5 = .ok (.if_icmp .lt 8, 3) := by decide +kernel
theorem dX4_readEquation_8 : decode cX4_readEquation 8 = .ok (.aload_n 0, 1) := by decide +kernel
theorem dX4_readEquation_9 : decode cX4_readEquation 9 = .ok (.getfield 15, 3) := by decide +kernel
theorem dX4_readEquation_12 : decode cX4_readEquation 12 = .ok (.ireturn, 1) := by decide +kernel
theorem dX4_readEquation_13 : decode cX4_readEquation 13 = .ok (.ldc 38, 2) := by decide +kernel
theorem dX4_readEquation_15 : decode cX4_readEquation 15 = .ok (.aload_n 0, 1) := by decide +kernel
theorem dX4_readEquation_16 : decode cX4_readEquation 16 = .ok (.iload_n 3, 1) := by decide +kernel
theorem dX4_readEquation_17 : decode cX4_readEquation 17 = .ok (.invokevirtual 19, 3) := by decide +kernel
theorem dX4_readEquation_20 : decode cX4_readEquation 20 = .ok (.i2c, 1) := by decide +kernel
theorem dX4_readEquation_21 : decode cX4_readEquation 21 = .ok (.invokevirtual 40, 3) := by decide +kernel
theorem dX4_readEquation_24 : decode cX4_readEquation 24 = .ok (.istore 4, 2) := by decide +kernel
theorem dX4_readEquation_26 : decode cX4_readEquation 26 = .ok (.iload 4, 2) := by decide +kernel
theorem dX4_readEquation_28 : decode cX4_readEquation 28 = .ok (.ifCond .ge 5, 3) := by decide +kernel
theorem dX4_readEquation_31 : decode cX4_readEquation 31 = .ok (.iload_n 3, 1) := by decide +kernel
theorem dX4_readEquation_32 : decode cX4_readEquation 32 = .ok (.ireturn, 1) := by decide +kernel
theorem dX4_readEquation_33 : decode cX4_readEquation 33 = .ok (.aload_n 1, 1) := by decide +kernel
theorem dX4_readEquation_34 : decode cX4_readEquation 34 = .ok (.iload_n 2, 1) := by decide +kernel
theorem dX4_readEquation_35 : decode cX4_readEquation 35 = .ok (.iload 4, 2) := by decide +kernel
theorem dX4_readEquation_37 : decode cX4_readEquation 37 = .ok (.iconst 0, 1) := by decide +kernel
theorem dX4_readEquation_38 : decode cX4_readEquation 38 = .ok (.iconst 0, 1) := by decide +kernel
theorem dX4_readEquation_39 : decode cX4_readEquation 39 = .ok (.iconst 0, 1) := by decide +kernel
theorem dX4_readEquation_40 : decode cX4_readEquation 40 = .ok (.invokevirtual 45, 3) := by decide +kernel
theorem dX4_readEquation_43 : decode cX4_readEquation 43 = .ok (.iconst 0, 1) := by decide +kernel
theorem dX4_readEquation_44 : decode cX4_readEquation 44 = .ok (.istore 5, 2) := by decide +kernel
theorem dX4_readEquation_46 : decode cX4_readEquation 46 = .ok (.iload 5, 2) := by decide +kernel
theorem dX4_readEquation_48 : decode cX4_readEquation 48 = .ok (.iload 4, 2) := by decide +kernel
theorem dX4_readEquation_50 : decode cX4_readEquation 50 = .ok (.invokestatic 35, 3) := by decide +kernel
theorem dX4_readEquation_53 : decode cX4_readEquation 53 = .ok (.if_icmp .ge 70, 3) := by decide +kernel
theorem dX4_readEquation_56 : decode cX4_readEquation 56 = .ok (.iload_n 3, 1) := by decide +kernel
theorem dX4_readEquation_57 : decode cX4_readEquation 57 = .ok (.iconst 1, 1) := by decide +kernel
theorem dX4_readEquation_58 : decode cX4_readEquation 58 = .ok (.iadd, 1) := by decide +kernel
theorem dX4_readEquation_59 : decode cX4_readEquation 59 = .ok (.iload 5, 2) := by decide +kernel
theorem dX4_readEquation_61 : decode cX4_readEquation 61 = .ok (.iadd, 1) := by decide +kernel
theorem dX4_readEquation_62 : decode cX4_readEquation 62 = .ok (.istore 6, 2) := by decide +kernel
theorem dX4_readEquation_64 : decode cX4_readEquation 64 = .ok (.iload 6, 2) := by decide +kernel
theorem dX4_readEquation_66 : decode cX4_readEquation 66 = .ok (.aload_n 0, 1) := by decide +kernel
theorem dX4_readEquation_67 : decode cX4_readEquation 67 = .ok (.getfield 15, 3) := by decide +kernel
theorem dX4_readEquation_70 : decode cX4_readEquation 70 = .ok (.if_icmp .lt 8, 3) := by decide +kernel
theorem dX4_readEquation_73 : decode cX4_readEquation 73 = .ok (.aload_n 0, 1) := by decide +kernel
theorem dX4_readEquation_74 : decode cX4_readEquation 74 = .ok (.getfield 15, 3) := by decide +kernel
theorem dX4_readEquation_77 : decode cX4_readEquation 77 = .ok (.ireturn, 1) := by decide +kernel
theorem dX4_readEquation_78 : decode cX4_readEquation 78 = .ok (.aload_n 0, 1) := by decide +kernel
theorem dX4_readEquation_79 : decode cX4_readEquation 79 = .ok (.iload 6, 2) := by decide +kernel
theorem dX4_readEquation_81 : decode cX4_readEquation 81 = .ok (.invokevirtual 19, 3) := by decide +kernel
theorem dX4_readEquation_84 : decode cX4_readEquation 84 = .ok (.bipush 48, 2) := by decide +kernel
theorem dX4_readEquation_86 : decode cX4_readEquation 86 = .ok (.isub, 1) := by decide +kernel
theorem dX4_readEquation_87 : decode cX4_readEquation 87 = .ok (.istore 7, 2) := by decide +kernel
theorem dX4_readEquation_89 : decode cX4_readEquation 89 = .ok (.iload 4, 2) := by decide +kernel
theorem dX4_readEquation_91 : decode cX4_readEquation 91 = .ok (.iload 5, 2) := by decide +kernel
theorem dX4_readEquation_93 : decode cX4_readEquation 93 = .ok (.iload 7, 2) := by decide +kernel
theorem dX4_readEquation_95 : decode cX4_readEquation 95 = .ok (.aload_n 1, 1) := by decide +kernel
theorem dX4_readEquation_96 : decode cX4_readEquation 96 = .ok (.getfield 23, 3) := by decide +kernel
theorem dX4_readEquation_99 : decode cX4_readEquation 99 = .ok (.invokestatic 49, 3) := by decide +kernel
theorem dX4_readEquation_102 : decode cX4_readEquation 102 = .ok (.ifCond .ne 6, 3) := by decide +kernel
theorem dX4_readEquation_105 : decode cX4_readEquation 105 = .ok (.iload 6, 2) := by decide +kernel
theorem dX4_readEquation_107 : decode cX4_readEquation 107 = .ok (.ireturn, 1) := by decide +kernel
theorem dX4_readEquation_108 : decode cX4_readEquation 108 = .ok (.aload_n 1, 1) := by decide +kernel
theorem dX4_readEquation_109 : decode cX4_readEquation 109 = .ok (.iload_n 2, 1) := by decide +kernel
theorem dX4_readEquation_110 : decode cX4_readEquation 110 = .ok (.iload 5, 2) := by decide +kernel
theorem dX4_readEquation_112 : decode cX4_readEquation 112 = .ok (.iload 7, 2) := by decide +kernel
theorem dX4_readEquation_114 : decode cX4_readEquation 114 = .ok (.invokevirtual 53, 3) := by decide +kernel
theorem dX4_readEquation_117 : decode cX4_readEquation 117 = .ok (.iinc 5 1, 3) := by decide +kernel
theorem dX4_readEquation_120 : decode cX4_readEquation 120 = .ok (.goto (-74), 3) := by decide +kernel
theorem dX4_readEquation_123 : decode cX4_readEquation 123 = .ok (.bipush (-9), 2) := by decide +kernel
theorem dX4_readEquation_125 : decode cX4_readEquation 125 = .ok (.ireturn, 1) := by decide +kernel
theorem dX4_letterAt_0 : decode cX4_letterAt 0 = .ok (.iload_n 1, 1) := by decide +kernel
theorem dX4_letterAt_1 : decode cX4_letterAt 1 = .ok (.ifCond .lt 9, 3) := by decide +kernel
theorem dX4_letterAt_4 : decode cX4_letterAt 4 = .ok (.iload_n 1, 1) := by decide +kernel
theorem dX4_letterAt_5 : decode cX4_letterAt 5 = .ok (.bipush 40, 2) := by decide +kernel
theorem dX4_letterAt_7 : decode cX4_letterAt 7 = .ok (.if_icmp .lt 7, 3) := by decide +kernel
theorem dX4_letterAt_10 : decode cX4_letterAt 10 = .ok (.iconst 0, 1) := by decide +kernel
theorem dX4_letterAt_11 : decode cX4_letterAt 11 = .ok (.goto 9, 3) := by decide +kernel
theorem dX4_letterAt_14 : decode cX4_letterAt 14 = .ok (.aload_n 0, 1) := by decide +kernel
theorem dX4_letterAt_15 : decode cX4_letterAt 15 = .ok (.getfield 9, 3) := by decide +kernel
theorem dX4_letterAt_18 : decode cX4_letterAt 18 = .ok (.iload_n 1, 1) := by decide +kernel
theorem dX4_letterAt_19 : decode cX4_letterAt 19 = .ok (.iaload, 1) := by decide +kernel
theorem dX4_letterAt_20 : decode cX4_letterAt 20 = .ok (.ireturn, 1) := by decide +kernel
theorem dX2_init_0 : decode cX2_init 0 = .ok (.aload_n 0, 1) := by decide +kernel
theorem dX2_init_1 : decode cX2_init 1 = .ok (.invokespecial 3, 3) := by decide +kernel
theorem dX2_init_4 : decode cX2_init 4 = .ok (.aload_n 0, 1) := by decide +kernel
theorem dX2_init_5 : decode cX2_init 5 = .ok (.bipush (-9), 2) := by decide +kernel
theorem dX2_init_7 : decode cX2_init 7 = .ok (.putfield 9, 3) := by decide +kernel
theorem dX2_init_10 : decode cX2_init 10 = .ok (.aload_n 0, 1) := by decide +kernel
theorem dX2_init_11 : decode cX2_init 11 = .ok (.iconst 0, 1) := by decide +kernel
theorem dX2_init_12 : decode cX2_init 12 = .ok (.putfield 15, 3) := by decide +kernel
theorem dX2_init_15 : decode cX2_init 15 = .ok (.aload_n 0, 1) := by decide +kernel
theorem dX2_init_16 : decode cX2_init 16 = .ok (.bipush (-9), 2) := by decide +kernel
theorem dX2_init_18 : decode cX2_init 18 = .ok (.putfield 18, 3) := by decide +kernel
theorem dX2_init_21 : decode cX2_init 21 = .ok (.aload_n 0, 1) := by decide +kernel
theorem dX2_init_22 : decode cX2_init 22 = .ok (.iconst 0, 1) := by decide +kernel
theorem dX2_init_23 : decode cX2_init 23 = .ok (.putfield 21, 3) := by decide +kernel
theorem dX2_init_26 : decode cX2_init 26 = .ok (.aload_n 0, 1) := by decide +kernel
theorem dX2_init_27 : decode cX2_init 27 = .ok (.bipush 8, 2) := by decide +kernel
theorem dX2_init_29 : decode cX2_init 29 = .ok (.newarray .int, 2) := by decide +kernel
theorem dX2_init_31 : decode cX2_init 31 = .ok (.putfield 24, 3) := by decide +kernel
theorem dX2_init_34 : decode cX2_init 34 = .ok (.aload_n 0, 1) := by decide +kernel
theorem dX2_init_35 : decode cX2_init 35 = .ok (.bipush 8, 2) := by decide +kernel
theorem dX2_init_37 : decode cX2_init 37 = .ok (.newarray .int, 2) := by decide +kernel
theorem dX2_init_39 : decode cX2_init 39 = .ok (.putfield 28, 3) := by decide +kernel
theorem dX2_init_42 : decode cX2_init 42 = .ok (.aload_n 0, 1) := by decide +kernel
theorem dX2_init_43 : decode cX2_init 43 = .ok (.bipush 8, 2) := by decide +kernel
theorem dX2_init_45 : decode cX2_init 45 = .ok (.newarray .int, 2) := by decide +kernel
theorem dX2_init_47 : decode cX2_init 47 = .ok (.putfield 31, 3) := by decide +kernel
theorem dX2_init_50 : decode cX2_init 50 = .ok (.aload_n 0, 1) := by decide +kernel
theorem dX2_init_51 : decode cX2_init 51 = .ok (.bipush 8, 2) := by decide +kernel
theorem dX2_init_53 : decode cX2_init 53 = .ok (.newarray .int, 2) := by decide +kernel
theorem dX2_init_55 : decode cX2_init 55 = .ok (.putfield 34, 3) := by decide +kernel
theorem dX2_init_58 : decode cX2_init 58 = .ok (.aload_n 0, 1) := by decide +kernel
theorem dX2_init_59 : decode cX2_init 59 = .ok (.bipush 8, 2) := by decide +kernel
theorem dX2_init_61 : decode cX2_init 61 = .ok (.newarray .int, 2) := by decide +kernel
theorem dX2_init_63 : decode cX2_init 63 = .ok (.putfield 37, 3) := by decide +kernel
theorem dX2_init_66 : decode cX2_init 66 = .ok (.aload_n 0, 1) := by decide +kernel
theorem dX2_init_67 : decode cX2_init 67 = .ok (.bipush 8, 2) := by decide +kernel
theorem dX2_init_69 : decode cX2_init 69 = .ok (.newarray .int, 2) := by decide +kernel
theorem dX2_init_71 : decode cX2_init 71 = .ok (.putfield 40, 3) := by decide +kernel
theorem dX2_init_74 : decode cX2_init 74 = .ok (.aload_n 0, 1) := by decide +kernel
theorem dX2_init_75 : decode cX2_init 75 = .ok (.bipush 8, 2) := by decide +kernel
theorem dX2_init_77 : decode cX2_init 77 = .ok (.newarray .int, 2) := by decide +kernel
theorem dX2_init_79 : decode cX2_init 79 = .ok (.putfield 43, 3) := by decide +kernel
theorem dX2_init_82 : decode cX2_init 82 = .ok (.return_, 1) := by decide +kernel
theorem dX2_isSound_0 : decode cX2_isSound 0 = .ok (.aload_n 0, 1) := by decide +kernel
theorem dX2_isSound_1 : decode cX2_isSound 1 = .ok (.getfield 9, 3) := by decide +kernel
theorem dX2_isSound_4 : decode cX2_isSound 4 = .ok (.bipush (-9), 2) := by decide +kernel
theorem dX2_isSound_6 : decode cX2_isSound 6 = .ok (.if_icmp .ne 23, 3) := by decide +kernel
theorem dX2_isSound_9 : decode cX2_isSound 9 = .ok (.aload_n 0, 1) := by decide +kernel
theorem dX2_isSound_10 : decode cX2_isSound 10 = .ok (.getfield 15, 3) := by decide +kernel
theorem dX2_isSound_13 : decode cX2_isSound 13 = .ok (.ifCond .ne 16, 3) := by decide +kernel
theorem dX2_isSound_16 : decode cX2_isSound 16 = .ok (.aload_n 0, 1) := by decide +kernel
theorem dX2_isSound_17 : decode cX2_isSound 17 = .ok (.getfield 18, 3) := by decide +kernel
theorem dX2_isSound_20 : decode cX2_isSound 20 = .ok (.bipush (-9), 2) := by decide +kernel
theorem dX2_isSound_22 : decode cX2_isSound 22 = .ok (.if_icmp .ne 7, 3) := by decide +kernel
theorem dX2_isSound_25 : decode cX2_isSound 25 = .ok (.iconst 1, 1) := by decide +kernel
theorem dX2_isSound_26 : decode cX2_isSound 26 = .ok (.goto 4, 3) := by decide +kernel
theorem dX2_isSound_29 : decode cX2_isSound 29 = .ok (.iconst 0, 1) := by decide +kernel
theorem dX2_isSound_30 : decode cX2_isSound 30 = .ok (.ireturn, 1) := by decide +kernel
theorem dX2_study_0 : decode cX2_study 0 = .ok (.aload_n 0, 1) := by decide +kernel
theorem dX2_study_1 : decode cX2_study 1 = .ok (.aload_n 1, 1) := by decide +kernel
theorem dX2_study_2 : decode cX2_study 2 = .ok (.getfield 46, 3) := by decide +kernel
theorem dX2_study_5 : decode cX2_study 5 = .ok (.bipush 8, 2) := by decide +kernel
theorem dX2_study_7 : decode cX2_study 7 = .ok (.invokestatic 49, 3) := by decide +kernel
theorem dX2_study_10 : decode cX2_study 10 = .ok (.putfield 21, 3) := by decide +kernel
theorem dX2_study_13 : decode cX2_study 13 = .ok (.aload_n 0, 1) := by decide +kernel
theorem dX2_study_14 : decode cX2_study 14 = .ok (.aload_n 0, 1) := by decide +kernel
theorem dX2_study_15 : decode cX2_study 15 = .ok (.aload_n 1, 1) := by decide +kernel
theorem dX2_study_16 : decode cX2_study 16 = .ok (.invokevirtual 55, 3) := by decide +kernel
theorem dX2_study_19 : decode cX2_study 19 = .ok (.putfield 9, 3) := by decide +kernel
theorem dX2_study_22 : decode cX2_study 22 = .ok (.aload_n 0, 1) := by decide +kernel
theorem dX2_study_23 : decode cX2_study 23 = .ok (.iconst 0, 1) := by decide +kernel
theorem dX2_study_24 : decode cX2_study 24 = .ok (.putfield 15, 3) := by decide +kernel
theorem dX2_study_27 : decode cX2_study 27 = .ok (.aload_n 0, 1) := by decide +kernel
theorem dX2_study_28 : decode cX2_study 28 = .ok (.bipush (-9), 2) := by decide +kernel
theorem dX2_study_30 : decode cX2_study 30 = .ok (.putfield 18, 3) := by decide +kernel
theorem dX2_study_33 : decode cX2_study 33 = .ok (.aload_n 0, 1) := by decide +kernel
theorem dX2_study_34 : decode cX2_study 34 = .ok (.getfield 9, 3) := by decide +kernel
theorem dX2_study_37 : decode cX2_study 37 = .ok (.bipush (-9), 2) := by decide +kernel
theorem dX2_study_39 : decode cX2_study 39 = .ok (.if_icmp .ne 26, 3) := by decide +kernel
theorem dX2_study_42 : decode cX2_study 42 = .ok (.aload_n 0, 1) := by decide +kernel
theorem dX2_study_43 : decode cX2_study 43 = .ok (.invokevirtual 59, 3) := by decide +kernel
theorem dX2_study_46 : decode cX2_study 46 = .ok (.aload_n 0, 1) := by decide +kernel
theorem dX2_study_47 : decode cX2_study 47 = .ok (.aload_n 1, 1) := by decide +kernel
theorem dX2_study_48 : decode cX2_study 48 = .ok (.invokevirtual 62, 3) := by decide +kernel
theorem dX2_study_51 : decode cX2_study 51 = .ok (.aload_n 0, 1) := by decide +kernel
theorem dX2_study_52 : decode cX2_study 52 = .ok (.aload_n 1, 1) := by decide +kernel
theorem dX2_study_53 : decode cX2_study 53 = .ok (.invokevirtual 66, 3) := by decide +kernel
theorem dX2_study_56 : decode cX2_study 56 = .ok (.aload_n 0, 1) := by decide +kernel
theorem dX2_study_57 : decode cX2_study 57 = .ok (.aload_n 0, 1) := by decide +kernel
theorem dX2_study_58 : decode cX2_study 58 = .ok (.aload_n 1, 1) := by decide +kernel
theorem dX2_study_59 : decode cX2_study 59 = .ok (.invokevirtual 69, 3) := by decide +kernel
theorem dX2_study_62 : decode cX2_study 62 = .ok (.putfield 18, 3) := by decide +kernel
theorem dX2_study_65 : decode cX2_study 65 = .ok (.return_, 1) := by decide +kernel
theorem dX2_clockAt_0 : decode cX2_clockAt 0 = .ok (.iload_n 1, 1) := by decide +kernel
theorem dX2_clockAt_1 : decode cX2_clockAt 1 = .ok (.istore_n 3, 1) := by decide +kernel
theorem dX2_clockAt_2 : decode cX2_clockAt 2 = .ok (.aload_n 0, 1) := by decide +kernel
theorem dX2_clockAt_3 : decode cX2_clockAt 3 = .ok (.getfield 34, 3) := by decide +kernel
theorem dX2_clockAt_6 : decode cX2_clockAt 6 = .ok (.iload_n 1, 1) := by decide +kernel
theorem dX2_clockAt_7 : decode cX2_clockAt 7 = .ok (.iaload, 1) := by decide +kernel
theorem dX2_clockAt_8 : decode cX2_clockAt 8 = .ok (.iconst 1, 1) := by decide +kernel
theorem dX2_clockAt_9 : decode cX2_clockAt 9 = .ok (.isub, 1) := by decide +kernel
theorem dX2_clockAt_10 : decode cX2_clockAt 10 = .ok (.istore 4, 2) := by decide +kernel
theorem dX2_clockAt_12 : decode cX2_clockAt 12 = .ok (.iload 4, 2) := by decide +kernel
theorem dX2_clockAt_14 : decode cX2_clockAt 14 = .ok (.iload_n 2, 1) := by decide +kernel
theorem dX2_clockAt_15 : decode cX2_clockAt 15 = .ok (.if_icmp .le 28, 3) := by decide +kernel
theorem dX2_clockAt_18 : decode cX2_clockAt 18 = .ok (.aload_n 0, 1) := by decide +kernel
theorem dX2_clockAt_19 : decode cX2_clockAt 19 = .ok (.getfield 31, 3) := by decide +kernel
theorem dX2_clockAt_22 : decode cX2_clockAt 22 = .ok (.iload_n 3, 1) := by decide +kernel
theorem dX2_clockAt_23 : decode cX2_clockAt 23 = .ok (.iaload, 1) := by decide +kernel
theorem dX2_clockAt_24 : decode cX2_clockAt 24 = .ok (.ifCond .lt 19, 3) := by decide +kernel
theorem dX2_clockAt_27 : decode cX2_clockAt 27 = .ok (.aload_n 0, 1) := by decide +kernel
theorem dX2_clockAt_28 : decode cX2_clockAt 28 = .ok (.getfield 31, 3) := by decide +kernel
theorem dX2_clockAt_31 : decode cX2_clockAt 31 = .ok (.iload_n 3, 1) := by decide +kernel
theorem dX2_clockAt_32 : decode cX2_clockAt 32 = .ok (.iaload, 1) := by decide +kernel
theorem dX2_clockAt_33 : decode cX2_clockAt 33 = .ok (.bipush 10, 2) := by decide +kernel
theorem dX2_clockAt_35 : decode cX2_clockAt 35 = .ok (.idiv, 1) := by decide +kernel
theorem dX2_clockAt_36 : decode cX2_clockAt 36 = .ok (.istore_n 3, 1) := by decide +kernel
theorem dX2_clockAt_37 : decode cX2_clockAt 37 = .ok (.iinc 4 (-1), 3) := by decide +kernel
theorem dX2_clockAt_40 : decode cX2_clockAt 40 = .ok (.goto (-28), 3) := by decide +kernel
theorem dX2_clockAt_43 : decode cX2_clockAt 43 = .ok (.aload_n 0, 1) := by decide +kernel
theorem dX2_clockAt_44 : decode cX2_clockAt 44 = .ok (.getfield 31, 3) := by decide +kernel
theorem dX2_clockAt_47 : decode cX2_clockAt 47 = .ok (.iload_n 3, 1) := by decide +kernel
theorem dX2_clockAt_48 : decode cX2_clockAt 48 = .ok (.iaload, 1) := by decide +kernel
theorem dX2_clockAt_49 : decode cX2_clockAt 49 = .ok (.ireturn, 1) := by decide +kernel
theorem dX2_findClash_0 : decode cX2_findClash 0 = .ok (.iconst 0, 1) := by decide +kernel
theorem dX2_findClash_1 : decode cX2_findClash 1 = .ok (.istore_n 2, 1) := by decide +kernel
theorem dX2_findClash_2 : decode cX2_findClash 2 = .ok (.iload_n 2, 1) := by decide +kernel
theorem dX2_findClash_3 : decode cX2_findClash 3 = .ok (.bipush 8, 2) := by decide +kernel
theorem dX2_findClash_5 : decode cX2_findClash 5 = .ok (.if_icmp .ge 23, 3) := by decide +kernel
theorem dX2_findClash_8 : decode cX2_findClash 8 = .ok (.aload_n 0, 1) := by decide +kernel
theorem dX2_findClash_9 : decode cX2_findClash 9 = .ok (.getfield 24, 3) := by decide +kernel
theorem dX2_findClash_12 : decode cX2_findClash 12 = .ok (.iload_n 2, 1) := by decide +kernel
theorem dX2_findClash_13 : decode cX2_findClash 13 = .ok (.iload_n 2, 1) := by decide +kernel
theorem dX2_findClash_14 : decode cX2_findClash 14 = .ok (.iastore, 1) := by decide +kernel
theorem dX2_findClash_15 : decode cX2_findClash 15 = .ok (.aload_n 0, 1) := by decide +kernel
theorem dX2_findClash_16 : decode cX2_findClash 16 = .ok (.getfield 28, 3) := by decide +kernel
theorem dX2_findClash_19 : decode cX2_findClash 19 = .ok (.iload_n 2, 1) := by decide +kernel
theorem dX2_findClash_20 : decode cX2_findClash 20 = .ok (.iconst (-1), 1) := by decide +kernel
theorem dX2_findClash_21 : decode cX2_findClash 21 = .ok (.iastore, 1) := by decide +kernel
theorem dX2_findClash_22 : decode cX2_findClash 22 = .ok (.iinc 2 1, 3) := by decide +kernel
theorem dX2_findClash_25 : decode cX2_findClash 25 = .ok (.goto (-23), 3) := by decide +kernel
theorem dX2_findClash_28 : decode cX2_findClash 28 = .ok (.iconst 0, 1) := by decide +kernel
theorem dX2_findClash_29 : decode cX2_findClash 29 = .ok (.istore_n 2, 1) := by decide +kernel
theorem dX2_findClash_30 : decode cX2_findClash 30 = .ok (.iload_n 2, 1) := by decide +kernel
theorem dX2_findClash_31 : decode cX2_findClash 31 = .ok (.aload_n 0, 1) := by decide +kernel
theorem dX2_findClash_32 : decode cX2_findClash 32 = .ok (.getfield 21, 3) := by decide +kernel
theorem dX2_findClash_35 : decode cX2_findClash 35 = .ok (.if_icmp .ge 27, 3) := by decide +kernel
theorem dX2_findClash_38 : decode cX2_findClash 38 = .ok (.aload_n 0, 1) := by decide +kernel
theorem dX2_findClash_39 : decode cX2_findClash 39 = .ok (.aload_n 1, 1) := by decide +kernel
theorem dX2_findClash_40 : decode cX2_findClash 40 = .ok (.iload_n 2, 1) := by decide +kernel
theorem dX2_findClash_41 : decode cX2_findClash 41 = .ok (.invokevirtual 72, 3) := by decide +kernel
theorem dX2_findClash_44 : decode cX2_findClash 44 = .ok (.ifCond .eq 10, 3) := by decide +kernel
theorem dX2_findClash_47 : decode cX2_findClash 47 = .ok (.aload_n 0, 1) := by decide +kernel
theorem dX2_findClash_48 : decode cX2_findClash 48 = .ok (.invokevirtual 76, 3) := by decide +kernel
theorem dX2_findClash_51 : decode cX2_findClash 51 = .ok (.ifCond .ne 5, 3) := by decide +kernel
theorem dX2_findClash_54 : decode cX2_findClash 54 = .ok (.iload_n 2, 1) := by decide +kernel
theorem dX2_findClash_55 : decode cX2_findClash 55 = .ok (.ireturn, 1) := by decide +kernel
theorem dX2_findClash_56 : decode cX2_findClash 56 = .ok (.iinc 2 1, 3) := by decide +kernel
theorem dX2_findClash_59 : decode cX2_findClash 59 = .ok (.goto (-29), 3) := by decide +kernel
theorem dX2_findClash_62 : decode cX2_findClash 62 = .ok (.bipush (-9), 2) := by decide +kernel
theorem dX2_findClash_64 : decode cX2_findClash 64 = .ok (.ireturn, 1) := by decide +kernel
theorem dX2_meet_0 : decode cX2_meet 0 = .ok (.aload_n 1, 1) := by decide +kernel
theorem dX2_meet_1 : decode cX2_meet 1 = .ok (.iload_n 2, 1) := by decide +kernel
theorem dX2_meet_2 : decode cX2_meet 2 = .ok (.iconst 0, 1) := by decide +kernel
theorem dX2_meet_3 : decode cX2_meet 3 = .ok (.invokevirtual 80, 3) := by decide +kernel
theorem dX2_meet_6 : decode cX2_meet 6 = .ok (.istore_n 3, 1) := by decide +kernel
theorem dX2_meet_7 : decode cX2_meet 7 = .ok (.aload_n 1, 1) := by decide +kernel
theorem dX2_meet_8 : decode cX2_meet 8 = .ok (.iload_n 2, 1) := by decide +kernel
theorem dX2_meet_9 : decode cX2_meet 9 = .ok (.iconst 1, 1) := by decide +kernel
theorem dX2_meet_10 : decode cX2_meet 10 = .ok (.invokevirtual 80, 3) := by decide +kernel
theorem dX2_meet_13 : decode cX2_meet 13 = .ok (.istore 4, 2) := by decide +kernel
theorem dX2_meet_15 : decode cX2_meet 15 = .ok (.aload_n 1, 1) := by decide +kernel
theorem dX2_meet_16 : decode cX2_meet 16 = .ok (.iload_n 2, 1) := by decide +kernel
theorem dX2_meet_17 : decode cX2_meet 17 = .ok (.invokevirtual 83, 3) := by decide +kernel
theorem dX2_meet_20 : decode cX2_meet 20 = .ok (.lookupswitch 159 #[(0, 44), (9, 52), (10, 83), (11, 112)], 44) := by decide +kernel
theorem dX2_meet_64 : decode cX2_meet 64 = .ok (.aload_n 0, 1) := by decide +kernel
theorem dX2_meet_65 : decode cX2_meet 65 = .ok (.iload_n 2, 1) := by decide +kernel
theorem dX2_meet_66 : decode cX2_meet 66 = .ok (.bipush (-2), 2) := by decide +kernel
theorem dX2_meet_68 : decode cX2_meet 68 = .ok (.invokevirtual 87, 3) := by decide +kernel
theorem dX2_meet_71 : decode cX2_meet 71 = .ok (.ireturn, 1) := by decide +kernel
theorem dX2_meet_72 : decode cX2_meet 72 = .ok (.aload_n 0, 1) := by decide +kernel
theorem dX2_meet_73 : decode cX2_meet 73 = .ok (.iload_n 3, 1) := by decide +kernel
theorem dX2_meet_74 : decode cX2_meet 74 = .ok (.iload 4, 2) := by decide +kernel
theorem dX2_meet_76 : decode cX2_meet 76 = .ok (.invokevirtual 91, 3) := by decide +kernel
theorem dX2_meet_79 : decode cX2_meet 79 = .ok (.ifCond .eq 22, 3) := by decide +kernel
theorem dX2_meet_82 : decode cX2_meet 82 = .ok (.aload_n 0, 1) := by decide +kernel
theorem dX2_meet_83 : decode cX2_meet 83 = .ok (.iload_n 2, 1) := by decide +kernel
theorem dX2_meet_84 : decode cX2_meet 84 = .ok (.bipush 10, 2) := by decide +kernel
theorem dX2_meet_86 : decode cX2_meet 86 = .ok (.iload 4, 2) := by decide +kernel
theorem dX2_meet_88 : decode cX2_meet 88 = .ok (.imul, 1) := by decide +kernel
theorem dX2_meet_89 : decode cX2_meet 89 = .ok (.iconst 1, 1) := by decide +kernel
theorem dX2_meet_90 : decode cX2_meet 90 = .ok (.iadd, 1) := by decide +kernel
theorem dX2_meet_91 : decode cX2_meet 91 = .ok (.invokevirtual 87, 3) := by decide +kernel
theorem dX2_meet_94 : decode cX2_meet 94 = .ok (.ifCond .eq 7, 3) := by decide +kernel
theorem dX2_meet_97 : decode cX2_meet 97 = .ok (.iconst 1, 1) := by decide +kernel
theorem dX2_meet_98 : decode cX2_meet 98 = .ok (.goto 4, 3) := by decide +kernel
theorem dX2_meet_101 : decode cX2_meet 101 = .ok (.iconst 0, 1) := by decide +kernel
theorem dX2_meet_102 : decode cX2_meet 102 = .ok (.ireturn, 1) := by decide +kernel
theorem dX2_meet_103 : decode cX2_meet 103 = .ok (.aload_n 0, 1) := by decide +kernel
theorem dX2_meet_104 : decode cX2_meet 104 = .ok (.iload_n 3, 1) := by decide +kernel
theorem dX2_meet_105 : decode cX2_meet 105 = .ok (.iload 4, 2) := by decide +kernel
theorem dX2_meet_107 : decode cX2_meet 107 = .ok (.invokevirtual 91, 3) := by decide +kernel
theorem dX2_meet_110 : decode cX2_meet 110 = .ok (.ifCond .eq 20, 3) := by decide +kernel
theorem dX2_meet_113 : decode cX2_meet 113 = .ok (.aload_n 0, 1) := by decide +kernel
theorem dX2_meet_114 : decode cX2_meet 114 = .ok (.iload_n 2, 1) := by decide +kernel
theorem dX2_meet_115 : decode cX2_meet 115 = .ok (.bipush 10, 2) := by decide +kernel
theorem dX2_meet_117 : decode cX2_meet 117 = .ok (.iload 4, 2) := by decide +kernel
theorem dX2_meet_119 : decode cX2_meet 119 = .ok (.imul, 1) := by decide +kernel
theorem dX2_meet_120 : decode cX2_meet 120 = .ok (.invokevirtual 87, 3) := by decide +kernel
theorem dX2_meet_123 : decode cX2_meet 123 = .ok (.ifCond .eq 7, 3) := by decide +kernel
theorem dX2_meet_126 : decode cX2_meet 126 = .ok (.iconst 1, 1) := by decide +kernel
theorem dX2_meet_127 : decode cX2_meet 127 = .ok (.goto 4, 3) := by decide +kernel
theorem dX2_meet_130 : decode cX2_meet 130 = .ok (.iconst 0, 1) := by decide +kernel
theorem dX2_meet_131 : decode cX2_meet 131 = .ok (.ireturn, 1) := by decide +kernel
theorem dX2_meet_132 : decode cX2_meet 132 = .ok (.aload_n 0, 1) := by decide +kernel
theorem dX2_meet_133 : decode cX2_meet 133 = .ok (.iload_n 2, 1) := by decide +kernel
theorem dX2_meet_134 : decode cX2_meet 134 = .ok (.iload_n 3, 1) := by decide +kernel
theorem dX2_meet_135 : decode cX2_meet 135 = .ok (.invokevirtual 91, 3) := by decide +kernel
theorem dX2_meet_138 : decode cX2_meet 138 = .ok (.ifCond .eq 39, 3) := by decide +kernel
theorem dX2_meet_141 : decode cX2_meet 141 = .ok (.aload_n 0, 1) := by decide +kernel
theorem dX2_meet_142 : decode cX2_meet 142 = .ok (.iload 4, 2) := by decide +kernel
theorem dX2_meet_144 : decode cX2_meet 144 = .ok (.bipush 10, 2) := by decide +kernel
theorem dX2_meet_146 : decode cX2_meet 146 = .ok (.iload_n 3, 1) := by decide +kernel
theorem dX2_meet_147 : decode cX2_meet 147 = .ok (.imul, 1) := by decide +kernel
theorem dX2_meet_148 : decode cX2_meet 148 = .ok (.iconst 1, 1) := by decide +kernel
theorem dX2_meet_149 : decode cX2_meet 149 = .ok (.iadd, 1) := by decide +kernel
theorem dX2_meet_150 : decode cX2_meet 150 = .ok (.invokevirtual 87, 3) := by decide +kernel
theorem dX2_meet_153 : decode cX2_meet 153 = .ok (.ifCond .eq 24, 3) := by decide +kernel
theorem dX2_meet_156 : decode cX2_meet 156 = .ok (.aload_n 0, 1) := by decide +kernel
theorem dX2_meet_157 : decode cX2_meet 157 = .ok (.aload_n 1, 1) := by decide +kernel
theorem dX2_meet_158 : decode cX2_meet 158 = .ok (.iload_n 2, 1) := by decide +kernel
theorem dX2_meet_159 : decode cX2_meet 159 = .ok (.iconst 2, 1) := by decide +kernel
theorem dX2_meet_160 : decode cX2_meet 160 = .ok (.invokevirtual 80, 3) := by decide +kernel
theorem dX2_meet_163 : decode cX2_meet 163 = .ok (.bipush 10, 2) := by decide +kernel
theorem dX2_meet_165 : decode cX2_meet 165 = .ok (.iload_n 3, 1) := by decide +kernel
theorem dX2_meet_166 : decode cX2_meet 166 = .ok (.imul, 1) := by decide +kernel
theorem dX2_meet_167 : decode cX2_meet 167 = .ok (.invokevirtual 87, 3) := by decide +kernel
theorem dX2_meet_170 : decode cX2_meet 170 = .ok (.ifCond .eq 7, 3) := by decide +kernel
theorem dX2_meet_173 : decode cX2_meet 173 = .ok (.iconst 1, 1) := by decide +kernel
theorem dX2_meet_174 : decode cX2_meet 174 = .ok (.goto 4, 3) := by decide +kernel
theorem dX2_meet_177 : decode cX2_meet 177 = .ok (.iconst 0, 1) := by decide +kernel
theorem dX2_meet_178 : decode cX2_meet 178 = .ok (.ireturn, 1) := by decide +kernel
theorem dX2_meet_179 : decode cX2_meet 179 = .ok (.aload_n 0, 1) := by decide +kernel
theorem dX2_meet_180 : decode cX2_meet 180 = .ok (.aload_n 1, 1) := by decide +kernel
theorem dX2_meet_181 : decode cX2_meet 181 = .ok (.iload_n 2, 1) := by decide +kernel
theorem dX2_meet_182 : decode cX2_meet 182 = .ok (.invokevirtual 94, 3) := by decide +kernel
theorem dX2_meet_185 : decode cX2_meet 185 = .ok (.ireturn, 1) := by decide +kernel
theorem dX2_likenAll_0 : decode cX2_likenAll 0 = .ok (.iconst 0, 1) := by decide +kernel
theorem dX2_likenAll_1 : decode cX2_likenAll 1 = .ok (.istore_n 3, 1) := by decide +kernel
theorem dX2_likenAll_2 : decode cX2_likenAll 2 = .ok (.iload_n 3, 1) := by decide +kernel
theorem dX2_likenAll_3 : decode cX2_likenAll 3 = .ok (.iconst 3, 1) := by decide +kernel
theorem dX2_likenAll_4 : decode cX2_likenAll 4 = .ok (.if_icmp .ge 37, 3) := by decide +kernel
theorem dX2_likenAll_7 : decode cX2_likenAll 7 = .ok (.aload_n 1, 1) := by decide +kernel
theorem dX2_likenAll_8 : decode cX2_likenAll 8 = .ok (.iload_n 2, 1) := by decide +kernel
theorem dX2_likenAll_9 : decode cX2_likenAll 9 = .ok (.invokevirtual 83, 3) := by decide +kernel
theorem dX2_likenAll_12 : decode cX2_likenAll 12 = .ok (.iload_n 3, 1) := by decide +kernel
theorem dX2_likenAll_13 : decode cX2_likenAll 13 = .ok (.invokestatic 97, 3) := by decide +kernel
theorem dX2_likenAll_16 : decode cX2_likenAll 16 = .ok (.ifCond .eq 19, 3) := by decide +kernel
theorem dX2_likenAll_19 : decode cX2_likenAll 19 = .ok (.aload_n 0, 1) := by decide +kernel
theorem dX2_likenAll_20 : decode cX2_likenAll 20 = .ok (.iload_n 2, 1) := by decide +kernel
theorem dX2_likenAll_21 : decode cX2_likenAll 21 = .ok (.aload_n 1, 1) := by decide +kernel
theorem dX2_likenAll_22 : decode cX2_likenAll 22 = .ok (.iload_n 2, 1) := by decide +kernel
theorem dX2_likenAll_23 : decode cX2_likenAll 23 = .ok (.iload_n 3, 1) := by decide +kernel
theorem dX2_likenAll_24 : decode cX2_likenAll 24 = .ok (.invokevirtual 80, 3) := by decide +kernel
theorem dX2_likenAll_27 : decode cX2_likenAll 27 = .ok (.invokevirtual 91, 3) := by decide +kernel
theorem dX2_likenAll_30 : decode cX2_likenAll 30 = .ok (.ifCond .ne 5, 3) := by decide +kernel
theorem dX2_likenAll_33 : decode cX2_likenAll 33 = .ok (.iconst 0, 1) := by decide +kernel
theorem dX2_likenAll_34 : decode cX2_likenAll 34 = .ok (.ireturn, 1) := by decide +kernel
theorem dX2_likenAll_35 : decode cX2_likenAll 35 = .ok (.iinc 3 1, 3) := by decide +kernel
theorem dX2_likenAll_38 : decode cX2_likenAll 38 = .ok (.goto (-36), 3) := by decide +kernel
theorem dX2_likenAll_41 : decode cX2_likenAll 41 = .ok (.iconst 1, 1) := by decide +kernel
theorem dX2_likenAll_42 : decode cX2_likenAll 42 = .ok (.ireturn, 1) := by decide +kernel
theorem dX2_liken_0 : decode cX2_liken 0 = .ok (.aload_n 0, 1) := by decide +kernel
theorem dX2_liken_1 : decode cX2_liken 1 = .ok (.getfield 24, 3) := by decide +kernel
theorem dX2_liken_4 : decode cX2_liken 4 = .ok (.iload_n 1, 1) := by decide +kernel
theorem dX2_liken_5 : decode cX2_liken 5 = .ok (.iaload, 1) := by decide +kernel
theorem dX2_liken_6 : decode cX2_liken 6 = .ok (.istore_n 3, 1) := by decide +kernel
theorem dX2_liken_7 : decode cX2_liken 7 = .ok (.aload_n 0, 1) := by decide +kernel
theorem dX2_liken_8 : decode cX2_liken 8 = .ok (.getfield 24, 3) := by decide +kernel
theorem dX2_liken_11 : decode cX2_liken 11 = .ok (.iload_n 2, 1) := by decide +kernel
theorem dX2_liken_12 : decode cX2_liken 12 = .ok (.iaload, 1) := by decide +kernel
theorem dX2_liken_13 : decode cX2_liken 13 = .ok (.istore 4, 2) := by decide +kernel
theorem dX2_liken_15 : decode cX2_liken 15 = .ok (.iload_n 3, 1) := by decide +kernel
theorem dX2_liken_16 : decode cX2_liken 16 = .ok (.iload 4, 2) := by decide +kernel
theorem dX2_liken_18 : decode cX2_liken 18 = .ok (.if_icmp .ne 5, 3) := by decide +kernel
theorem dX2_liken_21 : decode cX2_liken 21 = .ok (.iconst 1, 1) := by decide +kernel
theorem dX2_liken_22 : decode cX2_liken 22 = .ok (.ireturn, 1) := by decide +kernel
theorem dX2_liken_23 : decode cX2_liken 23 = .ok (.aload_n 0, 1) := by decide +kernel
theorem dX2_liken_24 : decode cX2_liken 24 = .ok (.getfield 28, 3) := by decide +kernel
theorem dX2_liken_27 : decode cX2_liken 27 = .ok (.iload 4, 2) := by decide +kernel
theorem dX2_liken_29 : decode cX2_liken 29 = .ok (.iaload, 1) := by decide +kernel
theorem dX2_liken_30 : decode cX2_liken 30 = .ok (.iconst (-1), 1) := by decide +kernel
theorem dX2_liken_31 : decode cX2_liken 31 = .ok (.if_icmp .eq 20, 3) := by decide +kernel
theorem dX2_liken_34 : decode cX2_liken 34 = .ok (.aload_n 0, 1) := by decide +kernel
theorem dX2_liken_35 : decode cX2_liken 35 = .ok (.iload_n 1, 1) := by decide +kernel
theorem dX2_liken_36 : decode cX2_liken 36 = .ok (.aload_n 0, 1) := by decide +kernel
theorem dX2_liken_37 : decode cX2_liken 37 = .ok (.getfield 28, 3) := by decide +kernel
theorem dX2_liken_40 : decode cX2_liken 40 = .ok (.iload 4, 2) := by decide +kernel
theorem dX2_liken_42 : decode cX2_liken 42 = .ok (.iaload, 1) := by decide +kernel
theorem dX2_liken_43 : decode cX2_liken 43 = .ok (.invokevirtual 87, 3) := by decide +kernel
theorem dX2_liken_46 : decode cX2_liken 46 = .ok (.ifCond .ne 5, 3) := by decide +kernel
theorem dX2_liken_49 : decode cX2_liken 49 = .ok (.iconst 0, 1) := by decide +kernel
theorem dX2_liken_50 : decode cX2_liken 50 = .ok (.ireturn, 1) := by decide +kernel
theorem dX2_liken_51 : decode cX2_liken 51 = .ok (.iconst 0, 1) := by decide +kernel
theorem dX2_liken_52 : decode cX2_liken 52 = .ok (.istore 5, 2) := by decide +kernel
theorem dX2_liken_54 : decode cX2_liken 54 = .ok (.iload 5, 2) := by decide +kernel
theorem dX2_liken_56 : decode cX2_liken 56 = .ok (.bipush 8, 2) := by decide +kernel
theorem dX2_liken_58 : decode cX2_liken 58 = .ok (.if_icmp .ge 29, 3) := by decide +kernel
theorem dX2_liken_61 : decode cX2_liken 61 = .ok (.aload_n 0, 1) := by decide +kernel
theorem dX2_liken_62 : decode cX2_liken 62 = .ok (.getfield 24, 3) := by decide +kernel
theorem dX2_liken_65 : decode cX2_liken 65 = .ok (.iload 5, 2) := by decide +kernel
theorem dX2_liken_67 : decode cX2_liken 67 = .ok (.iaload, 1) := by decide +kernel
theorem dX2_liken_68 : decode cX2_liken 68 = .ok (.iload 4, 2) := by decide +kernel
theorem dX2_liken_70 : decode cX2_liken 70 = .ok (.if_icmp .ne 11, 3) := by decide +kernel
theorem dX2_liken_73 : decode cX2_liken 73 = .ok (.aload_n 0, 1) := by decide +kernel
theorem dX2_liken_74 : decode cX2_liken 74 = .ok (.getfield 24, 3) := by decide +kernel
theorem dX2_liken_77 : decode cX2_liken 77 = .ok (.iload 5, 2) := by decide +kernel
theorem dX2_liken_79 : decode cX2_liken 79 = .ok (.iload_n 3, 1) := by decide +kernel
theorem dX2_liken_80 : decode cX2_liken 80 = .ok (.iastore, 1) := by decide +kernel
theorem dX2_liken_81 : decode cX2_liken 81 = .ok (.iinc 5 1, 3) := by decide +kernel
theorem dX2_liken_84 : decode cX2_liken 84 = .ok (.goto (-30), 3) := by decide +kernel
theorem dX2_liken_87 : decode cX2_liken 87 = .ok (.iconst 1, 1) := by decide +kernel
theorem dX2_liken_88 : decode cX2_liken 88 = .ok (.ireturn, 1) := by decide +kernel
theorem dX2_bind_0 : decode cX2_bind 0 = .ok (.aload_n 0, 1) := by decide +kernel
theorem dX2_bind_1 : decode cX2_bind 1 = .ok (.getfield 24, 3) := by decide +kernel
theorem dX2_bind_4 : decode cX2_bind 4 = .ok (.iload_n 1, 1) := by decide +kernel
theorem dX2_bind_5 : decode cX2_bind 5 = .ok (.iaload, 1) := by decide +kernel
theorem dX2_bind_6 : decode cX2_bind 6 = .ok (.istore_n 3, 1) := by decide +kernel
theorem dX2_bind_7 : decode cX2_bind 7 = .ok (.aload_n 0, 1) := by decide +kernel
theorem dX2_bind_8 : decode cX2_bind 8 = .ok (.getfield 28, 3) := by decide +kernel
theorem dX2_bind_11 : decode cX2_bind 11 = .ok (.iload_n 3, 1) := by decide +kernel
theorem dX2_bind_12 : decode cX2_bind 12 = .ok (.iaload, 1) := by decide +kernel
theorem dX2_bind_13 : decode cX2_bind 13 = .ok (.iconst (-1), 1) := by decide +kernel
theorem dX2_bind_14 : decode cX2_bind 14 = .ok (.if_icmp .ne 10, 3) := by decide +kernel
theorem dX2_bind_17 : decode cX2_bind 17 = .ok (.aload_n 0, 1) := by decide +kernel
theorem dX2_bind_18 : decode cX2_bind 18 = .ok (.getfield 28, 3) := by decide +kernel
theorem dX2_bind_21 : decode cX2_bind 21 = .ok (.iload_n 3, 1) := by decide +kernel
theorem dX2_bind_22 : decode cX2_bind 22 = .ok (.iload_n 2, 1) := by decide +kernel
theorem dX2_bind_23 : decode cX2_bind 23 = .ok (.iastore, 1) := by decide +kernel
theorem dX2_bind_24 : decode cX2_bind 24 = .ok (.aload_n 0, 1) := by decide +kernel
theorem dX2_bind_25 : decode cX2_bind 25 = .ok (.getfield 28, 3) := by decide +kernel
theorem dX2_bind_28 : decode cX2_bind 28 = .ok (.iload_n 3, 1) := by decide +kernel
theorem dX2_bind_29 : decode cX2_bind 29 = .ok (.iaload, 1) := by decide +kernel
theorem dX2_bind_30 : decode cX2_bind 30 = .ok (.iload_n 2, 1) := by decide +kernel
theorem dX2_bind_31 : decode cX2_bind 31 = .ok (.if_icmp .ne 7, 3) := by decide +kernel
theorem dX2_bind_34 : decode cX2_bind 34 = .ok (.iconst 1, 1) := by decide +kernel
theorem dX2_bind_35 : decode cX2_bind 35 = .ok (.goto 4, 3) := by decide +kernel
theorem dX2_bind_38 : decode cX2_bind 38 = .ok (.iconst 0, 1) := by decide +kernel
theorem dX2_bind_39 : decode cX2_bind 39 = .ok (.ireturn, 1) := by decide +kernel
theorem dX2_haveEnds_0 : decode cX2_haveEnds 0 = .ok (.iconst 0, 1) := by decide +kernel
theorem dX2_haveEnds_1 : decode cX2_haveEnds 1 = .ok (.istore_n 1, 1) := by decide +kernel
theorem dX2_haveEnds_2 : decode cX2_haveEnds 2 = .ok (.iload_n 1, 1) := by decide +kernel
theorem dX2_haveEnds_3 : decode cX2_haveEnds 3 = .ok (.aload_n 0, 1) := by decide +kernel
theorem dX2_haveEnds_4 : decode cX2_haveEnds 4 = .ok (.getfield 21, 3) := by decide +kernel
theorem dX2_haveEnds_7 : decode cX2_haveEnds 7 = .ok (.if_icmp .ge 65, 3) := by decide +kernel
theorem dX2_haveEnds_10 : decode cX2_haveEnds 10 = .ok (.aload_n 0, 1) := by decide +kernel
theorem dX2_haveEnds_11 : decode cX2_haveEnds 11 = .ok (.getfield 24, 3) := by decide +kernel
theorem dX2_haveEnds_14 : decode cX2_haveEnds 14 = .ok (.iload_n 1, 1) := by decide +kernel
theorem dX2_haveEnds_15 : decode cX2_haveEnds 15 = .ok (.iaload, 1) := by decide +kernel
theorem dX2_haveEnds_16 : decode cX2_haveEnds 16 = .ok (.istore_n 2, 1) := by decide +kernel
theorem dX2_haveEnds_17 : decode cX2_haveEnds 17 = .ok (.iconst 0, 1) := by decide +kernel
theorem dX2_haveEnds_18 : decode cX2_haveEnds 18 = .ok (.istore_n 3, 1) := by decide +kernel
theorem dX2_haveEnds_19 : decode cX2_haveEnds 19 = .ok (.iload_n 3, 1) := by decide +kernel
theorem dX2_haveEnds_20 : decode cX2_haveEnds 20 = .ok (.bipush 8, 2) := by decide +kernel
theorem dX2_haveEnds_22 : decode cX2_haveEnds 22 = .ok (.if_icmp .ge 33, 3) := by decide +kernel
theorem dX2_haveEnds_25 : decode cX2_haveEnds 25 = .ok (.aload_n 0, 1) := by decide +kernel
theorem dX2_haveEnds_26 : decode cX2_haveEnds 26 = .ok (.getfield 28, 3) := by decide +kernel
theorem dX2_haveEnds_29 : decode cX2_haveEnds 29 = .ok (.iload_n 2, 1) := by decide +kernel
theorem dX2_haveEnds_30 : decode cX2_haveEnds 30 = .ok (.iaload, 1) := by decide +kernel
theorem dX2_haveEnds_31 : decode cX2_haveEnds 31 = .ok (.ifCond .lt 24, 3) := by decide +kernel
theorem dX2_haveEnds_34 : decode cX2_haveEnds 34 = .ok (.aload_n 0, 1) := by decide +kernel
theorem dX2_haveEnds_35 : decode cX2_haveEnds 35 = .ok (.getfield 24, 3) := by decide +kernel
theorem dX2_haveEnds_38 : decode cX2_haveEnds 38 = .ok (.aload_n 0, 1) := by decide +kernel
theorem dX2_haveEnds_39 : decode cX2_haveEnds 39 = .ok (.getfield 28, 3) := by decide +kernel
theorem dX2_haveEnds_42 : decode cX2_haveEnds 42 = .ok (.iload_n 2, 1) := by decide +kernel
theorem dX2_haveEnds_43 : decode cX2_haveEnds 43 = .ok (.iaload, 1) := by decide +kernel
theorem dX2_haveEnds_44 : decode cX2_haveEnds 44 = .ok (.bipush 10, 2) := by decide +kernel
theorem dX2_haveEnds_46 : decode cX2_haveEnds 46 = .ok (.idiv, 1) := by decide +kernel
theorem dX2_haveEnds_47 : decode cX2_haveEnds 47 = .ok (.iaload, 1) := by decide +kernel
theorem dX2_haveEnds_48 : decode cX2_haveEnds 48 = .ok (.istore_n 2, 1) := by decide +kernel
theorem dX2_haveEnds_49 : decode cX2_haveEnds 49 = .ok (.iinc 3 1, 3) := by decide +kernel
theorem dX2_haveEnds_52 : decode cX2_haveEnds 52 = .ok (.goto (-33), 3) := by decide +kernel
theorem dX2_haveEnds_55 : decode cX2_haveEnds 55 = .ok (.aload_n 0, 1) := by decide +kernel
theorem dX2_haveEnds_56 : decode cX2_haveEnds 56 = .ok (.getfield 28, 3) := by decide +kernel
theorem dX2_haveEnds_59 : decode cX2_haveEnds 59 = .ok (.iload_n 2, 1) := by decide +kernel
theorem dX2_haveEnds_60 : decode cX2_haveEnds 60 = .ok (.iaload, 1) := by decide +kernel
theorem dX2_haveEnds_61 : decode cX2_haveEnds 61 = .ok (.ifCond .lt 5, 3) := by decide +kernel
theorem dX2_haveEnds_64 : decode cX2_haveEnds 64 = .ok (.iconst 0, 1) := by decide +kernel
theorem dX2_haveEnds_65 : decode cX2_haveEnds 65 = .ok (.ireturn, 1) := by decide +kernel
theorem dX2_haveEnds_66 : decode cX2_haveEnds 66 = .ok (.iinc 1 1, 3) := by decide +kernel
theorem dX2_haveEnds_69 : decode cX2_haveEnds 69 = .ok (.goto (-67), 3) := by decide +kernel
theorem dX2_haveEnds_72 : decode cX2_haveEnds 72 = .ok (.iconst 1, 1) := by decide +kernel
theorem dX2_haveEnds_73 : decode cX2_haveEnds 73 = .ok (.ireturn, 1) := by decide +kernel
theorem dX2_settle_0 : decode cX2_settle 0 = .ok (.iconst 0, 1) := by decide +kernel
theorem dX2_settle_1 : decode cX2_settle 1 = .ok (.istore_n 1, 1) := by decide +kernel
theorem dX2_settle_2 : decode cX2_settle 2 = .ok (.iload_n 1, 1) := by decide +kernel
theorem dX2_settle_3 : decode cX2_settle 3 = .ok (.aload_n 0, 1) := by decide +kernel
theorem dX2_settle_4 : decode cX2_settle 4 = .ok (.getfield 21, 3) := by decide +kernel
theorem dX2_settle_7 : decode cX2_settle 7 = .ok (.if_icmp .ge 46, 3) := by decide +kernel
theorem dX2_settle_10 : decode cX2_settle 10 = .ok (.aload_n 0, 1) := by decide +kernel
theorem dX2_settle_11 : decode cX2_settle 11 = .ok (.getfield 31, 3) := by decide +kernel
theorem dX2_settle_14 : decode cX2_settle 14 = .ok (.iload_n 1, 1) := by decide +kernel
theorem dX2_settle_15 : decode cX2_settle 15 = .ok (.aload_n 0, 1) := by decide +kernel
theorem dX2_settle_16 : decode cX2_settle 16 = .ok (.getfield 28, 3) := by decide +kernel
theorem dX2_settle_19 : decode cX2_settle 19 = .ok (.aload_n 0, 1) := by decide +kernel
theorem dX2_settle_20 : decode cX2_settle 20 = .ok (.getfield 24, 3) := by decide +kernel
theorem dX2_settle_23 : decode cX2_settle 23 = .ok (.iload_n 1, 1) := by decide +kernel
theorem dX2_settle_24 : decode cX2_settle 24 = .ok (.iaload, 1) := by decide +kernel
theorem dX2_settle_25 : decode cX2_settle 25 = .ok (.iaload, 1) := by decide +kernel
theorem dX2_settle_26 : decode cX2_settle 26 = .ok (.iconst (-1), 1) := by decide +kernel
theorem dX2_settle_27 : decode cX2_settle 27 = .ok (.if_icmp .ne 8, 3) := by decide +kernel
theorem dX2_settle_30 : decode cX2_settle 30 = .ok (.bipush (-2), 2) := by decide +kernel
theorem dX2_settle_32 : decode cX2_settle 32 = .ok (.goto 14, 3) := by decide +kernel
theorem dX2_settle_35 : decode cX2_settle 35 = .ok (.aload_n 0, 1) := by decide +kernel
theorem dX2_settle_36 : decode cX2_settle 36 = .ok (.getfield 28, 3) := by decide +kernel
theorem dX2_settle_39 : decode cX2_settle 39 = .ok (.aload_n 0, 1) := by decide +kernel
theorem dX2_settle_40 : decode cX2_settle 40 = .ok (.getfield 24, 3) := by decide +kernel
theorem dX2_settle_43 : decode cX2_settle 43 = .ok (.iload_n 1, 1) := by decide +kernel
theorem dX2_settle_44 : decode cX2_settle 44 = .ok (.iaload, 1) := by decide +kernel
theorem dX2_settle_45 : decode cX2_settle 45 = .ok (.iaload, 1) := by decide +kernel
theorem dX2_settle_46 : decode cX2_settle 46 = .ok (.iastore, 1) := by decide +kernel
theorem dX2_settle_47 : decode cX2_settle 47 = .ok (.iinc 1 1, 3) := by decide +kernel
theorem dX2_settle_50 : decode cX2_settle 50 = .ok (.goto (-48), 3) := by decide +kernel
theorem dX2_settle_53 : decode cX2_settle 53 = .ok (.iconst 0, 1) := by decide +kernel
theorem dX2_settle_54 : decode cX2_settle 54 = .ok (.istore_n 1, 1) := by decide +kernel
theorem dX2_settle_55 : decode cX2_settle 55 = .ok (.iload_n 1, 1) := by decide +kernel
theorem dX2_settle_56 : decode cX2_settle 56 = .ok (.aload_n 0, 1) := by decide +kernel
theorem dX2_settle_57 : decode cX2_settle 57 = .ok (.getfield 21, 3) := by decide +kernel
theorem dX2_settle_60 : decode cX2_settle 60 = .ok (.if_icmp .ge 51, 3) := by decide +kernel
theorem dX2_settle_63 : decode cX2_settle 63 = .ok (.iconst 0, 1) := by decide +kernel
theorem dX2_settle_64 : decode cX2_settle 64 = .ok (.istore_n 2, 1) := by decide +kernel
theorem dX2_settle_65 : decode cX2_settle 65 = .ok (.iload_n 1, 1) := by decide +kernel
theorem dX2_settle_66 : decode cX2_settle 66 = .ok (.istore_n 3, 1) := by decide +kernel
theorem dX2_settle_67 : decode cX2_settle 67 = .ok (.iload_n 2, 1) := by decide +kernel
theorem dX2_settle_68 : decode cX2_settle 68 = .ok (.bipush 8, 2) := by decide +kernel
theorem dX2_settle_70 : decode cX2_settle 70 = .ok (.if_icmp .ge 28, 3) := by decide +kernel
theorem dX2_settle_73 : decode cX2_settle 73 = .ok (.aload_n 0, 1) := by decide +kernel
theorem dX2_settle_74 : decode cX2_settle 74 = .ok (.getfield 31, 3) := by decide +kernel
theorem dX2_settle_77 : decode cX2_settle 77 = .ok (.iload_n 3, 1) := by decide +kernel
theorem dX2_settle_78 : decode cX2_settle 78 = .ok (.iaload, 1) := by decide +kernel
theorem dX2_settle_79 : decode cX2_settle 79 = .ok (.ifCond .lt 19, 3) := by decide +kernel
theorem dX2_settle_82 : decode cX2_settle 82 = .ok (.aload_n 0, 1) := by decide +kernel
theorem dX2_settle_83 : decode cX2_settle 83 = .ok (.getfield 31, 3) := by decide +kernel
theorem dX2_settle_86 : decode cX2_settle 86 = .ok (.iload_n 3, 1) := by decide +kernel
theorem dX2_settle_87 : decode cX2_settle 87 = .ok (.iaload, 1) := by decide +kernel
theorem dX2_settle_88 : decode cX2_settle 88 = .ok (.bipush 10, 2) := by decide +kernel
theorem dX2_settle_90 : decode cX2_settle 90 = .ok (.idiv, 1) := by decide +kernel
theorem dX2_settle_91 : decode cX2_settle 91 = .ok (.istore_n 3, 1) := by decide +kernel
theorem dX2_settle_92 : decode cX2_settle 92 = .ok (.iinc 2 1, 3) := by decide +kernel
theorem dX2_settle_95 : decode cX2_settle 95 = .ok (.goto (-28), 3) := by decide +kernel
theorem dX2_settle_98 : decode cX2_settle 98 = .ok (.aload_n 0, 1) := by decide +kernel
theorem dX2_settle_99 : decode cX2_settle 99 = .ok (.getfield 34, 3) := by decide +kernel
theorem dX2_settle_102 : decode cX2_settle 102 = .ok (.iload_n 1, 1) := by decide +kernel
theorem dX2_settle_103 : decode cX2_settle 103 = .ok (.iload_n 2, 1) := by decide +kernel
theorem dX2_settle_104 : decode cX2_settle 104 = .ok (.iastore, 1) := by decide +kernel
theorem dX2_settle_105 : decode cX2_settle 105 = .ok (.iinc 1 1, 3) := by decide +kernel
theorem dX2_settle_108 : decode cX2_settle 108 = .ok (.goto (-53), 3) := by decide +kernel
theorem dX2_settle_111 : decode cX2_settle 111 = .ok (.return_, 1) := by decide +kernel
theorem dX2_putInOrder_0 : decode cX2_putInOrder 0 = .ok (.aload_n 0, 1) := by decide +kernel
theorem dX2_putInOrder_1 : decode cX2_putInOrder 1 = .ok (.getfield 37, 3) := by decide +kernel
theorem dX2_putInOrder_4 : decode cX2_putInOrder 4 = .ok (.bipush (-9), 2) := by decide +kernel
theorem dX2_putInOrder_6 : decode cX2_putInOrder 6 = .ok (.invokestatic 100, 3) := by decide +kernel
theorem dX2_putInOrder_9 : decode cX2_putInOrder 9 = .ok (.aload_n 0, 1) := by decide +kernel
theorem dX2_putInOrder_10 : decode cX2_putInOrder 10 = .ok (.getfield 40, 3) := by decide +kernel
theorem dX2_putInOrder_13 : decode cX2_putInOrder 13 = .ok (.bipush (-9), 2) := by decide +kernel
theorem dX2_putInOrder_15 : decode cX2_putInOrder 15 = .ok (.invokestatic 100, 3) := by decide +kernel
theorem dX2_putInOrder_18 : decode cX2_putInOrder 18 = .ok (.iconst 0, 1) := by decide +kernel
theorem dX2_putInOrder_19 : decode cX2_putInOrder 19 = .ok (.istore_n 2, 1) := by decide +kernel
theorem dX2_putInOrder_20 : decode cX2_putInOrder 20 = .ok (.iconst 0, 1) := by decide +kernel
theorem dX2_putInOrder_21 : decode cX2_putInOrder 21 = .ok (.istore_n 3, 1) := by decide +kernel
theorem dX2_putInOrder_22 : decode cX2_putInOrder 22 = .ok (.iload_n 3, 1) := by decide +kernel
theorem dX2_putInOrder_23 : decode cX2_putInOrder 23 = .ok (.aload_n 0, 1) := by decide +kernel
theorem dX2_putInOrder_24 : decode cX2_putInOrder 24 = .ok (.getfield 21, 3) := by decide +kernel
theorem dX2_putInOrder_27 : decode cX2_putInOrder 27 = .ok (.if_icmp .ge 47, 3) := by decide +kernel
theorem dX2_putInOrder_30 : decode cX2_putInOrder 30 = .ok (.aload_n 0, 1) := by decide +kernel
theorem dX2_putInOrder_31 : decode cX2_putInOrder 31 = .ok (.aload_n 1, 1) := by decide +kernel
theorem dX2_putInOrder_32 : decode cX2_putInOrder 32 = .ok (.iload_n 2, 1) := by decide +kernel
theorem dX2_putInOrder_33 : decode cX2_putInOrder 33 = .ok (.invokevirtual 106, 3) := by decide +kernel
theorem dX2_putInOrder_36 : decode cX2_putInOrder 36 = .ok (.istore 4, 2) := by decide +kernel
theorem dX2_putInOrder_38 : decode cX2_putInOrder 38 = .ok (.iload 4, 2) := by decide +kernel
theorem dX2_putInOrder_40 : decode cX2_putInOrder 40 = .ok (.bipush (-9), 2) := by decide +kernel
theorem dX2_putInOrder_42 : decode cX2_putInOrder 42 = .ok (.if_icmp .eq 26, 3) := by decide +kernel
theorem dX2_putInOrder_45 : decode cX2_putInOrder 45 = .ok (.aload_n 0, 1) := by decide +kernel
theorem dX2_putInOrder_46 : decode cX2_putInOrder 46 = .ok (.getfield 37, 3) := by decide +kernel
theorem dX2_putInOrder_49 : decode cX2_putInOrder 49 = .ok (.iload 4, 2) := by decide +kernel
theorem dX2_putInOrder_51 : decode cX2_putInOrder 51 = .ok (.iload_n 3, 1) := by decide +kernel
theorem dX2_putInOrder_52 : decode cX2_putInOrder 52 = .ok (.iastore, 1) := by decide +kernel
theorem dX2_putInOrder_53 : decode cX2_putInOrder 53 = .ok (.aload_n 0, 1) := by decide +kernel
theorem dX2_putInOrder_54 : decode cX2_putInOrder 54 = .ok (.getfield 40, 3) := by decide +kernel
theorem dX2_putInOrder_57 : decode cX2_putInOrder 57 = .ok (.iload_n 3, 1) := by decide +kernel
theorem dX2_putInOrder_58 : decode cX2_putInOrder 58 = .ok (.iload 4, 2) := by decide +kernel
theorem dX2_putInOrder_60 : decode cX2_putInOrder 60 = .ok (.iastore, 1) := by decide +kernel
theorem dX2_putInOrder_61 : decode cX2_putInOrder 61 = .ok (.iload_n 2, 1) := by decide +kernel
theorem dX2_putInOrder_62 : decode cX2_putInOrder 62 = .ok (.iconst 1, 1) := by decide +kernel
theorem dX2_putInOrder_63 : decode cX2_putInOrder 63 = .ok (.iload 4, 2) := by decide +kernel
theorem dX2_putInOrder_65 : decode cX2_putInOrder 65 = .ok (.ishl, 1) := by decide +kernel
theorem dX2_putInOrder_66 : decode cX2_putInOrder 66 = .ok (.ior, 1) := by decide +kernel
theorem dX2_putInOrder_67 : decode cX2_putInOrder 67 = .ok (.istore_n 2, 1) := by decide +kernel
theorem dX2_putInOrder_68 : decode cX2_putInOrder 68 = .ok (.iinc 3 1, 3) := by decide +kernel
theorem dX2_putInOrder_71 : decode cX2_putInOrder 71 = .ok (.goto (-49), 3) := by decide +kernel
theorem dX2_putInOrder_74 : decode cX2_putInOrder 74 = .ok (.aload_n 0, 1) := by decide +kernel
theorem dX2_putInOrder_75 : decode cX2_putInOrder 75 = .ok (.iconst 1, 1) := by decide +kernel
theorem dX2_putInOrder_76 : decode cX2_putInOrder 76 = .ok (.aload_n 0, 1) := by decide +kernel
theorem dX2_putInOrder_77 : decode cX2_putInOrder 77 = .ok (.getfield 21, 3) := by decide +kernel
theorem dX2_putInOrder_80 : decode cX2_putInOrder 80 = .ok (.ishl, 1) := by decide +kernel
theorem dX2_putInOrder_81 : decode cX2_putInOrder 81 = .ok (.iconst 1, 1) := by decide +kernel
theorem dX2_putInOrder_82 : decode cX2_putInOrder 82 = .ok (.isub, 1) := by decide +kernel
theorem dX2_putInOrder_83 : decode cX2_putInOrder 83 = .ok (.iload_n 2, 1) := by decide +kernel
theorem dX2_putInOrder_84 : decode cX2_putInOrder 84 = .ok (.iconst (-1), 1) := by decide +kernel
theorem dX2_putInOrder_85 : decode cX2_putInOrder 85 = .ok (.ixor, 1) := by decide +kernel
theorem dX2_putInOrder_86 : decode cX2_putInOrder 86 = .ok (.iand, 1) := by decide +kernel
theorem dX2_putInOrder_87 : decode cX2_putInOrder 87 = .ok (.putfield 15, 3) := by decide +kernel
theorem dX2_putInOrder_90 : decode cX2_putInOrder 90 = .ok (.return_, 1) := by decide +kernel
theorem dX2_leastReady_0 : decode cX2_leastReady 0 = .ok (.iconst 0, 1) := by decide +kernel
theorem dX2_leastReady_1 : decode cX2_leastReady 1 = .ok (.istore_n 3, 1) := by decide +kernel
theorem dX2_leastReady_2 : decode cX2_leastReady 2 = .ok (.iload_n 3, 1) := by decide +kernel
theorem dX2_leastReady_3 : decode cX2_leastReady 3 = .ok (.aload_n 0, 1) := by decide +kernel
theorem dX2_leastReady_4 : decode cX2_leastReady 4 = .ok (.getfield 21, 3) := by decide +kernel
theorem dX2_leastReady_7 : decode cX2_leastReady 7 = .ok (.if_icmp .ge 32, 3) := by decide +kernel
theorem dX2_leastReady_10 : decode cX2_leastReady 10 = .ok (.iload_n 2, 1) := by decide +kernel
theorem dX2_leastReady_11 : decode cX2_leastReady 11 = .ok (.iload_n 3, 1) := by decide +kernel
theorem dX2_leastReady_12 : decode cX2_leastReady 12 = .ok (.ishr, 1) := by decide +kernel
theorem dX2_leastReady_13 : decode cX2_leastReady 13 = .ok (.iconst 1, 1) := by decide +kernel
theorem dX2_leastReady_14 : decode cX2_leastReady 14 = .ok (.iand, 1) := by decide +kernel
theorem dX2_leastReady_15 : decode cX2_leastReady 15 = .ok (.ifCond .ne 18, 3) := by decide +kernel
theorem dX2_leastReady_18 : decode cX2_leastReady 18 = .ok (.aload_n 0, 1) := by decide +kernel
theorem dX2_leastReady_19 : decode cX2_leastReady 19 = .ok (.aload_n 1, 1) := by decide +kernel
theorem dX2_leastReady_20 : decode cX2_leastReady 20 = .ok (.iload_n 3, 1) := by decide +kernel
theorem dX2_leastReady_21 : decode cX2_leastReady 21 = .ok (.invokevirtual 110, 3) := by decide +kernel
theorem dX2_leastReady_24 : decode cX2_leastReady 24 = .ok (.iload_n 2, 1) := by decide +kernel
theorem dX2_leastReady_25 : decode cX2_leastReady 25 = .ok (.iconst (-1), 1) := by decide +kernel
theorem dX2_leastReady_26 : decode cX2_leastReady 26 = .ok (.ixor, 1) := by decide +kernel
theorem dX2_leastReady_27 : decode cX2_leastReady 27 = .ok (.iand, 1) := by decide +kernel
theorem dX2_leastReady_28 : decode cX2_leastReady 28 = .ok (.ifCond .ne 5, 3) := by decide +kernel
theorem dX2_leastReady_31 : decode cX2_leastReady 31 = .ok (.iload_n 3, 1) := by decide +kernel
theorem dX2_leastReady_32 : decode cX2_leastReady 32 = .ok (.ireturn, 1) := by decide +kernel
theorem dX2_leastReady_33 : decode cX2_leastReady 33 = .ok (.iinc 3 1, 3) := by decide +kernel
theorem dX2_leastReady_36 : decode cX2_leastReady 36 = .ok (.goto (-34), 3) := by decide +kernel
theorem dX2_leastReady_39 : decode cX2_leastReady 39 = .ok (.bipush (-9), 2) := by decide +kernel
theorem dX2_leastReady_41 : decode cX2_leastReady 41 = .ok (.ireturn, 1) := by decide +kernel
theorem dX2_waits_0 : decode cX2_waits 0 = .ok (.aload_n 1, 1) := by decide +kernel
theorem dX2_waits_1 : decode cX2_waits 1 = .ok (.iload_n 2, 1) := by decide +kernel
theorem dX2_waits_2 : decode cX2_waits 2 = .ok (.invokevirtual 83, 3) := by decide +kernel
theorem dX2_waits_5 : decode cX2_waits 5 = .ok (.istore_n 3, 1) := by decide +kernel
theorem dX2_waits_6 : decode cX2_waits 6 = .ok (.aload_n 0, 1) := by decide +kernel
theorem dX2_waits_7 : decode cX2_waits 7 = .ok (.getfield 31, 3) := by decide +kernel
theorem dX2_waits_10 : decode cX2_waits 10 = .ok (.iload_n 2, 1) := by decide +kernel
theorem dX2_waits_11 : decode cX2_waits 11 = .ok (.iaload, 1) := by decide +kernel
theorem dX2_waits_12 : decode cX2_waits 12 = .ok (.ifCond .ge 7, 3) := by decide +kernel
theorem dX2_waits_15 : decode cX2_waits 15 = .ok (.iconst 0, 1) := by decide +kernel
theorem dX2_waits_16 : decode cX2_waits 16 = .ok (.goto 14, 3) := by decide +kernel
theorem dX2_waits_19 : decode cX2_waits 19 = .ok (.iconst 1, 1) := by decide +kernel
theorem dX2_waits_20 : decode cX2_waits 20 = .ok (.aload_n 0, 1) := by decide +kernel
theorem dX2_waits_21 : decode cX2_waits 21 = .ok (.getfield 31, 3) := by decide +kernel
theorem dX2_waits_24 : decode cX2_waits 24 = .ok (.iload_n 2, 1) := by decide +kernel
theorem dX2_waits_25 : decode cX2_waits 25 = .ok (.iaload, 1) := by decide +kernel
theorem dX2_waits_26 : decode cX2_waits 26 = .ok (.bipush 10, 2) := by decide +kernel
theorem dX2_waits_28 : decode cX2_waits 28 = .ok (.idiv, 1) := by decide +kernel
theorem dX2_waits_29 : decode cX2_waits 29 = .ok (.ishl, 1) := by decide +kernel
theorem dX2_waits_30 : decode cX2_waits 30 = .ok (.istore 4, 2) := by decide +kernel
theorem dX2_waits_32 : decode cX2_waits 32 = .ok (.iload_n 3, 1) := by decide +kernel
theorem dX2_waits_33 : decode cX2_waits 33 = .ok (.bipush 6, 2) := by decide +kernel
theorem dX2_waits_35 : decode cX2_waits 35 = .ok (.if_icmp .eq 9, 3) := by decide +kernel
theorem dX2_waits_38 : decode cX2_waits 38 = .ok (.iload_n 3, 1) := by decide +kernel
theorem dX2_waits_39 : decode cX2_waits 39 = .ok (.bipush 7, 2) := by decide +kernel
theorem dX2_waits_41 : decode cX2_waits 41 = .ok (.if_icmp .ne 6, 3) := by decide +kernel
theorem dX2_waits_44 : decode cX2_waits 44 = .ok (.iload 4, 2) := by decide +kernel
theorem dX2_waits_46 : decode cX2_waits 46 = .ok (.ireturn, 1) := by decide +kernel
theorem dX2_waits_47 : decode cX2_waits 47 = .ok (.iconst 0, 1) := by decide +kernel
theorem dX2_waits_48 : decode cX2_waits 48 = .ok (.istore 5, 2) := by decide +kernel
theorem dX2_waits_50 : decode cX2_waits 50 = .ok (.iload 5, 2) := by decide +kernel
theorem dX2_waits_52 : decode cX2_waits 52 = .ok (.iconst 3, 1) := by decide +kernel
theorem dX2_waits_53 : decode cX2_waits 53 = .ok (.if_icmp .ge 32, 3) := by decide +kernel
theorem dX2_waits_56 : decode cX2_waits 56 = .ok (.iload_n 3, 1) := by decide +kernel
theorem dX2_waits_57 : decode cX2_waits 57 = .ok (.iload 5, 2) := by decide +kernel
theorem dX2_waits_59 : decode cX2_waits 59 = .ok (.invokestatic 97, 3) := by decide +kernel
theorem dX2_waits_62 : decode cX2_waits 62 = .ok (.ifCond .eq 17, 3) := by decide +kernel
theorem dX2_waits_65 : decode cX2_waits 65 = .ok (.iload 4, 2) := by decide +kernel
theorem dX2_waits_67 : decode cX2_waits 67 = .ok (.iconst 1, 1) := by decide +kernel
theorem dX2_waits_68 : decode cX2_waits 68 = .ok (.aload_n 1, 1) := by decide +kernel
theorem dX2_waits_69 : decode cX2_waits 69 = .ok (.iload_n 2, 1) := by decide +kernel
theorem dX2_waits_70 : decode cX2_waits 70 = .ok (.iload 5, 2) := by decide +kernel
theorem dX2_waits_72 : decode cX2_waits 72 = .ok (.invokevirtual 80, 3) := by decide +kernel
theorem dX2_waits_75 : decode cX2_waits 75 = .ok (.ishl, 1) := by decide +kernel
theorem dX2_waits_76 : decode cX2_waits 76 = .ok (.ior, 1) := by decide +kernel
theorem dX2_waits_77 : decode cX2_waits 77 = .ok (.istore 4, 2) := by decide +kernel
theorem dX2_waits_79 : decode cX2_waits 79 = .ok (.iinc 5 1, 3) := by decide +kernel
theorem dX2_waits_82 : decode cX2_waits 82 = .ok (.goto (-32), 3) := by decide +kernel
theorem dX2_waits_85 : decode cX2_waits 85 = .ok (.iload 4, 2) := by decide +kernel
theorem dX2_waits_87 : decode cX2_waits 87 = .ok (.ireturn, 1) := by decide +kernel
theorem dX2_findLevels_0 : decode cX2_findLevels 0 = .ok (.aload_n 0, 1) := by decide +kernel
theorem dX2_findLevels_1 : decode cX2_findLevels 1 = .ok (.getfield 43, 3) := by decide +kernel
theorem dX2_findLevels_4 : decode cX2_findLevels 4 = .ok (.iconst 0, 1) := by decide +kernel
theorem dX2_findLevels_5 : decode cX2_findLevels 5 = .ok (.invokestatic 100, 3) := by decide +kernel
theorem dX2_findLevels_8 : decode cX2_findLevels 8 = .ok (.iconst 0, 1) := by decide +kernel
theorem dX2_findLevels_9 : decode cX2_findLevels 9 = .ok (.istore_n 2, 1) := by decide +kernel
theorem dX2_findLevels_10 : decode cX2_findLevels 10 = .ok (.iload_n 2, 1) := by decide +kernel
theorem dX2_findLevels_11 : decode cX2_findLevels 11 = .ok (.bipush 8, 2) := by decide +kernel
theorem dX2_findLevels_13 : decode cX2_findLevels 13 = .ok (.if_icmp .ge 37, 3) := by decide +kernel
theorem dX2_findLevels_16 : decode cX2_findLevels 16 = .ok (.iconst 0, 1) := by decide +kernel
theorem dX2_findLevels_17 : decode cX2_findLevels 17 = .ok (.istore_n 3, 1) := by decide +kernel
theorem dX2_findLevels_18 : decode cX2_findLevels 18 = .ok (.iload_n 3, 1) := by decide +kernel
theorem dX2_findLevels_19 : decode cX2_findLevels 19 = .ok (.aload_n 0, 1) := by decide +kernel
theorem dX2_findLevels_20 : decode cX2_findLevels 20 = .ok (.getfield 21, 3) := by decide +kernel
theorem dX2_findLevels_23 : decode cX2_findLevels 23 = .ok (.if_icmp .ge 21, 3) := by decide +kernel
theorem dX2_findLevels_26 : decode cX2_findLevels 26 = .ok (.aload_n 0, 1) := by decide +kernel
theorem dX2_findLevels_27 : decode cX2_findLevels 27 = .ok (.getfield 43, 3) := by decide +kernel
theorem dX2_findLevels_30 : decode cX2_findLevels 30 = .ok (.iload_n 3, 1) := by decide +kernel
theorem dX2_findLevels_31 : decode cX2_findLevels 31 = .ok (.aload_n 0, 1) := by decide +kernel
theorem dX2_findLevels_32 : decode cX2_findLevels 32 = .ok (.aload_n 1, 1) := by decide +kernel
theorem dX2_findLevels_33 : decode cX2_findLevels 33 = .ok (.iload_n 3, 1) := by decide +kernel
theorem dX2_findLevels_34 : decode cX2_findLevels 34 = .ok (.invokevirtual 113, 3) := by decide +kernel
theorem dX2_findLevels_37 : decode cX2_findLevels 37 = .ok (.iastore, 1) := by decide +kernel
theorem dX2_findLevels_38 : decode cX2_findLevels 38 = .ok (.iinc 3 1, 3) := by decide +kernel
theorem dX2_findLevels_41 : decode cX2_findLevels 41 = .ok (.goto (-23), 3) := by decide +kernel
theorem dX2_findLevels_44 : decode cX2_findLevels 44 = .ok (.iinc 2 1, 3) := by decide +kernel
theorem dX2_findLevels_47 : decode cX2_findLevels 47 = .ok (.goto (-37), 3) := by decide +kernel
theorem dX2_findLevels_50 : decode cX2_findLevels 50 = .ok (.return_, 1) := by decide +kernel
theorem dX2_levelByParts_0 : decode cX2_levelByParts 0 = .ok (.aload_n 1, 1) := by decide +kernel
theorem dX2_levelByParts_1 : decode cX2_levelByParts 1 = .ok (.iload_n 2, 1) := by decide +kernel
theorem dX2_levelByParts_2 : decode cX2_levelByParts 2 = .ok (.invokevirtual 83, 3) := by decide +kernel
theorem dX2_levelByParts_5 : decode cX2_levelByParts 5 = .ok (.tableswitch 72 2 10 #[53, 53, 53, 53, 72, 51, 72, 60, 60], 51) := by decide +kernel
theorem dX2_levelByParts_56 : decode cX2_levelByParts 56 = .ok (.iconst 1, 1) := by decide +kernel
theorem dX2_levelByParts_57 : decode cX2_levelByParts 57 = .ok (.ireturn, 1) := by decide +kernel
theorem dX2_levelByParts_58 : decode cX2_levelByParts 58 = .ok (.aload_n 0, 1) := by decide +kernel
theorem dX2_levelByParts_59 : decode cX2_levelByParts 59 = .ok (.aload_n 1, 1) := by decide +kernel
theorem dX2_levelByParts_60 : decode cX2_levelByParts 60 = .ok (.iload_n 2, 1) := by decide +kernel
theorem dX2_levelByParts_61 : decode cX2_levelByParts 61 = .ok (.invokevirtual 116, 3) := by decide +kernel
theorem dX2_levelByParts_64 : decode cX2_levelByParts 64 = .ok (.ireturn, 1) := by decide +kernel
theorem dX2_levelByParts_65 : decode cX2_levelByParts 65 = .ok (.aload_n 0, 1) := by decide +kernel
theorem dX2_levelByParts_66 : decode cX2_levelByParts 66 = .ok (.getfield 43, 3) := by decide +kernel
theorem dX2_levelByParts_69 : decode cX2_levelByParts 69 = .ok (.aload_n 1, 1) := by decide +kernel
theorem dX2_levelByParts_70 : decode cX2_levelByParts 70 = .ok (.iload_n 2, 1) := by decide +kernel
theorem dX2_levelByParts_71 : decode cX2_levelByParts 71 = .ok (.iconst 0, 1) := by decide +kernel
theorem dX2_levelByParts_72 : decode cX2_levelByParts 72 = .ok (.invokevirtual 80, 3) := by decide +kernel
theorem dX2_levelByParts_75 : decode cX2_levelByParts 75 = .ok (.iaload, 1) := by decide +kernel
theorem dX2_levelByParts_76 : decode cX2_levelByParts 76 = .ok (.ireturn, 1) := by decide +kernel
theorem dX2_levelByParts_77 : decode cX2_levelByParts 77 = .ok (.iconst 0, 1) := by decide +kernel
theorem dX2_levelByParts_78 : decode cX2_levelByParts 78 = .ok (.ireturn, 1) := by decide +kernel
theorem dX2_highest_0 : decode cX2_highest 0 = .ok (.iconst 0, 1) := by decide +kernel
theorem dX2_highest_1 : decode cX2_highest 1 = .ok (.istore_n 3, 1) := by decide +kernel
theorem dX2_highest_2 : decode cX2_highest 2 = .ok (.iconst 0, 1) := by decide +kernel
theorem dX2_highest_3 : decode cX2_highest 3 = .ok (.istore 4, 2) := by decide +kernel
theorem dX2_highest_5 : decode cX2_highest 5 = .ok (.iload 4, 2) := by decide +kernel
theorem dX2_highest_7 : decode cX2_highest 7 = .ok (.iconst 3, 1) := by decide +kernel
theorem dX2_highest_8 : decode cX2_highest 8 = .ok (.if_icmp .ge 39, 3) := by decide +kernel
theorem dX2_highest_11 : decode cX2_highest 11 = .ok (.aload_n 1, 1) := by decide +kernel
theorem dX2_highest_12 : decode cX2_highest 12 = .ok (.iload_n 2, 1) := by decide +kernel
theorem dX2_highest_13 : decode cX2_highest 13 = .ok (.invokevirtual 83, 3) := by decide +kernel
theorem dX2_highest_16 : decode cX2_highest 16 = .ok (.iload 4, 2) := by decide +kernel
theorem dX2_highest_18 : decode cX2_highest 18 = .ok (.invokestatic 97, 3) := by decide +kernel
theorem dX2_highest_21 : decode cX2_highest 21 = .ok (.ifCond .eq 20, 3) := by decide +kernel
theorem dX2_highest_24 : decode cX2_highest 24 = .ok (.iload_n 3, 1) := by decide +kernel
theorem dX2_highest_25 : decode cX2_highest 25 = .ok (.aload_n 0, 1) := by decide +kernel
theorem dX2_highest_26 : decode cX2_highest 26 = .ok (.getfield 43, 3) := by decide +kernel
theorem dX2_highest_29 : decode cX2_highest 29 = .ok (.aload_n 1, 1) := by decide +kernel
theorem dX2_highest_30 : decode cX2_highest 30 = .ok (.iload_n 2, 1) := by decide +kernel
theorem dX2_highest_31 : decode cX2_highest 31 = .ok (.iload 4, 2) := by decide +kernel
theorem dX2_highest_33 : decode cX2_highest 33 = .ok (.invokevirtual 80, 3) := by decide +kernel
theorem dX2_highest_36 : decode cX2_highest 36 = .ok (.iaload, 1) := by decide +kernel
theorem dX2_highest_37 : decode cX2_highest 37 = .ok (.invokestatic 119, 3) := by decide +kernel
theorem dX2_highest_40 : decode cX2_highest 40 = .ok (.istore_n 3, 1) := by decide +kernel
theorem dX2_highest_41 : decode cX2_highest 41 = .ok (.iinc 4 1, 3) := by decide +kernel
theorem dX2_highest_44 : decode cX2_highest 44 = .ok (.goto (-39), 3) := by decide +kernel
theorem dX2_highest_47 : decode cX2_highest 47 = .ok (.iload_n 3, 1) := by decide +kernel
theorem dX2_highest_48 : decode cX2_highest 48 = .ok (.ireturn, 1) := by decide +kernel
theorem dX2_findRaw_0 : decode cX2_findRaw 0 = .ok (.iconst 0, 1) := by decide +kernel
theorem dX2_findRaw_1 : decode cX2_findRaw 1 = .ok (.istore_n 2, 1) := by decide +kernel
theorem dX2_findRaw_2 : decode cX2_findRaw 2 = .ok (.iload_n 2, 1) := by decide +kernel
theorem dX2_findRaw_3 : decode cX2_findRaw 3 = .ok (.aload_n 0, 1) := by decide +kernel
theorem dX2_findRaw_4 : decode cX2_findRaw 4 = .ok (.getfield 21, 3) := by decide +kernel
theorem dX2_findRaw_7 : decode cX2_findRaw 7 = .ok (.if_icmp .ge 20, 3) := by decide +kernel
theorem dX2_findRaw_10 : decode cX2_findRaw 10 = .ok (.aload_n 0, 1) := by decide +kernel
theorem dX2_findRaw_11 : decode cX2_findRaw 11 = .ok (.aload_n 1, 1) := by decide +kernel
theorem dX2_findRaw_12 : decode cX2_findRaw 12 = .ok (.iload_n 2, 1) := by decide +kernel
theorem dX2_findRaw_13 : decode cX2_findRaw 13 = .ok (.invokevirtual 122, 3) := by decide +kernel
theorem dX2_findRaw_16 : decode cX2_findRaw 16 = .ok (.ifCond .eq 5, 3) := by decide +kernel
theorem dX2_findRaw_19 : decode cX2_findRaw 19 = .ok (.iload_n 2, 1) := by decide +kernel
theorem dX2_findRaw_20 : decode cX2_findRaw 20 = .ok (.ireturn, 1) := by decide +kernel
theorem dX2_findRaw_21 : decode cX2_findRaw 21 = .ok (.iinc 2 1, 3) := by decide +kernel
theorem dX2_findRaw_24 : decode cX2_findRaw 24 = .ok (.goto (-22), 3) := by decide +kernel
theorem dX2_findRaw_27 : decode cX2_findRaw 27 = .ok (.bipush (-9), 2) := by decide +kernel
theorem dX2_findRaw_29 : decode cX2_findRaw 29 = .ok (.ireturn, 1) := by decide +kernel
theorem dX2_isRaw_0 : decode cX2_isRaw 0 = .ok (.aload_n 1, 1) := by decide +kernel
theorem dX2_isRaw_1 : decode cX2_isRaw 1 = .ok (.iload_n 2, 1) := by decide +kernel
theorem dX2_isRaw_2 : decode cX2_isRaw 2 = .ok (.invokevirtual 83, 3) := by decide +kernel
theorem dX2_isRaw_5 : decode cX2_isRaw 5 = .ok (.tableswitch 97 6 11 #[60, 39, 39, 60, 60, 81], 39) := by decide +kernel
theorem dX2_isRaw_44 : decode cX2_isRaw 44 = .ok (.aload_n 0, 1) := by decide +kernel
theorem dX2_isRaw_45 : decode cX2_isRaw 45 = .ok (.getfield 43, 3) := by decide +kernel
theorem dX2_isRaw_48 : decode cX2_isRaw 48 = .ok (.aload_n 1, 1) := by decide +kernel
theorem dX2_isRaw_49 : decode cX2_isRaw 49 = .ok (.iload_n 2, 1) := by decide +kernel
theorem dX2_isRaw_50 : decode cX2_isRaw 50 = .ok (.iconst 0, 1) := by decide +kernel
theorem dX2_isRaw_51 : decode cX2_isRaw 51 = .ok (.invokevirtual 80, 3) := by decide +kernel
theorem dX2_isRaw_54 : decode cX2_isRaw 54 = .ok (.iaload, 1) := by decide +kernel
theorem dX2_isRaw_55 : decode cX2_isRaw 55 = .ok (.iconst 1, 1) := by decide +kernel
theorem dX2_isRaw_56 : decode cX2_isRaw 56 = .ok (.if_icmp .ne 7, 3) := by decide +kernel
theorem dX2_isRaw_59 : decode cX2_isRaw 59 = .ok (.iconst 1, 1) := by decide +kernel
theorem dX2_isRaw_60 : decode cX2_isRaw 60 = .ok (.goto 4, 3) := by decide +kernel
theorem dX2_isRaw_63 : decode cX2_isRaw 63 = .ok (.iconst 0, 1) := by decide +kernel
theorem dX2_isRaw_64 : decode cX2_isRaw 64 = .ok (.ireturn, 1) := by decide +kernel
theorem dX2_isRaw_65 : decode cX2_isRaw 65 = .ok (.aload_n 0, 1) := by decide +kernel
theorem dX2_isRaw_66 : decode cX2_isRaw 66 = .ok (.getfield 43, 3) := by decide +kernel
theorem dX2_isRaw_69 : decode cX2_isRaw 69 = .ok (.aload_n 1, 1) := by decide +kernel
theorem dX2_isRaw_70 : decode cX2_isRaw 70 = .ok (.iload_n 2, 1) := by decide +kernel
theorem dX2_isRaw_71 : decode cX2_isRaw 71 = .ok (.iconst 1, 1) := by decide +kernel
theorem dX2_isRaw_72 : decode cX2_isRaw 72 = .ok (.invokevirtual 80, 3) := by decide +kernel
theorem dX2_isRaw_75 : decode cX2_isRaw 75 = .ok (.iaload, 1) := by decide +kernel
theorem dX2_isRaw_76 : decode cX2_isRaw 76 = .ok (.iconst 1, 1) := by decide +kernel
theorem dX2_isRaw_77 : decode cX2_isRaw 77 = .ok (.if_icmp .ne 7, 3) := by decide +kernel
theorem dX2_isRaw_80 : decode cX2_isRaw 80 = .ok (.iconst 1, 1) := by decide +kernel
theorem dX2_isRaw_81 : decode cX2_isRaw 81 = .ok (.goto 4, 3) := by decide +kernel
theorem dX2_isRaw_84 : decode cX2_isRaw 84 = .ok (.iconst 0, 1) := by decide +kernel
theorem dX2_isRaw_85 : decode cX2_isRaw 85 = .ok (.ireturn, 1) := by decide +kernel
theorem dX2_isRaw_86 : decode cX2_isRaw 86 = .ok (.aload_n 0, 1) := by decide +kernel
theorem dX2_isRaw_87 : decode cX2_isRaw 87 = .ok (.aload_n 1, 1) := by decide +kernel
theorem dX2_isRaw_88 : decode cX2_isRaw 88 = .ok (.iload_n 2, 1) := by decide +kernel
theorem dX2_isRaw_89 : decode cX2_isRaw 89 = .ok (.invokevirtual 116, 3) := by decide +kernel
theorem dX2_isRaw_92 : decode cX2_isRaw 92 = .ok (.iconst 1, 1) := by decide +kernel
theorem dX2_isRaw_93 : decode cX2_isRaw 93 = .ok (.if_icmp .ne 7, 3) := by decide +kernel
theorem dX2_isRaw_96 : decode cX2_isRaw 96 = .ok (.iconst 1, 1) := by decide +kernel
theorem dX2_isRaw_97 : decode cX2_isRaw 97 = .ok (.goto 4, 3) := by decide +kernel
theorem dX2_isRaw_100 : decode cX2_isRaw 100 = .ok (.iconst 0, 1) := by decide +kernel
theorem dX2_isRaw_101 : decode cX2_isRaw 101 = .ok (.ireturn, 1) := by decide +kernel
theorem dX2_isRaw_102 : decode cX2_isRaw 102 = .ok (.iconst 0, 1) := by decide +kernel
theorem dX2_isRaw_103 : decode cX2_isRaw 103 = .ok (.ireturn, 1) := by decide +kernel
theorem dX5_init_0 : decode cX5_init 0 = .ok (.aload_n 0, 1) := by decide +kernel
theorem dX5_init_1 : decode cX5_init 1 = .ok (.invokespecial 1, 3) := by decide +kernel
theorem dX5_init_4 : decode cX5_init 4 = .ok (.aload_n 0, 1) := by decide +kernel
theorem dX5_init_5 : decode cX5_init 5 = .ok (.new 7, 3) := by decide +kernel
theorem dX5_init_8 : decode cX5_init 8 = .ok (.dup, 1) := by decide +kernel
theorem dX5_init_9 : decode cX5_init 9 = .ok (.invokespecial 9, 3) := by decide +kernel
theorem dX5_init_12 : decode cX5_init 12 = .ok (.putfield 10, 3) := by decide +kernel
theorem dX5_init_15 : decode cX5_init 15 = .ok (.aload_n 0, 1) := by decide +kernel
theorem dX5_init_16 : decode cX5_init 16 = .ok (.new 16, 3) := by decide +kernel
theorem dX5_init_19 : decode cX5_init 19 = .ok (.dup, 1) := by decide +kernel
theorem dX5_init_20 : decode cX5_init 20 = .ok (.invokespecial 18, 3) := by decide +kernel
theorem dX5_init_23 : decode cX5_init 23 = .ok (.putfield 19, 3) := by decide +kernel
theorem dX5_init_26 : decode cX5_init 26 = .ok (.aload_n 0, 1) := by decide +kernel
theorem dX5_init_27 : decode cX5_init 27 = .ok (.new 16, 3) := by decide +kernel
theorem dX5_init_30 : decode cX5_init 30 = .ok (.dup, 1) := by decide +kernel
theorem dX5_init_31 : decode cX5_init 31 = .ok (.invokespecial 18, 3) := by decide +kernel
theorem dX5_init_34 : decode cX5_init 34 = .ok (.putfield 23, 3) := by decide +kernel
theorem dX5_init_37 : decode cX5_init 37 = .ok (.aload_n 0, 1) := by decide +kernel
theorem dX5_init_38 : decode cX5_init 38 = .ok (.new 26, 3) := by decide +kernel
theorem dX5_init_41 : decode cX5_init 41 = .ok (.dup, 1) := by decide +kernel
theorem dX5_init_42 : decode cX5_init 42 = .ok (.invokespecial 28, 3) := by decide +kernel
theorem dX5_init_45 : decode cX5_init 45 = .ok (.putfield 29, 3) := by decide +kernel
theorem dX5_init_48 : decode cX5_init 48 = .ok (.aload_n 0, 1) := by decide +kernel
theorem dX5_init_49 : decode cX5_init 49 = .ok (.new 33, 3) := by decide +kernel
theorem dX5_init_52 : decode cX5_init 52 = .ok (.dup, 1) := by decide +kernel
theorem dX5_init_53 : decode cX5_init 53 = .ok (.invokespecial 35, 3) := by decide +kernel
theorem dX5_init_56 : decode cX5_init 56 = .ok (.putfield 36, 3) := by decide +kernel
theorem dX5_init_59 : decode cX5_init 59 = .ok (.aload_n 0, 1) := by decide +kernel
theorem dX5_init_60 : decode cX5_init 60 = .ok (.new 40, 3) := by decide +kernel
theorem dX5_init_63 : decode cX5_init 63 = .ok (.dup, 1) := by decide +kernel
theorem dX5_init_64 : decode cX5_init 64 = .ok (.invokespecial 42, 3) := by decide +kernel
theorem dX5_init_67 : decode cX5_init 67 = .ok (.putfield 43, 3) := by decide +kernel
theorem dX5_init_70 : decode cX5_init 70 = .ok (.aload_n 0, 1) := by decide +kernel
theorem dX5_init_71 : decode cX5_init 71 = .ok (.iconst 2, 1) := by decide +kernel
theorem dX5_init_72 : decode cX5_init 72 = .ok (.anewarray 16, 3) := by decide +kernel
theorem dX5_init_75 : decode cX5_init 75 = .ok (.putfield 47, 3) := by decide +kernel
theorem dX5_init_78 : decode cX5_init 78 = .ok (.aload_n 0, 1) := by decide +kernel
theorem dX5_init_79 : decode cX5_init 79 = .ok (.iconst 2, 1) := by decide +kernel
theorem dX5_init_80 : decode cX5_init 80 = .ok (.newarray .boolean, 2) := by decide +kernel
theorem dX5_init_82 : decode cX5_init 82 = .ok (.putfield 51, 3) := by decide +kernel
theorem dX5_init_85 : decode cX5_init 85 = .ok (.aload_n 0, 1) := by decide +kernel
theorem dX5_init_86 : decode cX5_init 86 = .ok (.sipush 328, 3) := by decide +kernel
theorem dX5_init_89 : decode cX5_init 89 = .ok (.newarray .int, 2) := by decide +kernel
theorem dX5_init_91 : decode cX5_init 91 = .ok (.putfield 55, 3) := by decide +kernel
theorem dX5_init_94 : decode cX5_init 94 = .ok (.aload_n 0, 1) := by decide +kernel
theorem dX5_init_95 : decode cX5_init 95 = .ok (.lconst 0, 1) := by decide +kernel
theorem dX5_init_96 : decode cX5_init 96 = .ok (.putfield 59, 3) := by decide +kernel
theorem dX5_init_99 : decode cX5_init 99 = .ok (.iconst 0, 1) := by decide +kernel
theorem dX5_init_100 : decode cX5_init 100 = .ok (.istore_n 1, 1) := by decide +kernel
theorem dX5_init_101 : decode cX5_init 101 = .ok (.iload_n 1, 1) := by decide +kernel
theorem dX5_init_102 : decode cX5_init 102 = .ok (.iconst 2, 1) := by decide +kernel
theorem dX5_init_103 : decode cX5_init 103 = .ok (.if_icmp .ge 22, 3) := by decide +kernel
theorem dX5_init_106 : decode cX5_init 106 = .ok (.aload_n 0, 1) := by decide +kernel
theorem dX5_init_107 : decode cX5_init 107 = .ok (.getfield 47, 3) := by decide +kernel
theorem dX5_init_110 : decode cX5_init 110 = .ok (.iload_n 1, 1) := by decide +kernel
theorem dX5_init_111 : decode cX5_init 111 = .ok (.new 16, 3) := by decide +kernel
theorem dX5_init_114 : decode cX5_init 114 = .ok (.dup, 1) := by decide +kernel
theorem dX5_init_115 : decode cX5_init 115 = .ok (.invokespecial 18, 3) := by decide +kernel
theorem dX5_init_118 : decode cX5_init 118 = .ok (.aastore, 1) := by decide +kernel
theorem dX5_init_119 : decode cX5_init 119 = .ok (.iinc 1 1, 3) := by decide +kernel
theorem dX5_init_122 : decode cX5_init 122 = .ok (.goto (-21), 3) := by decide +kernel
theorem dX5_init_125 : decode cX5_init 125 = .ok (.return_, 1) := by decide +kernel
theorem dX5_write_0 : decode cX5_write 0 = .ok (.iload_n 1, 1) := by decide +kernel
theorem dX5_write_1 : decode cX5_write 1 = .ok (.ifCond .lt 10, 3) := by decide +kernel
theorem dX5_write_4 : decode cX5_write 4 = .ok (.iload_n 1, 1) := by decide +kernel
theorem dX5_write_5 : decode cX5_write 5 = .ok (.sipush 255, 3) := by decide +kernel
theorem dX5_write_8 : decode cX5_write 8 = .ok (.if_icmp .le 6, 3) := by decide +kernel
theorem dX5_write_11 : decode cX5_write 11 = .ok (.bipush (-2), 2) := by decide +kernel
theorem dX5_write_13 : decode cX5_write 13 = .ok (.ireturn, 1) := by decide +kernel
theorem dX5_write_14 : decode cX5_write 14 = .ok (.aload_n 0, 1) := by decide +kernel
theorem dX5_write_15 : decode cX5_write 15 = .ok (.getfield 10, 3) := by decide +kernel
theorem dX5_write_18 : decode cX5_write 18 = .ok (.iload_n 1, 1) := by decide +kernel
theorem dX5_write_19 : decode cX5_write 19 = .ok (.invokevirtual 63, 3) := by decide +kernel
theorem dX5_write_22 : decode cX5_write 22 = .ok (.ifCond .eq 13, 3) := by decide +kernel
theorem dX5_write_25 : decode cX5_write 25 = .ok (.aload_n 0, 1) := by decide +kernel
theorem dX5_write_26 : decode cX5_write 26 = .ok (.getfield 10, 3) := by decide +kernel
theorem dX5_write_29 : decode cX5_write 29 = .ok (.getfield 67, 3) := by decide +kernel
theorem dX5_write_32 : decode cX5_write 32 = .ok (.goto 5, 3) := by decide +kernel
theorem dX5_write_35 : decode cX5_write 35 = .ok (.bipush (-4), 2) := by decide +kernel
theorem dX5_write_37 : decode cX5_write 37 = .ok (.ireturn, 1) := by decide +kernel
theorem dX5_wipe_0 : decode cX5_wipe 0 = .ok (.aload_n 0, 1) := by decide +kernel
theorem dX5_wipe_1 : decode cX5_wipe 1 = .ok (.getfield 10, 3) := by decide +kernel
theorem dX5_wipe_4 : decode cX5_wipe 4 = .ok (.getfield 67, 3) := by decide +kernel
theorem dX5_wipe_7 : decode cX5_wipe 7 = .ok (.istore_n 1, 1) := by decide +kernel
theorem dX5_wipe_8 : decode cX5_wipe 8 = .ok (.aload_n 0, 1) := by decide +kernel
theorem dX5_wipe_9 : decode cX5_wipe 9 = .ok (.getfield 10, 3) := by decide +kernel
theorem dX5_wipe_12 : decode cX5_wipe 12 = .ok (.iconst 0, 1) := by decide +kernel
theorem dX5_wipe_13 : decode cX5_wipe 13 = .ok (.putfield 67, 3) := by decide +kernel
theorem dX5_wipe_16 : decode cX5_wipe 16 = .ok (.iload_n 1, 1) := by decide +kernel
theorem dX5_wipe_17 : decode cX5_wipe 17 = .ok (.ireturn, 1) := by decide +kernel
theorem dX5_fault_0 : decode cX5_fault 0 = .ok (.aload_n 0, 1) := by decide +kernel
theorem dX5_fault_1 : decode cX5_fault 1 = .ok (.getfield 10, 3) := by decide +kernel
theorem dX5_fault_4 : decode cX5_fault 4 = .ok (.aload_n 0, 1) := by decide +kernel
theorem dX5_fault_5 : decode cX5_fault 5 = .ok (.getfield 23, 3) := by decide +kernel
theorem dX5_fault_8 : decode cX5_fault 8 = .ok (.invokevirtual 71, 3) := by decide +kernel
theorem dX5_fault_11 : decode cX5_fault 11 = .ok (.ireturn, 1) := by decide +kernel
theorem dX5_program_0 : decode cX5_program 0 = .ok (.aload_n 0, 1) := by decide +kernel
theorem dX5_program_1 : decode cX5_program 1 = .ok (.getfield 10, 3) := by decide +kernel
theorem dX5_program_4 : decode cX5_program 4 = .ok (.aload_n 0, 1) := by decide +kernel
theorem dX5_program_5 : decode cX5_program 5 = .ok (.getfield 23, 3) := by decide +kernel
theorem dX5_program_8 : decode cX5_program 8 = .ok (.invokevirtual 71, 3) := by decide +kernel
theorem dX5_program_11 : decode cX5_program 11 = .ok (.bipush (-9), 2) := by decide +kernel
theorem dX5_program_13 : decode cX5_program 13 = .ok (.if_icmp .eq 6, 3) := by decide +kernel
theorem dX5_program_16 : decode cX5_program 16 = .ok (.bipush (-3), 2) := by decide +kernel
theorem dX5_program_18 : decode cX5_program 18 = .ok (.ireturn, 1) := by decide +kernel
theorem dX5_program_19 : decode cX5_program 19 = .ok (.aload_n 0, 1) := by decide +kernel
theorem dX5_program_20 : decode cX5_program 20 = .ok (.getfield 19, 3) := by decide +kernel
theorem dX5_program_23 : decode cX5_program 23 = .ok (.aload_n 0, 1) := by decide +kernel
theorem dX5_program_24 : decode cX5_program 24 = .ok (.getfield 23, 3) := by decide +kernel
theorem dX5_program_27 : decode cX5_program 27 = .ok (.invokevirtual 75, 3) := by decide +kernel
theorem dX5_program_30 : decode cX5_program 30 = .ok (.aload_n 0, 1) := by decide +kernel
theorem dX5_program_31 : decode cX5_program 31 = .ok (.getfield 19, 3) := by decide +kernel
theorem dX5_program_34 : decode cX5_program 34 = .ok (.invokevirtual 79, 3) := by decide +kernel
theorem dX5_program_37 : decode cX5_program 37 = .ok (.aload_n 0, 1) := by decide +kernel
theorem dX5_program_38 : decode cX5_program 38 = .ok (.getfield 36, 3) := by decide +kernel
theorem dX5_program_41 : decode cX5_program 41 = .ok (.invokevirtual 82, 3) := by decide +kernel
theorem dX5_program_44 : decode cX5_program 44 = .ok (.iconst 0, 1) := by decide +kernel
theorem dX5_program_45 : decode cX5_program 45 = .ok (.istore_n 1, 1) := by decide +kernel
theorem dX5_program_46 : decode cX5_program 46 = .ok (.iload_n 1, 1) := by decide +kernel
theorem dX5_program_47 : decode cX5_program 47 = .ok (.iconst 2, 1) := by decide +kernel
theorem dX5_program_48 : decode cX5_program 48 = .ok (.if_icmp .ge 16, 3) := by decide +kernel
theorem dX5_program_51 : decode cX5_program 51 = .ok (.aload_n 0, 1) := by decide +kernel
theorem dX5_program_52 : decode cX5_program 52 = .ok (.getfield 51, 3) := by decide +kernel
theorem dX5_program_55 : decode cX5_program 55 = .ok (.iload_n 1, 1) := by decide +kernel
theorem dX5_program_56 : decode cX5_program 56 = .ok (.iconst 0, 1) := by decide +kernel
theorem dX5_program_57 : decode cX5_program 57 = .ok (.bastore, 1) := by decide +kernel
theorem dX5_program_58 : decode cX5_program 58 = .ok (.iinc 1 1, 3) := by decide +kernel
theorem dX5_program_61 : decode cX5_program 61 = .ok (.goto (-15), 3) := by decide +kernel
theorem dX5_program_64 : decode cX5_program 64 = .ok (.aload_n 0, 1) := by decide +kernel
theorem dX5_program_65 : decode cX5_program 65 = .ok (.getfield 29, 3) := by decide +kernel
theorem dX5_program_68 : decode cX5_program 68 = .ok (.aload_n 0, 1) := by decide +kernel
theorem dX5_program_69 : decode cX5_program 69 = .ok (.getfield 19, 3) := by decide +kernel
theorem dX5_program_72 : decode cX5_program 72 = .ok (.invokevirtual 85, 3) := by decide +kernel
theorem dX5_program_75 : decode cX5_program 75 = .ok (.aload_n 0, 1) := by decide +kernel
theorem dX5_program_76 : decode cX5_program 76 = .ok (.invokevirtual 88, 3) := by decide +kernel
theorem dX5_program_79 : decode cX5_program 79 = .ok (.ireturn, 1) := by decide +kernel
theorem dX5_about_0 : decode cX5_about 0 = .ok (.iload_n 1, 1) := by decide +kernel
theorem dX5_about_1 : decode cX5_about 1 = .ok (.tableswitch 132 0 9 #[55, 63, 71, 79, 87, 92, 100, 108, 116, 124], 55) := by decide +kernel
theorem dX5_about_56 : decode cX5_about 56 = .ok (.aload_n 0, 1) := by decide +kernel
theorem dX5_about_57 : decode cX5_about 57 = .ok (.getfield 19, 3) := by decide +kernel
theorem dX5_about_60 : decode cX5_about 60 = .ok (.getfield 92, 3) := by decide +kernel
theorem dX5_about_63 : decode cX5_about 63 = .ok (.ireturn, 1) := by decide +kernel
theorem dX5_about_64 : decode cX5_about 64 = .ok (.aload_n 0, 1) := by decide +kernel
theorem dX5_about_65 : decode cX5_about 65 = .ok (.getfield 29, 3) := by decide +kernel
theorem dX5_about_68 : decode cX5_about 68 = .ok (.getfield 95, 3) := by decide +kernel
theorem dX5_about_71 : decode cX5_about 71 = .ok (.ireturn, 1) := by decide +kernel
theorem dX5_about_72 : decode cX5_about 72 = .ok (.aload_n 0, 1) := by decide +kernel
theorem dX5_about_73 : decode cX5_about 73 = .ok (.getfield 29, 3) := by decide +kernel
theorem dX5_about_76 : decode cX5_about 76 = .ok (.getfield 98, 3) := by decide +kernel
theorem dX5_about_79 : decode cX5_about 79 = .ok (.ireturn, 1) := by decide +kernel
theorem dX5_about_80 : decode cX5_about 80 = .ok (.aload_n 0, 1) := by decide +kernel
theorem dX5_about_81 : decode cX5_about 81 = .ok (.getfield 29, 3) := by decide +kernel
theorem dX5_about_84 : decode cX5_about 84 = .ok (.getfield 101, 3) := by decide +kernel
theorem dX5_about_87 : decode cX5_about 87 = .ok (.ireturn, 1) := by decide +kernel
theorem dX5_about_88 : decode cX5_about 88 = .ok (.aload_n 0, 1) := by decide +kernel
theorem dX5_about_89 : decode cX5_about 89 = .ok (.invokevirtual 88, 3) := by decide +kernel
theorem dX5_about_92 : decode cX5_about 92 = .ok (.ireturn, 1) := by decide +kernel
theorem dX5_about_93 : decode cX5_about 93 = .ok (.aload_n 0, 1) := by decide +kernel
theorem dX5_about_94 : decode cX5_about 94 = .ok (.getfield 19, 3) := by decide +kernel
theorem dX5_about_97 : decode cX5_about 97 = .ok (.getfield 104, 3) := by decide +kernel
theorem dX5_about_100 : decode cX5_about 100 = .ok (.ireturn, 1) := by decide +kernel
theorem dX5_about_101 : decode cX5_about 101 = .ok (.aload_n 0, 1) := by decide +kernel
theorem dX5_about_102 : decode cX5_about 102 = .ok (.getfield 19, 3) := by decide +kernel
theorem dX5_about_105 : decode cX5_about 105 = .ok (.invokevirtual 107, 3) := by decide +kernel
theorem dX5_about_108 : decode cX5_about 108 = .ok (.ireturn, 1) := by decide +kernel
theorem dX5_about_109 : decode cX5_about 109 = .ok (.aload_n 0, 1) := by decide +kernel
theorem dX5_about_110 : decode cX5_about 110 = .ok (.getfield 36, 3) := by decide +kernel
theorem dX5_about_113 : decode cX5_about 113 = .ok (.getfield 110, 3) := by decide +kernel
theorem dX5_about_116 : decode cX5_about 116 = .ok (.ireturn, 1) := by decide +kernel
theorem dX5_about_117 : decode cX5_about 117 = .ok (.aload_n 0, 1) := by decide +kernel
theorem dX5_about_118 : decode cX5_about 118 = .ok (.getfield 43, 3) := by decide +kernel
theorem dX5_about_121 : decode cX5_about 121 = .ok (.getfield 111, 3) := by decide +kernel
theorem dX5_about_124 : decode cX5_about 124 = .ok (.ireturn, 1) := by decide +kernel
theorem dX5_about_125 : decode cX5_about 125 = .ok (.aload_n 0, 1) := by decide +kernel
theorem dX5_about_126 : decode cX5_about 126 = .ok (.getfield 10, 3) := by decide +kernel
theorem dX5_about_129 : decode cX5_about 129 = .ok (.getfield 67, 3) := by decide +kernel
theorem dX5_about_132 : decode cX5_about 132 = .ok (.ireturn, 1) := by decide +kernel
theorem dX5_about_133 : decode cX5_about 133 = .ok (.bipush (-2), 2) := by decide +kernel
theorem dX5_about_135 : decode cX5_about 135 = .ok (.ireturn, 1) := by decide +kernel
theorem dX5_stream_0 : decode cX5_stream 0 = .ok (.aload_n 0, 1) := by decide +kernel
theorem dX5_stream_1 : decode cX5_stream 1 = .ok (.iload_n 1, 1) := by decide +kernel
theorem dX5_stream_2 : decode cX5_stream 2 = .ok (.invokevirtual 112, 3) := by decide +kernel
theorem dX5_stream_5 : decode cX5_stream 5 = .ok (.ifCond .ne 5, 3) := by decide +kernel
theorem dX5_stream_8 : decode cX5_stream 8 = .ok (.iconst (-1), 1) := by decide +kernel
theorem dX5_stream_9 : decode cX5_stream 9 = .ok (.ireturn, 1) := by decide +kernel
theorem dX5_stream_10 : decode cX5_stream 10 = .ok (.iload_n 2, 1) := by decide +kernel
theorem dX5_stream_11 : decode cX5_stream 11 = .ok (.tableswitch 132 0 4 #[33, 42, 69, 96, 123], 33) := by decide +kernel
theorem dX5_stream_44 : decode cX5_stream 44 = .ok (.aload_n 0, 1) := by decide +kernel
theorem dX5_stream_45 : decode cX5_stream 45 = .ok (.getfield 19, 3) := by decide +kernel
theorem dX5_stream_48 : decode cX5_stream 48 = .ok (.iload_n 1, 1) := by decide +kernel
theorem dX5_stream_49 : decode cX5_stream 49 = .ok (.invokevirtual 115, 3) := by decide +kernel
theorem dX5_stream_52 : decode cX5_stream 52 = .ok (.ireturn, 1) := by decide +kernel
theorem dX5_stream_53 : decode cX5_stream 53 = .ok (.aload_n 0, 1) := by decide +kernel
theorem dX5_stream_54 : decode cX5_stream 54 = .ok (.getfield 29, 3) := by decide +kernel
theorem dX5_stream_57 : decode cX5_stream 57 = .ok (.getfield 95, 3) := by decide +kernel
theorem dX5_stream_60 : decode cX5_stream 60 = .ok (.bipush (-9), 2) := by decide +kernel
theorem dX5_stream_62 : decode cX5_stream 62 = .ok (.if_icmp .ne 15, 3) := by decide +kernel
theorem dX5_stream_65 : decode cX5_stream 65 = .ok (.aload_n 0, 1) := by decide +kernel
theorem dX5_stream_66 : decode cX5_stream 66 = .ok (.getfield 29, 3) := by decide +kernel
theorem dX5_stream_69 : decode cX5_stream 69 = .ok (.getfield 119, 3) := by decide +kernel
theorem dX5_stream_72 : decode cX5_stream 72 = .ok (.iload_n 1, 1) := by decide +kernel
theorem dX5_stream_73 : decode cX5_stream 73 = .ok (.iaload, 1) := by decide +kernel
theorem dX5_stream_74 : decode cX5_stream 74 = .ok (.goto 5, 3) := by decide +kernel
theorem dX5_stream_77 : decode cX5_stream 77 = .ok (.bipush (-9), 2) := by decide +kernel
theorem dX5_stream_79 : decode cX5_stream 79 = .ok (.ireturn, 1) := by decide +kernel
theorem dX5_stream_80 : decode cX5_stream 80 = .ok (.aload_n 0, 1) := by decide +kernel
theorem dX5_stream_81 : decode cX5_stream 81 = .ok (.getfield 29, 3) := by decide +kernel
theorem dX5_stream_84 : decode cX5_stream 84 = .ok (.getfield 95, 3) := by decide +kernel
theorem dX5_stream_87 : decode cX5_stream 87 = .ok (.bipush (-9), 2) := by decide +kernel
theorem dX5_stream_89 : decode cX5_stream 89 = .ok (.if_icmp .ne 15, 3) := by decide +kernel
theorem dX5_stream_92 : decode cX5_stream 92 = .ok (.aload_n 0, 1) := by decide +kernel
theorem dX5_stream_93 : decode cX5_stream 93 = .ok (.getfield 29, 3) := by decide +kernel
theorem dX5_stream_96 : decode cX5_stream 96 = .ok (.getfield 122, 3) := by decide +kernel
theorem dX5_stream_99 : decode cX5_stream 99 = .ok (.iload_n 1, 1) := by decide +kernel
theorem dX5_stream_100 : decode cX5_stream 100 = .ok (.iaload, 1) := by decide +kernel
theorem dX5_stream_101 : decode cX5_stream 101 = .ok (.goto 5, 3) := by decide +kernel
theorem dX5_stream_104 : decode cX5_stream 104 = .ok (.bipush (-9), 2) := by decide +kernel
theorem dX5_stream_106 : decode cX5_stream 106 = .ok (.ireturn, 1) := by decide +kernel
theorem dX5_stream_107 : decode cX5_stream 107 = .ok (.aload_n 0, 1) := by decide +kernel
theorem dX5_stream_108 : decode cX5_stream 108 = .ok (.getfield 29, 3) := by decide +kernel
theorem dX5_stream_111 : decode cX5_stream 111 = .ok (.getfield 95, 3) := by decide +kernel
theorem dX5_stream_114 : decode cX5_stream 114 = .ok (.bipush (-9), 2) := by decide +kernel
theorem dX5_stream_116 : decode cX5_stream 116 = .ok (.if_icmp .ne 15, 3) := by decide +kernel
theorem dX5_stream_119 : decode cX5_stream 119 = .ok (.aload_n 0, 1) := by decide +kernel
theorem dX5_stream_120 : decode cX5_stream 120 = .ok (.getfield 29, 3) := by decide +kernel
theorem dX5_stream_123 : decode cX5_stream 123 = .ok (.getfield 125, 3) := by decide +kernel
theorem dX5_stream_126 : decode cX5_stream 126 = .ok (.iload_n 1, 1) := by decide +kernel
theorem dX5_stream_127 : decode cX5_stream 127 = .ok (.iaload, 1) := by decide +kernel
theorem dX5_stream_128 : decode cX5_stream 128 = .ok (.goto 5, 3) := by decide +kernel
theorem dX5_stream_131 : decode cX5_stream 131 = .ok (.bipush (-9), 2) := by decide +kernel
theorem dX5_stream_133 : decode cX5_stream 133 = .ok (.ireturn, 1) := by decide +kernel
theorem dX5_stream_134 : decode cX5_stream 134 = .ok (.aload_n 0, 1) := by decide +kernel
theorem dX5_stream_135 : decode cX5_stream 135 = .ok (.getfield 19, 3) := by decide +kernel
theorem dX5_stream_138 : decode cX5_stream 138 = .ok (.iload_n 1, 1) := by decide +kernel
theorem dX5_stream_139 : decode cX5_stream 139 = .ok (.invokevirtual 128, 3) := by decide +kernel
theorem dX5_stream_142 : decode cX5_stream 142 = .ok (.ireturn, 1) := by decide +kernel
theorem dX5_stream_143 : decode cX5_stream 143 = .ok (.bipush (-2), 2) := by decide +kernel
theorem dX5_stream_145 : decode cX5_stream 145 = .ok (.ireturn, 1) := by decide +kernel
theorem dX5_figure_0 : decode cX5_figure 0 = .ok (.aload_n 0, 1) := by decide +kernel
theorem dX5_figure_1 : decode cX5_figure 1 = .ok (.iload_n 1, 1) := by decide +kernel
theorem dX5_figure_2 : decode cX5_figure 2 = .ok (.invokevirtual 112, 3) := by decide +kernel
theorem dX5_figure_5 : decode cX5_figure 5 = .ok (.ifCond .eq 22, 3) := by decide +kernel
theorem dX5_figure_8 : decode cX5_figure 8 = .ok (.iload_n 2, 1) := by decide +kernel
theorem dX5_figure_9 : decode cX5_figure 9 = .ok (.ifCond .lt 18, 3) := by decide +kernel
theorem dX5_figure_12 : decode cX5_figure 12 = .ok (.iload_n 2, 1) := by decide +kernel
theorem dX5_figure_13 : decode cX5_figure 13 = .ok (.aload_n 0, 1) := by decide +kernel
theorem dX5_figure_14 : decode cX5_figure 14 = .ok (.getfield 19, 3) := by decide +kernel
theorem dX5_figure_17 : decode cX5_figure 17 = .ok (.iload_n 1, 1) := by decide +kernel
theorem dX5_figure_18 : decode cX5_figure 18 = .ok (.invokevirtual 115, 3) := by decide +kernel
theorem dX5_figure_21 : decode cX5_figure 21 = .ok (.invokestatic 131, 3) := by decide +kernel
theorem dX5_figure_24 : decode cX5_figure 24 = .ok (.if_icmp .lt 5, 3) := by decide +kernel
theorem dX5_figure_27 : decode cX5_figure 27 = .ok (.iconst (-1), 1) := by decide +kernel
theorem dX5_figure_28 : decode cX5_figure 28 = .ok (.ireturn, 1) := by decide +kernel
theorem dX5_figure_29 : decode cX5_figure 29 = .ok (.aload_n 0, 1) := by decide +kernel
theorem dX5_figure_30 : decode cX5_figure 30 = .ok (.getfield 19, 3) := by decide +kernel
theorem dX5_figure_33 : decode cX5_figure 33 = .ok (.iload_n 1, 1) := by decide +kernel
theorem dX5_figure_34 : decode cX5_figure 34 = .ok (.iload_n 2, 1) := by decide +kernel
theorem dX5_figure_35 : decode cX5_figure 35 = .ok (.invokevirtual 134, 3) := by decide +kernel
theorem dX5_figure_38 : decode cX5_figure 38 = .ok (.ireturn, 1) := by decide +kernel
theorem dX5_clock_0 : decode cX5_clock 0 = .ok (.aload_n 0, 1) := by decide +kernel
theorem dX5_clock_1 : decode cX5_clock 1 = .ok (.iload_n 1, 1) := by decide +kernel
theorem dX5_clock_2 : decode cX5_clock 2 = .ok (.invokevirtual 112, 3) := by decide +kernel
theorem dX5_clock_5 : decode cX5_clock 5 = .ok (.ifCond .eq 32, 3) := by decide +kernel
theorem dX5_clock_8 : decode cX5_clock 8 = .ok (.aload_n 0, 1) := by decide +kernel
theorem dX5_clock_9 : decode cX5_clock 9 = .ok (.getfield 29, 3) := by decide +kernel
theorem dX5_clock_12 : decode cX5_clock 12 = .ok (.getfield 95, 3) := by decide +kernel
theorem dX5_clock_15 : decode cX5_clock 15 = .ok (.bipush (-9), 2) := by decide +kernel
theorem dX5_clock_17 : decode cX5_clock 17 = .ok (.if_icmp .ne 20, 3) := by decide +kernel
theorem dX5_clock_20 : decode cX5_clock 20 = .ok (.iload_n 2, 1) := by decide +kernel
theorem dX5_clock_21 : decode cX5_clock 21 = .ok (.ifCond .lt 16, 3) := by decide +kernel
theorem dX5_clock_24 : decode cX5_clock 24 = .ok (.iload_n 2, 1) := by decide +kernel
theorem dX5_clock_25 : decode cX5_clock 25 = .ok (.aload_n 0, 1) := by decide +kernel
theorem dX5_clock_26 : decode cX5_clock 26 = .ok (.getfield 29, 3) := by decide +kernel
theorem dX5_clock_29 : decode cX5_clock 29 = .ok (.getfield 119, 3) := by decide +kernel
theorem dX5_clock_32 : decode cX5_clock 32 = .ok (.iload_n 1, 1) := by decide +kernel
theorem dX5_clock_33 : decode cX5_clock 33 = .ok (.iaload, 1) := by decide +kernel
theorem dX5_clock_34 : decode cX5_clock 34 = .ok (.if_icmp .lt 5, 3) := by decide +kernel
theorem dX5_clock_37 : decode cX5_clock 37 = .ok (.iconst (-1), 1) := by decide +kernel
theorem dX5_clock_38 : decode cX5_clock 38 = .ok (.ireturn, 1) := by decide +kernel
theorem dX5_clock_39 : decode cX5_clock 39 = .ok (.aload_n 0, 1) := by decide +kernel
theorem dX5_clock_40 : decode cX5_clock 40 = .ok (.getfield 29, 3) := by decide +kernel
theorem dX5_clock_43 : decode cX5_clock 43 = .ok (.iload_n 1, 1) := by decide +kernel
theorem dX5_clock_44 : decode cX5_clock 44 = .ok (.iload_n 2, 1) := by decide +kernel
theorem dX5_clock_45 : decode cX5_clock 45 = .ok (.invokevirtual 138, 3) := by decide +kernel
theorem dX5_clock_48 : decode cX5_clock 48 = .ok (.ireturn, 1) := by decide +kernel
theorem dX5_tick_0 : decode cX5_tick 0 = .ok (.iload_n 1, 1) := by decide +kernel
theorem dX5_tick_1 : decode cX5_tick 1 = .ok (.invokestatic 141, 3) := by decide +kernel
theorem dX5_tick_4 : decode cX5_tick 4 = .ok (.ifCond .eq 10, 3) := by decide +kernel
theorem dX5_tick_7 : decode cX5_tick 7 = .ok (.iload_n 2, 1) := by decide +kernel
theorem dX5_tick_8 : decode cX5_tick 8 = .ok (.invokestatic 141, 3) := by decide +kernel
theorem dX5_tick_11 : decode cX5_tick 11 = .ok (.ifCond .ne 6, 3) := by decide +kernel
theorem dX5_tick_14 : decode cX5_tick 14 = .ok (.bipush (-2), 2) := by decide +kernel
theorem dX5_tick_16 : decode cX5_tick 16 = .ok (.ireturn, 1) := by decide +kernel
theorem dX5_tick_17 : decode cX5_tick 17 = .ok (.aload_n 0, 1) := by decide +kernel
theorem dX5_tick_18 : decode cX5_tick 18 = .ok (.getfield 29, 3) := by decide +kernel
theorem dX5_tick_21 : decode cX5_tick 21 = .ok (.invokevirtual 144, 3) := by decide +kernel
theorem dX5_tick_24 : decode cX5_tick 24 = .ok (.ifCond .ne 6, 3) := by decide +kernel
theorem dX5_tick_27 : decode cX5_tick 27 = .ok (.bipush (-3), 2) := by decide +kernel
theorem dX5_tick_29 : decode cX5_tick 29 = .ok (.ireturn, 1) := by decide +kernel
theorem dX5_tick_30 : decode cX5_tick 30 = .ok (.aload_n 0, 1) := by decide +kernel
theorem dX5_tick_31 : decode cX5_tick 31 = .ok (.getfield 36, 3) := by decide +kernel
theorem dX5_tick_34 : decode cX5_tick 34 = .ok (.aload_n 0, 1) := by decide +kernel
theorem dX5_tick_35 : decode cX5_tick 35 = .ok (.getfield 19, 3) := by decide +kernel
theorem dX5_tick_38 : decode cX5_tick 38 = .ok (.invokevirtual 148, 3) := by decide +kernel
theorem dX5_tick_41 : decode cX5_tick 41 = .ok (.aload_n 0, 1) := by decide +kernel
theorem dX5_tick_42 : decode cX5_tick 42 = .ok (.getfield 19, 3) := by decide +kernel
theorem dX5_tick_45 : decode cX5_tick 45 = .ok (.aload_n 0, 1) := by decide +kernel
theorem dX5_tick_46 : decode cX5_tick 46 = .ok (.getfield 29, 3) := by decide +kernel
theorem dX5_tick_49 : decode cX5_tick 49 = .ok (.iload_n 1, 1) := by decide +kernel
theorem dX5_tick_50 : decode cX5_tick 50 = .ok (.iload_n 2, 1) := by decide +kernel
theorem dX5_tick_51 : decode cX5_tick 51 = .ok (.invokevirtual 151, 3) := by decide +kernel
theorem dX5_tick_54 : decode cX5_tick 54 = .ok (.aload_n 0, 1) := by decide +kernel
theorem dX5_tick_55 : decode cX5_tick 55 = .ok (.getfield 19, 3) := by decide +kernel
theorem dX5_tick_58 : decode cX5_tick 58 = .ok (.invokevirtual 107, 3) := by decide +kernel
theorem dX5_tick_61 : decode cX5_tick 61 = .ok (.invokestatic 155, 3) := by decide +kernel
theorem dX5_tick_64 : decode cX5_tick 64 = .ok (.ireturn, 1) := by decide +kernel
theorem dX5_afresh_0 : decode cX5_afresh 0 = .ok (.aload_n 0, 1) := by decide +kernel
theorem dX5_afresh_1 : decode cX5_afresh 1 = .ok (.getfield 19, 3) := by decide +kernel
theorem dX5_afresh_4 : decode cX5_afresh 4 = .ok (.getfield 104, 3) := by decide +kernel
theorem dX5_afresh_7 : decode cX5_afresh 7 = .ok (.istore_n 1, 1) := by decide +kernel
theorem dX5_afresh_8 : decode cX5_afresh 8 = .ok (.aload_n 0, 1) := by decide +kernel
theorem dX5_afresh_9 : decode cX5_afresh 9 = .ok (.getfield 36, 3) := by decide +kernel
theorem dX5_afresh_12 : decode cX5_afresh 12 = .ok (.aload_n 0, 1) := by decide +kernel
theorem dX5_afresh_13 : decode cX5_afresh 13 = .ok (.getfield 19, 3) := by decide +kernel
theorem dX5_afresh_16 : decode cX5_afresh 16 = .ok (.invokevirtual 148, 3) := by decide +kernel
theorem dX5_afresh_19 : decode cX5_afresh 19 = .ok (.aload_n 0, 1) := by decide +kernel
theorem dX5_afresh_20 : decode cX5_afresh 20 = .ok (.getfield 19, 3) := by decide +kernel
theorem dX5_afresh_23 : decode cX5_afresh 23 = .ok (.invokevirtual 79, 3) := by decide +kernel
theorem dX5_afresh_26 : decode cX5_afresh 26 = .ok (.iload_n 1, 1) := by decide +kernel
theorem dX5_afresh_27 : decode cX5_afresh 27 = .ok (.ireturn, 1) := by decide +kernel
theorem dX5_tell_0 : decode cX5_tell 0 = .ok (.aload_n 0, 1) := by decide +kernel
theorem dX5_tell_1 : decode cX5_tell 1 = .ok (.iload_n 1, 1) := by decide +kernel
theorem dX5_tell_2 : decode cX5_tell 2 = .ok (.invokevirtual 112, 3) := by decide +kernel
theorem dX5_tell_5 : decode cX5_tell 5 = .ok (.ifCond .ne 5, 3) := by decide +kernel
theorem dX5_tell_8 : decode cX5_tell 8 = .ok (.iconst (-1), 1) := by decide +kernel
theorem dX5_tell_9 : decode cX5_tell 9 = .ok (.ireturn, 1) := by decide +kernel
theorem dX5_tell_10 : decode cX5_tell 10 = .ok (.aload_n 0, 1) := by decide +kernel
theorem dX5_tell_11 : decode cX5_tell 11 = .ok (.iload_n 2, 1) := by decide +kernel
theorem dX5_tell_12 : decode cX5_tell 12 = .ok (.iload_n 3, 1) := by decide +kernel
theorem dX5_tell_13 : decode cX5_tell 13 = .ok (.iload 4, 2) := by decide +kernel
theorem dX5_tell_15 : decode cX5_tell 15 = .ok (.iload 5, 2) := by decide +kernel
theorem dX5_tell_17 : decode cX5_tell 17 = .ok (.invokevirtual 160, 3) := by decide +kernel
theorem dX5_tell_20 : decode cX5_tell 20 = .ok (.ifCond .ne 6, 3) := by decide +kernel
theorem dX5_tell_23 : decode cX5_tell 23 = .ok (.bipush (-2), 2) := by decide +kernel
theorem dX5_tell_25 : decode cX5_tell 25 = .ok (.ireturn, 1) := by decide +kernel
theorem dX5_tell_26 : decode cX5_tell 26 = .ok (.aload_n 0, 1) := by decide +kernel
theorem dX5_tell_27 : decode cX5_tell 27 = .ok (.getfield 36, 3) := by decide +kernel
theorem dX5_tell_30 : decode cX5_tell 30 = .ok (.aload_n 0, 1) := by decide +kernel
theorem dX5_tell_31 : decode cX5_tell 31 = .ok (.getfield 19, 3) := by decide +kernel
theorem dX5_tell_34 : decode cX5_tell 34 = .ok (.invokevirtual 148, 3) := by decide +kernel
theorem dX5_tell_37 : decode cX5_tell 37 = .ok (.aload_n 0, 1) := by decide +kernel
theorem dX5_tell_38 : decode cX5_tell 38 = .ok (.getfield 19, 3) := by decide +kernel
theorem dX5_tell_41 : decode cX5_tell 41 = .ok (.iload_n 1, 1) := by decide +kernel
theorem dX5_tell_42 : decode cX5_tell 42 = .ok (.iload_n 2, 1) := by decide +kernel
theorem dX5_tell_43 : decode cX5_tell 43 = .ok (.iload_n 3, 1) := by decide +kernel
theorem dX5_tell_44 : decode cX5_tell 44 = .ok (.iload 4, 2) := by decide +kernel
theorem dX5_tell_46 : decode cX5_tell 46 = .ok (.iload 5, 2) := by decide +kernel
theorem dX5_tell_48 : decode cX5_tell 48 = .ok (.invokevirtual 164, 3) := by decide +kernel
theorem dX5_tell_51 : decode cX5_tell 51 = .ok (.aload_n 0, 1) := by decide +kernel
theorem dX5_tell_52 : decode cX5_tell 52 = .ok (.getfield 19, 3) := by decide +kernel
theorem dX5_tell_55 : decode cX5_tell 55 = .ok (.invokevirtual 79, 3) := by decide +kernel
theorem dX5_tell_58 : decode cX5_tell 58 = .ok (.aload_n 0, 1) := by decide +kernel
theorem dX5_tell_59 : decode cX5_tell 59 = .ok (.getfield 29, 3) := by decide +kernel
theorem dX5_tell_62 : decode cX5_tell 62 = .ok (.aload_n 0, 1) := by decide +kernel
theorem dX5_tell_63 : decode cX5_tell 63 = .ok (.getfield 19, 3) := by decide +kernel
theorem dX5_tell_66 : decode cX5_tell 66 = .ok (.invokevirtual 85, 3) := by decide +kernel
theorem dX5_tell_69 : decode cX5_tell 69 = .ok (.aload_n 0, 1) := by decide +kernel
theorem dX5_tell_70 : decode cX5_tell 70 = .ok (.invokevirtual 88, 3) := by decide +kernel
theorem dX5_tell_73 : decode cX5_tell 73 = .ok (.ireturn, 1) := by decide +kernel
theorem dX5_undo_0 : decode cX5_undo 0 = .ok (.aload_n 0, 1) := by decide +kernel
theorem dX5_undo_1 : decode cX5_undo 1 = .ok (.getfield 36, 3) := by decide +kernel
theorem dX5_undo_4 : decode cX5_undo 4 = .ok (.getfield 110, 3) := by decide +kernel
theorem dX5_undo_7 : decode cX5_undo 7 = .ok (.ifCond .ne 6, 3) := by decide +kernel
theorem dX5_undo_10 : decode cX5_undo 10 = .ok (.bipush (-3), 2) := by decide +kernel
theorem dX5_undo_12 : decode cX5_undo 12 = .ok (.ireturn, 1) := by decide +kernel
theorem dX5_undo_13 : decode cX5_undo 13 = .ok (.aload_n 0, 1) := by decide +kernel
theorem dX5_undo_14 : decode cX5_undo 14 = .ok (.getfield 36, 3) := by decide +kernel
theorem dX5_undo_17 : decode cX5_undo 17 = .ok (.aload_n 0, 1) := by decide +kernel
theorem dX5_undo_18 : decode cX5_undo 18 = .ok (.getfield 19, 3) := by decide +kernel
theorem dX5_undo_21 : decode cX5_undo 21 = .ok (.invokevirtual 168, 3) := by decide +kernel
theorem dX5_undo_24 : decode cX5_undo 24 = .ok (.aload_n 0, 1) := by decide +kernel
theorem dX5_undo_25 : decode cX5_undo 25 = .ok (.getfield 29, 3) := by decide +kernel
theorem dX5_undo_28 : decode cX5_undo 28 = .ok (.aload_n 0, 1) := by decide +kernel
theorem dX5_undo_29 : decode cX5_undo 29 = .ok (.getfield 19, 3) := by decide +kernel
theorem dX5_undo_32 : decode cX5_undo 32 = .ok (.invokevirtual 85, 3) := by decide +kernel
theorem dX5_undo_35 : decode cX5_undo 35 = .ok (.aload_n 0, 1) := by decide +kernel
theorem dX5_undo_36 : decode cX5_undo 36 = .ok (.getfield 36, 3) := by decide +kernel
theorem dX5_undo_39 : decode cX5_undo 39 = .ok (.getfield 110, 3) := by decide +kernel
theorem dX5_undo_42 : decode cX5_undo 42 = .ok (.ireturn, 1) := by decide +kernel
theorem dX5_later_0 : decode cX5_later 0 = .ok (.aload_n 0, 1) := by decide +kernel
theorem dX5_later_1 : decode cX5_later 1 = .ok (.iload_n 1, 1) := by decide +kernel
theorem dX5_later_2 : decode cX5_later 2 = .ok (.invokevirtual 112, 3) := by decide +kernel
theorem dX5_later_5 : decode cX5_later 5 = .ok (.ifCond .ne 5, 3) := by decide +kernel
theorem dX5_later_8 : decode cX5_later 8 = .ok (.iconst (-1), 1) := by decide +kernel
theorem dX5_later_9 : decode cX5_later 9 = .ok (.ireturn, 1) := by decide +kernel
theorem dX5_later_10 : decode cX5_later 10 = .ok (.iload_n 2, 1) := by decide +kernel
theorem dX5_later_11 : decode cX5_later 11 = .ok (.iconst 1, 1) := by decide +kernel
theorem dX5_later_12 : decode cX5_later 12 = .ok (.if_icmp .lt 24, 3) := by decide +kernel
theorem dX5_later_15 : decode cX5_later 15 = .ok (.iload_n 2, 1) := by decide +kernel
theorem dX5_later_16 : decode cX5_later 16 = .ok (.bipush 40, 2) := by decide +kernel
theorem dX5_later_18 : decode cX5_later 18 = .ok (.if_icmp .gt 18, 3) := by decide +kernel
theorem dX5_later_21 : decode cX5_later 21 = .ok (.iload_n 3, 1) := by decide +kernel
theorem dX5_later_22 : decode cX5_later 22 = .ok (.invokestatic 141, 3) := by decide +kernel
theorem dX5_later_25 : decode cX5_later 25 = .ok (.ifCond .eq 11, 3) := by decide +kernel
theorem dX5_later_28 : decode cX5_later 28 = .ok (.iload 4, 2) := by decide +kernel
theorem dX5_later_30 : decode cX5_later 30 = .ok (.invokestatic 141, 3) := by decide +kernel
theorem dX5_later_33 : decode cX5_later 33 = .ok (.ifCond .ne 6, 3) := by decide +kernel
theorem dX5_later_36 : decode cX5_later 36 = .ok (.bipush (-2), 2) := by decide +kernel
theorem dX5_later_38 : decode cX5_later 38 = .ok (.ireturn, 1) := by decide +kernel
theorem dX5_later_39 : decode cX5_later 39 = .ok (.aload_n 0, 1) := by decide +kernel
theorem dX5_later_40 : decode cX5_later 40 = .ok (.getfield 29, 3) := by decide +kernel
theorem dX5_later_43 : decode cX5_later 43 = .ok (.invokevirtual 144, 3) := by decide +kernel
theorem dX5_later_46 : decode cX5_later 46 = .ok (.ifCond .ne 6, 3) := by decide +kernel
theorem dX5_later_49 : decode cX5_later 49 = .ok (.bipush (-3), 2) := by decide +kernel
theorem dX5_later_51 : decode cX5_later 51 = .ok (.ireturn, 1) := by decide +kernel
theorem dX5_later_52 : decode cX5_later 52 = .ok (.aload_n 0, 1) := by decide +kernel
theorem dX5_later_53 : decode cX5_later 53 = .ok (.getfield 23, 3) := by decide +kernel
theorem dX5_later_56 : decode cX5_later 56 = .ok (.aload_n 0, 1) := by decide +kernel
theorem dX5_later_57 : decode cX5_later 57 = .ok (.getfield 19, 3) := by decide +kernel
theorem dX5_later_60 : decode cX5_later 60 = .ok (.invokevirtual 75, 3) := by decide +kernel
theorem dX5_later_63 : decode cX5_later 63 = .ok (.iconst 0, 1) := by decide +kernel
theorem dX5_later_64 : decode cX5_later 64 = .ok (.istore 5, 2) := by decide +kernel
theorem dX5_later_66 : decode cX5_later 66 = .ok (.iload 5, 2) := by decide +kernel
theorem dX5_later_68 : decode cX5_later 68 = .ok (.iload_n 2, 1) := by decide +kernel
theorem dX5_later_69 : decode cX5_later 69 = .ok (.if_icmp .ge 23, 3) := by decide +kernel
theorem dX5_later_72 : decode cX5_later 72 = .ok (.aload_n 0, 1) := by decide +kernel
theorem dX5_later_73 : decode cX5_later 73 = .ok (.getfield 23, 3) := by decide +kernel
theorem dX5_later_76 : decode cX5_later 76 = .ok (.aload_n 0, 1) := by decide +kernel
theorem dX5_later_77 : decode cX5_later 77 = .ok (.getfield 29, 3) := by decide +kernel
theorem dX5_later_80 : decode cX5_later 80 = .ok (.iload_n 3, 1) := by decide +kernel
theorem dX5_later_81 : decode cX5_later 81 = .ok (.iload 4, 2) := by decide +kernel
theorem dX5_later_83 : decode cX5_later 83 = .ok (.invokevirtual 151, 3) := by decide +kernel
theorem dX5_later_86 : decode cX5_later 86 = .ok (.iinc 5 1, 3) := by decide +kernel
theorem dX5_later_89 : decode cX5_later 89 = .ok (.goto (-23), 3) := by decide +kernel
theorem dX5_later_92 : decode cX5_later 92 = .ok (.aload_n 0, 1) := by decide +kernel
theorem dX5_later_93 : decode cX5_later 93 = .ok (.getfield 23, 3) := by decide +kernel
theorem dX5_later_96 : decode cX5_later 96 = .ok (.iload_n 1, 1) := by decide +kernel
theorem dX5_later_97 : decode cX5_later 97 = .ok (.invokevirtual 128, 3) := by decide +kernel
theorem dX5_later_100 : decode cX5_later 100 = .ok (.ireturn, 1) := by decide +kernel
theorem dX5_first_0 : decode cX5_first 0 = .ok (.aload_n 0, 1) := by decide +kernel
theorem dX5_first_1 : decode cX5_first 1 = .ok (.iload_n 1, 1) := by decide +kernel
theorem dX5_first_2 : decode cX5_first 2 = .ok (.invokevirtual 112, 3) := by decide +kernel
theorem dX5_first_5 : decode cX5_first 5 = .ok (.ifCond .ne 5, 3) := by decide +kernel
theorem dX5_first_8 : decode cX5_first 8 = .ok (.iconst (-1), 1) := by decide +kernel
theorem dX5_first_9 : decode cX5_first 9 = .ok (.ireturn, 1) := by decide +kernel
theorem dX5_first_10 : decode cX5_first 10 = .ok (.iload_n 2, 1) := by decide +kernel
theorem dX5_first_11 : decode cX5_first 11 = .ok (.invokestatic 141, 3) := by decide +kernel
theorem dX5_first_14 : decode cX5_first 14 = .ok (.ifCond .eq 18, 3) := by decide +kernel
theorem dX5_first_17 : decode cX5_first 17 = .ok (.iload_n 3, 1) := by decide +kernel
theorem dX5_first_18 : decode cX5_first 18 = .ok (.invokestatic 141, 3) := by decide +kernel
theorem dX5_first_21 : decode cX5_first 21 = .ok (.ifCond .eq 11, 3) := by decide +kernel
theorem dX5_first_24 : decode cX5_first 24 = .ok (.iload 4, 2) := by decide +kernel
theorem dX5_first_26 : decode cX5_first 26 = .ok (.invokestatic 141, 3) := by decide +kernel
theorem dX5_first_29 : decode cX5_first 29 = .ok (.ifCond .ne 6, 3) := by decide +kernel
theorem dX5_first_32 : decode cX5_first 32 = .ok (.bipush (-2), 2) := by decide +kernel
theorem dX5_first_34 : decode cX5_first 34 = .ok (.ireturn, 1) := by decide +kernel
theorem dX5_first_35 : decode cX5_first 35 = .ok (.aload_n 0, 1) := by decide +kernel
theorem dX5_first_36 : decode cX5_first 36 = .ok (.getfield 29, 3) := by decide +kernel
theorem dX5_first_39 : decode cX5_first 39 = .ok (.invokevirtual 144, 3) := by decide +kernel
theorem dX5_first_42 : decode cX5_first 42 = .ok (.ifCond .ne 6, 3) := by decide +kernel
theorem dX5_first_45 : decode cX5_first 45 = .ok (.bipush (-3), 2) := by decide +kernel
theorem dX5_first_47 : decode cX5_first 47 = .ok (.ireturn, 1) := by decide +kernel
theorem dX5_first_48 : decode cX5_first 48 = .ok (.aload_n 0, 1) := by decide +kernel
theorem dX5_first_49 : decode cX5_first 49 = .ok (.getfield 23, 3) := by decide +kernel
theorem dX5_first_52 : decode cX5_first 52 = .ok (.aload_n 0, 1) := by decide +kernel
theorem dX5_first_53 : decode cX5_first 53 = .ok (.getfield 19, 3) := by decide +kernel
theorem dX5_first_56 : decode cX5_first 56 = .ok (.invokevirtual 75, 3) := by decide +kernel
theorem dX5_first_59 : decode cX5_first 59 = .ok (.iconst 1, 1) := by decide +kernel
theorem dX5_first_60 : decode cX5_first 60 = .ok (.istore 5, 2) := by decide +kernel
theorem dX5_first_62 : decode cX5_first 62 = .ok (.iload 5, 2) := by decide +kernel
theorem dX5_first_64 : decode cX5_first 64 = .ok (.bipush 40, 2) := by decide +kernel
theorem dX5_first_66 : decode cX5_first 66 = .ok (.if_icmp .gt 38, 3) := by decide +kernel
theorem dX5_first_69 : decode cX5_first 69 = .ok (.aload_n 0, 1) := by decide +kernel
theorem dX5_first_70 : decode cX5_first 70 = .ok (.getfield 23, 3) := by decide +kernel
theorem dX5_first_73 : decode cX5_first 73 = .ok (.aload_n 0, 1) := by decide +kernel
theorem dX5_first_74 : decode cX5_first 74 = .ok (.getfield 29, 3) := by decide +kernel
theorem dX5_first_77 : decode cX5_first 77 = .ok (.iload_n 3, 1) := by decide +kernel
theorem dX5_first_78 : decode cX5_first 78 = .ok (.iload 4, 2) := by decide +kernel
theorem dX5_first_80 : decode cX5_first 80 = .ok (.invokevirtual 151, 3) := by decide +kernel
theorem dX5_first_83 : decode cX5_first 83 = .ok (.aload_n 0, 1) := by decide +kernel
theorem dX5_first_84 : decode cX5_first 84 = .ok (.getfield 23, 3) := by decide +kernel
theorem dX5_first_87 : decode cX5_first 87 = .ok (.iload_n 1, 1) := by decide +kernel
theorem dX5_first_88 : decode cX5_first 88 = .ok (.invokevirtual 128, 3) := by decide +kernel
theorem dX5_first_91 : decode cX5_first 91 = .ok (.iload_n 2, 1) := by decide +kernel
theorem dX5_first_92 : decode cX5_first 92 = .ok (.if_icmp .ne 6, 3) := by decide +kernel
theorem dX5_first_95 : decode cX5_first 95 = .ok (.iload 5, 2) := by decide +kernel
theorem dX5_first_97 : decode cX5_first 97 = .ok (.ireturn, 1) := by decide +kernel
theorem dX5_first_98 : decode cX5_first 98 = .ok (.iinc 5 1, 3) := by decide +kernel
theorem dX5_first_101 : decode cX5_first 101 = .ok (.goto (-39), 3) := by decide +kernel
theorem dX5_first_104 : decode cX5_first 104 = .ok (.bipush (-9), 2) := by decide +kernel
theorem dX5_first_106 : decode cX5_first 106 = .ok (.ireturn, 1) := by decide +kernel
theorem dX5_round_0 : decode cX5_round 0 = .ok (.iload_n 1, 1) := by decide +kernel
theorem dX5_round_1 : decode cX5_round 1 = .ok (.invokestatic 141, 3) := by decide +kernel
theorem dX5_round_4 : decode cX5_round 4 = .ok (.ifCond .eq 19, 3) := by decide +kernel
theorem dX5_round_7 : decode cX5_round 7 = .ok (.iload_n 2, 1) := by decide +kernel
theorem dX5_round_8 : decode cX5_round 8 = .ok (.invokestatic 141, 3) := by decide +kernel
theorem dX5_round_11 : decode cX5_round 11 = .ok (.ifCond .eq 12, 3) := by decide +kernel
theorem dX5_round_14 : decode cX5_round 14 = .ok (.iload_n 3, 1) := by decide +kernel
theorem dX5_round_15 : decode cX5_round 15 = .ok (.ifCond .lt 8, 3) := by decide +kernel
theorem dX5_round_18 : decode cX5_round 18 = .ok (.iload_n 3, 1) := by decide +kernel
theorem dX5_round_19 : decode cX5_round 19 = .ok (.iconst 1, 1) := by decide +kernel
theorem dX5_round_20 : decode cX5_round 20 = .ok (.if_icmp .le 6, 3) := by decide +kernel
theorem dX5_round_23 : decode cX5_round 23 = .ok (.bipush (-2), 2) := by decide +kernel
theorem dX5_round_25 : decode cX5_round 25 = .ok (.ireturn, 1) := by decide +kernel
theorem dX5_round_26 : decode cX5_round 26 = .ok (.aload_n 0, 1) := by decide +kernel
theorem dX5_round_27 : decode cX5_round 27 = .ok (.getfield 29, 3) := by decide +kernel
theorem dX5_round_30 : decode cX5_round 30 = .ok (.invokevirtual 144, 3) := by decide +kernel
theorem dX5_round_33 : decode cX5_round 33 = .ok (.ifCond .ne 6, 3) := by decide +kernel
theorem dX5_round_36 : decode cX5_round 36 = .ok (.bipush (-3), 2) := by decide +kernel
theorem dX5_round_38 : decode cX5_round 38 = .ok (.ireturn, 1) := by decide +kernel
theorem dX5_round_39 : decode cX5_round 39 = .ok (.aload_n 0, 1) := by decide +kernel
theorem dX5_round_40 : decode cX5_round 40 = .ok (.iload_n 1, 1) := by decide +kernel
theorem dX5_round_41 : decode cX5_round 41 = .ok (.iload_n 2, 1) := by decide +kernel
theorem dX5_round_42 : decode cX5_round 42 = .ok (.invokevirtual 171, 3) := by decide +kernel
theorem dX5_round_45 : decode cX5_round 45 = .ok (.iconst 1, 1) := by decide +kernel
theorem dX5_round_46 : decode cX5_round 46 = .ok (.istore 4, 2) := by decide +kernel
theorem dX5_round_48 : decode cX5_round 48 = .ok (.iload 4, 2) := by decide +kernel
theorem dX5_round_50 : decode cX5_round 50 = .ok (.bipush 40, 2) := by decide +kernel
theorem dX5_round_52 : decode cX5_round 52 = .ok (.if_icmp .gt 54, 3) := by decide +kernel
theorem dX5_round_55 : decode cX5_round 55 = .ok (.iconst 0, 1) := by decide +kernel
theorem dX5_round_56 : decode cX5_round 56 = .ok (.istore 5, 2) := by decide +kernel
theorem dX5_round_58 : decode cX5_round 58 = .ok (.iload 5, 2) := by decide +kernel
theorem dX5_round_60 : decode cX5_round 60 = .ok (.iload 4, 2) := by decide +kernel
theorem dX5_round_62 : decode cX5_round 62 = .ok (.iadd, 1) := by decide +kernel
theorem dX5_round_63 : decode cX5_round 63 = .ok (.bipush 40, 2) := by decide +kernel
theorem dX5_round_65 : decode cX5_round 65 = .ok (.if_icmp .gt 35, 3) := by decide +kernel
theorem dX5_round_68 : decode cX5_round 68 = .ok (.aload_n 0, 1) := by decide +kernel
theorem dX5_round_69 : decode cX5_round 69 = .ok (.iload 5, 2) := by decide +kernel
theorem dX5_round_71 : decode cX5_round 71 = .ok (.iload 5, 2) := by decide +kernel
theorem dX5_round_73 : decode cX5_round 73 = .ok (.iload 4, 2) := by decide +kernel
theorem dX5_round_75 : decode cX5_round 75 = .ok (.iadd, 1) := by decide +kernel
theorem dX5_round_76 : decode cX5_round 76 = .ok (.invokevirtual 175, 3) := by decide +kernel
theorem dX5_round_79 : decode cX5_round 79 = .ok (.ifCond .eq 15, 3) := by decide +kernel
theorem dX5_round_82 : decode cX5_round 82 = .ok (.iload_n 3, 1) := by decide +kernel
theorem dX5_round_83 : decode cX5_round 83 = .ok (.ifCond .ne 8, 3) := by decide +kernel
theorem dX5_round_86 : decode cX5_round 86 = .ok (.iload 4, 2) := by decide +kernel
theorem dX5_round_88 : decode cX5_round 88 = .ok (.goto 5, 3) := by decide +kernel
theorem dX5_round_91 : decode cX5_round 91 = .ok (.iload 5, 2) := by decide +kernel
theorem dX5_round_93 : decode cX5_round 93 = .ok (.ireturn, 1) := by decide +kernel
theorem dX5_round_94 : decode cX5_round 94 = .ok (.iinc 5 1, 3) := by decide +kernel
theorem dX5_round_97 : decode cX5_round 97 = .ok (.goto (-39), 3) := by decide +kernel
theorem dX5_round_100 : decode cX5_round 100 = .ok (.iinc 4 1, 3) := by decide +kernel
theorem dX5_round_103 : decode cX5_round 103 = .ok (.goto (-55), 3) := by decide +kernel
theorem dX5_round_106 : decode cX5_round 106 = .ok (.bipush (-9), 2) := by decide +kernel
theorem dX5_round_108 : decode cX5_round 108 = .ok (.ireturn, 1) := by decide +kernel
theorem dX5_judge_0 : decode cX5_judge 0 = .ok (.iload_n 1, 1) := by decide +kernel
theorem dX5_judge_1 : decode cX5_judge 1 = .ok (.iconst 1, 1) := by decide +kernel
theorem dX5_judge_2 : decode cX5_judge 2 = .ok (.if_icmp .lt 26, 3) := by decide +kernel
theorem dX5_judge_5 : decode cX5_judge 5 = .ok (.iload_n 1, 1) := by decide +kernel
theorem dX5_judge_6 : decode cX5_judge 6 = .ok (.iconst 3, 1) := by decide +kernel
theorem dX5_judge_7 : decode cX5_judge 7 = .ok (.if_icmp .gt 21, 3) := by decide +kernel
theorem dX5_judge_10 : decode cX5_judge 10 = .ok (.lload_n 2, 1) := by decide +kernel
theorem dX5_judge_11 : decode cX5_judge 11 = .ok (.lconst 0, 1) := by decide +kernel
theorem dX5_judge_12 : decode cX5_judge 12 = .ok (.lcmp, 1) := by decide +kernel
theorem dX5_judge_13 : decode cX5_judge 13 = .ok (.ifCond .lt 15, 3) := by decide +kernel
theorem dX5_judge_16 : decode cX5_judge 16 = .ok (.lload_n 2, 1) := by decide +kernel
theorem dX5_judge_17 : decode cX5_judge 17 = .ok (.ldc2_w 179, 3) := by decide +kernel
theorem dX5_judge_20 : decode cX5_judge 20 = .ok (.iload_n 1, 1) := by decide +kernel
theorem dX5_judge_21 : decode cX5_judge 21 = .ok (.invokestatic 181, 3) := by decide +kernel
theorem dX5_judge_24 : decode cX5_judge 24 = .ok (.lcmp, 1) := by decide +kernel
theorem dX5_judge_25 : decode cX5_judge 25 = .ok (.ifCond .lt 6, 3) := by decide +kernel
theorem dX5_judge_28 : decode cX5_judge 28 = .ok (.bipush (-2), 2) := by decide +kernel
theorem dX5_judge_30 : decode cX5_judge 30 = .ok (.ireturn, 1) := by decide +kernel
theorem dX5_judge_31 : decode cX5_judge 31 = .ok (.aload_n 0, 1) := by decide +kernel
theorem dX5_judge_32 : decode cX5_judge 32 = .ok (.getfield 29, 3) := by decide +kernel
theorem dX5_judge_35 : decode cX5_judge 35 = .ok (.invokevirtual 144, 3) := by decide +kernel
theorem dX5_judge_38 : decode cX5_judge 38 = .ok (.ifCond .ne 6, 3) := by decide +kernel
theorem dX5_judge_41 : decode cX5_judge 41 = .ok (.bipush (-3), 2) := by decide +kernel
theorem dX5_judge_43 : decode cX5_judge 43 = .ok (.ireturn, 1) := by decide +kernel
theorem dX5_judge_44 : decode cX5_judge 44 = .ok (.aload_n 0, 1) := by decide +kernel
theorem dX5_judge_45 : decode cX5_judge 45 = .ok (.getfield 23, 3) := by decide +kernel
theorem dX5_judge_48 : decode cX5_judge 48 = .ok (.aload_n 0, 1) := by decide +kernel
theorem dX5_judge_49 : decode cX5_judge 49 = .ok (.getfield 19, 3) := by decide +kernel
theorem dX5_judge_52 : decode cX5_judge 52 = .ok (.invokevirtual 75, 3) := by decide +kernel
theorem dX5_judge_55 : decode cX5_judge 55 = .ok (.iconst 0, 1) := by decide +kernel
theorem dX5_judge_56 : decode cX5_judge 56 = .ok (.istore 4, 2) := by decide +kernel
theorem dX5_judge_58 : decode cX5_judge 58 = .ok (.iload 4, 2) := by decide +kernel
theorem dX5_judge_60 : decode cX5_judge 60 = .ok (.iload_n 1, 1) := by decide +kernel
theorem dX5_judge_61 : decode cX5_judge 61 = .ok (.if_icmp .ge 55, 3) := by decide +kernel
theorem dX5_judge_64 : decode cX5_judge 64 = .ok (.lload_n 2, 1) := by decide +kernel
theorem dX5_judge_65 : decode cX5_judge 65 = .ok (.lstore 5, 2) := by decide +kernel
theorem dX5_judge_67 : decode cX5_judge 67 = .ok (.iload 4, 2) := by decide +kernel
theorem dX5_judge_69 : decode cX5_judge 69 = .ok (.iconst 1, 1) := by decide +kernel
theorem dX5_judge_70 : decode cX5_judge 70 = .ok (.iadd, 1) := by decide +kernel
theorem dX5_judge_71 : decode cX5_judge 71 = .ok (.istore 7, 2) := by decide +kernel
theorem dX5_judge_73 : decode cX5_judge 73 = .ok (.iload 7, 2) := by decide +kernel
theorem dX5_judge_75 : decode cX5_judge 75 = .ok (.iload_n 1, 1) := by decide +kernel
theorem dX5_judge_76 : decode cX5_judge 76 = .ok (.if_icmp .ge 17, 3) := by decide +kernel
theorem dX5_judge_79 : decode cX5_judge 79 = .ok (.lload 5, 2) := by decide +kernel
theorem dX5_judge_81 : decode cX5_judge 81 = .ok (.ldc2_w 179, 3) := by decide +kernel
theorem dX5_judge_84 : decode cX5_judge 84 = .ok (.ldiv, 1) := by decide +kernel
theorem dX5_judge_85 : decode cX5_judge 85 = .ok (.lstore 5, 2) := by decide +kernel
theorem dX5_judge_87 : decode cX5_judge 87 = .ok (.iinc 7 1, 3) := by decide +kernel
theorem dX5_judge_90 : decode cX5_judge 90 = .ok (.goto (-17), 3) := by decide +kernel
theorem dX5_judge_93 : decode cX5_judge 93 = .ok (.aload_n 0, 1) := by decide +kernel
theorem dX5_judge_94 : decode cX5_judge 94 = .ok (.lload 5, 2) := by decide +kernel
theorem dX5_judge_96 : decode cX5_judge 96 = .ok (.ldc2_w 179, 3) := by decide +kernel
theorem dX5_judge_99 : decode cX5_judge 99 = .ok (.lrem, 1) := by decide +kernel
theorem dX5_judge_100 : decode cX5_judge 100 = .ok (.l2i, 1) := by decide +kernel
theorem dX5_judge_101 : decode cX5_judge 101 = .ok (.invokevirtual 185, 3) := by decide +kernel
theorem dX5_judge_104 : decode cX5_judge 104 = .ok (.ifCond .ne 6, 3) := by decide +kernel
theorem dX5_judge_107 : decode cX5_judge 107 = .ok (.iload 4, 2) := by decide +kernel
theorem dX5_judge_109 : decode cX5_judge 109 = .ok (.ireturn, 1) := by decide +kernel
theorem dX5_judge_110 : decode cX5_judge 110 = .ok (.iinc 4 1, 3) := by decide +kernel
theorem dX5_judge_113 : decode cX5_judge 113 = .ok (.goto (-55), 3) := by decide +kernel
theorem dX5_judge_116 : decode cX5_judge 116 = .ok (.bipush (-9), 2) := by decide +kernel
theorem dX5_judge_118 : decode cX5_judge 118 = .ok (.ireturn, 1) := by decide +kernel
theorem dX5_see_0 : decode cX5_see 0 = .ok (.iload_n 1, 1) := by decide +kernel
theorem dX5_see_1 : decode cX5_see 1 = .ok (.iconst 1, 1) := by decide +kernel
theorem dX5_see_2 : decode cX5_see 2 = .ok (.if_icmp .lt 19, 3) := by decide +kernel
theorem dX5_see_5 : decode cX5_see 5 = .ok (.iload_n 1, 1) := by decide +kernel
theorem dX5_see_6 : decode cX5_see 6 = .ok (.bipush 12, 2) := by decide +kernel
theorem dX5_see_8 : decode cX5_see 8 = .ok (.if_icmp .gt 13, 3) := by decide +kernel
theorem dX5_see_11 : decode cX5_see 11 = .ok (.iload_n 2, 1) := by decide +kernel
theorem dX5_see_12 : decode cX5_see 12 = .ok (.ifCond .lt 9, 3) := by decide +kernel
theorem dX5_see_15 : decode cX5_see 15 = .ok (.iload_n 2, 1) := by decide +kernel
theorem dX5_see_16 : decode cX5_see 16 = .ok (.bipush 8, 2) := by decide +kernel
theorem dX5_see_18 : decode cX5_see 18 = .ok (.if_icmp .lt 6, 3) := by decide +kernel
theorem dX5_see_21 : decode cX5_see 21 = .ok (.bipush (-2), 2) := by decide +kernel
theorem dX5_see_23 : decode cX5_see 23 = .ok (.ireturn, 1) := by decide +kernel
theorem dX5_see_24 : decode cX5_see 24 = .ok (.iload_n 3, 1) := by decide +kernel
theorem dX5_see_25 : decode cX5_see 25 = .ok (.invokestatic 141, 3) := by decide +kernel
theorem dX5_see_28 : decode cX5_see 28 = .ok (.ifCond .eq 14, 3) := by decide +kernel
theorem dX5_see_31 : decode cX5_see 31 = .ok (.iload 4, 2) := by decide +kernel
theorem dX5_see_33 : decode cX5_see 33 = .ok (.ifCond .lt 9, 3) := by decide +kernel
theorem dX5_see_36 : decode cX5_see 36 = .ok (.iload 4, 2) := by decide +kernel
theorem dX5_see_38 : decode cX5_see 38 = .ok (.iconst 1, 1) := by decide +kernel
theorem dX5_see_39 : decode cX5_see 39 = .ok (.if_icmp .le 6, 3) := by decide +kernel
theorem dX5_see_42 : decode cX5_see 42 = .ok (.bipush (-2), 2) := by decide +kernel
theorem dX5_see_44 : decode cX5_see 44 = .ok (.ireturn, 1) := by decide +kernel
theorem dX5_see_45 : decode cX5_see 45 = .ok (.aload_n 0, 1) := by decide +kernel
theorem dX5_see_46 : decode cX5_see 46 = .ok (.getfield 43, 3) := by decide +kernel
theorem dX5_see_49 : decode cX5_see 49 = .ok (.iload_n 1, 1) := by decide +kernel
theorem dX5_see_50 : decode cX5_see 50 = .ok (.iload_n 2, 1) := by decide +kernel
theorem dX5_see_51 : decode cX5_see 51 = .ok (.iload_n 3, 1) := by decide +kernel
theorem dX5_see_52 : decode cX5_see 52 = .ok (.iload 4, 2) := by decide +kernel
theorem dX5_see_54 : decode cX5_see 54 = .ok (.invokevirtual 188, 3) := by decide +kernel
theorem dX5_see_57 : decode cX5_see 57 = .ok (.ifCond .eq 13, 3) := by decide +kernel
theorem dX5_see_60 : decode cX5_see 60 = .ok (.aload_n 0, 1) := by decide +kernel
theorem dX5_see_61 : decode cX5_see 61 = .ok (.getfield 43, 3) := by decide +kernel
theorem dX5_see_64 : decode cX5_see 64 = .ok (.getfield 111, 3) := by decide +kernel
theorem dX5_see_67 : decode cX5_see 67 = .ok (.goto 5, 3) := by decide +kernel
theorem dX5_see_70 : decode cX5_see 70 = .ok (.bipush (-4), 2) := by decide +kernel
theorem dX5_see_72 : decode cX5_see 72 = .ok (.ireturn, 1) := by decide +kernel
theorem dX5_unsee_0 : decode cX5_unsee 0 = .ok (.aload_n 0, 1) := by decide +kernel
theorem dX5_unsee_1 : decode cX5_unsee 1 = .ok (.getfield 43, 3) := by decide +kernel
theorem dX5_unsee_4 : decode cX5_unsee 4 = .ok (.getfield 111, 3) := by decide +kernel
theorem dX5_unsee_7 : decode cX5_unsee 7 = .ok (.istore_n 1, 1) := by decide +kernel
theorem dX5_unsee_8 : decode cX5_unsee 8 = .ok (.aload_n 0, 1) := by decide +kernel
theorem dX5_unsee_9 : decode cX5_unsee 9 = .ok (.getfield 43, 3) := by decide +kernel
theorem dX5_unsee_12 : decode cX5_unsee 12 = .ok (.iconst 0, 1) := by decide +kernel
theorem dX5_unsee_13 : decode cX5_unsee 13 = .ok (.putfield 111, 3) := by decide +kernel
theorem dX5_unsee_16 : decode cX5_unsee 16 = .ok (.iload_n 1, 1) := by decide +kernel
theorem dX5_unsee_17 : decode cX5_unsee 17 = .ok (.ireturn, 1) := by decide +kernel
theorem dX5_inputs_0 : decode cX5_inputs 0 = .ok (.iload_n 1, 1) := by decide +kernel
theorem dX5_inputs_1 : decode cX5_inputs 1 = .ok (.ifCond .lt 8, 3) := by decide +kernel
theorem dX5_inputs_4 : decode cX5_inputs 4 = .ok (.iload_n 1, 1) := by decide +kernel
theorem dX5_inputs_5 : decode cX5_inputs 5 = .ok (.iconst 1, 1) := by decide +kernel
theorem dX5_inputs_6 : decode cX5_inputs 6 = .ok (.if_icmp .le 6, 3) := by decide +kernel
theorem dX5_inputs_9 : decode cX5_inputs 9 = .ok (.bipush (-2), 2) := by decide +kernel
theorem dX5_inputs_11 : decode cX5_inputs 11 = .ok (.ireturn, 1) := by decide +kernel
theorem dX5_inputs_12 : decode cX5_inputs 12 = .ok (.aload_n 0, 1) := by decide +kernel
theorem dX5_inputs_13 : decode cX5_inputs 13 = .ok (.getfield 29, 3) := by decide +kernel
theorem dX5_inputs_16 : decode cX5_inputs 16 = .ok (.invokevirtual 144, 3) := by decide +kernel
theorem dX5_inputs_19 : decode cX5_inputs 19 = .ok (.ifCond .ne 6, 3) := by decide +kernel
theorem dX5_inputs_22 : decode cX5_inputs 22 = .ok (.bipush (-3), 2) := by decide +kernel
theorem dX5_inputs_24 : decode cX5_inputs 24 = .ok (.ireturn, 1) := by decide +kernel
theorem dX5_inputs_25 : decode cX5_inputs 25 = .ok (.iconst 0, 1) := by decide +kernel
theorem dX5_inputs_26 : decode cX5_inputs 26 = .ok (.istore_n 2, 1) := by decide +kernel
theorem dX5_inputs_27 : decode cX5_inputs 27 = .ok (.bipush (-9), 2) := by decide +kernel
theorem dX5_inputs_29 : decode cX5_inputs 29 = .ok (.istore_n 3, 1) := by decide +kernel
theorem dX5_inputs_30 : decode cX5_inputs 30 = .ok (.iconst 0, 1) := by decide +kernel
theorem dX5_inputs_31 : decode cX5_inputs 31 = .ok (.istore 4, 2) := by decide +kernel
theorem dX5_inputs_33 : decode cX5_inputs 33 = .ok (.iload 4, 2) := by decide +kernel
theorem dX5_inputs_35 : decode cX5_inputs 35 = .ok (.bipush 100, 2) := by decide +kernel
theorem dX5_inputs_37 : decode cX5_inputs 37 = .ok (.if_icmp .ge 40, 3) := by decide +kernel
theorem dX5_inputs_40 : decode cX5_inputs 40 = .ok (.aload_n 0, 1) := by decide +kernel
theorem dX5_inputs_41 : decode cX5_inputs 41 = .ok (.iload 4, 2) := by decide +kernel
theorem dX5_inputs_43 : decode cX5_inputs 43 = .ok (.bipush 10, 2) := by decide +kernel
theorem dX5_inputs_45 : decode cX5_inputs 45 = .ok (.idiv, 1) := by decide +kernel
theorem dX5_inputs_46 : decode cX5_inputs 46 = .ok (.iload 4, 2) := by decide +kernel
theorem dX5_inputs_48 : decode cX5_inputs 48 = .ok (.bipush 10, 2) := by decide +kernel
theorem dX5_inputs_50 : decode cX5_inputs 50 = .ok (.irem, 1) := by decide +kernel
theorem dX5_inputs_51 : decode cX5_inputs 51 = .ok (.invokevirtual 191, 3) := by decide +kernel
theorem dX5_inputs_54 : decode cX5_inputs 54 = .ok (.ifCond .eq 17, 3) := by decide +kernel
theorem dX5_inputs_57 : decode cX5_inputs 57 = .ok (.iload_n 2, 1) := by decide +kernel
theorem dX5_inputs_58 : decode cX5_inputs 58 = .ok (.ifCond .ne 8, 3) := by decide +kernel
theorem dX5_inputs_61 : decode cX5_inputs 61 = .ok (.iload 4, 2) := by decide +kernel
theorem dX5_inputs_63 : decode cX5_inputs 63 = .ok (.goto 4, 3) := by decide +kernel
theorem dX5_inputs_66 : decode cX5_inputs 66 = .ok (.iload_n 3, 1) := by decide +kernel
theorem dX5_inputs_67 : decode cX5_inputs 67 = .ok (.istore_n 3, 1) := by decide +kernel
theorem dX5_inputs_68 : decode cX5_inputs 68 = .ok (.iinc 2 1, 3) := by decide +kernel
theorem dX5_inputs_71 : decode cX5_inputs 71 = .ok (.iinc 4 1, 3) := by decide +kernel
theorem dX5_inputs_74 : decode cX5_inputs 74 = .ok (.goto (-41), 3) := by decide +kernel
theorem dX5_inputs_77 : decode cX5_inputs 77 = .ok (.iload_n 1, 1) := by decide +kernel
theorem dX5_inputs_78 : decode cX5_inputs 78 = .ok (.ifCond .ne 7, 3) := by decide +kernel
theorem dX5_inputs_81 : decode cX5_inputs 81 = .ok (.iload_n 2, 1) := by decide +kernel
theorem dX5_inputs_82 : decode cX5_inputs 82 = .ok (.goto 4, 3) := by decide +kernel
theorem dX5_inputs_85 : decode cX5_inputs 85 = .ok (.iload_n 3, 1) := by decide +kernel
theorem dX5_inputs_86 : decode cX5_inputs 86 = .ok (.ireturn, 1) := by decide +kernel
theorem dX5_odds_0 : decode cX5_odds 0 = .ok (.aload_n 0, 1) := by decide +kernel
theorem dX5_odds_1 : decode cX5_odds 1 = .ok (.iload_n 1, 1) := by decide +kernel
theorem dX5_odds_2 : decode cX5_odds 2 = .ok (.invokevirtual 112, 3) := by decide +kernel
theorem dX5_odds_5 : decode cX5_odds 5 = .ok (.ifCond .ne 5, 3) := by decide +kernel
theorem dX5_odds_8 : decode cX5_odds 8 = .ok (.iconst (-1), 1) := by decide +kernel
theorem dX5_odds_9 : decode cX5_odds 9 = .ok (.ireturn, 1) := by decide +kernel
theorem dX5_odds_10 : decode cX5_odds 10 = .ok (.iload_n 2, 1) := by decide +kernel
theorem dX5_odds_11 : decode cX5_odds 11 = .ok (.ifCond .lt 32, 3) := by decide +kernel
theorem dX5_odds_14 : decode cX5_odds 14 = .ok (.iload_n 2, 1) := by decide +kernel
theorem dX5_odds_15 : decode cX5_odds 15 = .ok (.bipush 6, 2) := by decide +kernel
theorem dX5_odds_17 : decode cX5_odds 17 = .ok (.if_icmp .gt 26, 3) := by decide +kernel
theorem dX5_odds_20 : decode cX5_odds 20 = .ok (.iload_n 3, 1) := by decide +kernel
theorem dX5_odds_21 : decode cX5_odds 21 = .ok (.iconst 1, 1) := by decide +kernel
theorem dX5_odds_22 : decode cX5_odds 22 = .ok (.if_icmp .lt 21, 3) := by decide +kernel
theorem dX5_odds_25 : decode cX5_odds 25 = .ok (.iload_n 3, 1) := by decide +kernel
theorem dX5_odds_26 : decode cX5_odds 26 = .ok (.bipush 6, 2) := by decide +kernel
theorem dX5_odds_28 : decode cX5_odds 28 = .ok (.if_icmp .gt 15, 3) := by decide +kernel
theorem dX5_odds_31 : decode cX5_odds 31 = .ok (.iload 4, 2) := by decide +kernel
theorem dX5_odds_33 : decode cX5_odds 33 = .ok (.ifCond .lt 10, 3) := by decide +kernel
theorem dX5_odds_36 : decode cX5_odds 36 = .ok (.iload 4, 2) := by decide +kernel
theorem dX5_odds_38 : decode cX5_odds 38 = .ok (.bipush 10, 2) := by decide +kernel
theorem dX5_odds_40 : decode cX5_odds 40 = .ok (.if_icmp .le 6, 3) := by decide +kernel
theorem dX5_odds_43 : decode cX5_odds 43 = .ok (.bipush (-2), 2) := by decide +kernel
theorem dX5_odds_45 : decode cX5_odds 45 = .ok (.ireturn, 1) := by decide +kernel
theorem dX5_odds_46 : decode cX5_odds 46 = .ok (.aload_n 0, 1) := by decide +kernel
theorem dX5_odds_47 : decode cX5_odds 47 = .ok (.getfield 29, 3) := by decide +kernel
theorem dX5_odds_50 : decode cX5_odds 50 = .ok (.invokevirtual 144, 3) := by decide +kernel
theorem dX5_odds_53 : decode cX5_odds 53 = .ok (.ifCond .ne 6, 3) := by decide +kernel
theorem dX5_odds_56 : decode cX5_odds 56 = .ok (.bipush (-3), 2) := by decide +kernel
theorem dX5_odds_58 : decode cX5_odds 58 = .ok (.ireturn, 1) := by decide +kernel
theorem dX5_odds_59 : decode cX5_odds 59 = .ok (.iconst 0, 1) := by decide +kernel
theorem dX5_odds_60 : decode cX5_odds 60 = .ok (.istore 6, 2) := by decide +kernel
theorem dX5_odds_62 : decode cX5_odds 62 = .ok (.iconst 0, 1) := by decide +kernel
theorem dX5_odds_63 : decode cX5_odds 63 = .ok (.istore 7, 2) := by decide +kernel
theorem dX5_odds_65 : decode cX5_odds 65 = .ok (.iload 7, 2) := by decide +kernel
theorem dX5_odds_67 : decode cX5_odds 67 = .ok (.iconst 1, 1) := by decide +kernel
theorem dX5_odds_68 : decode cX5_odds 68 = .ok (.iload_n 3, 1) := by decide +kernel
theorem dX5_odds_69 : decode cX5_odds 69 = .ok (.ishl, 1) := by decide +kernel
theorem dX5_odds_70 : decode cX5_odds 70 = .ok (.if_icmp .ge 34, 3) := by decide +kernel
theorem dX5_odds_73 : decode cX5_odds 73 = .ok (.aload_n 0, 1) := by decide +kernel
theorem dX5_odds_74 : decode cX5_odds 74 = .ok (.iload_n 1, 1) := by decide +kernel
theorem dX5_odds_75 : decode cX5_odds 75 = .ok (.iload_n 3, 1) := by decide +kernel
theorem dX5_odds_76 : decode cX5_odds 76 = .ok (.iload 7, 2) := by decide +kernel
theorem dX5_odds_78 : decode cX5_odds 78 = .ok (.invokevirtual 194, 3) := by decide +kernel
theorem dX5_odds_81 : decode cX5_odds 81 = .ok (.iload_n 2, 1) := by decide +kernel
theorem dX5_odds_82 : decode cX5_odds 82 = .ok (.if_icmp .lt 16, 3) := by decide +kernel
theorem dX5_odds_85 : decode cX5_odds 85 = .ok (.iload 6, 2) := by decide +kernel
theorem dX5_odds_87 : decode cX5_odds 87 = .ok (.iload_n 3, 1) := by decide +kernel
theorem dX5_odds_88 : decode cX5_odds 88 = .ok (.iload 7, 2) := by decide +kernel
theorem dX5_odds_90 : decode cX5_odds 90 = .ok (.iload 4, 2) := by decide +kernel
theorem dX5_odds_92 : decode cX5_odds 92 = .ok (.invokestatic 198, 3) := by decide +kernel
theorem dX5_odds_95 : decode cX5_odds 95 = .ok (.iadd, 1) := by decide +kernel
theorem dX5_odds_96 : decode cX5_odds 96 = .ok (.istore 6, 2) := by decide +kernel
theorem dX5_odds_98 : decode cX5_odds 98 = .ok (.iinc 7 1, 3) := by decide +kernel
theorem dX5_odds_101 : decode cX5_odds 101 = .ok (.goto (-36), 3) := by decide +kernel
theorem dX5_odds_104 : decode cX5_odds 104 = .ok (.ldc2_w 201, 3) := by decide +kernel
theorem dX5_odds_107 : decode cX5_odds 107 = .ok (.iload_n 3, 1) := by decide +kernel
theorem dX5_odds_108 : decode cX5_odds 108 = .ok (.invokestatic 181, 3) := by decide +kernel
theorem dX5_odds_111 : decode cX5_odds 111 = .ok (.l2i, 1) := by decide +kernel
theorem dX5_odds_112 : decode cX5_odds 112 = .ok (.istore 7, 2) := by decide +kernel
theorem dX5_odds_114 : decode cX5_odds 114 = .ok (.iload 6, 2) := by decide +kernel
theorem dX5_odds_116 : decode cX5_odds 116 = .ok (.iload 7, 2) := by decide +kernel
theorem dX5_odds_118 : decode cX5_odds 118 = .ok (.invokestatic 203, 3) := by decide +kernel
theorem dX5_odds_121 : decode cX5_odds 121 = .ok (.istore 8, 2) := by decide +kernel
theorem dX5_odds_123 : decode cX5_odds 123 = .ok (.iload 8, 2) := by decide +kernel
theorem dX5_odds_125 : decode cX5_odds 125 = .ok (.ifCond .ne 6, 3) := by decide +kernel
theorem dX5_odds_128 : decode cX5_odds 128 = .ok (.bipush (-9), 2) := by decide +kernel
theorem dX5_odds_130 : decode cX5_odds 130 = .ok (.ireturn, 1) := by decide +kernel
theorem dX5_odds_131 : decode cX5_odds 131 = .ok (.iload 5, 2) := by decide +kernel
theorem dX5_odds_133 : decode cX5_odds 133 = .ok (.ifCond .eq 8, 3) := by decide +kernel
theorem dX5_odds_136 : decode cX5_odds 136 = .ok (.iload 6, 2) := by decide +kernel
theorem dX5_odds_138 : decode cX5_odds 138 = .ok (.goto 5, 3) := by decide +kernel
theorem dX5_odds_141 : decode cX5_odds 141 = .ok (.iload 7, 2) := by decide +kernel
theorem dX5_odds_143 : decode cX5_odds 143 = .ok (.iload 8, 2) := by decide +kernel
theorem dX5_odds_145 : decode cX5_odds 145 = .ok (.idiv, 1) := by decide +kernel
end
section
theorem dX5_odds_146 : decode cX5_odds 146 = .ok (.ireturn, 1) := by decide +kernel
theorem dX5_seed_0 : decode cX5_seed 0 = .ok (.aload_n 0, 1) := by decide +kernel
theorem dX5_seed_1 : decode cX5_seed 1 = .ok (.getfield 59, 3) := by decide +kernel
theorem dX5_seed_4 : decode cX5_seed 4 = .ok (.lstore_n 3, 1) := by decide +kernel
theorem dX5_seed_5 : decode cX5_seed 5 = .ok (.aload_n 0, 1) := by decide +kernel
theorem dX5_seed_6 : decode cX5_seed 6 = .ok (.lload_n 1, 1) := by decide +kernel
theorem dX5_seed_7 : decode cX5_seed 7 = .ok (.putfield 59, 3) := by decide +kernel
theorem dX5_seed_10 : decode cX5_seed 10 = .ok (.lload_n 3, 1) := by decide +kernel
theorem dX5_seed_11 : decode cX5_seed 11 = .ok (.lreturn, 1) := by decide +kernel
theorem dX5_runs_0 : decode cX5_runs 0 = .ok (.iload_n 1, 1) := by decide +kernel
theorem dX5_runs_1 : decode cX5_runs 1 = .ok (.iconst 1, 1) := by decide +kernel
theorem dX5_runs_2 : decode cX5_runs 2 = .ok (.if_icmp .lt 9, 3) := by decide +kernel
theorem dX5_runs_5 : decode cX5_runs 5 = .ok (.iload_n 1, 1) := by decide +kernel
theorem dX5_runs_6 : decode cX5_runs 6 = .ok (.bipush 30, 2) := by decide +kernel
theorem dX5_runs_8 : decode cX5_runs 8 = .ok (.if_icmp .le 6, 3) := by decide +kernel
theorem dX5_runs_11 : decode cX5_runs 11 = .ok (.bipush (-2), 2) := by decide +kernel
theorem dX5_runs_13 : decode cX5_runs 13 = .ok (.ireturn, 1) := by decide +kernel
theorem dX5_runs_14 : decode cX5_runs 14 = .ok (.aload_n 0, 1) := by decide +kernel
theorem dX5_runs_15 : decode cX5_runs 15 = .ok (.getfield 29, 3) := by decide +kernel
theorem dX5_runs_18 : decode cX5_runs 18 = .ok (.invokevirtual 144, 3) := by decide +kernel
theorem dX5_runs_21 : decode cX5_runs 21 = .ok (.ifCond .ne 6, 3) := by decide +kernel
theorem dX5_runs_24 : decode cX5_runs 24 = .ok (.bipush (-3), 2) := by decide +kernel
theorem dX5_runs_26 : decode cX5_runs 26 = .ok (.ireturn, 1) := by decide +kernel
theorem dX5_runs_27 : decode cX5_runs 27 = .ok (.iconst 0, 1) := by decide +kernel
theorem dX5_runs_28 : decode cX5_runs 28 = .ok (.istore_n 2, 1) := by decide +kernel
theorem dX5_runs_29 : decode cX5_runs 29 = .ok (.aload_n 0, 1) := by decide +kernel
theorem dX5_runs_30 : decode cX5_runs 30 = .ok (.getfield 23, 3) := by decide +kernel
theorem dX5_runs_33 : decode cX5_runs 33 = .ok (.aload_n 0, 1) := by decide +kernel
theorem dX5_runs_34 : decode cX5_runs 34 = .ok (.getfield 19, 3) := by decide +kernel
theorem dX5_runs_37 : decode cX5_runs 37 = .ok (.invokevirtual 75, 3) := by decide +kernel
theorem dX5_runs_40 : decode cX5_runs 40 = .ok (.iconst 0, 1) := by decide +kernel
theorem dX5_runs_41 : decode cX5_runs 41 = .ok (.istore_n 3, 1) := by decide +kernel
theorem dX5_runs_42 : decode cX5_runs 42 = .ok (.iload_n 3, 1) := by decide +kernel
theorem dX5_runs_43 : decode cX5_runs 43 = .ok (.iload_n 1, 1) := by decide +kernel
theorem dX5_runs_44 : decode cX5_runs 44 = .ok (.if_icmp .ge 69, 3) := by decide +kernel
theorem dX5_runs_47 : decode cX5_runs 47 = .ok (.aload_n 0, 1) := by decide +kernel
theorem dX5_runs_48 : decode cX5_runs 48 = .ok (.aload_n 0, 1) := by decide +kernel
theorem dX5_runs_49 : decode cX5_runs 49 = .ok (.getfield 59, 3) := by decide +kernel
theorem dX5_runs_52 : decode cX5_runs 52 = .ok (.ldc2_w 206, 3) := by decide +kernel
theorem dX5_runs_55 : decode cX5_runs 55 = .ok (.lmul, 1) := by decide +kernel
theorem dX5_runs_56 : decode cX5_runs 56 = .ok (.ldc2_w 208, 3) := by decide +kernel
theorem dX5_runs_59 : decode cX5_runs 59 = .ok (.ladd, 1) := by decide +kernel
theorem dX5_runs_60 : decode cX5_runs 60 = .ok (.putfield 59, 3) := by decide +kernel
theorem dX5_runs_63 : decode cX5_runs 63 = .ok (.aload_n 0, 1) := by decide +kernel
theorem dX5_runs_64 : decode cX5_runs 64 = .ok (.getfield 59, 3) := by decide +kernel
theorem dX5_runs_67 : decode cX5_runs 67 = .ok (.bipush 33, 2) := by decide +kernel
theorem dX5_runs_69 : decode cX5_runs 69 = .ok (.lushr, 1) := by decide +kernel
theorem dX5_runs_70 : decode cX5_runs 70 = .ok (.l2i, 1) := by decide +kernel
theorem dX5_runs_71 : decode cX5_runs 71 = .ok (.istore 4, 2) := by decide +kernel
theorem dX5_runs_73 : decode cX5_runs 73 = .ok (.aload_n 0, 1) := by decide +kernel
theorem dX5_runs_74 : decode cX5_runs 74 = .ok (.getfield 23, 3) := by decide +kernel
theorem dX5_runs_77 : decode cX5_runs 77 = .ok (.aload_n 0, 1) := by decide +kernel
theorem dX5_runs_78 : decode cX5_runs 78 = .ok (.getfield 29, 3) := by decide +kernel
theorem dX5_runs_81 : decode cX5_runs 81 = .ok (.iload 4, 2) := by decide +kernel
theorem dX5_runs_83 : decode cX5_runs 83 = .ok (.bipush 10, 2) := by decide +kernel
theorem dX5_runs_85 : decode cX5_runs 85 = .ok (.irem, 1) := by decide +kernel
theorem dX5_runs_86 : decode cX5_runs 86 = .ok (.iload 4, 2) := by decide +kernel
theorem dX5_runs_88 : decode cX5_runs 88 = .ok (.bipush 16, 2) := by decide +kernel
theorem dX5_runs_90 : decode cX5_runs 90 = .ok (.idiv, 1) := by decide +kernel
theorem dX5_runs_91 : decode cX5_runs 91 = .ok (.bipush 10, 2) := by decide +kernel
theorem dX5_runs_93 : decode cX5_runs 93 = .ok (.irem, 1) := by decide +kernel
theorem dX5_runs_94 : decode cX5_runs 94 = .ok (.invokevirtual 151, 3) := by decide +kernel
theorem dX5_runs_97 : decode cX5_runs 97 = .ok (.iload_n 2, 1) := by decide +kernel
theorem dX5_runs_98 : decode cX5_runs 98 = .ok (.aload_n 0, 1) := by decide +kernel
theorem dX5_runs_99 : decode cX5_runs 99 = .ok (.getfield 23, 3) := by decide +kernel
theorem dX5_runs_102 : decode cX5_runs 102 = .ok (.invokevirtual 210, 3) := by decide +kernel
theorem dX5_runs_105 : decode cX5_runs 105 = .ok (.iadd, 1) := by decide +kernel
theorem dX5_runs_106 : decode cX5_runs 106 = .ok (.istore_n 2, 1) := by decide +kernel
theorem dX5_runs_107 : decode cX5_runs 107 = .ok (.iinc 3 1, 3) := by decide +kernel
theorem dX5_runs_110 : decode cX5_runs 110 = .ok (.goto (-68), 3) := by decide +kernel
theorem dX5_runs_113 : decode cX5_runs 113 = .ok (.iload_n 2, 1) := by decide +kernel
theorem dX5_runs_114 : decode cX5_runs 114 = .ok (.ireturn, 1) := by decide +kernel
theorem dX5_keep_0 : decode cX5_keep 0 = .ok (.iload_n 1, 1) := by decide +kernel
theorem dX5_keep_1 : decode cX5_keep 1 = .ok (.ifCond .lt 8, 3) := by decide +kernel
theorem dX5_keep_4 : decode cX5_keep 4 = .ok (.iload_n 1, 1) := by decide +kernel
theorem dX5_keep_5 : decode cX5_keep 5 = .ok (.iconst 2, 1) := by decide +kernel
theorem dX5_keep_6 : decode cX5_keep 6 = .ok (.if_icmp .lt 5, 3) := by decide +kernel
theorem dX5_keep_9 : decode cX5_keep 9 = .ok (.iconst (-1), 1) := by decide +kernel
theorem dX5_keep_10 : decode cX5_keep 10 = .ok (.ireturn, 1) := by decide +kernel
theorem dX5_keep_11 : decode cX5_keep 11 = .ok (.aload_n 0, 1) := by decide +kernel
theorem dX5_keep_12 : decode cX5_keep 12 = .ok (.getfield 47, 3) := by decide +kernel
theorem dX5_keep_15 : decode cX5_keep 15 = .ok (.iload_n 1, 1) := by decide +kernel
theorem dX5_keep_16 : decode cX5_keep 16 = .ok (.aaload, 1) := by decide +kernel
theorem dX5_keep_17 : decode cX5_keep 17 = .ok (.aload_n 0, 1) := by decide +kernel
theorem dX5_keep_18 : decode cX5_keep 18 = .ok (.getfield 19, 3) := by decide +kernel
theorem dX5_keep_21 : decode cX5_keep 21 = .ok (.invokevirtual 75, 3) := by decide +kernel
theorem dX5_keep_24 : decode cX5_keep 24 = .ok (.aload_n 0, 1) := by decide +kernel
theorem dX5_keep_25 : decode cX5_keep 25 = .ok (.getfield 51, 3) := by decide +kernel
theorem dX5_keep_28 : decode cX5_keep 28 = .ok (.iload_n 1, 1) := by decide +kernel
theorem dX5_keep_29 : decode cX5_keep 29 = .ok (.iconst 1, 1) := by decide +kernel
theorem dX5_keep_30 : decode cX5_keep 30 = .ok (.bastore, 1) := by decide +kernel
theorem dX5_keep_31 : decode cX5_keep 31 = .ok (.aload_n 0, 1) := by decide +kernel
theorem dX5_keep_32 : decode cX5_keep 32 = .ok (.getfield 19, 3) := by decide +kernel
theorem dX5_keep_35 : decode cX5_keep 35 = .ok (.getfield 104, 3) := by decide +kernel
theorem dX5_keep_38 : decode cX5_keep 38 = .ok (.ireturn, 1) := by decide +kernel
theorem dX5_again_0 : decode cX5_again 0 = .ok (.iload_n 1, 1) := by decide +kernel
theorem dX5_again_1 : decode cX5_again 1 = .ok (.ifCond .lt 8, 3) := by decide +kernel
theorem dX5_again_4 : decode cX5_again 4 = .ok (.iload_n 1, 1) := by decide +kernel
theorem dX5_again_5 : decode cX5_again 5 = .ok (.iconst 2, 1) := by decide +kernel
theorem dX5_again_6 : decode cX5_again 6 = .ok (.if_icmp .lt 5, 3) := by decide +kernel
theorem dX5_again_9 : decode cX5_again 9 = .ok (.iconst (-1), 1) := by decide +kernel
theorem dX5_again_10 : decode cX5_again 10 = .ok (.ireturn, 1) := by decide +kernel
theorem dX5_again_11 : decode cX5_again 11 = .ok (.aload_n 0, 1) := by decide +kernel
theorem dX5_again_12 : decode cX5_again 12 = .ok (.getfield 51, 3) := by decide +kernel
theorem dX5_again_15 : decode cX5_again 15 = .ok (.iload_n 1, 1) := by decide +kernel
theorem dX5_again_16 : decode cX5_again 16 = .ok (.baload, 1) := by decide +kernel
theorem dX5_again_17 : decode cX5_again 17 = .ok (.ifCond .ne 6, 3) := by decide +kernel
theorem dX5_again_20 : decode cX5_again 20 = .ok (.bipush (-3), 2) := by decide +kernel
theorem dX5_again_22 : decode cX5_again 22 = .ok (.ireturn, 1) := by decide +kernel
theorem dX5_again_23 : decode cX5_again 23 = .ok (.aload_n 0, 1) := by decide +kernel
theorem dX5_again_24 : decode cX5_again 24 = .ok (.getfield 19, 3) := by decide +kernel
theorem dX5_again_27 : decode cX5_again 27 = .ok (.aload_n 0, 1) := by decide +kernel
theorem dX5_again_28 : decode cX5_again 28 = .ok (.getfield 47, 3) := by decide +kernel
theorem dX5_again_31 : decode cX5_again 31 = .ok (.iload_n 1, 1) := by decide +kernel
theorem dX5_again_32 : decode cX5_again 32 = .ok (.aaload, 1) := by decide +kernel
theorem dX5_again_33 : decode cX5_again 33 = .ok (.invokevirtual 75, 3) := by decide +kernel
theorem dX5_again_36 : decode cX5_again 36 = .ok (.aload_n 0, 1) := by decide +kernel
theorem dX5_again_37 : decode cX5_again 37 = .ok (.getfield 36, 3) := by decide +kernel
theorem dX5_again_40 : decode cX5_again 40 = .ok (.invokevirtual 82, 3) := by decide +kernel
theorem dX5_again_43 : decode cX5_again 43 = .ok (.aload_n 0, 1) := by decide +kernel
theorem dX5_again_44 : decode cX5_again 44 = .ok (.getfield 29, 3) := by decide +kernel
theorem dX5_again_47 : decode cX5_again 47 = .ok (.aload_n 0, 1) := by decide +kernel
theorem dX5_again_48 : decode cX5_again 48 = .ok (.getfield 19, 3) := by decide +kernel
theorem dX5_again_51 : decode cX5_again 51 = .ok (.invokevirtual 85, 3) := by decide +kernel
theorem dX5_again_54 : decode cX5_again 54 = .ok (.aload_n 0, 1) := by decide +kernel
theorem dX5_again_55 : decode cX5_again 55 = .ok (.getfield 19, 3) := by decide +kernel
theorem dX5_again_58 : decode cX5_again 58 = .ok (.getfield 104, 3) := by decide +kernel
theorem dX5_again_61 : decode cX5_again 61 = .ok (.ireturn, 1) := by decide +kernel
theorem dX5_isStream_0 : decode cX5_isStream 0 = .ok (.iload_n 1, 1) := by decide +kernel
theorem dX5_isStream_1 : decode cX5_isStream 1 = .ok (.ifCond .lt 18, 3) := by decide +kernel
theorem dX5_isStream_4 : decode cX5_isStream 4 = .ok (.iload_n 1, 1) := by decide +kernel
theorem dX5_isStream_5 : decode cX5_isStream 5 = .ok (.aload_n 0, 1) := by decide +kernel
theorem dX5_isStream_6 : decode cX5_isStream 6 = .ok (.getfield 19, 3) := by decide +kernel
theorem dX5_isStream_9 : decode cX5_isStream 9 = .ok (.getfield 92, 3) := by decide +kernel
theorem dX5_isStream_12 : decode cX5_isStream 12 = .ok (.if_icmp .ge 7, 3) := by decide +kernel
theorem dX5_isStream_15 : decode cX5_isStream 15 = .ok (.iconst 1, 1) := by decide +kernel
theorem dX5_isStream_16 : decode cX5_isStream 16 = .ok (.goto 4, 3) := by decide +kernel
theorem dX5_isStream_19 : decode cX5_isStream 19 = .ok (.iconst 0, 1) := by decide +kernel
theorem dX5_isStream_20 : decode cX5_isStream 20 = .ok (.ireturn, 1) := by decide +kernel
theorem dX5_soundness_0 : decode cX5_soundness 0 = .ok (.aload_n 0, 1) := by decide +kernel
theorem dX5_soundness_1 : decode cX5_soundness 1 = .ok (.getfield 29, 3) := by decide +kernel
theorem dX5_soundness_4 : decode cX5_soundness 4 = .ok (.invokevirtual 144, 3) := by decide +kernel
theorem dX5_soundness_7 : decode cX5_soundness 7 = .ok (.ifCond .eq 7, 3) := by decide +kernel
theorem dX5_soundness_10 : decode cX5_soundness 10 = .ok (.iconst 1, 1) := by decide +kernel
theorem dX5_soundness_11 : decode cX5_soundness 11 = .ok (.goto 4, 3) := by decide +kernel
theorem dX5_soundness_14 : decode cX5_soundness 14 = .ok (.iconst 0, 1) := by decide +kernel
theorem dX5_soundness_15 : decode cX5_soundness 15 = .ok (.ireturn, 1) := by decide +kernel
theorem dX5_isEquation_0 : decode cX5_isEquation 0 = .ok (.iload_n 1, 1) := by decide +kernel
theorem dX5_isEquation_1 : decode cX5_isEquation 1 = .ok (.ifCond .lt 9, 3) := by decide +kernel
theorem dX5_isEquation_4 : decode cX5_isEquation 4 = .ok (.iload_n 1, 1) := by decide +kernel
theorem dX5_isEquation_5 : decode cX5_isEquation 5 = .ok (.bipush 11, 2) := by decide +kernel
theorem dX5_isEquation_7 : decode cX5_isEquation 7 = .ok (.if_icmp .le 5, 3) := by decide +kernel
theorem dX5_isEquation_10 : decode cX5_isEquation 10 = .ok (.iconst 0, 1) := by decide +kernel
theorem dX5_isEquation_11 : decode cX5_isEquation 11 = .ok (.ireturn, 1) := by decide +kernel
theorem dX5_isEquation_12 : decode cX5_isEquation 12 = .ok (.iload_n 1, 1) := by decide +kernel
theorem dX5_isEquation_13 : decode cX5_isEquation 13 = .ok (.iconst 0, 1) := by decide +kernel
theorem dX5_isEquation_14 : decode cX5_isEquation 14 = .ok (.iload_n 2, 1) := by decide +kernel
theorem dX5_isEquation_15 : decode cX5_isEquation 15 = .ok (.aload_n 0, 1) := by decide +kernel
theorem dX5_isEquation_16 : decode cX5_isEquation 16 = .ok (.getfield 19, 3) := by decide +kernel
theorem dX5_isEquation_19 : decode cX5_isEquation 19 = .ok (.getfield 92, 3) := by decide +kernel
theorem dX5_isEquation_22 : decode cX5_isEquation 22 = .ok (.invokestatic 213, 3) := by decide +kernel
theorem dX5_isEquation_25 : decode cX5_isEquation 25 = .ok (.ifCond .eq 40, 3) := by decide +kernel
theorem dX5_isEquation_28 : decode cX5_isEquation 28 = .ok (.iload_n 1, 1) := by decide +kernel
theorem dX5_isEquation_29 : decode cX5_isEquation 29 = .ok (.iconst 1, 1) := by decide +kernel
theorem dX5_isEquation_30 : decode cX5_isEquation 30 = .ok (.iload_n 3, 1) := by decide +kernel
theorem dX5_isEquation_31 : decode cX5_isEquation 31 = .ok (.aload_n 0, 1) := by decide +kernel
theorem dX5_isEquation_32 : decode cX5_isEquation 32 = .ok (.getfield 19, 3) := by decide +kernel
theorem dX5_isEquation_35 : decode cX5_isEquation 35 = .ok (.getfield 92, 3) := by decide +kernel
theorem dX5_isEquation_38 : decode cX5_isEquation 38 = .ok (.invokestatic 213, 3) := by decide +kernel
theorem dX5_isEquation_41 : decode cX5_isEquation 41 = .ok (.ifCond .eq 24, 3) := by decide +kernel
theorem dX5_isEquation_44 : decode cX5_isEquation 44 = .ok (.iload_n 1, 1) := by decide +kernel
theorem dX5_isEquation_45 : decode cX5_isEquation 45 = .ok (.iconst 2, 1) := by decide +kernel
theorem dX5_isEquation_46 : decode cX5_isEquation 46 = .ok (.iload 4, 2) := by decide +kernel
theorem dX5_isEquation_48 : decode cX5_isEquation 48 = .ok (.aload_n 0, 1) := by decide +kernel
theorem dX5_isEquation_49 : decode cX5_isEquation 49 = .ok (.getfield 19, 3) := by decide +kernel
theorem dX5_isEquation_52 : decode cX5_isEquation 52 = .ok (.getfield 92, 3) := by decide +kernel
theorem dX5_isEquation_55 : decode cX5_isEquation 55 = .ok (.invokestatic 213, 3) := by decide +kernel
theorem dX5_isEquation_58 : decode cX5_isEquation 58 = .ok (.ifCond .eq 7, 3) := by decide +kernel
theorem dX5_isEquation_61 : decode cX5_isEquation 61 = .ok (.iconst 1, 1) := by decide +kernel
theorem dX5_isEquation_62 : decode cX5_isEquation 62 = .ok (.goto 4, 3) := by decide +kernel
theorem dX5_isEquation_65 : decode cX5_isEquation 65 = .ok (.iconst 0, 1) := by decide +kernel
theorem dX5_isEquation_66 : decode cX5_isEquation 66 = .ok (.ireturn, 1) := by decide +kernel
theorem dX5_layTrail_0 : decode cX5_layTrail 0 = .ok (.aload_n 0, 1) := by decide +kernel
theorem dX5_layTrail_1 : decode cX5_layTrail 1 = .ok (.getfield 23, 3) := by decide +kernel
theorem dX5_layTrail_4 : decode cX5_layTrail 4 = .ok (.aload_n 0, 1) := by decide +kernel
theorem dX5_layTrail_5 : decode cX5_layTrail 5 = .ok (.getfield 19, 3) := by decide +kernel
theorem dX5_layTrail_8 : decode cX5_layTrail 8 = .ok (.invokevirtual 75, 3) := by decide +kernel
theorem dX5_layTrail_11 : decode cX5_layTrail 11 = .ok (.iconst 0, 1) := by decide +kernel
theorem dX5_layTrail_12 : decode cX5_layTrail 12 = .ok (.istore_n 3, 1) := by decide +kernel
theorem dX5_layTrail_13 : decode cX5_layTrail 13 = .ok (.iload_n 3, 1) := by decide +kernel
theorem dX5_layTrail_14 : decode cX5_layTrail 14 = .ok (.bipush 40, 2) := by decide +kernel
theorem dX5_layTrail_16 : decode cX5_layTrail 16 = .ok (.if_icmp .gt 43, 3) := by decide +kernel
theorem dX5_layTrail_19 : decode cX5_layTrail 19 = .ok (.aload_n 0, 1) := by decide +kernel
theorem dX5_layTrail_20 : decode cX5_layTrail 20 = .ok (.getfield 23, 3) := by decide +kernel
theorem dX5_layTrail_23 : decode cX5_layTrail 23 = .ok (.getfield 216, 3) := by decide +kernel
theorem dX5_layTrail_26 : decode cX5_layTrail 26 = .ok (.iconst 0, 1) := by decide +kernel
theorem dX5_layTrail_27 : decode cX5_layTrail 27 = .ok (.aload_n 0, 1) := by decide +kernel
theorem dX5_layTrail_28 : decode cX5_layTrail 28 = .ok (.getfield 55, 3) := by decide +kernel
theorem dX5_layTrail_31 : decode cX5_layTrail 31 = .ok (.iload_n 3, 1) := by decide +kernel
theorem dX5_layTrail_32 : decode cX5_layTrail 32 = .ok (.bipush 8, 2) := by decide +kernel
theorem dX5_layTrail_34 : decode cX5_layTrail 34 = .ok (.imul, 1) := by decide +kernel
theorem dX5_layTrail_35 : decode cX5_layTrail 35 = .ok (.bipush 8, 2) := by decide +kernel
theorem dX5_layTrail_37 : decode cX5_layTrail 37 = .ok (.invokestatic 219, 3) := by decide +kernel
theorem dX5_layTrail_40 : decode cX5_layTrail 40 = .ok (.aload_n 0, 1) := by decide +kernel
theorem dX5_layTrail_41 : decode cX5_layTrail 41 = .ok (.getfield 23, 3) := by decide +kernel
theorem dX5_layTrail_44 : decode cX5_layTrail 44 = .ok (.aload_n 0, 1) := by decide +kernel
theorem dX5_layTrail_45 : decode cX5_layTrail 45 = .ok (.getfield 29, 3) := by decide +kernel
theorem dX5_layTrail_48 : decode cX5_layTrail 48 = .ok (.iload_n 1, 1) := by decide +kernel
theorem dX5_layTrail_49 : decode cX5_layTrail 49 = .ok (.iload_n 2, 1) := by decide +kernel
theorem dX5_layTrail_50 : decode cX5_layTrail 50 = .ok (.invokevirtual 151, 3) := by decide +kernel
theorem dX5_layTrail_53 : decode cX5_layTrail 53 = .ok (.iinc 3 1, 3) := by decide +kernel
theorem dX5_layTrail_56 : decode cX5_layTrail 56 = .ok (.goto (-43), 3) := by decide +kernel
theorem dX5_layTrail_59 : decode cX5_layTrail 59 = .ok (.return_, 1) := by decide +kernel
theorem dX5_sameOnTrail_0 : decode cX5_sameOnTrail 0 = .ok (.iconst 0, 1) := by decide +kernel
theorem dX5_sameOnTrail_1 : decode cX5_sameOnTrail 1 = .ok (.istore_n 3, 1) := by decide +kernel
theorem dX5_sameOnTrail_2 : decode cX5_sameOnTrail 2 = .ok (.iload_n 3, 1) := by decide +kernel
theorem dX5_sameOnTrail_3 : decode cX5_sameOnTrail 3 = .ok (.bipush 8, 2) := by decide +kernel
theorem dX5_sameOnTrail_5 : decode cX5_sameOnTrail 5 = .ok (.if_icmp .ge 36, 3) := by decide +kernel
theorem dX5_sameOnTrail_8 : decode cX5_sameOnTrail 8 = .ok (.aload_n 0, 1) := by decide +kernel
theorem dX5_sameOnTrail_9 : decode cX5_sameOnTrail 9 = .ok (.getfield 55, 3) := by decide +kernel
theorem dX5_sameOnTrail_12 : decode cX5_sameOnTrail 12 = .ok (.iload_n 1, 1) := by decide +kernel
theorem dX5_sameOnTrail_13 : decode cX5_sameOnTrail 13 = .ok (.bipush 8, 2) := by decide +kernel
theorem dX5_sameOnTrail_15 : decode cX5_sameOnTrail 15 = .ok (.imul, 1) := by decide +kernel
theorem dX5_sameOnTrail_16 : decode cX5_sameOnTrail 16 = .ok (.iload_n 3, 1) := by decide +kernel
theorem dX5_sameOnTrail_17 : decode cX5_sameOnTrail 17 = .ok (.iadd, 1) := by decide +kernel
theorem dX5_sameOnTrail_18 : decode cX5_sameOnTrail 18 = .ok (.iaload, 1) := by decide +kernel
theorem dX5_sameOnTrail_19 : decode cX5_sameOnTrail 19 = .ok (.aload_n 0, 1) := by decide +kernel
theorem dX5_sameOnTrail_20 : decode cX5_sameOnTrail 20 = .ok (.getfield 55, 3) := by decide +kernel
theorem dX5_sameOnTrail_23 : decode cX5_sameOnTrail 23 = .ok (.iload_n 2, 1) := by decide +kernel
theorem dX5_sameOnTrail_24 : decode cX5_sameOnTrail 24 = .ok (.bipush 8, 2) := by decide +kernel
theorem dX5_sameOnTrail_26 : decode cX5_sameOnTrail 26 = .ok (.imul, 1) := by decide +kernel
theorem dX5_sameOnTrail_27 : decode cX5_sameOnTrail 27 = .ok (.iload_n 3, 1) := by decide +kernel
theorem dX5_sameOnTrail_28 : decode cX5_sameOnTrail 28 = .ok (.iadd, 1) := by decide +kernel
theorem dX5_sameOnTrail_29 : decode cX5_sameOnTrail 29 = .ok (.iaload, 1) := by decide +kernel
theorem dX5_sameOnTrail_30 : decode cX5_sameOnTrail 30 = .ok (.if_icmp .eq 5, 3) := by decide +kernel
theorem dX5_sameOnTrail_33 : decode cX5_sameOnTrail 33 = .ok (.iconst 0, 1) := by decide +kernel
theorem dX5_sameOnTrail_34 : decode cX5_sameOnTrail 34 = .ok (.ireturn, 1) := by decide +kernel
theorem dX5_sameOnTrail_35 : decode cX5_sameOnTrail 35 = .ok (.iinc 3 1, 3) := by decide +kernel
theorem dX5_sameOnTrail_38 : decode cX5_sameOnTrail 38 = .ok (.goto (-36), 3) := by decide +kernel
theorem dX5_sameOnTrail_41 : decode cX5_sameOnTrail 41 = .ok (.iconst 1, 1) := by decide +kernel
theorem dX5_sameOnTrail_42 : decode cX5_sameOnTrail 42 = .ok (.ireturn, 1) := by decide +kernel
theorem dX5_holds_0 : decode cX5_holds 0 = .ok (.iload_n 1, 1) := by decide +kernel
theorem dX5_holds_1 : decode cX5_holds 1 = .ok (.sipush 1000, 3) := by decide +kernel
theorem dX5_holds_4 : decode cX5_holds 4 = .ok (.idiv, 1) := by decide +kernel
theorem dX5_holds_5 : decode cX5_holds 5 = .ok (.bipush 10, 2) := by decide +kernel
theorem dX5_holds_7 : decode cX5_holds 7 = .ok (.irem, 1) := by decide +kernel
theorem dX5_holds_8 : decode cX5_holds 8 = .ok (.istore_n 2, 1) := by decide +kernel
theorem dX5_holds_9 : decode cX5_holds 9 = .ok (.iload_n 1, 1) := by decide +kernel
theorem dX5_holds_10 : decode cX5_holds 10 = .ok (.bipush 100, 2) := by decide +kernel
theorem dX5_holds_12 : decode cX5_holds 12 = .ok (.idiv, 1) := by decide +kernel
theorem dX5_holds_13 : decode cX5_holds 13 = .ok (.bipush 10, 2) := by decide +kernel
theorem dX5_holds_15 : decode cX5_holds 15 = .ok (.irem, 1) := by decide +kernel
theorem dX5_holds_16 : decode cX5_holds 16 = .ok (.istore_n 3, 1) := by decide +kernel
theorem dX5_holds_17 : decode cX5_holds 17 = .ok (.iload_n 1, 1) := by decide +kernel
theorem dX5_holds_18 : decode cX5_holds 18 = .ok (.bipush 100, 2) := by decide +kernel
theorem dX5_holds_20 : decode cX5_holds 20 = .ok (.irem, 1) := by decide +kernel
theorem dX5_holds_21 : decode cX5_holds 21 = .ok (.istore 4, 2) := by decide +kernel
theorem dX5_holds_23 : decode cX5_holds 23 = .ok (.iload_n 1, 1) := by decide +kernel
theorem dX5_holds_24 : decode cX5_holds 24 = .ok (.sipush 10000, 3) := by decide +kernel
theorem dX5_holds_27 : decode cX5_holds 27 = .ok (.idiv, 1) := by decide +kernel
theorem dX5_holds_28 : decode cX5_holds 28 = .ok (.tableswitch 229 1 6 #[40, 62, 82, 113, 149, 181], 40) := by decide +kernel
theorem dX5_holds_68 : decode cX5_holds 68 = .ok (.aload_n 0, 1) := by decide +kernel
theorem dX5_holds_69 : decode cX5_holds 69 = .ok (.getfield 23, 3) := by decide +kernel
theorem dX5_holds_72 : decode cX5_holds 72 = .ok (.aload_n 0, 1) := by decide +kernel
theorem dX5_holds_73 : decode cX5_holds 73 = .ok (.getfield 29, 3) := by decide +kernel
theorem dX5_holds_76 : decode cX5_holds 76 = .ok (.iload_n 1, 1) := by decide +kernel
theorem dX5_holds_77 : decode cX5_holds 77 = .ok (.bipush 100, 2) := by decide +kernel
theorem dX5_holds_79 : decode cX5_holds 79 = .ok (.idiv, 1) := by decide +kernel
theorem dX5_holds_80 : decode cX5_holds 80 = .ok (.bipush 100, 2) := by decide +kernel
theorem dX5_holds_82 : decode cX5_holds 82 = .ok (.irem, 1) := by decide +kernel
theorem dX5_holds_83 : decode cX5_holds 83 = .ok (.iload 4, 2) := by decide +kernel
theorem dX5_holds_85 : decode cX5_holds 85 = .ok (.invokevirtual 151, 3) := by decide +kernel
theorem dX5_holds_88 : decode cX5_holds 88 = .ok (.iconst 1, 1) := by decide +kernel
theorem dX5_holds_89 : decode cX5_holds 89 = .ok (.ireturn, 1) := by decide +kernel
theorem dX5_holds_90 : decode cX5_holds 90 = .ok (.aload_n 0, 1) := by decide +kernel
theorem dX5_holds_91 : decode cX5_holds 91 = .ok (.getfield 23, 3) := by decide +kernel
theorem dX5_holds_94 : decode cX5_holds 94 = .ok (.invokevirtual 79, 3) := by decide +kernel
theorem dX5_holds_97 : decode cX5_holds 97 = .ok (.iload_n 1, 1) := by decide +kernel
theorem dX5_holds_98 : decode cX5_holds 98 = .ok (.sipush 20000, 3) := by decide +kernel
theorem dX5_holds_101 : decode cX5_holds 101 = .ok (.if_icmp .ne 7, 3) := by decide +kernel
theorem dX5_holds_104 : decode cX5_holds 104 = .ok (.iconst 1, 1) := by decide +kernel
theorem dX5_holds_105 : decode cX5_holds 105 = .ok (.goto 4, 3) := by decide +kernel
theorem dX5_holds_108 : decode cX5_holds 108 = .ok (.iconst 0, 1) := by decide +kernel
theorem dX5_holds_109 : decode cX5_holds 109 = .ok (.ireturn, 1) := by decide +kernel
theorem dX5_holds_110 : decode cX5_holds 110 = .ok (.aload_n 0, 1) := by decide +kernel
theorem dX5_holds_111 : decode cX5_holds 111 = .ok (.iload_n 2, 1) := by decide +kernel
theorem dX5_holds_112 : decode cX5_holds 112 = .ok (.invokevirtual 112, 3) := by decide +kernel
theorem dX5_holds_115 : decode cX5_holds 115 = .ok (.ifCond .eq 24, 3) := by decide +kernel
theorem dX5_holds_118 : decode cX5_holds 118 = .ok (.iload_n 3, 1) := by decide +kernel
theorem dX5_holds_119 : decode cX5_holds 119 = .ok (.ifCond .ne 20, 3) := by decide +kernel
theorem dX5_holds_122 : decode cX5_holds 122 = .ok (.aload_n 0, 1) := by decide +kernel
theorem dX5_holds_123 : decode cX5_holds 123 = .ok (.getfield 23, 3) := by decide +kernel
theorem dX5_holds_126 : decode cX5_holds 126 = .ok (.iload_n 2, 1) := by decide +kernel
theorem dX5_holds_127 : decode cX5_holds 127 = .ok (.invokevirtual 128, 3) := by decide +kernel
theorem dX5_holds_130 : decode cX5_holds 130 = .ok (.iload 4, 2) := by decide +kernel
theorem dX5_holds_132 : decode cX5_holds 132 = .ok (.if_icmp .ne 7, 3) := by decide +kernel
theorem dX5_holds_135 : decode cX5_holds 135 = .ok (.iconst 1, 1) := by decide +kernel
theorem dX5_holds_136 : decode cX5_holds 136 = .ok (.goto 4, 3) := by decide +kernel
theorem dX5_holds_139 : decode cX5_holds 139 = .ok (.iconst 0, 1) := by decide +kernel
theorem dX5_holds_140 : decode cX5_holds 140 = .ok (.ireturn, 1) := by decide +kernel
theorem dX5_holds_141 : decode cX5_holds 141 = .ok (.aload_n 0, 1) := by decide +kernel
theorem dX5_holds_142 : decode cX5_holds 142 = .ok (.iload_n 2, 1) := by decide +kernel
theorem dX5_holds_143 : decode cX5_holds 143 = .ok (.invokevirtual 112, 3) := by decide +kernel
theorem dX5_holds_146 : decode cX5_holds 146 = .ok (.ifCond .eq 29, 3) := by decide +kernel
theorem dX5_holds_149 : decode cX5_holds 149 = .ok (.iload_n 3, 1) := by decide +kernel
theorem dX5_holds_150 : decode cX5_holds 150 = .ok (.ifCond .ne 25, 3) := by decide +kernel
theorem dX5_holds_153 : decode cX5_holds 153 = .ok (.iload 4, 2) := by decide +kernel
theorem dX5_holds_155 : decode cX5_holds 155 = .ok (.ifCond .ne 20, 3) := by decide +kernel
theorem dX5_holds_158 : decode cX5_holds 158 = .ok (.aload_n 0, 1) := by decide +kernel
theorem dX5_holds_159 : decode cX5_holds 159 = .ok (.getfield 23, 3) := by decide +kernel
theorem dX5_holds_162 : decode cX5_holds 162 = .ok (.iload_n 2, 1) := by decide +kernel
theorem dX5_holds_163 : decode cX5_holds 163 = .ok (.invokevirtual 128, 3) := by decide +kernel
theorem dX5_holds_166 : decode cX5_holds 166 = .ok (.bipush (-9), 2) := by decide +kernel
theorem dX5_holds_168 : decode cX5_holds 168 = .ok (.if_icmp .ne 7, 3) := by decide +kernel
theorem dX5_holds_171 : decode cX5_holds 171 = .ok (.iconst 1, 1) := by decide +kernel
theorem dX5_holds_172 : decode cX5_holds 172 = .ok (.goto 4, 3) := by decide +kernel
theorem dX5_holds_175 : decode cX5_holds 175 = .ok (.iconst 0, 1) := by decide +kernel
theorem dX5_holds_176 : decode cX5_holds 176 = .ok (.ireturn, 1) := by decide +kernel
theorem dX5_holds_177 : decode cX5_holds 177 = .ok (.aload_n 0, 1) := by decide +kernel
theorem dX5_holds_178 : decode cX5_holds 178 = .ok (.iload_n 2, 1) := by decide +kernel
theorem dX5_holds_179 : decode cX5_holds 179 = .ok (.invokevirtual 112, 3) := by decide +kernel
theorem dX5_holds_182 : decode cX5_holds 182 = .ok (.ifCond .eq 25, 3) := by decide +kernel
theorem dX5_holds_185 : decode cX5_holds 185 = .ok (.iload 4, 2) := by decide +kernel
theorem dX5_holds_187 : decode cX5_holds 187 = .ok (.ifCond .ne 20, 3) := by decide +kernel
theorem dX5_holds_190 : decode cX5_holds 190 = .ok (.aload_n 0, 1) := by decide +kernel
theorem dX5_holds_191 : decode cX5_holds 191 = .ok (.getfield 29, 3) := by decide +kernel
theorem dX5_holds_194 : decode cX5_holds 194 = .ok (.getfield 119, 3) := by decide +kernel
theorem dX5_holds_197 : decode cX5_holds 197 = .ok (.iload_n 2, 1) := by decide +kernel
theorem dX5_holds_198 : decode cX5_holds 198 = .ok (.iaload, 1) := by decide +kernel
theorem dX5_holds_199 : decode cX5_holds 199 = .ok (.iload_n 3, 1) := by decide +kernel
theorem dX5_holds_200 : decode cX5_holds 200 = .ok (.if_icmp .ne 7, 3) := by decide +kernel
theorem dX5_holds_203 : decode cX5_holds 203 = .ok (.iconst 1, 1) := by decide +kernel
theorem dX5_holds_204 : decode cX5_holds 204 = .ok (.goto 4, 3) := by decide +kernel
theorem dX5_holds_207 : decode cX5_holds 207 = .ok (.iconst 0, 1) := by decide +kernel
theorem dX5_holds_208 : decode cX5_holds 208 = .ok (.ireturn, 1) := by decide +kernel
theorem dX5_holds_209 : decode cX5_holds 209 = .ok (.aload_n 0, 1) := by decide +kernel
theorem dX5_holds_210 : decode cX5_holds 210 = .ok (.iload_n 2, 1) := by decide +kernel
theorem dX5_holds_211 : decode cX5_holds 211 = .ok (.invokevirtual 112, 3) := by decide +kernel
theorem dX5_holds_214 : decode cX5_holds 214 = .ok (.ifCond .eq 41, 3) := by decide +kernel
theorem dX5_holds_217 : decode cX5_holds 217 = .ok (.aload_n 0, 1) := by decide +kernel
theorem dX5_holds_218 : decode cX5_holds 218 = .ok (.iload_n 3, 1) := by decide +kernel
theorem dX5_holds_219 : decode cX5_holds 219 = .ok (.invokevirtual 112, 3) := by decide +kernel
theorem dX5_holds_222 : decode cX5_holds 222 = .ok (.ifCond .eq 33, 3) := by decide +kernel
theorem dX5_holds_225 : decode cX5_holds 225 = .ok (.iload 4, 2) := by decide +kernel
theorem dX5_holds_227 : decode cX5_holds 227 = .ok (.ifCond .ne 28, 3) := by decide +kernel
theorem dX5_holds_230 : decode cX5_holds 230 = .ok (.aload_n 0, 1) := by decide +kernel
theorem dX5_holds_231 : decode cX5_holds 231 = .ok (.getfield 29, 3) := by decide +kernel
theorem dX5_holds_234 : decode cX5_holds 234 = .ok (.getfield 225, 3) := by decide +kernel
theorem dX5_holds_237 : decode cX5_holds 237 = .ok (.iload_n 2, 1) := by decide +kernel
theorem dX5_holds_238 : decode cX5_holds 238 = .ok (.iaload, 1) := by decide +kernel
theorem dX5_holds_239 : decode cX5_holds 239 = .ok (.aload_n 0, 1) := by decide +kernel
theorem dX5_holds_240 : decode cX5_holds 240 = .ok (.getfield 29, 3) := by decide +kernel
theorem dX5_holds_243 : decode cX5_holds 243 = .ok (.getfield 225, 3) := by decide +kernel
theorem dX5_holds_246 : decode cX5_holds 246 = .ok (.iload_n 3, 1) := by decide +kernel
theorem dX5_holds_247 : decode cX5_holds 247 = .ok (.iaload, 1) := by decide +kernel
theorem dX5_holds_248 : decode cX5_holds 248 = .ok (.if_icmp .ne 7, 3) := by decide +kernel
theorem dX5_holds_251 : decode cX5_holds 251 = .ok (.iconst 1, 1) := by decide +kernel
theorem dX5_holds_252 : decode cX5_holds 252 = .ok (.goto 4, 3) := by decide +kernel
theorem dX5_holds_255 : decode cX5_holds 255 = .ok (.iconst 0, 1) := by decide +kernel
theorem dX5_holds_256 : decode cX5_holds 256 = .ok (.ireturn, 1) := by decide +kernel
theorem dX5_holds_257 : decode cX5_holds 257 = .ok (.iconst 0, 1) := by decide +kernel
theorem dX5_holds_258 : decode cX5_holds 258 = .ok (.ireturn, 1) := by decide +kernel
theorem dX5_explains_0 : decode cX5_explains 0 = .ok (.aload_n 0, 1) := by decide +kernel
theorem dX5_explains_1 : decode cX5_explains 1 = .ok (.getfield 23, 3) := by decide +kernel
theorem dX5_explains_4 : decode cX5_explains 4 = .ok (.aload_n 0, 1) := by decide +kernel
theorem dX5_explains_5 : decode cX5_explains 5 = .ok (.getfield 19, 3) := by decide +kernel
theorem dX5_explains_8 : decode cX5_explains 8 = .ok (.invokevirtual 75, 3) := by decide +kernel
theorem dX5_explains_11 : decode cX5_explains 11 = .ok (.aload_n 0, 1) := by decide +kernel
theorem dX5_explains_12 : decode cX5_explains 12 = .ok (.getfield 23, 3) := by decide +kernel
theorem dX5_explains_15 : decode cX5_explains 15 = .ok (.invokevirtual 79, 3) := by decide +kernel
theorem dX5_explains_18 : decode cX5_explains 18 = .ok (.aload_n 0, 1) := by decide +kernel
theorem dX5_explains_19 : decode cX5_explains 19 = .ok (.getfield 43, 3) := by decide +kernel
theorem dX5_explains_22 : decode cX5_explains 22 = .ok (.invokevirtual 228, 3) := by decide +kernel
theorem dX5_explains_25 : decode cX5_explains 25 = .ok (.istore_n 3, 1) := by decide +kernel
theorem dX5_explains_26 : decode cX5_explains 26 = .ok (.iconst 1, 1) := by decide +kernel
theorem dX5_explains_27 : decode cX5_explains 27 = .ok (.istore 4, 2) := by decide +kernel
theorem dX5_explains_29 : decode cX5_explains 29 = .ok (.iload 4, 2) := by decide +kernel
theorem dX5_explains_31 : decode cX5_explains 31 = .ok (.iload_n 3, 1) := by decide +kernel
theorem dX5_explains_32 : decode cX5_explains 32 = .ok (.if_icmp .gt 40, 3) := by decide +kernel
theorem dX5_explains_35 : decode cX5_explains 35 = .ok (.aload_n 0, 1) := by decide +kernel
theorem dX5_explains_36 : decode cX5_explains 36 = .ok (.getfield 23, 3) := by decide +kernel
theorem dX5_explains_39 : decode cX5_explains 39 = .ok (.aload_n 0, 1) := by decide +kernel
theorem dX5_explains_40 : decode cX5_explains 40 = .ok (.getfield 29, 3) := by decide +kernel
theorem dX5_explains_43 : decode cX5_explains 43 = .ok (.iload_n 1, 1) := by decide +kernel
theorem dX5_explains_44 : decode cX5_explains 44 = .ok (.iload_n 2, 1) := by decide +kernel
theorem dX5_explains_45 : decode cX5_explains 45 = .ok (.invokevirtual 151, 3) := by decide +kernel
theorem dX5_explains_48 : decode cX5_explains 48 = .ok (.aload_n 0, 1) := by decide +kernel
theorem dX5_explains_49 : decode cX5_explains 49 = .ok (.getfield 43, 3) := by decide +kernel
theorem dX5_explains_52 : decode cX5_explains 52 = .ok (.iload 4, 2) := by decide +kernel
theorem dX5_explains_54 : decode cX5_explains 54 = .ok (.aload_n 0, 1) := by decide +kernel
theorem dX5_explains_55 : decode cX5_explains 55 = .ok (.getfield 23, 3) := by decide +kernel
theorem dX5_explains_58 : decode cX5_explains 58 = .ok (.invokevirtual 231, 3) := by decide +kernel
theorem dX5_explains_61 : decode cX5_explains 61 = .ok (.ifCond .ne 5, 3) := by decide +kernel
theorem dX5_explains_64 : decode cX5_explains 64 = .ok (.iconst 0, 1) := by decide +kernel
theorem dX5_explains_65 : decode cX5_explains 65 = .ok (.ireturn, 1) := by decide +kernel
theorem dX5_explains_66 : decode cX5_explains 66 = .ok (.iinc 4 1, 3) := by decide +kernel
theorem dX5_explains_69 : decode cX5_explains 69 = .ok (.goto (-40), 3) := by decide +kernel
theorem dX5_explains_72 : decode cX5_explains 72 = .ok (.iconst 1, 1) := by decide +kernel
theorem dX5_explains_73 : decode cX5_explains 73 = .ok (.ireturn, 1) := by decide +kernel
theorem dX5_timesThere_0 : decode cX5_timesThere 0 = .ok (.iconst 0, 1) := by decide +kernel
theorem dX5_timesThere_1 : decode cX5_timesThere 1 = .ok (.istore 4, 2) := by decide +kernel
theorem dX5_timesThere_3 : decode cX5_timesThere 3 = .ok (.aload_n 0, 1) := by decide +kernel
theorem dX5_timesThere_4 : decode cX5_timesThere 4 = .ok (.getfield 23, 3) := by decide +kernel
theorem dX5_timesThere_7 : decode cX5_timesThere 7 = .ok (.aload_n 0, 1) := by decide +kernel
theorem dX5_timesThere_8 : decode cX5_timesThere 8 = .ok (.getfield 19, 3) := by decide +kernel
theorem dX5_timesThere_11 : decode cX5_timesThere 11 = .ok (.invokevirtual 75, 3) := by decide +kernel
theorem dX5_timesThere_14 : decode cX5_timesThere 14 = .ok (.iconst 0, 1) := by decide +kernel
theorem dX5_timesThere_15 : decode cX5_timesThere 15 = .ok (.istore 5, 2) := by decide +kernel
theorem dX5_timesThere_17 : decode cX5_timesThere 17 = .ok (.iload 5, 2) := by decide +kernel
theorem dX5_timesThere_19 : decode cX5_timesThere 19 = .ok (.iload_n 2, 1) := by decide +kernel
theorem dX5_timesThere_20 : decode cX5_timesThere 20 = .ok (.if_icmp .ge 43, 3) := by decide +kernel
theorem dX5_timesThere_23 : decode cX5_timesThere 23 = .ok (.aload_n 0, 1) := by decide +kernel
theorem dX5_timesThere_24 : decode cX5_timesThere 24 = .ok (.getfield 23, 3) := by decide +kernel
theorem dX5_timesThere_27 : decode cX5_timesThere 27 = .ok (.aload_n 0, 1) := by decide +kernel
theorem dX5_timesThere_28 : decode cX5_timesThere 28 = .ok (.getfield 29, 3) := by decide +kernel
theorem dX5_timesThere_31 : decode cX5_timesThere 31 = .ok (.iload_n 3, 1) := by decide +kernel
theorem dX5_timesThere_32 : decode cX5_timesThere 32 = .ok (.iload 5, 2) := by decide +kernel
theorem dX5_timesThere_34 : decode cX5_timesThere 34 = .ok (.ishr, 1) := by decide +kernel
theorem dX5_timesThere_35 : decode cX5_timesThere 35 = .ok (.iconst 1, 1) := by decide +kernel
theorem dX5_timesThere_36 : decode cX5_timesThere 36 = .ok (.iand, 1) := by decide +kernel
theorem dX5_timesThere_37 : decode cX5_timesThere 37 = .ok (.iconst 0, 1) := by decide +kernel
theorem dX5_timesThere_38 : decode cX5_timesThere 38 = .ok (.invokevirtual 151, 3) := by decide +kernel
theorem dX5_timesThere_41 : decode cX5_timesThere 41 = .ok (.aload_n 0, 1) := by decide +kernel
theorem dX5_timesThere_42 : decode cX5_timesThere 42 = .ok (.getfield 23, 3) := by decide +kernel
theorem dX5_timesThere_45 : decode cX5_timesThere 45 = .ok (.iload_n 1, 1) := by decide +kernel
theorem dX5_timesThere_46 : decode cX5_timesThere 46 = .ok (.invokevirtual 128, 3) := by decide +kernel
theorem dX5_timesThere_49 : decode cX5_timesThere 49 = .ok (.bipush (-9), 2) := by decide +kernel
theorem dX5_timesThere_51 : decode cX5_timesThere 51 = .ok (.if_icmp .eq 6, 3) := by decide +kernel
theorem dX5_timesThere_54 : decode cX5_timesThere 54 = .ok (.iinc 4 1, 3) := by decide +kernel
theorem dX5_timesThere_57 : decode cX5_timesThere 57 = .ok (.iinc 5 1, 3) := by decide +kernel
theorem dX5_timesThere_60 : decode cX5_timesThere 60 = .ok (.goto (-43), 3) := by decide +kernel
theorem dX5_timesThere_63 : decode cX5_timesThere 63 = .ok (.iload 4, 2) := by decide +kernel
theorem dX5_timesThere_65 : decode cX5_timesThere 65 = .ok (.ireturn, 1) := by decide +kernel
theorem dX5_weight_0 : decode cX5_weight 0 = .ok (.iconst 1, 1) := by decide +kernel
theorem dX5_weight_1 : decode cX5_weight 1 = .ok (.istore_n 3, 1) := by decide +kernel
theorem dX5_weight_2 : decode cX5_weight 2 = .ok (.iconst 0, 1) := by decide +kernel
theorem dX5_weight_3 : decode cX5_weight 3 = .ok (.istore 4, 2) := by decide +kernel
theorem dX5_weight_5 : decode cX5_weight 5 = .ok (.iload 4, 2) := by decide +kernel
theorem dX5_weight_7 : decode cX5_weight 7 = .ok (.iload_n 0, 1) := by decide +kernel
theorem dX5_weight_8 : decode cX5_weight 8 = .ok (.if_icmp .ge 30, 3) := by decide +kernel
theorem dX5_weight_11 : decode cX5_weight 11 = .ok (.iload_n 3, 1) := by decide +kernel
theorem dX5_weight_12 : decode cX5_weight 12 = .ok (.iload_n 1, 1) := by decide +kernel
theorem dX5_weight_13 : decode cX5_weight 13 = .ok (.iload 4, 2) := by decide +kernel
theorem dX5_weight_15 : decode cX5_weight 15 = .ok (.ishr, 1) := by decide +kernel
theorem dX5_weight_16 : decode cX5_weight 16 = .ok (.iconst 1, 1) := by decide +kernel
theorem dX5_weight_17 : decode cX5_weight 17 = .ok (.iand, 1) := by decide +kernel
theorem dX5_weight_18 : decode cX5_weight 18 = .ok (.iconst 1, 1) := by decide +kernel
theorem dX5_weight_19 : decode cX5_weight 19 = .ok (.if_icmp .ne 7, 3) := by decide +kernel
theorem dX5_weight_22 : decode cX5_weight 22 = .ok (.iload_n 2, 1) := by decide +kernel
theorem dX5_weight_23 : decode cX5_weight 23 = .ok (.goto 7, 3) := by decide +kernel
theorem dX5_weight_26 : decode cX5_weight 26 = .ok (.bipush 10, 2) := by decide +kernel
theorem dX5_weight_28 : decode cX5_weight 28 = .ok (.iload_n 2, 1) := by decide +kernel
theorem dX5_weight_29 : decode cX5_weight 29 = .ok (.isub, 1) := by decide +kernel
theorem dX5_weight_30 : decode cX5_weight 30 = .ok (.imul, 1) := by decide +kernel
theorem dX5_weight_31 : decode cX5_weight 31 = .ok (.istore_n 3, 1) := by decide +kernel
theorem dX5_weight_32 : decode cX5_weight 32 = .ok (.iinc 4 1, 3) := by decide +kernel
theorem dX5_weight_35 : decode cX5_weight 35 = .ok (.goto (-30), 3) := by decide +kernel
theorem dX5_weight_38 : decode cX5_weight 38 = .ok (.iload_n 3, 1) := by decide +kernel
theorem dX5_weight_39 : decode cX5_weight 39 = .ok (.ireturn, 1) := by decide +kernel
theorem dX5_commonDivisor_0 : decode cX5_commonDivisor 0 = .ok (.iload_n 0, 1) := by decide +kernel
theorem dX5_commonDivisor_1 : decode cX5_commonDivisor 1 = .ok (.istore_n 2, 1) := by decide +kernel
theorem dX5_commonDivisor_2 : decode cX5_commonDivisor 2 = .ok (.iload_n 1, 1) := by decide +kernel
theorem dX5_commonDivisor_3 : decode cX5_commonDivisor 3 = .ok (.istore_n 3, 1) := by decide +kernel
theorem dX5_commonDivisor_4 : decode cX5_commonDivisor 4 = .ok (.iconst 0, 1) := by decide +kernel
theorem dX5_commonDivisor_5 : decode cX5_commonDivisor 5 = .ok (.istore 4, 2) := by decide +kernel
theorem dX5_commonDivisor_7 : decode cX5_commonDivisor 7 = .ok (.iload 4, 2) := by decide +kernel
theorem dX5_commonDivisor_9 : decode cX5_commonDivisor 9 = .ok (.bipush 64, 2) := by decide +kernel
theorem dX5_commonDivisor_11 : decode cX5_commonDivisor 11 = .ok (.if_icmp .ge 23, 3) := by decide +kernel
theorem dX5_commonDivisor_14 : decode cX5_commonDivisor 14 = .ok (.iload_n 3, 1) := by decide +kernel
theorem dX5_commonDivisor_15 : decode cX5_commonDivisor 15 = .ok (.ifCond .eq 19, 3) := by decide +kernel
theorem dX5_commonDivisor_18 : decode cX5_commonDivisor 18 = .ok (.iload_n 2, 1) := by decide +kernel
theorem dX5_commonDivisor_19 : decode cX5_commonDivisor 19 = .ok (.iload_n 3, 1) := by decide +kernel
theorem dX5_commonDivisor_20 : decode cX5_commonDivisor 20 = .ok (.irem, 1) := by decide +kernel
theorem dX5_commonDivisor_21 : decode cX5_commonDivisor 21 = .ok (.istore 5, 2) := by decide +kernel
theorem dX5_commonDivisor_23 : decode cX5_commonDivisor 23 = .ok (.iload_n 3, 1) := by decide +kernel
theorem dX5_commonDivisor_24 : decode cX5_commonDivisor 24 = .ok (.istore_n 2, 1) := by decide +kernel
theorem dX5_commonDivisor_25 : decode cX5_commonDivisor 25 = .ok (.iload 5, 2) := by decide +kernel
theorem dX5_commonDivisor_27 : decode cX5_commonDivisor 27 = .ok (.istore_n 3, 1) := by decide +kernel
theorem dX5_commonDivisor_28 : decode cX5_commonDivisor 28 = .ok (.iinc 4 1, 3) := by decide +kernel
theorem dX5_commonDivisor_31 : decode cX5_commonDivisor 31 = .ok (.goto (-24), 3) := by decide +kernel
theorem dX5_commonDivisor_34 : decode cX5_commonDivisor 34 = .ok (.iload_n 2, 1) := by decide +kernel
theorem dX5_commonDivisor_35 : decode cX5_commonDivisor 35 = .ok (.ireturn, 1) := by decide +kernel
theorem dX5_power_0 : decode cX5_power 0 = .ok (.lconst 1, 1) := by decide +kernel
theorem dX5_power_1 : decode cX5_power 1 = .ok (.lstore_n 3, 1) := by decide +kernel
theorem dX5_power_2 : decode cX5_power 2 = .ok (.iconst 0, 1) := by decide +kernel
theorem dX5_power_3 : decode cX5_power 3 = .ok (.istore 5, 2) := by decide +kernel
theorem dX5_power_5 : decode cX5_power 5 = .ok (.iload 5, 2) := by decide +kernel
theorem dX5_power_7 : decode cX5_power 7 = .ok (.iload_n 2, 1) := by decide +kernel
theorem dX5_power_8 : decode cX5_power 8 = .ok (.if_icmp .ge 13, 3) := by decide +kernel
theorem dX5_power_11 : decode cX5_power 11 = .ok (.lload_n 3, 1) := by decide +kernel
theorem dX5_power_12 : decode cX5_power 12 = .ok (.lload_n 0, 1) := by decide +kernel
theorem dX5_power_13 : decode cX5_power 13 = .ok (.lmul, 1) := by decide +kernel
theorem dX5_power_14 : decode cX5_power 14 = .ok (.lstore_n 3, 1) := by decide +kernel
theorem dX5_power_15 : decode cX5_power 15 = .ok (.iinc 5 1, 3) := by decide +kernel
theorem dX5_power_18 : decode cX5_power 18 = .ok (.goto (-13), 3) := by decide +kernel
theorem dX5_power_21 : decode cX5_power 21 = .ok (.lload_n 3, 1) := by decide +kernel
theorem dX5_power_22 : decode cX5_power 22 = .ok (.lreturn, 1) := by decide +kernel
theorem dX5_isValue_0 : decode cX5_isValue 0 = .ok (.iload_n 0, 1) := by decide +kernel
theorem dX5_isValue_1 : decode cX5_isValue 1 = .ok (.ifCond .lt 13, 3) := by decide +kernel
theorem dX5_isValue_4 : decode cX5_isValue 4 = .ok (.iload_n 0, 1) := by decide +kernel
theorem dX5_isValue_5 : decode cX5_isValue 5 = .ok (.bipush 99, 2) := by decide +kernel
theorem dX5_isValue_7 : decode cX5_isValue 7 = .ok (.if_icmp .gt 7, 3) := by decide +kernel
theorem dX5_isValue_10 : decode cX5_isValue 10 = .ok (.iconst 1, 1) := by decide +kernel
theorem dX5_isValue_11 : decode cX5_isValue 11 = .ok (.goto 4, 3) := by decide +kernel
theorem dX5_isValue_14 : decode cX5_isValue 14 = .ok (.iconst 0, 1) := by decide +kernel
theorem dX5_isValue_15 : decode cX5_isValue 15 = .ok (.ireturn, 1) := by decide +kernel
theorem dX5_figuresOf_0 : decode cX5_figuresOf 0 = .ok (.iload_n 0, 1) := by decide +kernel
theorem dX5_figuresOf_1 : decode cX5_figuresOf 1 = .ok (.ifCond .lt 9, 3) := by decide +kernel
theorem dX5_figuresOf_4 : decode cX5_figuresOf 4 = .ok (.iload_n 0, 1) := by decide +kernel
theorem dX5_figuresOf_5 : decode cX5_figuresOf 5 = .ok (.bipush 11, 2) := by decide +kernel
theorem dX5_figuresOf_7 : decode cX5_figuresOf 7 = .ok (.if_icmp .le 7, 3) := by decide +kernel
theorem dX5_figuresOf_10 : decode cX5_figuresOf 10 = .ok (.iconst 0, 1) := by decide +kernel
theorem dX5_figuresOf_11 : decode cX5_figuresOf 11 = .ok (.goto 8, 3) := by decide +kernel
theorem dX5_figuresOf_14 : decode cX5_figuresOf 14 = .ok (.getstatic 235, 3) := by decide +kernel
theorem dX5_figuresOf_17 : decode cX5_figuresOf 17 = .ok (.iload_n 0, 1) := by decide +kernel
theorem dX5_figuresOf_18 : decode cX5_figuresOf 18 = .ok (.iaload, 1) := by decide +kernel
theorem dX5_figuresOf_19 : decode cX5_figuresOf 19 = .ok (.ireturn, 1) := by decide +kernel
theorem dX5_namesStream_0 : decode cX5_namesStream 0 = .ok (.iload_n 0, 1) := by decide +kernel
theorem dX5_namesStream_1 : decode cX5_namesStream 1 = .ok (.ifCond .eq 18, 3) := by decide +kernel
theorem dX5_namesStream_4 : decode cX5_namesStream 4 = .ok (.iload_n 0, 1) := by decide +kernel
theorem dX5_namesStream_5 : decode cX5_namesStream 5 = .ok (.iconst 1, 1) := by decide +kernel
theorem dX5_namesStream_6 : decode cX5_namesStream 6 = .ok (.if_icmp .eq 13, 3) := by decide +kernel
theorem dX5_namesStream_9 : decode cX5_namesStream 9 = .ok (.iload_n 0, 1) := by decide +kernel
theorem dX5_namesStream_10 : decode cX5_namesStream 10 = .ok (.bipush 6, 2) := by decide +kernel
theorem dX5_namesStream_12 : decode cX5_namesStream 12 = .ok (.if_icmp .ne 9, 3) := by decide +kernel
theorem dX5_namesStream_15 : decode cX5_namesStream 15 = .ok (.iload_n 1, 1) := by decide +kernel
theorem dX5_namesStream_16 : decode cX5_namesStream 16 = .ok (.ifCond .ne 5, 3) := by decide +kernel
theorem dX5_namesStream_19 : decode cX5_namesStream 19 = .ok (.iconst 0, 1) := by decide +kernel
theorem dX5_namesStream_20 : decode cX5_namesStream 20 = .ok (.ireturn, 1) := by decide +kernel
theorem dX5_namesStream_21 : decode cX5_namesStream 21 = .ok (.iload_n 1, 1) := by decide +kernel
theorem dX5_namesStream_22 : decode cX5_namesStream 22 = .ok (.iload_n 0, 1) := by decide +kernel
theorem dX5_namesStream_23 : decode cX5_namesStream 23 = .ok (.invokestatic 131, 3) := by decide +kernel
theorem dX5_namesStream_26 : decode cX5_namesStream 26 = .ok (.if_icmp .ge 7, 3) := by decide +kernel
theorem dX5_namesStream_29 : decode cX5_namesStream 29 = .ok (.iconst 1, 1) := by decide +kernel
theorem dX5_namesStream_30 : decode cX5_namesStream 30 = .ok (.goto 4, 3) := by decide +kernel
theorem dX5_namesStream_33 : decode cX5_namesStream 33 = .ok (.iconst 0, 1) := by decide +kernel
theorem dX5_namesStream_34 : decode cX5_namesStream 34 = .ok (.ireturn, 1) := by decide +kernel
theorem dX5_isFigure_0 : decode cX5_isFigure 0 = .ok (.bipush 10, 2) := by decide +kernel
theorem dX5_isFigure_2 : decode cX5_isFigure 2 = .ok (.istore 4, 2) := by decide +kernel
theorem dX5_isFigure_4 : decode cX5_isFigure 4 = .ok (.iload_n 1, 1) := by decide +kernel
theorem dX5_isFigure_5 : decode cX5_isFigure 5 = .ok (.iload_n 0, 1) := by decide +kernel
theorem dX5_isFigure_6 : decode cX5_isFigure 6 = .ok (.invokestatic 131, 3) := by decide +kernel
theorem dX5_isFigure_9 : decode cX5_isFigure 9 = .ok (.if_icmp .lt 9, 3) := by decide +kernel
theorem dX5_isFigure_12 : decode cX5_isFigure 12 = .ok (.iconst 1, 1) := by decide +kernel
theorem dX5_isFigure_13 : decode cX5_isFigure 13 = .ok (.istore 4, 2) := by decide +kernel
theorem dX5_isFigure_15 : decode cX5_isFigure 15 = .ok (.goto 24, 3) := by decide +kernel
theorem dX5_isFigure_18 : decode cX5_isFigure 18 = .ok (.iload_n 0, 1) := by decide +kernel
theorem dX5_isFigure_19 : decode cX5_isFigure 19 = .ok (.ifCond .ne 9, 3) := by decide +kernel
theorem dX5_isFigure_22 : decode cX5_isFigure 22 = .ok (.iconst 2, 1) := by decide +kernel
theorem dX5_isFigure_23 : decode cX5_isFigure 23 = .ok (.istore 4, 2) := by decide +kernel
theorem dX5_isFigure_25 : decode cX5_isFigure 25 = .ok (.goto 14, 3) := by decide +kernel
theorem dX5_isFigure_28 : decode cX5_isFigure 28 = .ok (.iload_n 0, 1) := by decide +kernel
theorem dX5_isFigure_29 : decode cX5_isFigure 29 = .ok (.iload_n 1, 1) := by decide +kernel
theorem dX5_isFigure_30 : decode cX5_isFigure 30 = .ok (.invokestatic 238, 3) := by decide +kernel
theorem dX5_isFigure_33 : decode cX5_isFigure 33 = .ok (.ifCond .eq 6, 3) := by decide +kernel
theorem dX5_isFigure_36 : decode cX5_isFigure 36 = .ok (.iload_n 3, 1) := by decide +kernel
theorem dX5_isFigure_37 : decode cX5_isFigure 37 = .ok (.istore 4, 2) := by decide +kernel
theorem dX5_isFigure_39 : decode cX5_isFigure 39 = .ok (.iload_n 2, 1) := by decide +kernel
theorem dX5_isFigure_40 : decode cX5_isFigure 40 = .ok (.ifCond .lt 13, 3) := by decide +kernel
theorem dX5_isFigure_43 : decode cX5_isFigure 43 = .ok (.iload_n 2, 1) := by decide +kernel
theorem dX5_isFigure_44 : decode cX5_isFigure 44 = .ok (.iload 4, 2) := by decide +kernel
theorem dX5_isFigure_46 : decode cX5_isFigure 46 = .ok (.if_icmp .ge 7, 3) := by decide +kernel
theorem dX5_isFigure_49 : decode cX5_isFigure 49 = .ok (.iconst 1, 1) := by decide +kernel
theorem dX5_isFigure_50 : decode cX5_isFigure 50 = .ok (.goto 4, 3) := by decide +kernel
theorem dX5_isFigure_53 : decode cX5_isFigure 53 = .ok (.iconst 0, 1) := by decide +kernel
theorem dX5_isFigure_54 : decode cX5_isFigure 54 = .ok (.ireturn, 1) := by decide +kernel
theorem dX6_init_0 : decode cX6_init 0 = .ok (.aload_n 0, 1) := by decide +kernel
theorem dX6_init_1 : decode cX6_init 1 = .ok (.invokespecial 1, 3) := by decide +kernel
theorem dX6_init_4 : decode cX6_init 4 = .ok (.aload_n 0, 1) := by decide +kernel
theorem dX6_init_5 : decode cX6_init 5 = .ok (.bipush 40, 2) := by decide +kernel
theorem dX6_init_7 : decode cX6_init 7 = .ok (.newarray .int, 2) := by decide +kernel
theorem dX6_init_9 : decode cX6_init 9 = .ok (.putfield 7, 3) := by decide +kernel
theorem dX6_init_12 : decode cX6_init 12 = .ok (.aload_n 0, 1) := by decide +kernel
theorem dX6_init_13 : decode cX6_init 13 = .ok (.bipush 50, 2) := by decide +kernel
theorem dX6_init_15 : decode cX6_init 15 = .ok (.newarray .int, 2) := by decide +kernel
theorem dX6_init_17 : decode cX6_init 17 = .ok (.putfield 13, 3) := by decide +kernel
theorem dX6_init_20 : decode cX6_init 20 = .ok (.aload_n 0, 1) := by decide +kernel
theorem dX6_init_21 : decode cX6_init 21 = .ok (.bipush 50, 2) := by decide +kernel
theorem dX6_init_23 : decode cX6_init 23 = .ok (.newarray .int, 2) := by decide +kernel
theorem dX6_init_25 : decode cX6_init 25 = .ok (.putfield 16, 3) := by decide +kernel
theorem dX6_init_28 : decode cX6_init 28 = .ok (.aload_n 0, 1) := by decide +kernel
theorem dX6_init_29 : decode cX6_init 29 = .ok (.bipush 50, 2) := by decide +kernel
theorem dX6_init_31 : decode cX6_init 31 = .ok (.newarray .int, 2) := by decide +kernel
theorem dX6_init_33 : decode cX6_init 33 = .ok (.putfield 19, 3) := by decide +kernel
theorem dX6_init_36 : decode cX6_init 36 = .ok (.aload_n 0, 1) := by decide +kernel
theorem dX6_init_37 : decode cX6_init 37 = .ok (.sipush 700, 3) := by decide +kernel
theorem dX6_init_40 : decode cX6_init 40 = .ok (.newarray .int, 2) := by decide +kernel
theorem dX6_init_42 : decode cX6_init 42 = .ok (.putfield 22, 3) := by decide +kernel
theorem dX6_init_45 : decode cX6_init 45 = .ok (.aload_n 0, 1) := by decide +kernel
theorem dX6_init_46 : decode cX6_init 46 = .ok (.bipush 100, 2) := by decide +kernel
theorem dX6_init_48 : decode cX6_init 48 = .ok (.newarray .int, 2) := by decide +kernel
theorem dX6_init_50 : decode cX6_init 50 = .ok (.putfield 25, 3) := by decide +kernel
theorem dX6_init_53 : decode cX6_init 53 = .ok (.aload_n 0, 1) := by decide +kernel
theorem dX6_init_54 : decode cX6_init 54 = .ok (.iconst 2, 1) := by decide +kernel
theorem dX6_init_55 : decode cX6_init 55 = .ok (.newarray .boolean, 2) := by decide +kernel
theorem dX6_init_57 : decode cX6_init 57 = .ok (.putfield 28, 3) := by decide +kernel
theorem dX6_init_60 : decode cX6_init 60 = .ok (.aload_n 0, 1) := by decide +kernel
theorem dX6_init_61 : decode cX6_init 61 = .ok (.bipush 6, 2) := by decide +kernel
theorem dX6_init_63 : decode cX6_init 63 = .ok (.newarray .int, 2) := by decide +kernel
theorem dX6_init_65 : decode cX6_init 65 = .ok (.putfield 32, 3) := by decide +kernel
theorem dX6_init_68 : decode cX6_init 68 = .ok (.aload_n 0, 1) := by decide +kernel
theorem dX6_init_69 : decode cX6_init 69 = .ok (.bipush 6, 2) := by decide +kernel
theorem dX6_init_71 : decode cX6_init 71 = .ok (.newarray .int, 2) := by decide +kernel
theorem dX6_init_73 : decode cX6_init 73 = .ok (.putfield 35, 3) := by decide +kernel
theorem dX6_init_76 : decode cX6_init 76 = .ok (.aload_n 0, 1) := by decide +kernel
theorem dX6_init_77 : decode cX6_init 77 = .ok (.bipush 6, 2) := by decide +kernel
theorem dX6_init_79 : decode cX6_init 79 = .ok (.newarray .int, 2) := by decide +kernel
theorem dX6_init_81 : decode cX6_init 81 = .ok (.putfield 38, 3) := by decide +kernel
theorem dX6_init_84 : decode cX6_init 84 = .ok (.aload_n 0, 1) := by decide +kernel
theorem dX6_init_85 : decode cX6_init 85 = .ok (.bipush 6, 2) := by decide +kernel
theorem dX6_init_87 : decode cX6_init 87 = .ok (.newarray .int, 2) := by decide +kernel
theorem dX6_init_89 : decode cX6_init 89 = .ok (.putfield 41, 3) := by decide +kernel
theorem dX6_init_92 : decode cX6_init 92 = .ok (.aload_n 0, 1) := by decide +kernel
theorem dX6_init_93 : decode cX6_init 93 = .ok (.bipush 8, 2) := by decide +kernel
theorem dX6_init_95 : decode cX6_init 95 = .ok (.newarray .int, 2) := by decide +kernel
theorem dX6_init_97 : decode cX6_init 97 = .ok (.putfield 44, 3) := by decide +kernel
theorem dX6_init_100 : decode cX6_init 100 = .ok (.aload_n 0, 1) := by decide +kernel
theorem dX6_init_101 : decode cX6_init 101 = .ok (.bipush 8, 2) := by decide +kernel
theorem dX6_init_103 : decode cX6_init 103 = .ok (.newarray .int, 2) := by decide +kernel
theorem dX6_init_105 : decode cX6_init 105 = .ok (.putfield 47, 3) := by decide +kernel
theorem dX6_init_108 : decode cX6_init 108 = .ok (.aload_n 0, 1) := by decide +kernel
theorem dX6_init_109 : decode cX6_init 109 = .ok (.bipush 8, 2) := by decide +kernel
theorem dX6_init_111 : decode cX6_init 111 = .ok (.newarray .int, 2) := by decide +kernel
theorem dX6_init_113 : decode cX6_init 113 = .ok (.putfield 50, 3) := by decide +kernel
theorem dX6_init_116 : decode cX6_init 116 = .ok (.aload_n 0, 1) := by decide +kernel
theorem dX6_init_117 : decode cX6_init 117 = .ok (.bipush 8, 2) := by decide +kernel
theorem dX6_init_119 : decode cX6_init 119 = .ok (.newarray .int, 2) := by decide +kernel
theorem dX6_init_121 : decode cX6_init 121 = .ok (.putfield 53, 3) := by decide +kernel
theorem dX6_init_124 : decode cX6_init 124 = .ok (.aload_n 0, 1) := by decide +kernel
theorem dX6_init_125 : decode cX6_init 125 = .ok (.bipush 8, 2) := by decide +kernel
theorem dX6_init_127 : decode cX6_init 127 = .ok (.newarray .int, 2) := by decide +kernel
theorem dX6_init_129 : decode cX6_init 129 = .ok (.putfield 56, 3) := by decide +kernel
theorem dX6_init_132 : decode cX6_init 132 = .ok (.aload_n 0, 1) := by decide +kernel
theorem dX6_init_133 : decode cX6_init 133 = .ok (.sipush 328, 3) := by decide +kernel
theorem dX6_init_136 : decode cX6_init 136 = .ok (.newarray .int, 2) := by decide +kernel
theorem dX6_init_138 : decode cX6_init 138 = .ok (.putfield 59, 3) := by decide +kernel
theorem dX6_init_141 : decode cX6_init 141 = .ok (.return_, 1) := by decide +kernel
theorem dX6_in_0 : decode cX6_in 0 = .ok (.lload_n 0, 1) := by decide +kernel
theorem dX6_in_1 : decode cX6_in 1 = .ok (.lload_n 2, 1) := by decide +kernel
theorem dX6_in_2 : decode cX6_in 2 = .ok (.lcmp, 1) := by decide +kernel
theorem dX6_in_3 : decode cX6_in 3 = .ok (.ifCond .lt 14, 3) := by decide +kernel
theorem dX6_in_6 : decode cX6_in 6 = .ok (.lload_n 0, 1) := by decide +kernel
theorem dX6_in_7 : decode cX6_in 7 = .ok (.lload 4, 2) := by decide +kernel
theorem dX6_in_9 : decode cX6_in 9 = .ok (.lcmp, 1) := by decide +kernel
theorem dX6_in_10 : decode cX6_in 10 = .ok (.ifCond .gt 7, 3) := by decide +kernel
theorem dX6_in_13 : decode cX6_in 13 = .ok (.iconst 1, 1) := by decide +kernel
theorem dX6_in_14 : decode cX6_in 14 = .ok (.goto 4, 3) := by decide +kernel
theorem dX6_in_17 : decode cX6_in 17 = .ok (.iconst 0, 1) := by decide +kernel
theorem dX6_in_18 : decode cX6_in 18 = .ok (.ireturn, 1) := by decide +kernel
theorem dX6_has_0 : decode cX6_has 0 = .ok (.iload_n 0, 1) := by decide +kernel
theorem dX6_has_1 : decode cX6_has 1 = .ok (.iload_n 1, 1) := by decide +kernel
theorem dX6_has_2 : decode cX6_has 2 = .ok (.ishr, 1) := by decide +kernel
theorem dX6_has_3 : decode cX6_has 3 = .ok (.iconst 1, 1) := by decide +kernel
theorem dX6_has_4 : decode cX6_has 4 = .ok (.iand, 1) := by decide +kernel
theorem dX6_has_5 : decode cX6_has 5 = .ok (.iconst 1, 1) := by decide +kernel
theorem dX6_has_6 : decode cX6_has 6 = .ok (.if_icmp .ne 7, 3) := by decide +kernel
theorem dX6_has_9 : decode cX6_has 9 = .ok (.iconst 1, 1) := by decide +kernel
theorem dX6_has_10 : decode cX6_has 10 = .ok (.goto 4, 3) := by decide +kernel
theorem dX6_has_13 : decode cX6_has 13 = .ok (.iconst 0, 1) := by decide +kernel
theorem dX6_has_14 : decode cX6_has 14 = .ok (.ireturn, 1) := by decide +kernel
theorem dX6_power_0 : decode cX6_power 0 = .ok (.iconst 1, 1) := by decide +kernel
theorem dX6_power_1 : decode cX6_power 1 = .ok (.istore_n 2, 1) := by decide +kernel
theorem dX6_power_2 : decode cX6_power 2 = .ok (.iconst 0, 1) := by decide +kernel
theorem dX6_power_3 : decode cX6_power 3 = .ok (.istore_n 3, 1) := by decide +kernel
theorem dX6_power_4 : decode cX6_power 4 = .ok (.iload_n 3, 1) := by decide +kernel
theorem dX6_power_5 : decode cX6_power 5 = .ok (.iload_n 1, 1) := by decide +kernel
theorem dX6_power_6 : decode cX6_power 6 = .ok (.if_icmp .ge 13, 3) := by decide +kernel
theorem dX6_power_9 : decode cX6_power 9 = .ok (.iload_n 2, 1) := by decide +kernel
theorem dX6_power_10 : decode cX6_power 10 = .ok (.iload_n 0, 1) := by decide +kernel
theorem dX6_power_11 : decode cX6_power 11 = .ok (.imul, 1) := by decide +kernel
theorem dX6_power_12 : decode cX6_power 12 = .ok (.istore_n 2, 1) := by decide +kernel
theorem dX6_power_13 : decode cX6_power 13 = .ok (.iinc 3 1, 3) := by decide +kernel
theorem dX6_power_16 : decode cX6_power 16 = .ok (.goto (-12), 3) := by decide +kernel
theorem dX6_power_19 : decode cX6_power 19 = .ok (.iload_n 2, 1) := by decide +kernel
theorem dX6_power_20 : decode cX6_power 20 = .ok (.ireturn, 1) := by decide +kernel
theorem dX6_noStream_0 : decode cX6_noStream 0 = .ok (.iload_n 1, 1) := by decide +kernel
theorem dX6_noStream_1 : decode cX6_noStream 1 = .ok (.i2l, 1) := by decide +kernel
theorem dX6_noStream_2 : decode cX6_noStream 2 = .ok (.lconst 0, 1) := by decide +kernel
theorem dX6_noStream_3 : decode cX6_noStream 3 = .ok (.aload_n 0, 1) := by decide +kernel
theorem dX6_noStream_4 : decode cX6_noStream 4 = .ok (.getfield 16, 3) := by decide +kernel
theorem dX6_noStream_7 : decode cX6_noStream 7 = .ok (.iconst 0, 1) := by decide +kernel
theorem dX6_noStream_8 : decode cX6_noStream 8 = .ok (.iaload, 1) := by decide +kernel
theorem dX6_noStream_9 : decode cX6_noStream 9 = .ok (.iconst 1, 1) := by decide +kernel
theorem dX6_noStream_10 : decode cX6_noStream 10 = .ok (.isub, 1) := by decide +kernel
theorem dX6_noStream_11 : decode cX6_noStream 11 = .ok (.i2l, 1) := by decide +kernel
theorem dX6_noStream_12 : decode cX6_noStream 12 = .ok (.invokestatic 66, 3) := by decide +kernel
theorem dX6_noStream_15 : decode cX6_noStream 15 = .ok (.ifCond .ne 7, 3) := by decide +kernel
theorem dX6_noStream_18 : decode cX6_noStream 18 = .ok (.iconst 1, 1) := by decide +kernel
theorem dX6_noStream_19 : decode cX6_noStream 19 = .ok (.goto 4, 3) := by decide +kernel
theorem dX6_noStream_22 : decode cX6_noStream 22 = .ok (.iconst 0, 1) := by decide +kernel
theorem dX6_noStream_23 : decode cX6_noStream 23 = .ok (.ireturn, 1) := by decide +kernel
theorem dX6_figures_0 : decode cX6_figures 0 = .ok (.iload_n 0, 1) := by decide +kernel
theorem dX6_figures_1 : decode cX6_figures 1 = .ok (.iconst 2, 1) := by decide +kernel
theorem dX6_figures_2 : decode cX6_figures 2 = .ok (.if_icmp .lt 9, 3) := by decide +kernel
theorem dX6_figures_5 : decode cX6_figures 5 = .ok (.iload_n 0, 1) := by decide +kernel
theorem dX6_figures_6 : decode cX6_figures 6 = .ok (.bipush 7, 2) := by decide +kernel
theorem dX6_figures_8 : decode cX6_figures 8 = .ok (.if_icmp .ne 7, 3) := by decide +kernel
theorem dX6_figures_11 : decode cX6_figures 11 = .ok (.iconst 1, 1) := by decide +kernel
theorem dX6_figures_12 : decode cX6_figures 12 = .ok (.goto 19, 3) := by decide +kernel
theorem dX6_figures_15 : decode cX6_figures 15 = .ok (.iload_n 0, 1) := by decide +kernel
theorem dX6_figures_16 : decode cX6_figures 16 = .ok (.iconst 5, 1) := by decide +kernel
theorem dX6_figures_17 : decode cX6_figures 17 = .ok (.if_icmp .eq 9, 3) := by decide +kernel
theorem dX6_figures_20 : decode cX6_figures 20 = .ok (.iload_n 0, 1) := by decide +kernel
theorem dX6_figures_21 : decode cX6_figures 21 = .ok (.bipush 11, 2) := by decide +kernel
theorem dX6_figures_23 : decode cX6_figures 23 = .ok (.if_icmp .ne 7, 3) := by decide +kernel
theorem dX6_figures_26 : decode cX6_figures 26 = .ok (.iconst 3, 1) := by decide +kernel
theorem dX6_figures_27 : decode cX6_figures 27 = .ok (.goto 4, 3) := by decide +kernel
theorem dX6_figures_30 : decode cX6_figures 30 = .ok (.iconst 2, 1) := by decide +kernel
theorem dX6_figures_31 : decode cX6_figures 31 = .ok (.ireturn, 1) := by decide +kernel
theorem dX6_kindOf_0 : decode cX6_kindOf 0 = .ok (.iload_n 0, 1) := by decide +kernel
theorem dX6_kindOf_1 : decode cX6_kindOf 1 = .ok (.tableswitch 225 43 87 #[199, 225, 201, 225, 225, 225, 225, 225, 225, 225, 225, 225, 225, 225, 225, 225, 225, 203, 225, 225, 205, 225, 213, 225, 225, 225, 225, 207, 225, 225, 195, 225, 197, 225, 222, 219, 225, 210, 225, 225, 225, 225, 225, 225, 216], 195) := by decide +kernel
theorem dX6_kindOf_196 : decode cX6_kindOf 196 = .ok (.iconst 0, 1) := by decide +kernel
theorem dX6_kindOf_197 : decode cX6_kindOf 197 = .ok (.ireturn, 1) := by decide +kernel
theorem dX6_kindOf_198 : decode cX6_kindOf 198 = .ok (.iconst 1, 1) := by decide +kernel
theorem dX6_kindOf_199 : decode cX6_kindOf 199 = .ok (.ireturn, 1) := by decide +kernel
theorem dX6_kindOf_200 : decode cX6_kindOf 200 = .ok (.iconst 2, 1) := by decide +kernel
theorem dX6_kindOf_201 : decode cX6_kindOf 201 = .ok (.ireturn, 1) := by decide +kernel
theorem dX6_kindOf_202 : decode cX6_kindOf 202 = .ok (.iconst 3, 1) := by decide +kernel
theorem dX6_kindOf_203 : decode cX6_kindOf 203 = .ok (.ireturn, 1) := by decide +kernel
theorem dX6_kindOf_204 : decode cX6_kindOf 204 = .ok (.iconst 4, 1) := by decide +kernel
theorem dX6_kindOf_205 : decode cX6_kindOf 205 = .ok (.ireturn, 1) := by decide +kernel
theorem dX6_kindOf_206 : decode cX6_kindOf 206 = .ok (.iconst 5, 1) := by decide +kernel
theorem dX6_kindOf_207 : decode cX6_kindOf 207 = .ok (.ireturn, 1) := by decide +kernel
theorem dX6_kindOf_208 : decode cX6_kindOf 208 = .ok (.bipush 6, 2) := by decide +kernel
theorem dX6_kindOf_210 : decode cX6_kindOf 210 = .ok (.ireturn, 1) := by decide +kernel
theorem dX6_kindOf_211 : decode cX6_kindOf 211 = .ok (.bipush 7, 2) := by decide +kernel
theorem dX6_kindOf_213 : decode cX6_kindOf 213 = .ok (.ireturn, 1) := by decide +kernel
theorem dX6_kindOf_214 : decode cX6_kindOf 214 = .ok (.bipush 8, 2) := by decide +kernel
theorem dX6_kindOf_216 : decode cX6_kindOf 216 = .ok (.ireturn, 1) := by decide +kernel
theorem dX6_kindOf_217 : decode cX6_kindOf 217 = .ok (.bipush 9, 2) := by decide +kernel
theorem dX6_kindOf_219 : decode cX6_kindOf 219 = .ok (.ireturn, 1) := by decide +kernel
theorem dX6_kindOf_220 : decode cX6_kindOf 220 = .ok (.bipush 10, 2) := by decide +kernel
theorem dX6_kindOf_222 : decode cX6_kindOf 222 = .ok (.ireturn, 1) := by decide +kernel
theorem dX6_kindOf_223 : decode cX6_kindOf 223 = .ok (.bipush 11, 2) := by decide +kernel
theorem dX6_kindOf_225 : decode cX6_kindOf 225 = .ok (.ireturn, 1) := by decide +kernel
theorem dX6_kindOf_226 : decode cX6_kindOf 226 = .ok (.bipush (-9), 2) := by decide +kernel
theorem dX6_kindOf_228 : decode cX6_kindOf 228 = .ok (.ireturn, 1) := by decide +kernel
theorem dX6_most_0 : decode cX6_most 0 = .ok (.iload_n 0, 1) := by decide +kernel
theorem dX6_most_1 : decode cX6_most 1 = .ok (.ifCond .ne 7, 3) := by decide +kernel
theorem dX6_most_4 : decode cX6_most 4 = .ok (.iconst 1, 1) := by decide +kernel
theorem dX6_most_5 : decode cX6_most 5 = .ok (.goto 26, 3) := by decide +kernel
theorem dX6_most_8 : decode cX6_most 8 = .ok (.iload_n 0, 1) := by decide +kernel
theorem dX6_most_9 : decode cX6_most 9 = .ok (.iconst 1, 1) := by decide +kernel
theorem dX6_most_10 : decode cX6_most 10 = .ok (.if_icmp .eq 13, 3) := by decide +kernel
theorem dX6_most_13 : decode cX6_most 13 = .ok (.iload_n 0, 1) := by decide +kernel
theorem dX6_most_14 : decode cX6_most 14 = .ok (.bipush 6, 2) := by decide +kernel
theorem dX6_most_16 : decode cX6_most 16 = .ok (.if_icmp .ne 12, 3) := by decide +kernel
theorem dX6_most_19 : decode cX6_most 19 = .ok (.iload_n 1, 1) := by decide +kernel
theorem dX6_most_20 : decode cX6_most 20 = .ok (.ifCond .ne 8, 3) := by decide +kernel
theorem dX6_most_23 : decode cX6_most 23 = .ok (.bipush 9, 2) := by decide +kernel
theorem dX6_most_25 : decode cX6_most 25 = .ok (.goto 6, 3) := by decide +kernel
theorem dX6_most_28 : decode cX6_most 28 = .ok (.iload_n 2, 1) := by decide +kernel
theorem dX6_most_29 : decode cX6_most 29 = .ok (.iconst 1, 1) := by decide +kernel
theorem dX6_most_30 : decode cX6_most 30 = .ok (.isub, 1) := by decide +kernel
theorem dX6_most_31 : decode cX6_most 31 = .ok (.ireturn, 1) := by decide +kernel
theorem dX6_streamOf_0 : decode cX6_streamOf 0 = .ok (.aload_n 0, 1) := by decide +kernel
theorem dX6_streamOf_1 : decode cX6_streamOf 1 = .ok (.iconst 1, 1) := by decide +kernel
theorem dX6_streamOf_2 : decode cX6_streamOf 2 = .ok (.iload_n 1, 1) := by decide +kernel
theorem dX6_streamOf_3 : decode cX6_streamOf 3 = .ok (.iadd, 1) := by decide +kernel
theorem dX6_streamOf_4 : decode cX6_streamOf 4 = .ok (.iaload, 1) := by decide +kernel
theorem dX6_streamOf_5 : decode cX6_streamOf 5 = .ok (.istore_n 3, 1) := by decide +kernel
theorem dX6_streamOf_6 : decode cX6_streamOf 6 = .ok (.iload_n 3, 1) := by decide +kernel
theorem dX6_streamOf_7 : decode cX6_streamOf 7 = .ok (.iconst 1, 1) := by decide +kernel
theorem dX6_streamOf_8 : decode cX6_streamOf 8 = .ok (.if_icmp .le 25, 3) := by decide +kernel
theorem dX6_streamOf_11 : decode cX6_streamOf 11 = .ok (.iload_n 2, 1) := by decide +kernel
theorem dX6_streamOf_12 : decode cX6_streamOf 12 = .ok (.iload_n 3, 1) := by decide +kernel
theorem dX6_streamOf_13 : decode cX6_streamOf 13 = .ok (.invokestatic 70, 3) := by decide +kernel
theorem dX6_streamOf_16 : decode cX6_streamOf 16 = .ok (.if_icmp .ge 17, 3) := by decide +kernel
theorem dX6_streamOf_19 : decode cX6_streamOf 19 = .ok (.iload_n 3, 1) := by decide +kernel
theorem dX6_streamOf_20 : decode cX6_streamOf 20 = .ok (.bipush 6, 2) := by decide +kernel
theorem dX6_streamOf_22 : decode cX6_streamOf 22 = .ok (.if_icmp .ne 7, 3) := by decide +kernel
theorem dX6_streamOf_25 : decode cX6_streamOf 25 = .ok (.iload_n 2, 1) := by decide +kernel
theorem dX6_streamOf_26 : decode cX6_streamOf 26 = .ok (.ifCond .le 7, 3) := by decide +kernel
theorem dX6_streamOf_29 : decode cX6_streamOf 29 = .ok (.iconst 1, 1) := by decide +kernel
theorem dX6_streamOf_30 : decode cX6_streamOf 30 = .ok (.goto 4, 3) := by decide +kernel
theorem dX6_streamOf_33 : decode cX6_streamOf 33 = .ok (.iconst 0, 1) := by decide +kernel
theorem dX6_streamOf_34 : decode cX6_streamOf 34 = .ok (.istore 4, 2) := by decide +kernel
theorem dX6_streamOf_36 : decode cX6_streamOf 36 = .ok (.iload 4, 2) := by decide +kernel
theorem dX6_streamOf_38 : decode cX6_streamOf 38 = .ok (.ifCond .eq 16, 3) := by decide +kernel
theorem dX6_streamOf_41 : decode cX6_streamOf 41 = .ok (.aload_n 0, 1) := by decide +kernel
theorem dX6_streamOf_42 : decode cX6_streamOf 42 = .ok (.bipush 9, 2) := by decide +kernel
theorem dX6_streamOf_44 : decode cX6_streamOf 44 = .ok (.iconst 3, 1) := by decide +kernel
theorem dX6_streamOf_45 : decode cX6_streamOf 45 = .ok (.iload_n 1, 1) := by decide +kernel
theorem dX6_streamOf_46 : decode cX6_streamOf 46 = .ok (.imul, 1) := by decide +kernel
theorem dX6_streamOf_47 : decode cX6_streamOf 47 = .ok (.iadd, 1) := by decide +kernel
theorem dX6_streamOf_48 : decode cX6_streamOf 48 = .ok (.iload_n 2, 1) := by decide +kernel
theorem dX6_streamOf_49 : decode cX6_streamOf 49 = .ok (.iadd, 1) := by decide +kernel
theorem dX6_streamOf_50 : decode cX6_streamOf 50 = .ok (.iaload, 1) := by decide +kernel
theorem dX6_streamOf_51 : decode cX6_streamOf 51 = .ok (.goto 5, 3) := by decide +kernel
theorem dX6_streamOf_54 : decode cX6_streamOf 54 = .ok (.bipush (-9), 2) := by decide +kernel
theorem dX6_streamOf_56 : decode cX6_streamOf 56 = .ok (.ireturn, 1) := by decide +kernel
theorem dX6_write_0 : decode cX6_write 0 = .ok (.aload_n 0, 1) := by decide +kernel
theorem dX6_write_1 : decode cX6_write 1 = .ok (.iconst 0, 1) := by decide +kernel
theorem dX6_write_2 : decode cX6_write 2 = .ok (.putfield 62, 3) := by decide +kernel
theorem dX6_write_5 : decode cX6_write 5 = .ok (.iload_n 1, 1) := by decide +kernel
theorem dX6_write_6 : decode cX6_write 6 = .ok (.i2l, 1) := by decide +kernel
theorem dX6_write_7 : decode cX6_write 7 = .ok (.lconst 0, 1) := by decide +kernel
theorem dX6_write_8 : decode cX6_write 8 = .ok (.ldc2_w 74, 3) := by decide +kernel
theorem dX6_write_11 : decode cX6_write 11 = .ok (.invokestatic 66, 3) := by decide +kernel
theorem dX6_write_14 : decode cX6_write 14 = .ok (.ifCond .ne 6, 3) := by decide +kernel
theorem dX6_write_17 : decode cX6_write 17 = .ok (.bipush (-2), 2) := by decide +kernel
theorem dX6_write_19 : decode cX6_write 19 = .ok (.ireturn, 1) := by decide +kernel
theorem dX6_write_20 : decode cX6_write 20 = .ok (.aload_n 0, 1) := by decide +kernel
theorem dX6_write_21 : decode cX6_write 21 = .ok (.getfield 76, 3) := by decide +kernel
theorem dX6_write_24 : decode cX6_write 24 = .ok (.bipush 40, 2) := by decide +kernel
theorem dX6_write_26 : decode cX6_write 26 = .ok (.if_icmp .ne 6, 3) := by decide +kernel
theorem dX6_write_29 : decode cX6_write 29 = .ok (.bipush (-4), 2) := by decide +kernel
theorem dX6_write_31 : decode cX6_write 31 = .ok (.ireturn, 1) := by decide +kernel
theorem dX6_write_32 : decode cX6_write 32 = .ok (.aload_n 0, 1) := by decide +kernel
theorem dX6_write_33 : decode cX6_write 33 = .ok (.getfield 7, 3) := by decide +kernel
theorem dX6_write_36 : decode cX6_write 36 = .ok (.aload_n 0, 1) := by decide +kernel
theorem dX6_write_37 : decode cX6_write 37 = .ok (.getfield 76, 3) := by decide +kernel
theorem dX6_write_40 : decode cX6_write 40 = .ok (.iload_n 1, 1) := by decide +kernel
theorem dX6_write_41 : decode cX6_write 41 = .ok (.iastore, 1) := by decide +kernel
theorem dX6_write_42 : decode cX6_write 42 = .ok (.aload_n 0, 1) := by decide +kernel
theorem dX6_write_43 : decode cX6_write 43 = .ok (.dup, 1) := by decide +kernel
theorem dX6_write_44 : decode cX6_write 44 = .ok (.getfield 76, 3) := by decide +kernel
theorem dX6_write_47 : decode cX6_write 47 = .ok (.iconst 1, 1) := by decide +kernel
theorem dX6_write_48 : decode cX6_write 48 = .ok (.iadd, 1) := by decide +kernel
theorem dX6_write_49 : decode cX6_write 49 = .ok (.putfield 76, 3) := by decide +kernel
theorem dX6_write_52 : decode cX6_write 52 = .ok (.aload_n 0, 1) := by decide +kernel
theorem dX6_write_53 : decode cX6_write 53 = .ok (.getfield 76, 3) := by decide +kernel
theorem dX6_write_56 : decode cX6_write 56 = .ok (.ireturn, 1) := by decide +kernel
theorem dX6_wipe_0 : decode cX6_wipe 0 = .ok (.aload_n 0, 1) := by decide +kernel
theorem dX6_wipe_1 : decode cX6_wipe 1 = .ok (.iconst 0, 1) := by decide +kernel
theorem dX6_wipe_2 : decode cX6_wipe 2 = .ok (.putfield 62, 3) := by decide +kernel
theorem dX6_wipe_5 : decode cX6_wipe 5 = .ok (.aload_n 0, 1) := by decide +kernel
theorem dX6_wipe_6 : decode cX6_wipe 6 = .ok (.getfield 76, 3) := by decide +kernel
theorem dX6_wipe_9 : decode cX6_wipe 9 = .ok (.istore_n 1, 1) := by decide +kernel
theorem dX6_wipe_10 : decode cX6_wipe 10 = .ok (.aload_n 0, 1) := by decide +kernel
theorem dX6_wipe_11 : decode cX6_wipe 11 = .ok (.iconst 0, 1) := by decide +kernel
theorem dX6_wipe_12 : decode cX6_wipe 12 = .ok (.putfield 76, 3) := by decide +kernel
theorem dX6_wipe_15 : decode cX6_wipe 15 = .ok (.iload_n 1, 1) := by decide +kernel
theorem dX6_wipe_16 : decode cX6_wipe 16 = .ok (.ireturn, 1) := by decide +kernel
theorem dX6_letterAt_0 : decode cX6_letterAt 0 = .ok (.iload_n 1, 1) := by decide +kernel
theorem dX6_letterAt_1 : decode cX6_letterAt 1 = .ok (.aload_n 0, 1) := by decide +kernel
theorem dX6_letterAt_2 : decode cX6_letterAt 2 = .ok (.getfield 76, 3) := by decide +kernel
theorem dX6_letterAt_5 : decode cX6_letterAt 5 = .ok (.if_icmp .ge 12, 3) := by decide +kernel
theorem dX6_letterAt_8 : decode cX6_letterAt 8 = .ok (.aload_n 0, 1) := by decide +kernel
theorem dX6_letterAt_9 : decode cX6_letterAt 9 = .ok (.getfield 7, 3) := by decide +kernel
theorem dX6_letterAt_12 : decode cX6_letterAt 12 = .ok (.iload_n 1, 1) := by decide +kernel
theorem dX6_letterAt_13 : decode cX6_letterAt 13 = .ok (.iaload, 1) := by decide +kernel
theorem dX6_letterAt_14 : decode cX6_letterAt 14 = .ok (.goto 5, 3) := by decide +kernel
theorem dX6_letterAt_17 : decode cX6_letterAt 17 = .ok (.bipush (-9), 2) := by decide +kernel
theorem dX6_letterAt_19 : decode cX6_letterAt 19 = .ok (.ireturn, 1) := by decide +kernel
theorem dX6_readEquation_0 : decode cX6_readEquation 0 = .ok (.aload_n 0, 1) := by decide +kernel
theorem dX6_readEquation_1 : decode cX6_readEquation 1 = .ok (.aload_n 0, 1) := by decide +kernel
theorem dX6_readEquation_2 : decode cX6_readEquation 2 = .ok (.getfield 79, 3) := by decide +kernel
theorem dX6_readEquation_5 : decode cX6_readEquation 5 = .ok (.invokevirtual 82, 3) := by decide +kernel
theorem dX6_readEquation_8 : decode cX6_readEquation 8 = .ok (.invokestatic 85, 3) := by decide +kernel
theorem dX6_readEquation_11 : decode cX6_readEquation 11 = .ok (.istore_n 3, 1) := by decide +kernel
theorem dX6_readEquation_12 : decode cX6_readEquation 12 = .ok (.iload_n 3, 1) := by decide +kernel
theorem dX6_readEquation_13 : decode cX6_readEquation 13 = .ok (.bipush (-9), 2) := by decide +kernel
theorem dX6_readEquation_15 : decode cX6_readEquation 15 = .ok (.if_icmp .ne 5, 3) := by decide +kernel
theorem dX6_readEquation_18 : decode cX6_readEquation 18 = .ok (.iconst 0, 1) := by decide +kernel
theorem dX6_readEquation_19 : decode cX6_readEquation 19 = .ok (.ireturn, 1) := by decide +kernel
theorem dX6_readEquation_20 : decode cX6_readEquation 20 = .ok (.aload_n 0, 1) := by decide +kernel
theorem dX6_readEquation_21 : decode cX6_readEquation 21 = .ok (.getfield 13, 3) := by decide +kernel
theorem dX6_readEquation_24 : decode cX6_readEquation 24 = .ok (.iconst 1, 1) := by decide +kernel
theorem dX6_readEquation_25 : decode cX6_readEquation 25 = .ok (.iload_n 1, 1) := by decide +kernel
theorem dX6_readEquation_26 : decode cX6_readEquation 26 = .ok (.iadd, 1) := by decide +kernel
theorem dX6_readEquation_27 : decode cX6_readEquation 27 = .ok (.iload_n 3, 1) := by decide +kernel
theorem dX6_readEquation_28 : decode cX6_readEquation 28 = .ok (.iastore, 1) := by decide +kernel
theorem dX6_readEquation_29 : decode cX6_readEquation 29 = .ok (.aload_n 0, 1) := by decide +kernel
theorem dX6_readEquation_30 : decode cX6_readEquation 30 = .ok (.dup, 1) := by decide +kernel
theorem dX6_readEquation_31 : decode cX6_readEquation 31 = .ok (.getfield 79, 3) := by decide +kernel
theorem dX6_readEquation_34 : decode cX6_readEquation 34 = .ok (.iconst 1, 1) := by decide +kernel
theorem dX6_readEquation_35 : decode cX6_readEquation 35 = .ok (.iadd, 1) := by decide +kernel
theorem dX6_readEquation_36 : decode cX6_readEquation 36 = .ok (.putfield 79, 3) := by decide +kernel
theorem dX6_readEquation_39 : decode cX6_readEquation 39 = .ok (.iconst 0, 1) := by decide +kernel
theorem dX6_readEquation_40 : decode cX6_readEquation 40 = .ok (.istore 4, 2) := by decide +kernel
theorem dX6_readEquation_42 : decode cX6_readEquation 42 = .ok (.iload 4, 2) := by decide +kernel
theorem dX6_readEquation_44 : decode cX6_readEquation 44 = .ok (.iload_n 3, 1) := by decide +kernel
theorem dX6_readEquation_45 : decode cX6_readEquation 45 = .ok (.invokestatic 70, 3) := by decide +kernel
theorem dX6_readEquation_48 : decode cX6_readEquation 48 = .ok (.if_icmp .ge 68, 3) := by decide +kernel
theorem dX6_readEquation_51 : decode cX6_readEquation 51 = .ok (.aload_n 0, 1) := by decide +kernel
theorem dX6_readEquation_52 : decode cX6_readEquation 52 = .ok (.aload_n 0, 1) := by decide +kernel
theorem dX6_readEquation_53 : decode cX6_readEquation 53 = .ok (.getfield 79, 3) := by decide +kernel
theorem dX6_readEquation_56 : decode cX6_readEquation 56 = .ok (.invokevirtual 82, 3) := by decide +kernel
theorem dX6_readEquation_59 : decode cX6_readEquation 59 = .ok (.bipush 48, 2) := by decide +kernel
theorem dX6_readEquation_61 : decode cX6_readEquation 61 = .ok (.isub, 1) := by decide +kernel
theorem dX6_readEquation_62 : decode cX6_readEquation 62 = .ok (.istore 5, 2) := by decide +kernel
theorem dX6_readEquation_64 : decode cX6_readEquation 64 = .ok (.iload 5, 2) := by decide +kernel
theorem dX6_readEquation_66 : decode cX6_readEquation 66 = .ok (.i2l, 1) := by decide +kernel
theorem dX6_readEquation_67 : decode cX6_readEquation 67 = .ok (.lconst 0, 1) := by decide +kernel
theorem dX6_readEquation_68 : decode cX6_readEquation 68 = .ok (.iload_n 3, 1) := by decide +kernel
theorem dX6_readEquation_69 : decode cX6_readEquation 69 = .ok (.iload 4, 2) := by decide +kernel
theorem dX6_readEquation_71 : decode cX6_readEquation 71 = .ok (.iload_n 2, 1) := by decide +kernel
theorem dX6_readEquation_72 : decode cX6_readEquation 72 = .ok (.invokestatic 88, 3) := by decide +kernel
theorem dX6_readEquation_75 : decode cX6_readEquation 75 = .ok (.i2l, 1) := by decide +kernel
theorem dX6_readEquation_76 : decode cX6_readEquation 76 = .ok (.invokestatic 66, 3) := by decide +kernel
theorem dX6_readEquation_79 : decode cX6_readEquation 79 = .ok (.ifCond .ne 5, 3) := by decide +kernel
theorem dX6_readEquation_82 : decode cX6_readEquation 82 = .ok (.iconst 0, 1) := by decide +kernel
theorem dX6_readEquation_83 : decode cX6_readEquation 83 = .ok (.ireturn, 1) := by decide +kernel
theorem dX6_readEquation_84 : decode cX6_readEquation 84 = .ok (.aload_n 0, 1) := by decide +kernel
theorem dX6_readEquation_85 : decode cX6_readEquation 85 = .ok (.getfield 13, 3) := by decide +kernel
theorem dX6_readEquation_88 : decode cX6_readEquation 88 = .ok (.bipush 9, 2) := by decide +kernel
theorem dX6_readEquation_90 : decode cX6_readEquation 90 = .ok (.iconst 3, 1) := by decide +kernel
theorem dX6_readEquation_91 : decode cX6_readEquation 91 = .ok (.iload_n 1, 1) := by decide +kernel
theorem dX6_readEquation_92 : decode cX6_readEquation 92 = .ok (.imul, 1) := by decide +kernel
theorem dX6_readEquation_93 : decode cX6_readEquation 93 = .ok (.iadd, 1) := by decide +kernel
theorem dX6_readEquation_94 : decode cX6_readEquation 94 = .ok (.iload 4, 2) := by decide +kernel
theorem dX6_readEquation_96 : decode cX6_readEquation 96 = .ok (.iadd, 1) := by decide +kernel
theorem dX6_readEquation_97 : decode cX6_readEquation 97 = .ok (.iload 5, 2) := by decide +kernel
theorem dX6_readEquation_99 : decode cX6_readEquation 99 = .ok (.iastore, 1) := by decide +kernel
theorem dX6_readEquation_100 : decode cX6_readEquation 100 = .ok (.aload_n 0, 1) := by decide +kernel
theorem dX6_readEquation_101 : decode cX6_readEquation 101 = .ok (.dup, 1) := by decide +kernel
theorem dX6_readEquation_102 : decode cX6_readEquation 102 = .ok (.getfield 79, 3) := by decide +kernel
theorem dX6_readEquation_105 : decode cX6_readEquation 105 = .ok (.iconst 1, 1) := by decide +kernel
theorem dX6_readEquation_106 : decode cX6_readEquation 106 = .ok (.iadd, 1) := by decide +kernel
theorem dX6_readEquation_107 : decode cX6_readEquation 107 = .ok (.putfield 79, 3) := by decide +kernel
theorem dX6_readEquation_110 : decode cX6_readEquation 110 = .ok (.iinc 4 1, 3) := by decide +kernel
theorem dX6_readEquation_113 : decode cX6_readEquation 113 = .ok (.goto (-71), 3) := by decide +kernel
theorem dX6_readEquation_116 : decode cX6_readEquation 116 = .ok (.iconst 1, 1) := by decide +kernel
theorem dX6_readEquation_117 : decode cX6_readEquation 117 = .ok (.ireturn, 1) := by decide +kernel
theorem dX6_readProgram_0 : decode cX6_readProgram 0 = .ok (.aload_n 0, 1) := by decide +kernel
theorem dX6_readProgram_1 : decode cX6_readProgram 1 = .ok (.iconst 0, 1) := by decide +kernel
theorem dX6_readProgram_2 : decode cX6_readProgram 2 = .ok (.putfield 79, 3) := by decide +kernel
theorem dX6_readProgram_5 : decode cX6_readProgram 5 = .ok (.iconst 0, 1) := by decide +kernel
theorem dX6_readProgram_6 : decode cX6_readProgram 6 = .ok (.istore_n 1, 1) := by decide +kernel
theorem dX6_readProgram_7 : decode cX6_readProgram 7 = .ok (.iload_n 1, 1) := by decide +kernel
theorem dX6_readProgram_8 : decode cX6_readProgram 8 = .ok (.bipush 50, 2) := by decide +kernel
theorem dX6_readProgram_10 : decode cX6_readProgram 10 = .ok (.if_icmp .ge 16, 3) := by decide +kernel
theorem dX6_readProgram_13 : decode cX6_readProgram 13 = .ok (.aload_n 0, 1) := by decide +kernel
theorem dX6_readProgram_14 : decode cX6_readProgram 14 = .ok (.getfield 13, 3) := by decide +kernel
theorem dX6_readProgram_17 : decode cX6_readProgram 17 = .ok (.iload_n 1, 1) := by decide +kernel
theorem dX6_readProgram_18 : decode cX6_readProgram 18 = .ok (.iconst 0, 1) := by decide +kernel
theorem dX6_readProgram_19 : decode cX6_readProgram 19 = .ok (.iastore, 1) := by decide +kernel
theorem dX6_readProgram_20 : decode cX6_readProgram 20 = .ok (.iinc 1 1, 3) := by decide +kernel
theorem dX6_readProgram_23 : decode cX6_readProgram 23 = .ok (.goto (-16), 3) := by decide +kernel
theorem dX6_readProgram_26 : decode cX6_readProgram 26 = .ok (.aload_n 0, 1) := by decide +kernel
theorem dX6_readProgram_27 : decode cX6_readProgram 27 = .ok (.iconst 0, 1) := by decide +kernel
theorem dX6_readProgram_28 : decode cX6_readProgram 28 = .ok (.invokevirtual 82, 3) := by decide +kernel
theorem dX6_readProgram_31 : decode cX6_readProgram 31 = .ok (.bipush 83, 2) := by decide +kernel
theorem dX6_readProgram_33 : decode cX6_readProgram 33 = .ok (.if_icmp .eq 5, 3) := by decide +kernel
theorem dX6_readProgram_36 : decode cX6_readProgram 36 = .ok (.iconst 0, 1) := by decide +kernel
theorem dX6_readProgram_37 : decode cX6_readProgram 37 = .ok (.ireturn, 1) := by decide +kernel
theorem dX6_readProgram_38 : decode cX6_readProgram 38 = .ok (.aload_n 0, 1) := by decide +kernel
theorem dX6_readProgram_39 : decode cX6_readProgram 39 = .ok (.iconst 1, 1) := by decide +kernel
theorem dX6_readProgram_40 : decode cX6_readProgram 40 = .ok (.invokevirtual 82, 3) := by decide +kernel
theorem dX6_readProgram_43 : decode cX6_readProgram 43 = .ok (.bipush 48, 2) := by decide +kernel
theorem dX6_readProgram_45 : decode cX6_readProgram 45 = .ok (.isub, 1) := by decide +kernel
theorem dX6_readProgram_46 : decode cX6_readProgram 46 = .ok (.istore_n 1, 1) := by decide +kernel
theorem dX6_readProgram_47 : decode cX6_readProgram 47 = .ok (.iload_n 1, 1) := by decide +kernel
theorem dX6_readProgram_48 : decode cX6_readProgram 48 = .ok (.i2l, 1) := by decide +kernel
theorem dX6_readProgram_49 : decode cX6_readProgram 49 = .ok (.lconst 1, 1) := by decide +kernel
theorem dX6_readProgram_50 : decode cX6_readProgram 50 = .ok (.ldc2_w 92, 3) := by decide +kernel
theorem dX6_readProgram_53 : decode cX6_readProgram 53 = .ok (.invokestatic 66, 3) := by decide +kernel
theorem dX6_readProgram_56 : decode cX6_readProgram 56 = .ok (.ifCond .ne 5, 3) := by decide +kernel
theorem dX6_readProgram_59 : decode cX6_readProgram 59 = .ok (.iconst 1, 1) := by decide +kernel
theorem dX6_readProgram_60 : decode cX6_readProgram 60 = .ok (.ireturn, 1) := by decide +kernel
theorem dX6_readProgram_61 : decode cX6_readProgram 61 = .ok (.aload_n 0, 1) := by decide +kernel
theorem dX6_readProgram_62 : decode cX6_readProgram 62 = .ok (.iconst 2, 1) := by decide +kernel
theorem dX6_readProgram_63 : decode cX6_readProgram 63 = .ok (.putfield 79, 3) := by decide +kernel
theorem dX6_readProgram_66 : decode cX6_readProgram 66 = .ok (.iconst 0, 1) := by decide +kernel
theorem dX6_readProgram_67 : decode cX6_readProgram 67 = .ok (.istore_n 2, 1) := by decide +kernel
theorem dX6_readProgram_68 : decode cX6_readProgram 68 = .ok (.iload_n 2, 1) := by decide +kernel
theorem dX6_readProgram_69 : decode cX6_readProgram 69 = .ok (.iload_n 1, 1) := by decide +kernel
theorem dX6_readProgram_70 : decode cX6_readProgram 70 = .ok (.if_icmp .ge 23, 3) := by decide +kernel
theorem dX6_readProgram_73 : decode cX6_readProgram 73 = .ok (.aload_n 0, 1) := by decide +kernel
theorem dX6_readProgram_74 : decode cX6_readProgram 74 = .ok (.iload_n 2, 1) := by decide +kernel
theorem dX6_readProgram_75 : decode cX6_readProgram 75 = .ok (.iload_n 1, 1) := by decide +kernel
theorem dX6_readProgram_76 : decode cX6_readProgram 76 = .ok (.invokevirtual 94, 3) := by decide +kernel
theorem dX6_readProgram_79 : decode cX6_readProgram 79 = .ok (.ifCond .ne 8, 3) := by decide +kernel
theorem dX6_readProgram_82 : decode cX6_readProgram 82 = .ok (.aload_n 0, 1) := by decide +kernel
theorem dX6_readProgram_83 : decode cX6_readProgram 83 = .ok (.getfield 79, 3) := by decide +kernel
theorem dX6_readProgram_86 : decode cX6_readProgram 86 = .ok (.ireturn, 1) := by decide +kernel
theorem dX6_readProgram_87 : decode cX6_readProgram 87 = .ok (.iinc 2 1, 3) := by decide +kernel
theorem dX6_readProgram_90 : decode cX6_readProgram 90 = .ok (.goto (-22), 3) := by decide +kernel
theorem dX6_readProgram_93 : decode cX6_readProgram 93 = .ok (.aload_n 0, 1) := by decide +kernel
theorem dX6_readProgram_94 : decode cX6_readProgram 94 = .ok (.getfield 13, 3) := by decide +kernel
theorem dX6_readProgram_97 : decode cX6_readProgram 97 = .ok (.iconst 0, 1) := by decide +kernel
theorem dX6_readProgram_98 : decode cX6_readProgram 98 = .ok (.iload_n 1, 1) := by decide +kernel
theorem dX6_readProgram_99 : decode cX6_readProgram 99 = .ok (.iastore, 1) := by decide +kernel
theorem dX6_readProgram_100 : decode cX6_readProgram 100 = .ok (.aload_n 0, 1) := by decide +kernel
theorem dX6_readProgram_101 : decode cX6_readProgram 101 = .ok (.getfield 79, 3) := by decide +kernel
theorem dX6_readProgram_104 : decode cX6_readProgram 104 = .ok (.aload_n 0, 1) := by decide +kernel
theorem dX6_readProgram_105 : decode cX6_readProgram 105 = .ok (.getfield 76, 3) := by decide +kernel
theorem dX6_readProgram_108 : decode cX6_readProgram 108 = .ok (.if_icmp .ne 8, 3) := by decide +kernel
theorem dX6_readProgram_111 : decode cX6_readProgram 111 = .ok (.bipush (-9), 2) := by decide +kernel
theorem dX6_readProgram_113 : decode cX6_readProgram 113 = .ok (.goto 7, 3) := by decide +kernel
theorem dX6_readProgram_116 : decode cX6_readProgram 116 = .ok (.aload_n 0, 1) := by decide +kernel
theorem dX6_readProgram_117 : decode cX6_readProgram 117 = .ok (.getfield 79, 3) := by decide +kernel
theorem dX6_readProgram_120 : decode cX6_readProgram 120 = .ok (.ireturn, 1) := by decide +kernel
theorem dX6_fault_0 : decode cX6_fault 0 = .ok (.aload_n 0, 1) := by decide +kernel
theorem dX6_fault_1 : decode cX6_fault 1 = .ok (.iconst 0, 1) := by decide +kernel
theorem dX6_fault_2 : decode cX6_fault 2 = .ok (.putfield 62, 3) := by decide +kernel
theorem dX6_fault_5 : decode cX6_fault 5 = .ok (.aload_n 0, 1) := by decide +kernel
theorem dX6_fault_6 : decode cX6_fault 6 = .ok (.invokevirtual 98, 3) := by decide +kernel
theorem dX6_fault_9 : decode cX6_fault 9 = .ok (.ireturn, 1) := by decide +kernel
theorem dX6_root_0 : decode cX6_root 0 = .ok (.iload_n 1, 1) := by decide +kernel
theorem dX6_root_1 : decode cX6_root 1 = .ok (.istore_n 2, 1) := by decide +kernel
theorem dX6_root_2 : decode cX6_root 2 = .ok (.aload_n 0, 1) := by decide +kernel
theorem dX6_root_3 : decode cX6_root 3 = .ok (.getfield 44, 3) := by decide +kernel
theorem dX6_root_6 : decode cX6_root 6 = .ok (.iload_n 2, 1) := by decide +kernel
theorem dX6_root_7 : decode cX6_root 7 = .ok (.iaload, 1) := by decide +kernel
theorem dX6_root_8 : decode cX6_root 8 = .ok (.iload_n 2, 1) := by decide +kernel
theorem dX6_root_9 : decode cX6_root 9 = .ok (.if_icmp .eq 13, 3) := by decide +kernel
theorem dX6_root_12 : decode cX6_root 12 = .ok (.aload_n 0, 1) := by decide +kernel
theorem dX6_root_13 : decode cX6_root 13 = .ok (.getfield 44, 3) := by decide +kernel
theorem dX6_root_16 : decode cX6_root 16 = .ok (.iload_n 2, 1) := by decide +kernel
theorem dX6_root_17 : decode cX6_root 17 = .ok (.iaload, 1) := by decide +kernel
theorem dX6_root_18 : decode cX6_root 18 = .ok (.istore_n 2, 1) := by decide +kernel
theorem dX6_root_19 : decode cX6_root 19 = .ok (.goto (-17), 3) := by decide +kernel
theorem dX6_root_22 : decode cX6_root 22 = .ok (.iload_n 2, 1) := by decide +kernel
theorem dX6_root_23 : decode cX6_root 23 = .ok (.ireturn, 1) := by decide +kernel
theorem dX6_isMet_0 : decode cX6_isMet 0 = .ok (.aload_n 0, 1) := by decide +kernel
theorem dX6_isMet_1 : decode cX6_isMet 1 = .ok (.iload_n 2, 1) := by decide +kernel
theorem dX6_isMet_2 : decode cX6_isMet 2 = .ok (.invokevirtual 102, 3) := by decide +kernel
theorem dX6_isMet_5 : decode cX6_isMet 5 = .ok (.istore_n 3, 1) := by decide +kernel
theorem dX6_isMet_6 : decode cX6_isMet 6 = .ok (.iload_n 3, 1) := by decide +kernel
theorem dX6_isMet_7 : decode cX6_isMet 7 = .ok (.iload_n 1, 1) := by decide +kernel
theorem dX6_isMet_8 : decode cX6_isMet 8 = .ok (.if_icmp .eq 29, 3) := by decide +kernel
theorem dX6_isMet_11 : decode cX6_isMet 11 = .ok (.aload_n 0, 1) := by decide +kernel
theorem dX6_isMet_12 : decode cX6_isMet 12 = .ok (.getfield 47, 3) := by decide +kernel
theorem dX6_isMet_15 : decode cX6_isMet 15 = .ok (.iload_n 3, 1) := by decide +kernel
theorem dX6_isMet_16 : decode cX6_isMet 16 = .ok (.iaload, 1) := by decide +kernel
theorem dX6_isMet_17 : decode cX6_isMet 17 = .ok (.ifCond .lt 20, 3) := by decide +kernel
theorem dX6_isMet_20 : decode cX6_isMet 20 = .ok (.aload_n 0, 1) := by decide +kernel
theorem dX6_isMet_21 : decode cX6_isMet 21 = .ok (.aload_n 0, 1) := by decide +kernel
theorem dX6_isMet_22 : decode cX6_isMet 22 = .ok (.getfield 47, 3) := by decide +kernel
theorem dX6_isMet_25 : decode cX6_isMet 25 = .ok (.iload_n 3, 1) := by decide +kernel
theorem dX6_isMet_26 : decode cX6_isMet 26 = .ok (.iaload, 1) := by decide +kernel
theorem dX6_isMet_27 : decode cX6_isMet 27 = .ok (.bipush 10, 2) := by decide +kernel
theorem dX6_isMet_29 : decode cX6_isMet 29 = .ok (.idiv, 1) := by decide +kernel
theorem dX6_isMet_30 : decode cX6_isMet 30 = .ok (.invokevirtual 102, 3) := by decide +kernel
theorem dX6_isMet_33 : decode cX6_isMet 33 = .ok (.istore_n 3, 1) := by decide +kernel
theorem dX6_isMet_34 : decode cX6_isMet 34 = .ok (.goto (-28), 3) := by decide +kernel
theorem dX6_isMet_37 : decode cX6_isMet 37 = .ok (.iload_n 3, 1) := by decide +kernel
theorem dX6_isMet_38 : decode cX6_isMet 38 = .ok (.iload_n 1, 1) := by decide +kernel
theorem dX6_isMet_39 : decode cX6_isMet 39 = .ok (.if_icmp .ne 7, 3) := by decide +kernel
theorem dX6_isMet_42 : decode cX6_isMet 42 = .ok (.iconst 1, 1) := by decide +kernel
theorem dX6_isMet_43 : decode cX6_isMet 43 = .ok (.goto 4, 3) := by decide +kernel
theorem dX6_isMet_46 : decode cX6_isMet 46 = .ok (.iconst 0, 1) := by decide +kernel
theorem dX6_isMet_47 : decode cX6_isMet 47 = .ok (.ireturn, 1) := by decide +kernel
theorem dX6_settle_0 : decode cX6_settle 0 = .ok (.aload_n 0, 1) := by decide +kernel
theorem dX6_settle_1 : decode cX6_settle 1 = .ok (.iload_n 1, 1) := by decide +kernel
theorem dX6_settle_2 : decode cX6_settle 2 = .ok (.invokevirtual 102, 3) := by decide +kernel
theorem dX6_settle_5 : decode cX6_settle 5 = .ok (.istore_n 3, 1) := by decide +kernel
theorem dX6_settle_6 : decode cX6_settle 6 = .ok (.aload_n 0, 1) := by decide +kernel
theorem dX6_settle_7 : decode cX6_settle 7 = .ok (.getfield 47, 3) := by decide +kernel
theorem dX6_settle_10 : decode cX6_settle 10 = .ok (.iload_n 3, 1) := by decide +kernel
theorem dX6_settle_11 : decode cX6_settle 11 = .ok (.iaload, 1) := by decide +kernel
theorem dX6_settle_12 : decode cX6_settle 12 = .ok (.bipush (-9), 2) := by decide +kernel
theorem dX6_settle_14 : decode cX6_settle 14 = .ok (.if_icmp .eq 19, 3) := by decide +kernel
theorem dX6_settle_17 : decode cX6_settle 17 = .ok (.aload_n 0, 1) := by decide +kernel
theorem dX6_settle_18 : decode cX6_settle 18 = .ok (.getfield 47, 3) := by decide +kernel
theorem dX6_settle_21 : decode cX6_settle 21 = .ok (.iload_n 3, 1) := by decide +kernel
theorem dX6_settle_22 : decode cX6_settle 22 = .ok (.iaload, 1) := by decide +kernel
theorem dX6_settle_23 : decode cX6_settle 23 = .ok (.iload_n 2, 1) := by decide +kernel
theorem dX6_settle_24 : decode cX6_settle 24 = .ok (.if_icmp .ne 7, 3) := by decide +kernel
theorem dX6_settle_27 : decode cX6_settle 27 = .ok (.iconst 1, 1) := by decide +kernel
theorem dX6_settle_28 : decode cX6_settle 28 = .ok (.goto 4, 3) := by decide +kernel
theorem dX6_settle_31 : decode cX6_settle 31 = .ok (.iconst 0, 1) := by decide +kernel
theorem dX6_settle_32 : decode cX6_settle 32 = .ok (.ireturn, 1) := by decide +kernel
theorem dX6_settle_33 : decode cX6_settle 33 = .ok (.iload_n 2, 1) := by decide +kernel
theorem dX6_settle_34 : decode cX6_settle 34 = .ok (.ifCond .lt 17, 3) := by decide +kernel
theorem dX6_settle_37 : decode cX6_settle 37 = .ok (.aload_n 0, 1) := by decide +kernel
theorem dX6_settle_38 : decode cX6_settle 38 = .ok (.iload_n 3, 1) := by decide +kernel
theorem dX6_settle_39 : decode cX6_settle 39 = .ok (.iload_n 2, 1) := by decide +kernel
theorem dX6_settle_40 : decode cX6_settle 40 = .ok (.bipush 10, 2) := by decide +kernel
theorem dX6_settle_42 : decode cX6_settle 42 = .ok (.idiv, 1) := by decide +kernel
theorem dX6_settle_43 : decode cX6_settle 43 = .ok (.invokevirtual 105, 3) := by decide +kernel
theorem dX6_settle_46 : decode cX6_settle 46 = .ok (.ifCond .eq 5, 3) := by decide +kernel
theorem dX6_settle_49 : decode cX6_settle 49 = .ok (.iconst 0, 1) := by decide +kernel
theorem dX6_settle_50 : decode cX6_settle 50 = .ok (.ireturn, 1) := by decide +kernel
theorem dX6_settle_51 : decode cX6_settle 51 = .ok (.aload_n 0, 1) := by decide +kernel
theorem dX6_settle_52 : decode cX6_settle 52 = .ok (.getfield 47, 3) := by decide +kernel
theorem dX6_settle_55 : decode cX6_settle 55 = .ok (.iload_n 3, 1) := by decide +kernel
theorem dX6_settle_56 : decode cX6_settle 56 = .ok (.iload_n 2, 1) := by decide +kernel
theorem dX6_settle_57 : decode cX6_settle 57 = .ok (.iastore, 1) := by decide +kernel
theorem dX6_settle_58 : decode cX6_settle 58 = .ok (.iconst 1, 1) := by decide +kernel
theorem dX6_settle_59 : decode cX6_settle 59 = .ok (.ireturn, 1) := by decide +kernel
theorem dX6_like_0 : decode cX6_like 0 = .ok (.aload_n 0, 1) := by decide +kernel
theorem dX6_like_1 : decode cX6_like 1 = .ok (.iload_n 1, 1) := by decide +kernel
theorem dX6_like_2 : decode cX6_like 2 = .ok (.invokevirtual 102, 3) := by decide +kernel
theorem dX6_like_5 : decode cX6_like 5 = .ok (.istore_n 3, 1) := by decide +kernel
theorem dX6_like_6 : decode cX6_like 6 = .ok (.aload_n 0, 1) := by decide +kernel
theorem dX6_like_7 : decode cX6_like 7 = .ok (.iload_n 2, 1) := by decide +kernel
theorem dX6_like_8 : decode cX6_like 8 = .ok (.invokevirtual 102, 3) := by decide +kernel
theorem dX6_like_11 : decode cX6_like 11 = .ok (.istore 4, 2) := by decide +kernel
theorem dX6_like_13 : decode cX6_like 13 = .ok (.iload_n 3, 1) := by decide +kernel
theorem dX6_like_14 : decode cX6_like 14 = .ok (.iload 4, 2) := by decide +kernel
theorem dX6_like_16 : decode cX6_like 16 = .ok (.if_icmp .ne 5, 3) := by decide +kernel
theorem dX6_like_19 : decode cX6_like 19 = .ok (.iconst 1, 1) := by decide +kernel
theorem dX6_like_20 : decode cX6_like 20 = .ok (.ireturn, 1) := by decide +kernel
theorem dX6_like_21 : decode cX6_like 21 = .ok (.aload_n 0, 1) := by decide +kernel
theorem dX6_like_22 : decode cX6_like 22 = .ok (.getfield 47, 3) := by decide +kernel
theorem dX6_like_25 : decode cX6_like 25 = .ok (.iload_n 3, 1) := by decide +kernel
theorem dX6_like_26 : decode cX6_like 26 = .ok (.iaload, 1) := by decide +kernel
theorem dX6_like_27 : decode cX6_like 27 = .ok (.bipush (-9), 2) := by decide +kernel
theorem dX6_like_29 : decode cX6_like 29 = .ok (.if_icmp .eq 37, 3) := by decide +kernel
theorem dX6_like_32 : decode cX6_like 32 = .ok (.aload_n 0, 1) := by decide +kernel
theorem dX6_like_33 : decode cX6_like 33 = .ok (.getfield 47, 3) := by decide +kernel
theorem dX6_like_36 : decode cX6_like 36 = .ok (.iload 4, 2) := by decide +kernel
theorem dX6_like_38 : decode cX6_like 38 = .ok (.iaload, 1) := by decide +kernel
theorem dX6_like_39 : decode cX6_like 39 = .ok (.bipush (-9), 2) := by decide +kernel
theorem dX6_like_41 : decode cX6_like 41 = .ok (.if_icmp .eq 25, 3) := by decide +kernel
theorem dX6_like_44 : decode cX6_like 44 = .ok (.aload_n 0, 1) := by decide +kernel
theorem dX6_like_45 : decode cX6_like 45 = .ok (.getfield 47, 3) := by decide +kernel
theorem dX6_like_48 : decode cX6_like 48 = .ok (.iload_n 3, 1) := by decide +kernel
theorem dX6_like_49 : decode cX6_like 49 = .ok (.iaload, 1) := by decide +kernel
theorem dX6_like_50 : decode cX6_like 50 = .ok (.aload_n 0, 1) := by decide +kernel
theorem dX6_like_51 : decode cX6_like 51 = .ok (.getfield 47, 3) := by decide +kernel
theorem dX6_like_54 : decode cX6_like 54 = .ok (.iload 4, 2) := by decide +kernel
theorem dX6_like_56 : decode cX6_like 56 = .ok (.iaload, 1) := by decide +kernel
theorem dX6_like_57 : decode cX6_like 57 = .ok (.if_icmp .ne 7, 3) := by decide +kernel
theorem dX6_like_60 : decode cX6_like 60 = .ok (.iconst 1, 1) := by decide +kernel
theorem dX6_like_61 : decode cX6_like 61 = .ok (.goto 4, 3) := by decide +kernel
theorem dX6_like_64 : decode cX6_like 64 = .ok (.iconst 0, 1) := by decide +kernel
theorem dX6_like_65 : decode cX6_like 65 = .ok (.ireturn, 1) := by decide +kernel
theorem dX6_like_66 : decode cX6_like 66 = .ok (.aload_n 0, 1) := by decide +kernel
theorem dX6_like_67 : decode cX6_like 67 = .ok (.getfield 47, 3) := by decide +kernel
theorem dX6_like_70 : decode cX6_like 70 = .ok (.iload_n 3, 1) := by decide +kernel
theorem dX6_like_71 : decode cX6_like 71 = .ok (.iaload, 1) := by decide +kernel
theorem dX6_like_72 : decode cX6_like 72 = .ok (.bipush (-9), 2) := by decide +kernel
theorem dX6_like_74 : decode cX6_like 74 = .ok (.if_icmp .ne 7, 3) := by decide +kernel
theorem dX6_like_77 : decode cX6_like 77 = .ok (.iload_n 3, 1) := by decide +kernel
theorem dX6_like_78 : decode cX6_like 78 = .ok (.goto 5, 3) := by decide +kernel
theorem dX6_like_81 : decode cX6_like 81 = .ok (.iload 4, 2) := by decide +kernel
theorem dX6_like_83 : decode cX6_like 83 = .ok (.istore 5, 2) := by decide +kernel
theorem dX6_like_85 : decode cX6_like 85 = .ok (.iload 5, 2) := by decide +kernel
theorem dX6_like_87 : decode cX6_like 87 = .ok (.iload_n 3, 1) := by decide +kernel
theorem dX6_like_88 : decode cX6_like 88 = .ok (.if_icmp .ne 8, 3) := by decide +kernel
theorem dX6_like_91 : decode cX6_like 91 = .ok (.iload 4, 2) := by decide +kernel
theorem dX6_like_93 : decode cX6_like 93 = .ok (.goto 4, 3) := by decide +kernel
theorem dX6_like_96 : decode cX6_like 96 = .ok (.iload_n 3, 1) := by decide +kernel
theorem dX6_like_97 : decode cX6_like 97 = .ok (.istore 6, 2) := by decide +kernel
theorem dX6_like_99 : decode cX6_like 99 = .ok (.aload_n 0, 1) := by decide +kernel
theorem dX6_like_100 : decode cX6_like 100 = .ok (.getfield 47, 3) := by decide +kernel
theorem dX6_like_103 : decode cX6_like 103 = .ok (.iload 6, 2) := by decide +kernel
theorem dX6_like_105 : decode cX6_like 105 = .ok (.iaload, 1) := by decide +kernel
theorem dX6_like_106 : decode cX6_like 106 = .ok (.ifCond .lt 24, 3) := by decide +kernel
theorem dX6_like_109 : decode cX6_like 109 = .ok (.aload_n 0, 1) := by decide +kernel
theorem dX6_like_110 : decode cX6_like 110 = .ok (.iload 5, 2) := by decide +kernel
theorem dX6_like_112 : decode cX6_like 112 = .ok (.aload_n 0, 1) := by decide +kernel
theorem dX6_like_113 : decode cX6_like 113 = .ok (.getfield 47, 3) := by decide +kernel
theorem dX6_like_116 : decode cX6_like 116 = .ok (.iload 6, 2) := by decide +kernel
theorem dX6_like_118 : decode cX6_like 118 = .ok (.iaload, 1) := by decide +kernel
theorem dX6_like_119 : decode cX6_like 119 = .ok (.bipush 10, 2) := by decide +kernel
theorem dX6_like_121 : decode cX6_like 121 = .ok (.idiv, 1) := by decide +kernel
theorem dX6_like_122 : decode cX6_like 122 = .ok (.invokevirtual 105, 3) := by decide +kernel
theorem dX6_like_125 : decode cX6_like 125 = .ok (.ifCond .eq 5, 3) := by decide +kernel
theorem dX6_like_128 : decode cX6_like 128 = .ok (.iconst 0, 1) := by decide +kernel
theorem dX6_like_129 : decode cX6_like 129 = .ok (.ireturn, 1) := by decide +kernel
theorem dX6_like_130 : decode cX6_like 130 = .ok (.aload_n 0, 1) := by decide +kernel
theorem dX6_like_131 : decode cX6_like 131 = .ok (.getfield 44, 3) := by decide +kernel
theorem dX6_like_134 : decode cX6_like 134 = .ok (.iload 5, 2) := by decide +kernel
theorem dX6_like_136 : decode cX6_like 136 = .ok (.iload 6, 2) := by decide +kernel
theorem dX6_like_138 : decode cX6_like 138 = .ok (.iastore, 1) := by decide +kernel
theorem dX6_like_139 : decode cX6_like 139 = .ok (.iconst 1, 1) := by decide +kernel
theorem dX6_like_140 : decode cX6_like 140 = .ok (.ireturn, 1) := by decide +kernel
theorem dX6_asks_0 : decode cX6_asks 0 = .ok (.aload_n 1, 1) := by decide +kernel
theorem dX6_asks_1 : decode cX6_asks 1 = .ok (.iconst 1, 1) := by decide +kernel
theorem dX6_asks_2 : decode cX6_asks 2 = .ok (.iload_n 2, 1) := by decide +kernel
theorem dX6_asks_3 : decode cX6_asks 3 = .ok (.iadd, 1) := by decide +kernel
theorem dX6_asks_4 : decode cX6_asks 4 = .ok (.iaload, 1) := by decide +kernel
theorem dX6_asks_5 : decode cX6_asks 5 = .ok (.istore_n 3, 1) := by decide +kernel
theorem dX6_asks_6 : decode cX6_asks 6 = .ok (.aload_n 1, 1) := by decide +kernel
theorem dX6_asks_7 : decode cX6_asks 7 = .ok (.bipush 9, 2) := by decide +kernel
theorem dX6_asks_9 : decode cX6_asks 9 = .ok (.iconst 3, 1) := by decide +kernel
theorem dX6_asks_10 : decode cX6_asks 10 = .ok (.iload_n 2, 1) := by decide +kernel
theorem dX6_asks_11 : decode cX6_asks 11 = .ok (.imul, 1) := by decide +kernel
theorem dX6_asks_12 : decode cX6_asks 12 = .ok (.iadd, 1) := by decide +kernel
theorem dX6_asks_13 : decode cX6_asks 13 = .ok (.iaload, 1) := by decide +kernel
theorem dX6_asks_14 : decode cX6_asks 14 = .ok (.istore 4, 2) := by decide +kernel
theorem dX6_asks_16 : decode cX6_asks 16 = .ok (.aload_n 1, 1) := by decide +kernel
theorem dX6_asks_17 : decode cX6_asks 17 = .ok (.bipush 9, 2) := by decide +kernel
theorem dX6_asks_19 : decode cX6_asks 19 = .ok (.iconst 3, 1) := by decide +kernel
theorem dX6_asks_20 : decode cX6_asks 20 = .ok (.iload_n 2, 1) := by decide +kernel
theorem dX6_asks_21 : decode cX6_asks 21 = .ok (.imul, 1) := by decide +kernel
theorem dX6_asks_22 : decode cX6_asks 22 = .ok (.iadd, 1) := by decide +kernel
theorem dX6_asks_23 : decode cX6_asks 23 = .ok (.iconst 1, 1) := by decide +kernel
theorem dX6_asks_24 : decode cX6_asks 24 = .ok (.iadd, 1) := by decide +kernel
theorem dX6_asks_25 : decode cX6_asks 25 = .ok (.iaload, 1) := by decide +kernel
theorem dX6_asks_26 : decode cX6_asks 26 = .ok (.istore 5, 2) := by decide +kernel
theorem dX6_asks_28 : decode cX6_asks 28 = .ok (.aload_n 1, 1) := by decide +kernel
theorem dX6_asks_29 : decode cX6_asks 29 = .ok (.bipush 9, 2) := by decide +kernel
theorem dX6_asks_31 : decode cX6_asks 31 = .ok (.iconst 3, 1) := by decide +kernel
theorem dX6_asks_32 : decode cX6_asks 32 = .ok (.iload_n 2, 1) := by decide +kernel
theorem dX6_asks_33 : decode cX6_asks 33 = .ok (.imul, 1) := by decide +kernel
theorem dX6_asks_34 : decode cX6_asks 34 = .ok (.iadd, 1) := by decide +kernel
theorem dX6_asks_35 : decode cX6_asks 35 = .ok (.iconst 2, 1) := by decide +kernel
theorem dX6_asks_36 : decode cX6_asks 36 = .ok (.iadd, 1) := by decide +kernel
theorem dX6_asks_37 : decode cX6_asks 37 = .ok (.iaload, 1) := by decide +kernel
theorem dX6_asks_38 : decode cX6_asks 38 = .ok (.istore 6, 2) := by decide +kernel
theorem dX6_asks_40 : decode cX6_asks 40 = .ok (.iload_n 3, 1) := by decide +kernel
theorem dX6_asks_41 : decode cX6_asks 41 = .ok (.tableswitch 232 0 11 #[63, 70, 232, 232, 232, 72, 108, 116, 232, 124, 156, 186], 63) := by decide +kernel
theorem dX6_asks_104 : decode cX6_asks 104 = .ok (.aload_n 0, 1) := by decide +kernel
theorem dX6_asks_105 : decode cX6_asks 105 = .ok (.iload_n 2, 1) := by decide +kernel
theorem dX6_asks_106 : decode cX6_asks 106 = .ok (.iconst (-1), 1) := by decide +kernel
theorem dX6_asks_107 : decode cX6_asks 107 = .ok (.invokevirtual 108, 3) := by decide +kernel
theorem dX6_asks_110 : decode cX6_asks 110 = .ok (.ireturn, 1) := by decide +kernel
theorem dX6_asks_111 : decode cX6_asks 111 = .ok (.iconst 1, 1) := by decide +kernel
theorem dX6_asks_112 : decode cX6_asks 112 = .ok (.ireturn, 1) := by decide +kernel
theorem dX6_asks_113 : decode cX6_asks 113 = .ok (.aload_n 0, 1) := by decide +kernel
theorem dX6_asks_114 : decode cX6_asks 114 = .ok (.iload_n 2, 1) := by decide +kernel
theorem dX6_asks_115 : decode cX6_asks 115 = .ok (.iload 4, 2) := by decide +kernel
theorem dX6_asks_117 : decode cX6_asks 117 = .ok (.invokevirtual 111, 3) := by decide +kernel
theorem dX6_asks_120 : decode cX6_asks 120 = .ok (.ifCond .eq 27, 3) := by decide +kernel
theorem dX6_asks_123 : decode cX6_asks 123 = .ok (.aload_n 0, 1) := by decide +kernel
theorem dX6_asks_124 : decode cX6_asks 124 = .ok (.iload_n 2, 1) := by decide +kernel
theorem dX6_asks_125 : decode cX6_asks 125 = .ok (.iload 5, 2) := by decide +kernel
theorem dX6_asks_127 : decode cX6_asks 127 = .ok (.invokevirtual 111, 3) := by decide +kernel
theorem dX6_asks_130 : decode cX6_asks 130 = .ok (.ifCond .eq 17, 3) := by decide +kernel
theorem dX6_asks_133 : decode cX6_asks 133 = .ok (.aload_n 0, 1) := by decide +kernel
theorem dX6_asks_134 : decode cX6_asks 134 = .ok (.iload_n 2, 1) := by decide +kernel
theorem dX6_asks_135 : decode cX6_asks 135 = .ok (.iload 6, 2) := by decide +kernel
theorem dX6_asks_137 : decode cX6_asks 137 = .ok (.invokevirtual 111, 3) := by decide +kernel
theorem dX6_asks_140 : decode cX6_asks 140 = .ok (.ifCond .eq 7, 3) := by decide +kernel
theorem dX6_asks_143 : decode cX6_asks 143 = .ok (.iconst 1, 1) := by decide +kernel
theorem dX6_asks_144 : decode cX6_asks 144 = .ok (.goto 4, 3) := by decide +kernel
theorem dX6_asks_147 : decode cX6_asks 147 = .ok (.iconst 0, 1) := by decide +kernel
theorem dX6_asks_148 : decode cX6_asks 148 = .ok (.ireturn, 1) := by decide +kernel
theorem dX6_asks_149 : decode cX6_asks 149 = .ok (.aload_n 0, 1) := by decide +kernel
theorem dX6_asks_150 : decode cX6_asks 150 = .ok (.iload_n 2, 1) := by decide +kernel
theorem dX6_asks_151 : decode cX6_asks 151 = .ok (.iload 5, 2) := by decide +kernel
theorem dX6_asks_153 : decode cX6_asks 153 = .ok (.invokevirtual 111, 3) := by decide +kernel
theorem dX6_asks_156 : decode cX6_asks 156 = .ok (.ireturn, 1) := by decide +kernel
theorem dX6_asks_157 : decode cX6_asks 157 = .ok (.aload_n 0, 1) := by decide +kernel
theorem dX6_asks_158 : decode cX6_asks 158 = .ok (.iload_n 2, 1) := by decide +kernel
theorem dX6_asks_159 : decode cX6_asks 159 = .ok (.iload 4, 2) := by decide +kernel
theorem dX6_asks_161 : decode cX6_asks 161 = .ok (.invokevirtual 111, 3) := by decide +kernel
theorem dX6_asks_164 : decode cX6_asks 164 = .ok (.ireturn, 1) := by decide +kernel
theorem dX6_asks_165 : decode cX6_asks 165 = .ok (.aload_n 0, 1) := by decide +kernel
theorem dX6_asks_166 : decode cX6_asks 166 = .ok (.iload 4, 2) := by decide +kernel
theorem dX6_asks_168 : decode cX6_asks 168 = .ok (.iload 5, 2) := by decide +kernel
theorem dX6_asks_170 : decode cX6_asks 170 = .ok (.invokevirtual 111, 3) := by decide +kernel
theorem dX6_asks_173 : decode cX6_asks 173 = .ok (.ifCond .eq 22, 3) := by decide +kernel
theorem dX6_asks_176 : decode cX6_asks 176 = .ok (.aload_n 0, 1) := by decide +kernel
theorem dX6_asks_177 : decode cX6_asks 177 = .ok (.iload_n 2, 1) := by decide +kernel
theorem dX6_asks_178 : decode cX6_asks 178 = .ok (.bipush 10, 2) := by decide +kernel
theorem dX6_asks_180 : decode cX6_asks 180 = .ok (.iload 5, 2) := by decide +kernel
theorem dX6_asks_182 : decode cX6_asks 182 = .ok (.imul, 1) := by decide +kernel
theorem dX6_asks_183 : decode cX6_asks 183 = .ok (.iconst 1, 1) := by decide +kernel
theorem dX6_asks_184 : decode cX6_asks 184 = .ok (.iadd, 1) := by decide +kernel
theorem dX6_asks_185 : decode cX6_asks 185 = .ok (.invokevirtual 108, 3) := by decide +kernel
theorem dX6_asks_188 : decode cX6_asks 188 = .ok (.ifCond .eq 7, 3) := by decide +kernel
theorem dX6_asks_191 : decode cX6_asks 191 = .ok (.iconst 1, 1) := by decide +kernel
theorem dX6_asks_192 : decode cX6_asks 192 = .ok (.goto 4, 3) := by decide +kernel
theorem dX6_asks_195 : decode cX6_asks 195 = .ok (.iconst 0, 1) := by decide +kernel
theorem dX6_asks_196 : decode cX6_asks 196 = .ok (.ireturn, 1) := by decide +kernel
theorem dX6_asks_197 : decode cX6_asks 197 = .ok (.aload_n 0, 1) := by decide +kernel
theorem dX6_asks_198 : decode cX6_asks 198 = .ok (.iload 4, 2) := by decide +kernel
theorem dX6_asks_200 : decode cX6_asks 200 = .ok (.iload 5, 2) := by decide +kernel
theorem dX6_asks_202 : decode cX6_asks 202 = .ok (.invokevirtual 111, 3) := by decide +kernel
theorem dX6_asks_205 : decode cX6_asks 205 = .ok (.ifCond .eq 20, 3) := by decide +kernel
theorem dX6_asks_208 : decode cX6_asks 208 = .ok (.aload_n 0, 1) := by decide +kernel
theorem dX6_asks_209 : decode cX6_asks 209 = .ok (.iload_n 2, 1) := by decide +kernel
theorem dX6_asks_210 : decode cX6_asks 210 = .ok (.bipush 10, 2) := by decide +kernel
theorem dX6_asks_212 : decode cX6_asks 212 = .ok (.iload 5, 2) := by decide +kernel
theorem dX6_asks_214 : decode cX6_asks 214 = .ok (.imul, 1) := by decide +kernel
theorem dX6_asks_215 : decode cX6_asks 215 = .ok (.invokevirtual 108, 3) := by decide +kernel
theorem dX6_asks_218 : decode cX6_asks 218 = .ok (.ifCond .eq 7, 3) := by decide +kernel
theorem dX6_asks_221 : decode cX6_asks 221 = .ok (.iconst 1, 1) := by decide +kernel
theorem dX6_asks_222 : decode cX6_asks 222 = .ok (.goto 4, 3) := by decide +kernel
theorem dX6_asks_225 : decode cX6_asks 225 = .ok (.iconst 0, 1) := by decide +kernel
theorem dX6_asks_226 : decode cX6_asks 226 = .ok (.ireturn, 1) := by decide +kernel
theorem dX6_asks_227 : decode cX6_asks 227 = .ok (.aload_n 0, 1) := by decide +kernel
theorem dX6_asks_228 : decode cX6_asks 228 = .ok (.iload_n 2, 1) := by decide +kernel
theorem dX6_asks_229 : decode cX6_asks 229 = .ok (.iload 4, 2) := by decide +kernel
theorem dX6_asks_231 : decode cX6_asks 231 = .ok (.invokevirtual 111, 3) := by decide +kernel
theorem dX6_asks_234 : decode cX6_asks 234 = .ok (.ifCond .eq 37, 3) := by decide +kernel
theorem dX6_asks_237 : decode cX6_asks 237 = .ok (.aload_n 0, 1) := by decide +kernel
theorem dX6_asks_238 : decode cX6_asks 238 = .ok (.iload 5, 2) := by decide +kernel
theorem dX6_asks_240 : decode cX6_asks 240 = .ok (.bipush 10, 2) := by decide +kernel
theorem dX6_asks_242 : decode cX6_asks 242 = .ok (.iload 4, 2) := by decide +kernel
theorem dX6_asks_244 : decode cX6_asks 244 = .ok (.imul, 1) := by decide +kernel
theorem dX6_asks_245 : decode cX6_asks 245 = .ok (.iconst 1, 1) := by decide +kernel
theorem dX6_asks_246 : decode cX6_asks 246 = .ok (.iadd, 1) := by decide +kernel
theorem dX6_asks_247 : decode cX6_asks 247 = .ok (.invokevirtual 108, 3) := by decide +kernel
theorem dX6_asks_250 : decode cX6_asks 250 = .ok (.ifCond .eq 21, 3) := by decide +kernel
theorem dX6_asks_253 : decode cX6_asks 253 = .ok (.aload_n 0, 1) := by decide +kernel
theorem dX6_asks_254 : decode cX6_asks 254 = .ok (.iload 6, 2) := by decide +kernel
theorem dX6_asks_256 : decode cX6_asks 256 = .ok (.bipush 10, 2) := by decide +kernel
theorem dX6_asks_258 : decode cX6_asks 258 = .ok (.iload 4, 2) := by decide +kernel
theorem dX6_asks_260 : decode cX6_asks 260 = .ok (.imul, 1) := by decide +kernel
theorem dX6_asks_261 : decode cX6_asks 261 = .ok (.invokevirtual 108, 3) := by decide +kernel
theorem dX6_asks_264 : decode cX6_asks 264 = .ok (.ifCond .eq 7, 3) := by decide +kernel
theorem dX6_asks_267 : decode cX6_asks 267 = .ok (.iconst 1, 1) := by decide +kernel
theorem dX6_asks_268 : decode cX6_asks 268 = .ok (.goto 4, 3) := by decide +kernel
theorem dX6_asks_271 : decode cX6_asks 271 = .ok (.iconst 0, 1) := by decide +kernel
theorem dX6_asks_272 : decode cX6_asks 272 = .ok (.ireturn, 1) := by decide +kernel
theorem dX6_asks_273 : decode cX6_asks 273 = .ok (.aload_n 0, 1) := by decide +kernel
theorem dX6_asks_274 : decode cX6_asks 274 = .ok (.iload_n 2, 1) := by decide +kernel
theorem dX6_asks_275 : decode cX6_asks 275 = .ok (.iload 4, 2) := by decide +kernel
theorem dX6_asks_277 : decode cX6_asks 277 = .ok (.invokevirtual 111, 3) := by decide +kernel
theorem dX6_asks_280 : decode cX6_asks 280 = .ok (.ifCond .eq 17, 3) := by decide +kernel
theorem dX6_asks_283 : decode cX6_asks 283 = .ok (.aload_n 0, 1) := by decide +kernel
theorem dX6_asks_284 : decode cX6_asks 284 = .ok (.iload_n 2, 1) := by decide +kernel
theorem dX6_asks_285 : decode cX6_asks 285 = .ok (.iload 5, 2) := by decide +kernel
theorem dX6_asks_287 : decode cX6_asks 287 = .ok (.invokevirtual 111, 3) := by decide +kernel
theorem dX6_asks_290 : decode cX6_asks 290 = .ok (.ifCond .eq 7, 3) := by decide +kernel
theorem dX6_asks_293 : decode cX6_asks 293 = .ok (.iconst 1, 1) := by decide +kernel
theorem dX6_asks_294 : decode cX6_asks 294 = .ok (.goto 4, 3) := by decide +kernel
theorem dX6_asks_297 : decode cX6_asks 297 = .ok (.iconst 0, 1) := by decide +kernel
theorem dX6_asks_298 : decode cX6_asks 298 = .ok (.ireturn, 1) := by decide +kernel
theorem dX6_findClocks_0 : decode cX6_findClocks 0 = .ok (.iconst 0, 1) := by decide +kernel
theorem dX6_findClocks_1 : decode cX6_findClocks 1 = .ok (.istore_n 2, 1) := by decide +kernel
theorem dX6_findClocks_2 : decode cX6_findClocks 2 = .ok (.iload_n 2, 1) := by decide +kernel
theorem dX6_findClocks_3 : decode cX6_findClocks 3 = .ok (.bipush 8, 2) := by decide +kernel
theorem dX6_findClocks_5 : decode cX6_findClocks 5 = .ok (.if_icmp .ge 24, 3) := by decide +kernel
theorem dX6_findClocks_8 : decode cX6_findClocks 8 = .ok (.aload_n 0, 1) := by decide +kernel
theorem dX6_findClocks_9 : decode cX6_findClocks 9 = .ok (.getfield 44, 3) := by decide +kernel
theorem dX6_findClocks_12 : decode cX6_findClocks 12 = .ok (.iload_n 2, 1) := by decide +kernel
theorem dX6_findClocks_13 : decode cX6_findClocks 13 = .ok (.iload_n 2, 1) := by decide +kernel
theorem dX6_findClocks_14 : decode cX6_findClocks 14 = .ok (.iastore, 1) := by decide +kernel
theorem dX6_findClocks_15 : decode cX6_findClocks 15 = .ok (.aload_n 0, 1) := by decide +kernel
theorem dX6_findClocks_16 : decode cX6_findClocks 16 = .ok (.getfield 47, 3) := by decide +kernel
theorem dX6_findClocks_19 : decode cX6_findClocks 19 = .ok (.iload_n 2, 1) := by decide +kernel
theorem dX6_findClocks_20 : decode cX6_findClocks 20 = .ok (.bipush (-9), 2) := by decide +kernel
theorem dX6_findClocks_22 : decode cX6_findClocks 22 = .ok (.iastore, 1) := by decide +kernel
theorem dX6_findClocks_23 : decode cX6_findClocks 23 = .ok (.iinc 2 1, 3) := by decide +kernel
theorem dX6_findClocks_26 : decode cX6_findClocks 26 = .ok (.goto (-24), 3) := by decide +kernel
theorem dX6_findClocks_29 : decode cX6_findClocks 29 = .ok (.aload_n 0, 1) := by decide +kernel
theorem dX6_findClocks_30 : decode cX6_findClocks 30 = .ok (.bipush (-9), 2) := by decide +kernel
theorem dX6_findClocks_32 : decode cX6_findClocks 32 = .ok (.putfield 114, 3) := by decide +kernel
theorem dX6_findClocks_35 : decode cX6_findClocks 35 = .ok (.iconst 0, 1) := by decide +kernel
theorem dX6_findClocks_36 : decode cX6_findClocks 36 = .ok (.istore_n 2, 1) := by decide +kernel
theorem dX6_findClocks_37 : decode cX6_findClocks 37 = .ok (.iload_n 2, 1) := by decide +kernel
theorem dX6_findClocks_38 : decode cX6_findClocks 38 = .ok (.aload_n 1, 1) := by decide +kernel
theorem dX6_findClocks_39 : decode cX6_findClocks 39 = .ok (.iconst 0, 1) := by decide +kernel
theorem dX6_findClocks_40 : decode cX6_findClocks 40 = .ok (.iaload, 1) := by decide +kernel
theorem dX6_findClocks_41 : decode cX6_findClocks 41 = .ok (.if_icmp .ge 37, 3) := by decide +kernel
theorem dX6_findClocks_44 : decode cX6_findClocks 44 = .ok (.aload_n 0, 1) := by decide +kernel
theorem dX6_findClocks_45 : decode cX6_findClocks 45 = .ok (.getfield 114, 3) := by decide +kernel
theorem dX6_findClocks_48 : decode cX6_findClocks 48 = .ok (.bipush (-9), 2) := by decide +kernel
theorem dX6_findClocks_50 : decode cX6_findClocks 50 = .ok (.if_icmp .ne 28, 3) := by decide +kernel
theorem dX6_findClocks_53 : decode cX6_findClocks 53 = .ok (.aload_n 0, 1) := by decide +kernel
theorem dX6_findClocks_54 : decode cX6_findClocks 54 = .ok (.aload_n 0, 1) := by decide +kernel
theorem dX6_findClocks_55 : decode cX6_findClocks 55 = .ok (.aload_n 1, 1) := by decide +kernel
theorem dX6_findClocks_56 : decode cX6_findClocks 56 = .ok (.iload_n 2, 1) := by decide +kernel
theorem dX6_findClocks_57 : decode cX6_findClocks 57 = .ok (.invokevirtual 117, 3) := by decide +kernel
theorem dX6_findClocks_60 : decode cX6_findClocks 60 = .ok (.ifCond .eq 8, 3) := by decide +kernel
theorem dX6_findClocks_63 : decode cX6_findClocks 63 = .ok (.bipush (-9), 2) := by decide +kernel
theorem dX6_findClocks_65 : decode cX6_findClocks 65 = .ok (.goto 4, 3) := by decide +kernel
theorem dX6_findClocks_68 : decode cX6_findClocks 68 = .ok (.iload_n 2, 1) := by decide +kernel
theorem dX6_findClocks_69 : decode cX6_findClocks 69 = .ok (.putfield 114, 3) := by decide +kernel
theorem dX6_findClocks_72 : decode cX6_findClocks 72 = .ok (.iinc 2 1, 3) := by decide +kernel
theorem dX6_findClocks_75 : decode cX6_findClocks 75 = .ok (.goto (-38), 3) := by decide +kernel
theorem dX6_findClocks_78 : decode cX6_findClocks 78 = .ok (.return_, 1) := by decide +kernel
theorem dX6_clocks_0 : decode cX6_clocks 0 = .ok (.iconst 0, 1) := by decide +kernel
theorem dX6_clocks_1 : decode cX6_clocks 1 = .ok (.istore_n 2, 1) := by decide +kernel
theorem dX6_clocks_2 : decode cX6_clocks 2 = .ok (.aload_n 0, 1) := by decide +kernel
theorem dX6_clocks_3 : decode cX6_clocks 3 = .ok (.iload_n 1, 1) := by decide +kernel
theorem dX6_clocks_4 : decode cX6_clocks 4 = .ok (.invokevirtual 102, 3) := by decide +kernel
theorem dX6_clocks_7 : decode cX6_clocks 7 = .ok (.istore_n 3, 1) := by decide +kernel
theorem dX6_clocks_8 : decode cX6_clocks 8 = .ok (.aload_n 0, 1) := by decide +kernel
theorem dX6_clocks_9 : decode cX6_clocks 9 = .ok (.getfield 47, 3) := by decide +kernel
theorem dX6_clocks_12 : decode cX6_clocks 12 = .ok (.iload_n 3, 1) := by decide +kernel
theorem dX6_clocks_13 : decode cX6_clocks 13 = .ok (.iaload, 1) := by decide +kernel
theorem dX6_clocks_14 : decode cX6_clocks 14 = .ok (.ifCond .lt 35, 3) := by decide +kernel
theorem dX6_clocks_17 : decode cX6_clocks 17 = .ok (.aload_n 0, 1) := by decide +kernel
theorem dX6_clocks_18 : decode cX6_clocks 18 = .ok (.getfield 56, 3) := by decide +kernel
theorem dX6_clocks_21 : decode cX6_clocks 21 = .ok (.iload_n 2, 1) := by decide +kernel
theorem dX6_clocks_22 : decode cX6_clocks 22 = .ok (.aload_n 0, 1) := by decide +kernel
theorem dX6_clocks_23 : decode cX6_clocks 23 = .ok (.getfield 47, 3) := by decide +kernel
theorem dX6_clocks_26 : decode cX6_clocks 26 = .ok (.iload_n 3, 1) := by decide +kernel
theorem dX6_clocks_27 : decode cX6_clocks 27 = .ok (.iaload, 1) := by decide +kernel
theorem dX6_clocks_28 : decode cX6_clocks 28 = .ok (.iastore, 1) := by decide +kernel
theorem dX6_clocks_29 : decode cX6_clocks 29 = .ok (.iinc 2 1, 3) := by decide +kernel
theorem dX6_clocks_32 : decode cX6_clocks 32 = .ok (.aload_n 0, 1) := by decide +kernel
theorem dX6_clocks_33 : decode cX6_clocks 33 = .ok (.aload_n 0, 1) := by decide +kernel
theorem dX6_clocks_34 : decode cX6_clocks 34 = .ok (.getfield 47, 3) := by decide +kernel
theorem dX6_clocks_37 : decode cX6_clocks 37 = .ok (.iload_n 3, 1) := by decide +kernel
theorem dX6_clocks_38 : decode cX6_clocks 38 = .ok (.iaload, 1) := by decide +kernel
theorem dX6_clocks_39 : decode cX6_clocks 39 = .ok (.bipush 10, 2) := by decide +kernel
theorem dX6_clocks_41 : decode cX6_clocks 41 = .ok (.idiv, 1) := by decide +kernel
theorem dX6_clocks_42 : decode cX6_clocks 42 = .ok (.invokevirtual 102, 3) := by decide +kernel
theorem dX6_clocks_45 : decode cX6_clocks 45 = .ok (.istore_n 3, 1) := by decide +kernel
theorem dX6_clocks_46 : decode cX6_clocks 46 = .ok (.goto (-38), 3) := by decide +kernel
theorem dX6_clocks_49 : decode cX6_clocks 49 = .ok (.iload_n 2, 1) := by decide +kernel
theorem dX6_clocks_50 : decode cX6_clocks 50 = .ok (.ireturn, 1) := by decide +kernel
theorem dX6_waits_0 : decode cX6_waits 0 = .ok (.iconst 0, 1) := by decide +kernel
theorem dX6_waits_1 : decode cX6_waits 1 = .ok (.istore_n 3, 1) := by decide +kernel
theorem dX6_waits_2 : decode cX6_waits 2 = .ok (.aload_n 1, 1) := by decide +kernel
theorem dX6_waits_3 : decode cX6_waits 3 = .ok (.iconst 1, 1) := by decide +kernel
theorem dX6_waits_4 : decode cX6_waits 4 = .ok (.iload_n 2, 1) := by decide +kernel
theorem dX6_waits_5 : decode cX6_waits 5 = .ok (.iadd, 1) := by decide +kernel
theorem dX6_waits_6 : decode cX6_waits 6 = .ok (.iaload, 1) := by decide +kernel
theorem dX6_waits_7 : decode cX6_waits 7 = .ok (.istore 4, 2) := by decide +kernel
theorem dX6_waits_9 : decode cX6_waits 9 = .ok (.iconst 0, 1) := by decide +kernel
theorem dX6_waits_10 : decode cX6_waits 10 = .ok (.istore 5, 2) := by decide +kernel
theorem dX6_waits_12 : decode cX6_waits 12 = .ok (.iload 5, 2) := by decide +kernel
theorem dX6_waits_14 : decode cX6_waits 14 = .ok (.iconst 3, 1) := by decide +kernel
theorem dX6_waits_15 : decode cX6_waits 15 = .ok (.if_icmp .ge 50, 3) := by decide +kernel
theorem dX6_waits_18 : decode cX6_waits 18 = .ok (.iload 4, 2) := by decide +kernel
theorem dX6_waits_20 : decode cX6_waits 20 = .ok (.bipush 6, 2) := by decide +kernel
theorem dX6_waits_22 : decode cX6_waits 22 = .ok (.if_icmp .eq 43, 3) := by decide +kernel
theorem dX6_waits_25 : decode cX6_waits 25 = .ok (.iload 4, 2) := by decide +kernel
theorem dX6_waits_27 : decode cX6_waits 27 = .ok (.bipush 7, 2) := by decide +kernel
theorem dX6_waits_29 : decode cX6_waits 29 = .ok (.if_icmp .eq 36, 3) := by decide +kernel
theorem dX6_waits_32 : decode cX6_waits 32 = .ok (.aload_n 1, 1) := by decide +kernel
theorem dX6_waits_33 : decode cX6_waits 33 = .ok (.iload_n 2, 1) := by decide +kernel
theorem dX6_waits_34 : decode cX6_waits 34 = .ok (.iload 5, 2) := by decide +kernel
theorem dX6_waits_36 : decode cX6_waits 36 = .ok (.invokestatic 121, 3) := by decide +kernel
theorem dX6_waits_39 : decode cX6_waits 39 = .ok (.istore 6, 2) := by decide +kernel
theorem dX6_waits_41 : decode cX6_waits 41 = .ok (.iload_n 3, 1) := by decide +kernel
theorem dX6_waits_42 : decode cX6_waits 42 = .ok (.iload 6, 2) := by decide +kernel
theorem dX6_waits_44 : decode cX6_waits 44 = .ok (.bipush (-9), 2) := by decide +kernel
theorem dX6_waits_46 : decode cX6_waits 46 = .ok (.if_icmp .ne 7, 3) := by decide +kernel
theorem dX6_waits_49 : decode cX6_waits 49 = .ok (.iconst 0, 1) := by decide +kernel
theorem dX6_waits_50 : decode cX6_waits 50 = .ok (.goto 7, 3) := by decide +kernel
theorem dX6_waits_53 : decode cX6_waits 53 = .ok (.iconst 1, 1) := by decide +kernel
theorem dX6_waits_54 : decode cX6_waits 54 = .ok (.iload 6, 2) := by decide +kernel
theorem dX6_waits_56 : decode cX6_waits 56 = .ok (.ishl, 1) := by decide +kernel
theorem dX6_waits_57 : decode cX6_waits 57 = .ok (.ior, 1) := by decide +kernel
theorem dX6_waits_58 : decode cX6_waits 58 = .ok (.istore_n 3, 1) := by decide +kernel
theorem dX6_waits_59 : decode cX6_waits 59 = .ok (.iinc 5 1, 3) := by decide +kernel
theorem dX6_waits_62 : decode cX6_waits 62 = .ok (.goto (-50), 3) := by decide +kernel
theorem dX6_waits_65 : decode cX6_waits 65 = .ok (.aload_n 0, 1) := by decide +kernel
theorem dX6_waits_66 : decode cX6_waits 66 = .ok (.iload_n 2, 1) := by decide +kernel
theorem dX6_waits_67 : decode cX6_waits 67 = .ok (.invokevirtual 125, 3) := by decide +kernel
theorem dX6_waits_70 : decode cX6_waits 70 = .ok (.istore 5, 2) := by decide +kernel
theorem dX6_waits_72 : decode cX6_waits 72 = .ok (.iconst 0, 1) := by decide +kernel
theorem dX6_waits_73 : decode cX6_waits 73 = .ok (.istore 6, 2) := by decide +kernel
theorem dX6_waits_75 : decode cX6_waits 75 = .ok (.iload 6, 2) := by decide +kernel
theorem dX6_waits_77 : decode cX6_waits 77 = .ok (.iload 5, 2) := by decide +kernel
theorem dX6_waits_79 : decode cX6_waits 79 = .ok (.if_icmp .ge 24, 3) := by decide +kernel
theorem dX6_waits_82 : decode cX6_waits 82 = .ok (.iload_n 3, 1) := by decide +kernel
theorem dX6_waits_83 : decode cX6_waits 83 = .ok (.iconst 1, 1) := by decide +kernel
theorem dX6_waits_84 : decode cX6_waits 84 = .ok (.aload_n 0, 1) := by decide +kernel
theorem dX6_waits_85 : decode cX6_waits 85 = .ok (.getfield 56, 3) := by decide +kernel
theorem dX6_waits_88 : decode cX6_waits 88 = .ok (.iload 6, 2) := by decide +kernel
theorem dX6_waits_90 : decode cX6_waits 90 = .ok (.iaload, 1) := by decide +kernel
theorem dX6_waits_91 : decode cX6_waits 91 = .ok (.bipush 10, 2) := by decide +kernel
theorem dX6_waits_93 : decode cX6_waits 93 = .ok (.idiv, 1) := by decide +kernel
theorem dX6_waits_94 : decode cX6_waits 94 = .ok (.ishl, 1) := by decide +kernel
theorem dX6_waits_95 : decode cX6_waits 95 = .ok (.ior, 1) := by decide +kernel
theorem dX6_waits_96 : decode cX6_waits 96 = .ok (.istore_n 3, 1) := by decide +kernel
theorem dX6_waits_97 : decode cX6_waits 97 = .ok (.iinc 6 1, 3) := by decide +kernel
theorem dX6_waits_100 : decode cX6_waits 100 = .ok (.goto (-25), 3) := by decide +kernel
theorem dX6_waits_103 : decode cX6_waits 103 = .ok (.iload_n 3, 1) := by decide +kernel
theorem dX6_waits_104 : decode cX6_waits 104 = .ok (.ireturn, 1) := by decide +kernel
theorem dX6_findOrder_0 : decode cX6_findOrder 0 = .ok (.iconst 0, 1) := by decide +kernel
theorem dX6_findOrder_1 : decode cX6_findOrder 1 = .ok (.istore_n 2, 1) := by decide +kernel
theorem dX6_findOrder_2 : decode cX6_findOrder 2 = .ok (.iconst 0, 1) := by decide +kernel
theorem dX6_findOrder_3 : decode cX6_findOrder 3 = .ok (.istore_n 3, 1) := by decide +kernel
theorem dX6_findOrder_4 : decode cX6_findOrder 4 = .ok (.iconst 0, 1) := by decide +kernel
theorem dX6_findOrder_5 : decode cX6_findOrder 5 = .ok (.istore 4, 2) := by decide +kernel
theorem dX6_findOrder_7 : decode cX6_findOrder 7 = .ok (.iload 4, 2) := by decide +kernel
theorem dX6_findOrder_9 : decode cX6_findOrder 9 = .ok (.bipush 8, 2) := by decide +kernel
theorem dX6_findOrder_11 : decode cX6_findOrder 11 = .ok (.if_icmp .ge 18, 3) := by decide +kernel
theorem dX6_findOrder_14 : decode cX6_findOrder 14 = .ok (.aload_n 0, 1) := by decide +kernel
theorem dX6_findOrder_15 : decode cX6_findOrder 15 = .ok (.getfield 50, 3) := by decide +kernel
theorem dX6_findOrder_18 : decode cX6_findOrder 18 = .ok (.iload 4, 2) := by decide +kernel
theorem dX6_findOrder_20 : decode cX6_findOrder 20 = .ok (.bipush (-9), 2) := by decide +kernel
theorem dX6_findOrder_22 : decode cX6_findOrder 22 = .ok (.iastore, 1) := by decide +kernel
theorem dX6_findOrder_23 : decode cX6_findOrder 23 = .ok (.iinc 4 1, 3) := by decide +kernel
theorem dX6_findOrder_26 : decode cX6_findOrder 26 = .ok (.goto (-19), 3) := by decide +kernel
theorem dX6_findOrder_29 : decode cX6_findOrder 29 = .ok (.iconst 1, 1) := by decide +kernel
theorem dX6_findOrder_30 : decode cX6_findOrder 30 = .ok (.istore 4, 2) := by decide +kernel
theorem dX6_findOrder_32 : decode cX6_findOrder 32 = .ok (.iload 4, 2) := by decide +kernel
theorem dX6_findOrder_34 : decode cX6_findOrder 34 = .ok (.ifCond .eq 97, 3) := by decide +kernel
theorem dX6_findOrder_37 : decode cX6_findOrder 37 = .ok (.bipush (-9), 2) := by decide +kernel
theorem dX6_findOrder_39 : decode cX6_findOrder 39 = .ok (.istore 5, 2) := by decide +kernel
theorem dX6_findOrder_41 : decode cX6_findOrder 41 = .ok (.aload_n 1, 1) := by decide +kernel
theorem dX6_findOrder_42 : decode cX6_findOrder 42 = .ok (.iconst 0, 1) := by decide +kernel
theorem dX6_findOrder_43 : decode cX6_findOrder 43 = .ok (.iaload, 1) := by decide +kernel
theorem dX6_findOrder_44 : decode cX6_findOrder 44 = .ok (.iconst 1, 1) := by decide +kernel
theorem dX6_findOrder_45 : decode cX6_findOrder 45 = .ok (.isub, 1) := by decide +kernel
theorem dX6_findOrder_46 : decode cX6_findOrder 46 = .ok (.istore 6, 2) := by decide +kernel
theorem dX6_findOrder_48 : decode cX6_findOrder 48 = .ok (.iload 6, 2) := by decide +kernel
theorem dX6_findOrder_50 : decode cX6_findOrder 50 = .ok (.ifCond .lt 41, 3) := by decide +kernel
theorem dX6_findOrder_53 : decode cX6_findOrder 53 = .ok (.iload_n 2, 1) := by decide +kernel
theorem dX6_findOrder_54 : decode cX6_findOrder 54 = .ok (.iload 6, 2) := by decide +kernel
theorem dX6_findOrder_56 : decode cX6_findOrder 56 = .ok (.invokestatic 128, 3) := by decide +kernel
theorem dX6_findOrder_59 : decode cX6_findOrder 59 = .ok (.ifCond .ne 22, 3) := by decide +kernel
theorem dX6_findOrder_62 : decode cX6_findOrder 62 = .ok (.aload_n 0, 1) := by decide +kernel
theorem dX6_findOrder_63 : decode cX6_findOrder 63 = .ok (.aload_n 1, 1) := by decide +kernel
theorem dX6_findOrder_64 : decode cX6_findOrder 64 = .ok (.iload 6, 2) := by decide +kernel
theorem dX6_findOrder_66 : decode cX6_findOrder 66 = .ok (.invokevirtual 131, 3) := by decide +kernel
theorem dX6_findOrder_69 : decode cX6_findOrder 69 = .ok (.iload_n 2, 1) := by decide +kernel
theorem dX6_findOrder_70 : decode cX6_findOrder 70 = .ok (.iconst (-1), 1) := by decide +kernel
theorem dX6_findOrder_71 : decode cX6_findOrder 71 = .ok (.ixor, 1) := by decide +kernel
theorem dX6_findOrder_72 : decode cX6_findOrder 72 = .ok (.iand, 1) := by decide +kernel
theorem dX6_findOrder_73 : decode cX6_findOrder 73 = .ok (.ifCond .ne 8, 3) := by decide +kernel
theorem dX6_findOrder_76 : decode cX6_findOrder 76 = .ok (.iload 6, 2) := by decide +kernel
theorem dX6_findOrder_78 : decode cX6_findOrder 78 = .ok (.goto 5, 3) := by decide +kernel
theorem dX6_findOrder_81 : decode cX6_findOrder 81 = .ok (.iload 5, 2) := by decide +kernel
theorem dX6_findOrder_83 : decode cX6_findOrder 83 = .ok (.istore 5, 2) := by decide +kernel
theorem dX6_findOrder_85 : decode cX6_findOrder 85 = .ok (.iinc 6 (-1), 3) := by decide +kernel
theorem dX6_findOrder_88 : decode cX6_findOrder 88 = .ok (.goto (-40), 3) := by decide +kernel
theorem dX6_findOrder_91 : decode cX6_findOrder 91 = .ok (.iload 5, 2) := by decide +kernel
theorem dX6_findOrder_93 : decode cX6_findOrder 93 = .ok (.bipush (-9), 2) := by decide +kernel
theorem dX6_findOrder_95 : decode cX6_findOrder 95 = .ok (.if_icmp .eq 7, 3) := by decide +kernel
theorem dX6_findOrder_98 : decode cX6_findOrder 98 = .ok (.iconst 1, 1) := by decide +kernel
theorem dX6_findOrder_99 : decode cX6_findOrder 99 = .ok (.goto 4, 3) := by decide +kernel
theorem dX6_findOrder_102 : decode cX6_findOrder 102 = .ok (.iconst 0, 1) := by decide +kernel
theorem dX6_findOrder_103 : decode cX6_findOrder 103 = .ok (.istore 4, 2) := by decide +kernel
theorem dX6_findOrder_105 : decode cX6_findOrder 105 = .ok (.iload 4, 2) := by decide +kernel
theorem dX6_findOrder_107 : decode cX6_findOrder 107 = .ok (.ifCond .eq 21, 3) := by decide +kernel
theorem dX6_findOrder_110 : decode cX6_findOrder 110 = .ok (.aload_n 0, 1) := by decide +kernel
theorem dX6_findOrder_111 : decode cX6_findOrder 111 = .ok (.getfield 50, 3) := by decide +kernel
theorem dX6_findOrder_114 : decode cX6_findOrder 114 = .ok (.iload 5, 2) := by decide +kernel
theorem dX6_findOrder_116 : decode cX6_findOrder 116 = .ok (.iload_n 3, 1) := by decide +kernel
theorem dX6_findOrder_117 : decode cX6_findOrder 117 = .ok (.iastore, 1) := by decide +kernel
theorem dX6_findOrder_118 : decode cX6_findOrder 118 = .ok (.iload_n 2, 1) := by decide +kernel
theorem dX6_findOrder_119 : decode cX6_findOrder 119 = .ok (.iconst 1, 1) := by decide +kernel
theorem dX6_findOrder_120 : decode cX6_findOrder 120 = .ok (.iload 5, 2) := by decide +kernel
theorem dX6_findOrder_122 : decode cX6_findOrder 122 = .ok (.ishl, 1) := by decide +kernel
theorem dX6_findOrder_123 : decode cX6_findOrder 123 = .ok (.ior, 1) := by decide +kernel
theorem dX6_findOrder_124 : decode cX6_findOrder 124 = .ok (.istore_n 2, 1) := by decide +kernel
theorem dX6_findOrder_125 : decode cX6_findOrder 125 = .ok (.iinc 3 1, 3) := by decide +kernel
theorem dX6_findOrder_128 : decode cX6_findOrder 128 = .ok (.goto (-96), 3) := by decide +kernel
theorem dX6_findOrder_131 : decode cX6_findOrder 131 = .ok (.aload_n 0, 1) := by decide +kernel
theorem dX6_findOrder_132 : decode cX6_findOrder 132 = .ok (.iconst 1, 1) := by decide +kernel
theorem dX6_findOrder_133 : decode cX6_findOrder 133 = .ok (.aload_n 1, 1) := by decide +kernel
theorem dX6_findOrder_134 : decode cX6_findOrder 134 = .ok (.iconst 0, 1) := by decide +kernel
theorem dX6_findOrder_135 : decode cX6_findOrder 135 = .ok (.iaload, 1) := by decide +kernel
theorem dX6_findOrder_136 : decode cX6_findOrder 136 = .ok (.ishl, 1) := by decide +kernel
theorem dX6_findOrder_137 : decode cX6_findOrder 137 = .ok (.iconst 1, 1) := by decide +kernel
theorem dX6_findOrder_138 : decode cX6_findOrder 138 = .ok (.isub, 1) := by decide +kernel
theorem dX6_findOrder_139 : decode cX6_findOrder 139 = .ok (.iload_n 2, 1) := by decide +kernel
theorem dX6_findOrder_140 : decode cX6_findOrder 140 = .ok (.iconst (-1), 1) := by decide +kernel
theorem dX6_findOrder_141 : decode cX6_findOrder 141 = .ok (.ixor, 1) := by decide +kernel
theorem dX6_findOrder_142 : decode cX6_findOrder 142 = .ok (.iand, 1) := by decide +kernel
theorem dX6_findOrder_143 : decode cX6_findOrder 143 = .ok (.putfield 135, 3) := by decide +kernel
theorem dX6_findOrder_146 : decode cX6_findOrder 146 = .ok (.return_, 1) := by decide +kernel
theorem dX6_isOne_0 : decode cX6_isOne 0 = .ok (.aload_n 1, 1) := by decide +kernel
theorem dX6_isOne_1 : decode cX6_isOne 1 = .ok (.iconst 1, 1) := by decide +kernel
theorem dX6_isOne_2 : decode cX6_isOne 2 = .ok (.iload_n 2, 1) := by decide +kernel
theorem dX6_isOne_3 : decode cX6_isOne 3 = .ok (.iadd, 1) := by decide +kernel
theorem dX6_isOne_4 : decode cX6_isOne 4 = .ok (.iaload, 1) := by decide +kernel
theorem dX6_isOne_5 : decode cX6_isOne 5 = .ok (.istore_n 3, 1) := by decide +kernel
theorem dX6_isOne_6 : decode cX6_isOne 6 = .ok (.iload_n 3, 1) := by decide +kernel
theorem dX6_isOne_7 : decode cX6_isOne 7 = .ok (.bipush 7, 2) := by decide +kernel
theorem dX6_isOne_9 : decode cX6_isOne 9 = .ok (.if_icmp .ne 7, 3) := by decide +kernel
theorem dX6_isOne_12 : decode cX6_isOne 12 = .ok (.iconst 1, 1) := by decide +kernel
theorem dX6_isOne_13 : decode cX6_isOne 13 = .ok (.goto 4, 3) := by decide +kernel
theorem dX6_isOne_16 : decode cX6_isOne 16 = .ok (.iconst 0, 1) := by decide +kernel
theorem dX6_isOne_17 : decode cX6_isOne 17 = .ok (.istore 4, 2) := by decide +kernel
theorem dX6_isOne_19 : decode cX6_isOne 19 = .ok (.iconst 0, 1) := by decide +kernel
theorem dX6_isOne_20 : decode cX6_isOne 20 = .ok (.istore 5, 2) := by decide +kernel
theorem dX6_isOne_22 : decode cX6_isOne 22 = .ok (.iload 5, 2) := by decide +kernel
theorem dX6_isOne_24 : decode cX6_isOne 24 = .ok (.iconst 3, 1) := by decide +kernel
theorem dX6_isOne_25 : decode cX6_isOne 25 = .ok (.if_icmp .ge 91, 3) := by decide +kernel
theorem dX6_isOne_28 : decode cX6_isOne 28 = .ok (.aload_n 1, 1) := by decide +kernel
theorem dX6_isOne_29 : decode cX6_isOne 29 = .ok (.iload_n 2, 1) := by decide +kernel
theorem dX6_isOne_30 : decode cX6_isOne 30 = .ok (.iload 5, 2) := by decide +kernel
theorem dX6_isOne_32 : decode cX6_isOne 32 = .ok (.invokestatic 121, 3) := by decide +kernel
theorem dX6_isOne_35 : decode cX6_isOne 35 = .ok (.istore 6, 2) := by decide +kernel
theorem dX6_isOne_37 : decode cX6_isOne 37 = .ok (.iload_n 3, 1) := by decide +kernel
theorem dX6_isOne_38 : decode cX6_isOne 38 = .ok (.i2l, 1) := by decide +kernel
theorem dX6_isOne_39 : decode cX6_isOne 39 = .ok (.ldc2_w 138, 3) := by decide +kernel
theorem dX6_isOne_42 : decode cX6_isOne 42 = .ok (.ldc2_w 140, 3) := by decide +kernel
theorem dX6_isOne_45 : decode cX6_isOne 45 = .ok (.invokestatic 66, 3) := by decide +kernel
theorem dX6_isOne_48 : decode cX6_isOne 48 = .ok (.ifCond .ne 20, 3) := by decide +kernel
theorem dX6_isOne_51 : decode cX6_isOne 51 = .ok (.iload_n 3, 1) := by decide +kernel
theorem dX6_isOne_52 : decode cX6_isOne 52 = .ok (.bipush 9, 2) := by decide +kernel
theorem dX6_isOne_54 : decode cX6_isOne 54 = .ok (.if_icmp .eq 9, 3) := by decide +kernel
theorem dX6_isOne_57 : decode cX6_isOne 57 = .ok (.iload_n 3, 1) := by decide +kernel
theorem dX6_isOne_58 : decode cX6_isOne 58 = .ok (.bipush 10, 2) := by decide +kernel
theorem dX6_isOne_60 : decode cX6_isOne 60 = .ok (.if_icmp .ne 12, 3) := by decide +kernel
theorem dX6_isOne_63 : decode cX6_isOne 63 = .ok (.iload 5, 2) := by decide +kernel
theorem dX6_isOne_65 : decode cX6_isOne 65 = .ok (.ifCond .ne 7, 3) := by decide +kernel
theorem dX6_isOne_68 : decode cX6_isOne 68 = .ok (.iconst 1, 1) := by decide +kernel
theorem dX6_isOne_69 : decode cX6_isOne 69 = .ok (.goto 4, 3) := by decide +kernel
theorem dX6_isOne_72 : decode cX6_isOne 72 = .ok (.iconst 0, 1) := by decide +kernel
theorem dX6_isOne_73 : decode cX6_isOne 73 = .ok (.istore 7, 2) := by decide +kernel
theorem dX6_isOne_75 : decode cX6_isOne 75 = .ok (.iload 4, 2) := by decide +kernel
theorem dX6_isOne_77 : decode cX6_isOne 77 = .ok (.ifCond .ne 26, 3) := by decide +kernel
theorem dX6_isOne_80 : decode cX6_isOne 80 = .ok (.iload 7, 2) := by decide +kernel
theorem dX6_isOne_82 : decode cX6_isOne 82 = .ok (.ifCond .eq 25, 3) := by decide +kernel
theorem dX6_isOne_85 : decode cX6_isOne 85 = .ok (.iload 6, 2) := by decide +kernel
theorem dX6_isOne_87 : decode cX6_isOne 87 = .ok (.bipush (-9), 2) := by decide +kernel
theorem dX6_isOne_89 : decode cX6_isOne 89 = .ok (.if_icmp .eq 18, 3) := by decide +kernel
theorem dX6_isOne_92 : decode cX6_isOne 92 = .ok (.aload_n 0, 1) := by decide +kernel
theorem dX6_isOne_93 : decode cX6_isOne 93 = .ok (.getfield 53, 3) := by decide +kernel
theorem dX6_isOne_96 : decode cX6_isOne 96 = .ok (.iload 6, 2) := by decide +kernel
theorem dX6_isOne_98 : decode cX6_isOne 98 = .ok (.iaload, 1) := by decide +kernel
theorem dX6_isOne_99 : decode cX6_isOne 99 = .ok (.iconst 1, 1) := by decide +kernel
theorem dX6_isOne_100 : decode cX6_isOne 100 = .ok (.if_icmp .ne 7, 3) := by decide +kernel
theorem dX6_isOne_103 : decode cX6_isOne 103 = .ok (.iconst 1, 1) := by decide +kernel
theorem dX6_isOne_104 : decode cX6_isOne 104 = .ok (.goto 4, 3) := by decide +kernel
theorem dX6_isOne_107 : decode cX6_isOne 107 = .ok (.iconst 0, 1) := by decide +kernel
theorem dX6_isOne_108 : decode cX6_isOne 108 = .ok (.istore 4, 2) := by decide +kernel
theorem dX6_isOne_110 : decode cX6_isOne 110 = .ok (.iinc 5 1, 3) := by decide +kernel
theorem dX6_isOne_113 : decode cX6_isOne 113 = .ok (.goto (-91), 3) := by decide +kernel
theorem dX6_isOne_116 : decode cX6_isOne 116 = .ok (.iload 4, 2) := by decide +kernel
theorem dX6_isOne_118 : decode cX6_isOne 118 = .ok (.ireturn, 1) := by decide +kernel
theorem dX6_findLevels_0 : decode cX6_findLevels 0 = .ok (.iconst 0, 1) := by decide +kernel
theorem dX6_findLevels_1 : decode cX6_findLevels 1 = .ok (.istore_n 2, 1) := by decide +kernel
theorem dX6_findLevels_2 : decode cX6_findLevels 2 = .ok (.iload_n 2, 1) := by decide +kernel
theorem dX6_findLevels_3 : decode cX6_findLevels 3 = .ok (.bipush 8, 2) := by decide +kernel
theorem dX6_findLevels_5 : decode cX6_findLevels 5 = .ok (.if_icmp .ge 16, 3) := by decide +kernel
theorem dX6_findLevels_8 : decode cX6_findLevels 8 = .ok (.aload_n 0, 1) := by decide +kernel
theorem dX6_findLevels_9 : decode cX6_findLevels 9 = .ok (.getfield 53, 3) := by decide +kernel
theorem dX6_findLevels_12 : decode cX6_findLevels 12 = .ok (.iload_n 2, 1) := by decide +kernel
theorem dX6_findLevels_13 : decode cX6_findLevels 13 = .ok (.iconst 0, 1) := by decide +kernel
theorem dX6_findLevels_14 : decode cX6_findLevels 14 = .ok (.iastore, 1) := by decide +kernel
theorem dX6_findLevels_15 : decode cX6_findLevels 15 = .ok (.iinc 2 1, 3) := by decide +kernel
theorem dX6_findLevels_18 : decode cX6_findLevels 18 = .ok (.goto (-16), 3) := by decide +kernel
theorem dX6_findLevels_21 : decode cX6_findLevels 21 = .ok (.iconst 0, 1) := by decide +kernel
theorem dX6_findLevels_22 : decode cX6_findLevels 22 = .ok (.istore_n 2, 1) := by decide +kernel
theorem dX6_findLevels_23 : decode cX6_findLevels 23 = .ok (.iload_n 2, 1) := by decide +kernel
theorem dX6_findLevels_24 : decode cX6_findLevels 24 = .ok (.bipush 8, 2) := by decide +kernel
theorem dX6_findLevels_26 : decode cX6_findLevels 26 = .ok (.if_icmp .ge 49, 3) := by decide +kernel
theorem dX6_findLevels_29 : decode cX6_findLevels 29 = .ok (.iconst 0, 1) := by decide +kernel
theorem dX6_findLevels_30 : decode cX6_findLevels 30 = .ok (.istore_n 3, 1) := by decide +kernel
theorem dX6_findLevels_31 : decode cX6_findLevels 31 = .ok (.iload_n 3, 1) := by decide +kernel
theorem dX6_findLevels_32 : decode cX6_findLevels 32 = .ok (.aload_n 1, 1) := by decide +kernel
theorem dX6_findLevels_33 : decode cX6_findLevels 33 = .ok (.iconst 0, 1) := by decide +kernel
theorem dX6_findLevels_34 : decode cX6_findLevels 34 = .ok (.iaload, 1) := by decide +kernel
theorem dX6_findLevels_35 : decode cX6_findLevels 35 = .ok (.if_icmp .ge 34, 3) := by decide +kernel
theorem dX6_findLevels_38 : decode cX6_findLevels 38 = .ok (.aload_n 0, 1) := by decide +kernel
theorem dX6_findLevels_39 : decode cX6_findLevels 39 = .ok (.getfield 53, 3) := by decide +kernel
theorem dX6_findLevels_42 : decode cX6_findLevels 42 = .ok (.iload_n 3, 1) := by decide +kernel
theorem dX6_findLevels_43 : decode cX6_findLevels 43 = .ok (.aload_n 0, 1) := by decide +kernel
theorem dX6_findLevels_44 : decode cX6_findLevels 44 = .ok (.aload_n 1, 1) := by decide +kernel
theorem dX6_findLevels_45 : decode cX6_findLevels 45 = .ok (.iload_n 3, 1) := by decide +kernel
theorem dX6_findLevels_46 : decode cX6_findLevels 46 = .ok (.invokevirtual 142, 3) := by decide +kernel
theorem dX6_findLevels_49 : decode cX6_findLevels 49 = .ok (.ifCond .eq 7, 3) := by decide +kernel
theorem dX6_findLevels_52 : decode cX6_findLevels 52 = .ok (.iconst 1, 1) := by decide +kernel
theorem dX6_findLevels_53 : decode cX6_findLevels 53 = .ok (.goto 9, 3) := by decide +kernel
theorem dX6_findLevels_56 : decode cX6_findLevels 56 = .ok (.aload_n 0, 1) := by decide +kernel
theorem dX6_findLevels_57 : decode cX6_findLevels 57 = .ok (.getfield 53, 3) := by decide +kernel
theorem dX6_findLevels_60 : decode cX6_findLevels 60 = .ok (.iload_n 3, 1) := by decide +kernel
theorem dX6_findLevels_61 : decode cX6_findLevels 61 = .ok (.iaload, 1) := by decide +kernel
theorem dX6_findLevels_62 : decode cX6_findLevels 62 = .ok (.iastore, 1) := by decide +kernel
theorem dX6_findLevels_63 : decode cX6_findLevels 63 = .ok (.iinc 3 1, 3) := by decide +kernel
theorem dX6_findLevels_66 : decode cX6_findLevels 66 = .ok (.goto (-35), 3) := by decide +kernel
theorem dX6_findLevels_69 : decode cX6_findLevels 69 = .ok (.iinc 2 1, 3) := by decide +kernel
theorem dX6_findLevels_72 : decode cX6_findLevels 72 = .ok (.goto (-49), 3) := by decide +kernel
theorem dX6_findLevels_75 : decode cX6_findLevels 75 = .ok (.return_, 1) := by decide +kernel
theorem dX6_isRaw_0 : decode cX6_isRaw 0 = .ok (.aload_n 1, 1) := by decide +kernel
theorem dX6_isRaw_1 : decode cX6_isRaw 1 = .ok (.iconst 1, 1) := by decide +kernel
theorem dX6_isRaw_2 : decode cX6_isRaw 2 = .ok (.iload_n 2, 1) := by decide +kernel
theorem dX6_isRaw_3 : decode cX6_isRaw 3 = .ok (.iadd, 1) := by decide +kernel
theorem dX6_isRaw_4 : decode cX6_isRaw 4 = .ok (.iaload, 1) := by decide +kernel
theorem dX6_isRaw_5 : decode cX6_isRaw 5 = .ok (.istore_n 3, 1) := by decide +kernel
theorem dX6_isRaw_6 : decode cX6_isRaw 6 = .ok (.iconst 0, 1) := by decide +kernel
theorem dX6_isRaw_7 : decode cX6_isRaw 7 = .ok (.istore 4, 2) := by decide +kernel
theorem dX6_isRaw_9 : decode cX6_isRaw 9 = .ok (.iconst 0, 1) := by decide +kernel
theorem dX6_isRaw_10 : decode cX6_isRaw 10 = .ok (.istore 5, 2) := by decide +kernel
theorem dX6_isRaw_12 : decode cX6_isRaw 12 = .ok (.iload 5, 2) := by decide +kernel
theorem dX6_isRaw_14 : decode cX6_isRaw 14 = .ok (.iconst 3, 1) := by decide +kernel
theorem dX6_isRaw_15 : decode cX6_isRaw 15 = .ok (.if_icmp .ge 107, 3) := by decide +kernel
theorem dX6_isRaw_18 : decode cX6_isRaw 18 = .ok (.aload_n 1, 1) := by decide +kernel
theorem dX6_isRaw_19 : decode cX6_isRaw 19 = .ok (.iload_n 2, 1) := by decide +kernel
theorem dX6_isRaw_20 : decode cX6_isRaw 20 = .ok (.iload 5, 2) := by decide +kernel
theorem dX6_isRaw_22 : decode cX6_isRaw 22 = .ok (.invokestatic 121, 3) := by decide +kernel
theorem dX6_isRaw_25 : decode cX6_isRaw 25 = .ok (.istore 6, 2) := by decide +kernel
theorem dX6_isRaw_27 : decode cX6_isRaw 27 = .ok (.iload_n 3, 1) := by decide +kernel
theorem dX6_isRaw_28 : decode cX6_isRaw 28 = .ok (.bipush 6, 2) := by decide +kernel
theorem dX6_isRaw_30 : decode cX6_isRaw 30 = .ok (.if_icmp .eq 44, 3) := by decide +kernel
theorem dX6_isRaw_33 : decode cX6_isRaw 33 = .ok (.iload_n 3, 1) := by decide +kernel
theorem dX6_isRaw_34 : decode cX6_isRaw 34 = .ok (.bipush 7, 2) := by decide +kernel
theorem dX6_isRaw_36 : decode cX6_isRaw 36 = .ok (.if_icmp .eq 38, 3) := by decide +kernel
theorem dX6_isRaw_39 : decode cX6_isRaw 39 = .ok (.iload_n 3, 1) := by decide +kernel
theorem dX6_isRaw_40 : decode cX6_isRaw 40 = .ok (.bipush 8, 2) := by decide +kernel
theorem dX6_isRaw_42 : decode cX6_isRaw 42 = .ok (.if_icmp .ne 8, 3) := by decide +kernel
theorem dX6_isRaw_45 : decode cX6_isRaw 45 = .ok (.iload 5, 2) := by decide +kernel
theorem dX6_isRaw_47 : decode cX6_isRaw 47 = .ok (.ifCond .eq 27, 3) := by decide +kernel
theorem dX6_isRaw_50 : decode cX6_isRaw 50 = .ok (.iload_n 3, 1) := by decide +kernel
theorem dX6_isRaw_51 : decode cX6_isRaw 51 = .ok (.bipush 9, 2) := by decide +kernel
theorem dX6_isRaw_53 : decode cX6_isRaw 53 = .ok (.if_icmp .eq 9, 3) := by decide +kernel
theorem dX6_isRaw_56 : decode cX6_isRaw 56 = .ok (.iload_n 3, 1) := by decide +kernel
theorem dX6_isRaw_57 : decode cX6_isRaw 57 = .ok (.bipush 10, 2) := by decide +kernel
theorem dX6_isRaw_59 : decode cX6_isRaw 59 = .ok (.if_icmp .ne 9, 3) := by decide +kernel
theorem dX6_isRaw_62 : decode cX6_isRaw 62 = .ok (.iload 5, 2) := by decide +kernel
theorem dX6_isRaw_64 : decode cX6_isRaw 64 = .ok (.iconst 1, 1) := by decide +kernel
theorem dX6_isRaw_65 : decode cX6_isRaw 65 = .ok (.if_icmp .eq 9, 3) := by decide +kernel
theorem dX6_isRaw_68 : decode cX6_isRaw 68 = .ok (.iload_n 3, 1) := by decide +kernel
theorem dX6_isRaw_69 : decode cX6_isRaw 69 = .ok (.bipush 11, 2) := by decide +kernel
theorem dX6_isRaw_71 : decode cX6_isRaw 71 = .ok (.if_icmp .ne 7, 3) := by decide +kernel
theorem dX6_isRaw_74 : decode cX6_isRaw 74 = .ok (.iconst 1, 1) := by decide +kernel
theorem dX6_isRaw_75 : decode cX6_isRaw 75 = .ok (.goto 4, 3) := by decide +kernel
theorem dX6_isRaw_78 : decode cX6_isRaw 78 = .ok (.iconst 0, 1) := by decide +kernel
theorem dX6_isRaw_79 : decode cX6_isRaw 79 = .ok (.istore 7, 2) := by decide +kernel
theorem dX6_isRaw_81 : decode cX6_isRaw 81 = .ok (.iload 4, 2) := by decide +kernel
theorem dX6_isRaw_83 : decode cX6_isRaw 83 = .ok (.ifCond .ne 26, 3) := by decide +kernel
theorem dX6_isRaw_86 : decode cX6_isRaw 86 = .ok (.iload 7, 2) := by decide +kernel
theorem dX6_isRaw_88 : decode cX6_isRaw 88 = .ok (.ifCond .eq 25, 3) := by decide +kernel
theorem dX6_isRaw_91 : decode cX6_isRaw 91 = .ok (.iload 6, 2) := by decide +kernel
theorem dX6_isRaw_93 : decode cX6_isRaw 93 = .ok (.bipush (-9), 2) := by decide +kernel
theorem dX6_isRaw_95 : decode cX6_isRaw 95 = .ok (.if_icmp .eq 18, 3) := by decide +kernel
theorem dX6_isRaw_98 : decode cX6_isRaw 98 = .ok (.aload_n 0, 1) := by decide +kernel
theorem dX6_isRaw_99 : decode cX6_isRaw 99 = .ok (.getfield 53, 3) := by decide +kernel
theorem dX6_isRaw_102 : decode cX6_isRaw 102 = .ok (.iload 6, 2) := by decide +kernel
theorem dX6_isRaw_104 : decode cX6_isRaw 104 = .ok (.iaload, 1) := by decide +kernel
theorem dX6_isRaw_105 : decode cX6_isRaw 105 = .ok (.iconst 1, 1) := by decide +kernel
theorem dX6_isRaw_106 : decode cX6_isRaw 106 = .ok (.if_icmp .ne 7, 3) := by decide +kernel
theorem dX6_isRaw_109 : decode cX6_isRaw 109 = .ok (.iconst 1, 1) := by decide +kernel
theorem dX6_isRaw_110 : decode cX6_isRaw 110 = .ok (.goto 4, 3) := by decide +kernel
theorem dX6_isRaw_113 : decode cX6_isRaw 113 = .ok (.iconst 0, 1) := by decide +kernel
theorem dX6_isRaw_114 : decode cX6_isRaw 114 = .ok (.istore 4, 2) := by decide +kernel
theorem dX6_isRaw_116 : decode cX6_isRaw 116 = .ok (.iinc 5 1, 3) := by decide +kernel
theorem dX6_isRaw_119 : decode cX6_isRaw 119 = .ok (.goto (-107), 3) := by decide +kernel
theorem dX6_isRaw_122 : decode cX6_isRaw 122 = .ok (.iload 4, 2) := by decide +kernel
theorem dX6_isRaw_124 : decode cX6_isRaw 124 = .ok (.ireturn, 1) := by decide +kernel
theorem dX6_find_0 : decode cX6_find 0 = .ok (.aload_n 0, 1) := by decide +kernel
theorem dX6_find_1 : decode cX6_find 1 = .ok (.aload_n 1, 1) := by decide +kernel
theorem dX6_find_2 : decode cX6_find 2 = .ok (.invokevirtual 145, 3) := by decide +kernel
theorem dX6_find_5 : decode cX6_find 5 = .ok (.aload_n 0, 1) := by decide +kernel
theorem dX6_find_6 : decode cX6_find 6 = .ok (.iconst 0, 1) := by decide +kernel
theorem dX6_find_7 : decode cX6_find 7 = .ok (.putfield 135, 3) := by decide +kernel
theorem dX6_find_10 : decode cX6_find 10 = .ok (.aload_n 0, 1) := by decide +kernel
theorem dX6_find_11 : decode cX6_find 11 = .ok (.bipush (-9), 2) := by decide +kernel
theorem dX6_find_13 : decode cX6_find 13 = .ok (.putfield 149, 3) := by decide +kernel
theorem dX6_find_16 : decode cX6_find 16 = .ok (.aload_n 0, 1) := by decide +kernel
theorem dX6_find_17 : decode cX6_find 17 = .ok (.getfield 114, 3) := by decide +kernel
theorem dX6_find_20 : decode cX6_find 20 = .ok (.bipush (-9), 2) := by decide +kernel
theorem dX6_find_22 : decode cX6_find 22 = .ok (.if_icmp .eq 4, 3) := by decide +kernel
theorem dX6_find_25 : decode cX6_find 25 = .ok (.return_, 1) := by decide +kernel
theorem dX6_find_26 : decode cX6_find 26 = .ok (.aload_n 0, 1) := by decide +kernel
theorem dX6_find_27 : decode cX6_find 27 = .ok (.aload_n 1, 1) := by decide +kernel
theorem dX6_find_28 : decode cX6_find 28 = .ok (.invokevirtual 152, 3) := by decide +kernel
theorem dX6_find_31 : decode cX6_find 31 = .ok (.aload_n 0, 1) := by decide +kernel
theorem dX6_find_32 : decode cX6_find 32 = .ok (.aload_n 1, 1) := by decide +kernel
theorem dX6_find_33 : decode cX6_find 33 = .ok (.invokevirtual 155, 3) := by decide +kernel
theorem dX6_find_36 : decode cX6_find 36 = .ok (.aload_n 1, 1) := by decide +kernel
theorem dX6_find_37 : decode cX6_find 37 = .ok (.iconst 0, 1) := by decide +kernel
theorem dX6_find_38 : decode cX6_find 38 = .ok (.iaload, 1) := by decide +kernel
theorem dX6_find_39 : decode cX6_find 39 = .ok (.iconst 1, 1) := by decide +kernel
theorem dX6_find_40 : decode cX6_find 40 = .ok (.isub, 1) := by decide +kernel
theorem dX6_find_41 : decode cX6_find 41 = .ok (.istore_n 2, 1) := by decide +kernel
theorem dX6_find_42 : decode cX6_find 42 = .ok (.iload_n 2, 1) := by decide +kernel
theorem dX6_find_43 : decode cX6_find 43 = .ok (.ifCond .lt 30, 3) := by decide +kernel
theorem dX6_find_46 : decode cX6_find 46 = .ok (.aload_n 0, 1) := by decide +kernel
theorem dX6_find_47 : decode cX6_find 47 = .ok (.aload_n 0, 1) := by decide +kernel
theorem dX6_find_48 : decode cX6_find 48 = .ok (.aload_n 1, 1) := by decide +kernel
theorem dX6_find_49 : decode cX6_find 49 = .ok (.iload_n 2, 1) := by decide +kernel
theorem dX6_find_50 : decode cX6_find 50 = .ok (.invokevirtual 158, 3) := by decide +kernel
theorem dX6_find_53 : decode cX6_find 53 = .ok (.ifCond .eq 7, 3) := by decide +kernel
theorem dX6_find_56 : decode cX6_find 56 = .ok (.iload_n 2, 1) := by decide +kernel
theorem dX6_find_57 : decode cX6_find 57 = .ok (.goto 7, 3) := by decide +kernel
theorem dX6_find_60 : decode cX6_find 60 = .ok (.aload_n 0, 1) := by decide +kernel
theorem dX6_find_61 : decode cX6_find 61 = .ok (.getfield 149, 3) := by decide +kernel
theorem dX6_find_64 : decode cX6_find 64 = .ok (.putfield 149, 3) := by decide +kernel
theorem dX6_find_67 : decode cX6_find 67 = .ok (.iinc 2 (-1), 3) := by decide +kernel
theorem dX6_find_70 : decode cX6_find 70 = .ok (.goto (-28), 3) := by decide +kernel
theorem dX6_find_73 : decode cX6_find 73 = .ok (.return_, 1) := by decide +kernel
theorem dX6_isSound_0 : decode cX6_isSound 0 = .ok (.aload_n 0, 1) := by decide +kernel
theorem dX6_isSound_1 : decode cX6_isSound 1 = .ok (.getfield 114, 3) := by decide +kernel
theorem dX6_isSound_4 : decode cX6_isSound 4 = .ok (.bipush (-9), 2) := by decide +kernel
theorem dX6_isSound_6 : decode cX6_isSound 6 = .ok (.if_icmp .ne 23, 3) := by decide +kernel
theorem dX6_isSound_9 : decode cX6_isSound 9 = .ok (.aload_n 0, 1) := by decide +kernel
theorem dX6_isSound_10 : decode cX6_isSound 10 = .ok (.getfield 135, 3) := by decide +kernel
theorem dX6_isSound_13 : decode cX6_isSound 13 = .ok (.ifCond .ne 16, 3) := by decide +kernel
theorem dX6_isSound_16 : decode cX6_isSound 16 = .ok (.aload_n 0, 1) := by decide +kernel
theorem dX6_isSound_17 : decode cX6_isSound 17 = .ok (.getfield 149, 3) := by decide +kernel
theorem dX6_isSound_20 : decode cX6_isSound 20 = .ok (.bipush (-9), 2) := by decide +kernel
theorem dX6_isSound_22 : decode cX6_isSound 22 = .ok (.if_icmp .ne 7, 3) := by decide +kernel
theorem dX6_isSound_25 : decode cX6_isSound 25 = .ok (.iconst 1, 1) := by decide +kernel
theorem dX6_isSound_26 : decode cX6_isSound 26 = .ok (.goto 4, 3) := by decide +kernel
theorem dX6_isSound_29 : decode cX6_isSound 29 = .ok (.iconst 0, 1) := by decide +kernel
theorem dX6_isSound_30 : decode cX6_isSound 30 = .ok (.ireturn, 1) := by decide +kernel
theorem dX6_soundNow_0 : decode cX6_soundNow 0 = .ok (.aload_n 0, 1) := by decide +kernel
theorem dX6_soundNow_1 : decode cX6_soundNow 1 = .ok (.aload_n 0, 1) := by decide +kernel
theorem dX6_soundNow_2 : decode cX6_soundNow 2 = .ok (.getfield 16, 3) := by decide +kernel
theorem dX6_soundNow_5 : decode cX6_soundNow 5 = .ok (.invokevirtual 161, 3) := by decide +kernel
theorem dX6_soundNow_8 : decode cX6_soundNow 8 = .ok (.aload_n 0, 1) := by decide +kernel
theorem dX6_soundNow_9 : decode cX6_soundNow 9 = .ok (.invokevirtual 164, 3) := by decide +kernel
theorem dX6_soundNow_12 : decode cX6_soundNow 12 = .ok (.ireturn, 1) := by decide +kernel
theorem dX6_goAfresh_0 : decode cX6_goAfresh 0 = .ok (.iconst 0, 1) := by decide +kernel
theorem dX6_goAfresh_1 : decode cX6_goAfresh 1 = .ok (.istore_n 1, 1) := by decide +kernel
theorem dX6_goAfresh_2 : decode cX6_goAfresh 2 = .ok (.iload_n 1, 1) := by decide +kernel
theorem dX6_goAfresh_3 : decode cX6_goAfresh 3 = .ok (.bipush 8, 2) := by decide +kernel
theorem dX6_goAfresh_5 : decode cX6_goAfresh 5 = .ok (.if_icmp .ge 58, 3) := by decide +kernel
theorem dX6_goAfresh_8 : decode cX6_goAfresh 8 = .ok (.aload_n 0, 1) := by decide +kernel
theorem dX6_goAfresh_9 : decode cX6_goAfresh 9 = .ok (.iconst 1, 1) := by decide +kernel
theorem dX6_goAfresh_10 : decode cX6_goAfresh 10 = .ok (.iload_n 1, 1) := by decide +kernel
theorem dX6_goAfresh_11 : decode cX6_goAfresh 11 = .ok (.iadd, 1) := by decide +kernel
theorem dX6_goAfresh_12 : decode cX6_goAfresh 12 = .ok (.iaload, 1) := by decide +kernel
theorem dX6_goAfresh_13 : decode cX6_goAfresh 13 = .ok (.istore_n 2, 1) := by decide +kernel
theorem dX6_goAfresh_14 : decode cX6_goAfresh 14 = .ok (.aload_n 0, 1) := by decide +kernel
theorem dX6_goAfresh_15 : decode cX6_goAfresh 15 = .ok (.bipush 33, 2) := by decide +kernel
theorem dX6_goAfresh_17 : decode cX6_goAfresh 17 = .ok (.iload_n 1, 1) := by decide +kernel
theorem dX6_goAfresh_18 : decode cX6_goAfresh 18 = .ok (.iadd, 1) := by decide +kernel
theorem dX6_goAfresh_19 : decode cX6_goAfresh 19 = .ok (.iload_n 2, 1) := by decide +kernel
theorem dX6_goAfresh_20 : decode cX6_goAfresh 20 = .ok (.bipush 6, 2) := by decide +kernel
theorem dX6_goAfresh_22 : decode cX6_goAfresh 22 = .ok (.if_icmp .ne 14, 3) := by decide +kernel
theorem dX6_goAfresh_25 : decode cX6_goAfresh 25 = .ok (.aload_n 0, 1) := by decide +kernel
theorem dX6_goAfresh_26 : decode cX6_goAfresh 26 = .ok (.bipush 9, 2) := by decide +kernel
theorem dX6_goAfresh_28 : decode cX6_goAfresh 28 = .ok (.iconst 3, 1) := by decide +kernel
theorem dX6_goAfresh_29 : decode cX6_goAfresh 29 = .ok (.iload_n 1, 1) := by decide +kernel
theorem dX6_goAfresh_30 : decode cX6_goAfresh 30 = .ok (.imul, 1) := by decide +kernel
theorem dX6_goAfresh_31 : decode cX6_goAfresh 31 = .ok (.iadd, 1) := by decide +kernel
theorem dX6_goAfresh_32 : decode cX6_goAfresh 32 = .ok (.iaload, 1) := by decide +kernel
theorem dX6_goAfresh_33 : decode cX6_goAfresh 33 = .ok (.goto 15, 3) := by decide +kernel
theorem dX6_goAfresh_36 : decode cX6_goAfresh 36 = .ok (.iload_n 2, 1) := by decide +kernel
theorem dX6_goAfresh_37 : decode cX6_goAfresh 37 = .ok (.bipush 7, 2) := by decide +kernel
theorem dX6_goAfresh_39 : decode cX6_goAfresh 39 = .ok (.if_icmp .ne 8, 3) := by decide +kernel
theorem dX6_goAfresh_42 : decode cX6_goAfresh 42 = .ok (.bipush (-8), 2) := by decide +kernel
theorem dX6_goAfresh_44 : decode cX6_goAfresh 44 = .ok (.goto 4, 3) := by decide +kernel
theorem dX6_goAfresh_47 : decode cX6_goAfresh 47 = .ok (.iconst 0, 1) := by decide +kernel
theorem dX6_goAfresh_48 : decode cX6_goAfresh 48 = .ok (.iastore, 1) := by decide +kernel
theorem dX6_goAfresh_49 : decode cX6_goAfresh 49 = .ok (.aload_n 0, 1) := by decide +kernel
theorem dX6_goAfresh_50 : decode cX6_goAfresh 50 = .ok (.bipush 41, 2) := by decide +kernel
theorem dX6_goAfresh_52 : decode cX6_goAfresh 52 = .ok (.iload_n 1, 1) := by decide +kernel
theorem dX6_goAfresh_53 : decode cX6_goAfresh 53 = .ok (.iadd, 1) := by decide +kernel
theorem dX6_goAfresh_54 : decode cX6_goAfresh 54 = .ok (.bipush (-9), 2) := by decide +kernel
theorem dX6_goAfresh_56 : decode cX6_goAfresh 56 = .ok (.iastore, 1) := by decide +kernel
theorem dX6_goAfresh_57 : decode cX6_goAfresh 57 = .ok (.iinc 1 1, 3) := by decide +kernel
theorem dX6_goAfresh_60 : decode cX6_goAfresh 60 = .ok (.goto (-58), 3) := by decide +kernel
theorem dX6_goAfresh_63 : decode cX6_goAfresh 63 = .ok (.aload_n 0, 1) := by decide +kernel
theorem dX6_goAfresh_64 : decode cX6_goAfresh 64 = .ok (.bipush 49, 2) := by decide +kernel
theorem dX6_goAfresh_66 : decode cX6_goAfresh 66 = .ok (.iconst 0, 1) := by decide +kernel
theorem dX6_goAfresh_67 : decode cX6_goAfresh 67 = .ok (.iastore, 1) := by decide +kernel
theorem dX6_goAfresh_68 : decode cX6_goAfresh 68 = .ok (.return_, 1) := by decide +kernel
theorem dX6_isThere_0 : decode cX6_isThere 0 = .ok (.iconst 1, 1) := by decide +kernel
theorem dX6_isThere_1 : decode cX6_isThere 1 = .ok (.istore_n 3, 1) := by decide +kernel
theorem dX6_isThere_2 : decode cX6_isThere 2 = .ok (.aload_n 0, 1) := by decide +kernel
theorem dX6_isThere_3 : decode cX6_isThere 3 = .ok (.iload_n 2, 1) := by decide +kernel
theorem dX6_isThere_4 : decode cX6_isThere 4 = .ok (.invokevirtual 125, 3) := by decide +kernel
theorem dX6_isThere_7 : decode cX6_isThere 7 = .ok (.iconst 1, 1) := by decide +kernel
theorem dX6_isThere_8 : decode cX6_isThere 8 = .ok (.isub, 1) := by decide +kernel
theorem dX6_isThere_9 : decode cX6_isThere 9 = .ok (.istore 4, 2) := by decide +kernel
theorem dX6_isThere_11 : decode cX6_isThere 11 = .ok (.iload 4, 2) := by decide +kernel
theorem dX6_isThere_13 : decode cX6_isThere 13 = .ok (.ifCond .lt 75, 3) := by decide +kernel
theorem dX6_isThere_16 : decode cX6_isThere 16 = .ok (.iload_n 3, 1) := by decide +kernel
theorem dX6_isThere_17 : decode cX6_isThere 17 = .ok (.ifCond .eq 71, 3) := by decide +kernel
theorem dX6_isThere_20 : decode cX6_isThere 20 = .ok (.aload_n 1, 1) := by decide +kernel
theorem dX6_isThere_21 : decode cX6_isThere 21 = .ok (.bipush 41, 2) := by decide +kernel
theorem dX6_isThere_23 : decode cX6_isThere 23 = .ok (.aload_n 0, 1) := by decide +kernel
theorem dX6_isThere_24 : decode cX6_isThere 24 = .ok (.getfield 56, 3) := by decide +kernel
theorem dX6_isThere_27 : decode cX6_isThere 27 = .ok (.iload 4, 2) := by decide +kernel
theorem dX6_isThere_29 : decode cX6_isThere 29 = .ok (.iaload, 1) := by decide +kernel
theorem dX6_isThere_30 : decode cX6_isThere 30 = .ok (.bipush 10, 2) := by decide +kernel
theorem dX6_isThere_32 : decode cX6_isThere 32 = .ok (.idiv, 1) := by decide +kernel
theorem dX6_isThere_33 : decode cX6_isThere 33 = .ok (.iadd, 1) := by decide +kernel
theorem dX6_isThere_34 : decode cX6_isThere 34 = .ok (.iaload, 1) := by decide +kernel
theorem dX6_isThere_35 : decode cX6_isThere 35 = .ok (.istore 5, 2) := by decide +kernel
theorem dX6_isThere_37 : decode cX6_isThere 37 = .ok (.iload 5, 2) := by decide +kernel
theorem dX6_isThere_39 : decode cX6_isThere 39 = .ok (.bipush (-9), 2) := by decide +kernel
theorem dX6_isThere_41 : decode cX6_isThere 41 = .ok (.if_icmp .eq 39, 3) := by decide +kernel
theorem dX6_isThere_44 : decode cX6_isThere 44 = .ok (.aload_n 0, 1) := by decide +kernel
theorem dX6_isThere_45 : decode cX6_isThere 45 = .ok (.getfield 56, 3) := by decide +kernel
theorem dX6_isThere_48 : decode cX6_isThere 48 = .ok (.iload 4, 2) := by decide +kernel
theorem dX6_isThere_50 : decode cX6_isThere 50 = .ok (.iaload, 1) := by decide +kernel
theorem dX6_isThere_51 : decode cX6_isThere 51 = .ok (.bipush 10, 2) := by decide +kernel
theorem dX6_isThere_53 : decode cX6_isThere 53 = .ok (.irem, 1) := by decide +kernel
theorem dX6_isThere_54 : decode cX6_isThere 54 = .ok (.iconst 1, 1) := by decide +kernel
theorem dX6_isThere_55 : decode cX6_isThere 55 = .ok (.if_icmp .ne 7, 3) := by decide +kernel
theorem dX6_isThere_58 : decode cX6_isThere 58 = .ok (.iconst 1, 1) := by decide +kernel
theorem dX6_isThere_59 : decode cX6_isThere 59 = .ok (.goto 4, 3) := by decide +kernel
theorem dX6_isThere_62 : decode cX6_isThere 62 = .ok (.iconst 0, 1) := by decide +kernel
theorem dX6_isThere_63 : decode cX6_isThere 63 = .ok (.iload 5, 2) := by decide +kernel
theorem dX6_isThere_65 : decode cX6_isThere 65 = .ok (.ifCond .eq 7, 3) := by decide +kernel
theorem dX6_isThere_68 : decode cX6_isThere 68 = .ok (.iconst 1, 1) := by decide +kernel
theorem dX6_isThere_69 : decode cX6_isThere 69 = .ok (.goto 4, 3) := by decide +kernel
theorem dX6_isThere_72 : decode cX6_isThere 72 = .ok (.iconst 0, 1) := by decide +kernel
theorem dX6_isThere_73 : decode cX6_isThere 73 = .ok (.if_icmp .ne 7, 3) := by decide +kernel
theorem dX6_isThere_76 : decode cX6_isThere 76 = .ok (.iconst 1, 1) := by decide +kernel
theorem dX6_isThere_77 : decode cX6_isThere 77 = .ok (.goto 4, 3) := by decide +kernel
theorem dX6_isThere_80 : decode cX6_isThere 80 = .ok (.iconst 0, 1) := by decide +kernel
theorem dX6_isThere_81 : decode cX6_isThere 81 = .ok (.istore_n 3, 1) := by decide +kernel
theorem dX6_isThere_82 : decode cX6_isThere 82 = .ok (.iinc 4 (-1), 3) := by decide +kernel
theorem dX6_isThere_85 : decode cX6_isThere 85 = .ok (.goto (-74), 3) := by decide +kernel
theorem dX6_isThere_88 : decode cX6_isThere 88 = .ok (.iload_n 3, 1) := by decide +kernel
theorem dX6_isThere_89 : decode cX6_isThere 89 = .ok (.ireturn, 1) := by decide +kernel
theorem dX6_made_0 : decode cX6_made 0 = .ok (.iload_n 1, 1) := by decide +kernel
theorem dX6_made_1 : decode cX6_made 1 = .ok (.ifCond .lt 7, 3) := by decide +kernel
theorem dX6_made_4 : decode cX6_made 4 = .ok (.iload_n 2, 1) := by decide +kernel
theorem dX6_made_5 : decode cX6_made 5 = .ok (.ifCond .ge 6, 3) := by decide +kernel
theorem dX6_made_8 : decode cX6_made 8 = .ok (.bipush (-8), 2) := by decide +kernel
theorem dX6_made_10 : decode cX6_made 10 = .ok (.ireturn, 1) := by decide +kernel
theorem dX6_made_11 : decode cX6_made 11 = .ok (.iload_n 0, 1) := by decide +kernel
theorem dX6_made_12 : decode cX6_made 12 = .ok (.iconst 2, 1) := by decide +kernel
theorem dX6_made_13 : decode cX6_made 13 = .ok (.if_icmp .ne 12, 3) := by decide +kernel
theorem dX6_made_16 : decode cX6_made 16 = .ok (.iload_n 1, 1) := by decide +kernel
theorem dX6_made_17 : decode cX6_made 17 = .ok (.iload_n 2, 1) := by decide +kernel
theorem dX6_made_18 : decode cX6_made 18 = .ok (.iadd, 1) := by decide +kernel
theorem dX6_made_19 : decode cX6_made 19 = .ok (.bipush 100, 2) := by decide +kernel
theorem dX6_made_21 : decode cX6_made 21 = .ok (.irem, 1) := by decide +kernel
theorem dX6_made_22 : decode cX6_made 22 = .ok (.goto 30, 3) := by decide +kernel
theorem dX6_made_25 : decode cX6_made 25 = .ok (.iload_n 0, 1) := by decide +kernel
theorem dX6_made_26 : decode cX6_made 26 = .ok (.iconst 3, 1) := by decide +kernel
theorem dX6_made_27 : decode cX6_made 27 = .ok (.if_icmp .ne 15, 3) := by decide +kernel
theorem dX6_made_30 : decode cX6_made 30 = .ok (.iload_n 1, 1) := by decide +kernel
theorem dX6_made_31 : decode cX6_made 31 = .ok (.iload_n 2, 1) := by decide +kernel
theorem dX6_made_32 : decode cX6_made 32 = .ok (.isub, 1) := by decide +kernel
theorem dX6_made_33 : decode cX6_made 33 = .ok (.bipush 100, 2) := by decide +kernel
theorem dX6_made_35 : decode cX6_made 35 = .ok (.iadd, 1) := by decide +kernel
theorem dX6_made_36 : decode cX6_made 36 = .ok (.bipush 100, 2) := by decide +kernel
theorem dX6_made_38 : decode cX6_made 38 = .ok (.irem, 1) := by decide +kernel
theorem dX6_made_39 : decode cX6_made 39 = .ok (.goto 13, 3) := by decide +kernel
theorem dX6_made_42 : decode cX6_made 42 = .ok (.iload_n 1, 1) := by decide +kernel
theorem dX6_made_43 : decode cX6_made 43 = .ok (.iload_n 2, 1) := by decide +kernel
theorem dX6_made_44 : decode cX6_made 44 = .ok (.if_icmp .ge 7, 3) := by decide +kernel
theorem dX6_made_47 : decode cX6_made 47 = .ok (.iconst 1, 1) := by decide +kernel
theorem dX6_made_48 : decode cX6_made 48 = .ok (.goto 4, 3) := by decide +kernel
theorem dX6_made_51 : decode cX6_made 51 = .ok (.iconst 0, 1) := by decide +kernel
theorem dX6_made_52 : decode cX6_made 52 = .ok (.ireturn, 1) := by decide +kernel
theorem dX6_valueOf_0 : decode cX6_valueOf 0 = .ok (.aload_n 1, 1) := by decide +kernel
theorem dX6_valueOf_1 : decode cX6_valueOf 1 = .ok (.iconst 1, 1) := by decide +kernel
theorem dX6_valueOf_2 : decode cX6_valueOf 2 = .ok (.iload_n 2, 1) := by decide +kernel
theorem dX6_valueOf_3 : decode cX6_valueOf 3 = .ok (.iadd, 1) := by decide +kernel
theorem dX6_valueOf_4 : decode cX6_valueOf 4 = .ok (.iaload, 1) := by decide +kernel
theorem dX6_valueOf_5 : decode cX6_valueOf 5 = .ok (.istore 5, 2) := by decide +kernel
theorem dX6_valueOf_7 : decode cX6_valueOf 7 = .ok (.aload_n 1, 1) := by decide +kernel
theorem dX6_valueOf_8 : decode cX6_valueOf 8 = .ok (.bipush 9, 2) := by decide +kernel
theorem dX6_valueOf_10 : decode cX6_valueOf 10 = .ok (.iconst 3, 1) := by decide +kernel
theorem dX6_valueOf_11 : decode cX6_valueOf 11 = .ok (.iload_n 2, 1) := by decide +kernel
theorem dX6_valueOf_12 : decode cX6_valueOf 12 = .ok (.imul, 1) := by decide +kernel
theorem dX6_valueOf_13 : decode cX6_valueOf 13 = .ok (.iadd, 1) := by decide +kernel
theorem dX6_valueOf_14 : decode cX6_valueOf 14 = .ok (.iaload, 1) := by decide +kernel
theorem dX6_valueOf_15 : decode cX6_valueOf 15 = .ok (.istore 6, 2) := by decide +kernel
theorem dX6_valueOf_17 : decode cX6_valueOf 17 = .ok (.aload_n 1, 1) := by decide +kernel
theorem dX6_valueOf_18 : decode cX6_valueOf 18 = .ok (.iload_n 2, 1) := by decide +kernel
theorem dX6_valueOf_19 : decode cX6_valueOf 19 = .ok (.iconst 0, 1) := by decide +kernel
theorem dX6_valueOf_20 : decode cX6_valueOf 20 = .ok (.invokestatic 121, 3) := by decide +kernel
theorem dX6_valueOf_23 : decode cX6_valueOf 23 = .ok (.bipush (-9), 2) := by decide +kernel
theorem dX6_valueOf_25 : decode cX6_valueOf 25 = .ok (.if_icmp .ne 7, 3) := by decide +kernel
theorem dX6_valueOf_28 : decode cX6_valueOf 28 = .ok (.iconst 0, 1) := by decide +kernel
theorem dX6_valueOf_29 : decode cX6_valueOf 29 = .ok (.goto 10, 3) := by decide +kernel
theorem dX6_valueOf_32 : decode cX6_valueOf 32 = .ok (.aload_n 1, 1) := by decide +kernel
theorem dX6_valueOf_33 : decode cX6_valueOf 33 = .ok (.bipush 41, 2) := by decide +kernel
theorem dX6_valueOf_35 : decode cX6_valueOf 35 = .ok (.iload 6, 2) := by decide +kernel
theorem dX6_valueOf_37 : decode cX6_valueOf 37 = .ok (.iadd, 1) := by decide +kernel
theorem dX6_valueOf_38 : decode cX6_valueOf 38 = .ok (.iaload, 1) := by decide +kernel
theorem dX6_valueOf_39 : decode cX6_valueOf 39 = .ok (.istore 7, 2) := by decide +kernel
theorem dX6_valueOf_41 : decode cX6_valueOf 41 = .ok (.aload_n 1, 1) := by decide +kernel
theorem dX6_valueOf_42 : decode cX6_valueOf 42 = .ok (.iload_n 2, 1) := by decide +kernel
theorem dX6_valueOf_43 : decode cX6_valueOf 43 = .ok (.iconst 1, 1) := by decide +kernel
theorem dX6_valueOf_44 : decode cX6_valueOf 44 = .ok (.invokestatic 121, 3) := by decide +kernel
theorem dX6_valueOf_47 : decode cX6_valueOf 47 = .ok (.bipush (-9), 2) := by decide +kernel
theorem dX6_valueOf_49 : decode cX6_valueOf 49 = .ok (.if_icmp .ne 7, 3) := by decide +kernel
theorem dX6_valueOf_52 : decode cX6_valueOf 52 = .ok (.iconst 0, 1) := by decide +kernel
theorem dX6_valueOf_53 : decode cX6_valueOf 53 = .ok (.goto 18, 3) := by decide +kernel
theorem dX6_valueOf_56 : decode cX6_valueOf 56 = .ok (.aload_n 1, 1) := by decide +kernel
theorem dX6_valueOf_57 : decode cX6_valueOf 57 = .ok (.bipush 41, 2) := by decide +kernel
theorem dX6_valueOf_59 : decode cX6_valueOf 59 = .ok (.aload_n 1, 1) := by decide +kernel
theorem dX6_valueOf_60 : decode cX6_valueOf 60 = .ok (.bipush 9, 2) := by decide +kernel
theorem dX6_valueOf_62 : decode cX6_valueOf 62 = .ok (.iconst 3, 1) := by decide +kernel
theorem dX6_valueOf_63 : decode cX6_valueOf 63 = .ok (.iload_n 2, 1) := by decide +kernel
theorem dX6_valueOf_64 : decode cX6_valueOf 64 = .ok (.imul, 1) := by decide +kernel
theorem dX6_valueOf_65 : decode cX6_valueOf 65 = .ok (.iadd, 1) := by decide +kernel
theorem dX6_valueOf_66 : decode cX6_valueOf 66 = .ok (.iconst 1, 1) := by decide +kernel
theorem dX6_valueOf_67 : decode cX6_valueOf 67 = .ok (.iadd, 1) := by decide +kernel
theorem dX6_valueOf_68 : decode cX6_valueOf 68 = .ok (.iaload, 1) := by decide +kernel
theorem dX6_valueOf_69 : decode cX6_valueOf 69 = .ok (.iadd, 1) := by decide +kernel
theorem dX6_valueOf_70 : decode cX6_valueOf 70 = .ok (.iaload, 1) := by decide +kernel
theorem dX6_valueOf_71 : decode cX6_valueOf 71 = .ok (.istore 8, 2) := by decide +kernel
theorem dX6_valueOf_73 : decode cX6_valueOf 73 = .ok (.aload_n 1, 1) := by decide +kernel
theorem dX6_valueOf_74 : decode cX6_valueOf 74 = .ok (.iload_n 2, 1) := by decide +kernel
theorem dX6_valueOf_75 : decode cX6_valueOf 75 = .ok (.iconst 2, 1) := by decide +kernel
theorem dX6_valueOf_76 : decode cX6_valueOf 76 = .ok (.invokestatic 121, 3) := by decide +kernel
theorem dX6_valueOf_79 : decode cX6_valueOf 79 = .ok (.bipush (-9), 2) := by decide +kernel
theorem dX6_valueOf_81 : decode cX6_valueOf 81 = .ok (.if_icmp .ne 7, 3) := by decide +kernel
theorem dX6_valueOf_84 : decode cX6_valueOf 84 = .ok (.iconst 0, 1) := by decide +kernel
theorem dX6_valueOf_85 : decode cX6_valueOf 85 = .ok (.goto 18, 3) := by decide +kernel
theorem dX6_valueOf_88 : decode cX6_valueOf 88 = .ok (.aload_n 1, 1) := by decide +kernel
theorem dX6_valueOf_89 : decode cX6_valueOf 89 = .ok (.bipush 41, 2) := by decide +kernel
theorem dX6_valueOf_91 : decode cX6_valueOf 91 = .ok (.aload_n 1, 1) := by decide +kernel
theorem dX6_valueOf_92 : decode cX6_valueOf 92 = .ok (.bipush 9, 2) := by decide +kernel
theorem dX6_valueOf_94 : decode cX6_valueOf 94 = .ok (.iconst 3, 1) := by decide +kernel
theorem dX6_valueOf_95 : decode cX6_valueOf 95 = .ok (.iload_n 2, 1) := by decide +kernel
theorem dX6_valueOf_96 : decode cX6_valueOf 96 = .ok (.imul, 1) := by decide +kernel
theorem dX6_valueOf_97 : decode cX6_valueOf 97 = .ok (.iadd, 1) := by decide +kernel
theorem dX6_valueOf_98 : decode cX6_valueOf 98 = .ok (.iconst 2, 1) := by decide +kernel
theorem dX6_valueOf_99 : decode cX6_valueOf 99 = .ok (.iadd, 1) := by decide +kernel
theorem dX6_valueOf_100 : decode cX6_valueOf 100 = .ok (.iaload, 1) := by decide +kernel
theorem dX6_valueOf_101 : decode cX6_valueOf 101 = .ok (.iadd, 1) := by decide +kernel
theorem dX6_valueOf_102 : decode cX6_valueOf 102 = .ok (.iaload, 1) := by decide +kernel
theorem dX6_valueOf_103 : decode cX6_valueOf 103 = .ok (.istore 9, 2) := by decide +kernel
theorem dX6_valueOf_105 : decode cX6_valueOf 105 = .ok (.iload 5, 2) := by decide +kernel
theorem dX6_valueOf_107 : decode cX6_valueOf 107 = .ok (.tableswitch 139 0 11 #[61, 73, 139, 139, 139, 76, 99, 99, 106, 123, 123, 126], 61) := by decide +kernel
theorem dX6_valueOf_168 : decode cX6_valueOf 168 = .ok (.iload 6, 2) := by decide +kernel
theorem dX6_valueOf_170 : decode cX6_valueOf 170 = .ok (.ifCond .ne 7, 3) := by decide +kernel
theorem dX6_valueOf_173 : decode cX6_valueOf 173 = .ok (.iload_n 3, 1) := by decide +kernel
theorem dX6_valueOf_174 : decode cX6_valueOf 174 = .ok (.goto 5, 3) := by decide +kernel
theorem dX6_valueOf_177 : decode cX6_valueOf 177 = .ok (.iload 4, 2) := by decide +kernel
theorem dX6_valueOf_179 : decode cX6_valueOf 179 = .ok (.ireturn, 1) := by decide +kernel
theorem dX6_valueOf_180 : decode cX6_valueOf 180 = .ok (.iload 6, 2) := by decide +kernel
theorem dX6_valueOf_182 : decode cX6_valueOf 182 = .ok (.ireturn, 1) := by decide +kernel
theorem dX6_valueOf_183 : decode cX6_valueOf 183 = .ok (.iload 7, 2) := by decide +kernel
theorem dX6_valueOf_185 : decode cX6_valueOf 185 = .ok (.ifCond .ge 8, 3) := by decide +kernel
theorem dX6_valueOf_188 : decode cX6_valueOf 188 = .ok (.bipush (-8), 2) := by decide +kernel
theorem dX6_valueOf_190 : decode cX6_valueOf 190 = .ok (.goto 15, 3) := by decide +kernel
theorem dX6_valueOf_193 : decode cX6_valueOf 193 = .ok (.iload 7, 2) := by decide +kernel
theorem dX6_valueOf_195 : decode cX6_valueOf 195 = .ok (.ifCond .eq 8, 3) := by decide +kernel
theorem dX6_valueOf_198 : decode cX6_valueOf 198 = .ok (.iload 8, 2) := by decide +kernel
theorem dX6_valueOf_200 : decode cX6_valueOf 200 = .ok (.goto 5, 3) := by decide +kernel
theorem dX6_valueOf_203 : decode cX6_valueOf 203 = .ok (.iload 9, 2) := by decide +kernel
theorem dX6_valueOf_205 : decode cX6_valueOf 205 = .ok (.ireturn, 1) := by decide +kernel
theorem dX6_valueOf_206 : decode cX6_valueOf 206 = .ok (.aload_n 1, 1) := by decide +kernel
theorem dX6_valueOf_207 : decode cX6_valueOf 207 = .ok (.bipush 33, 2) := by decide +kernel
theorem dX6_valueOf_209 : decode cX6_valueOf 209 = .ok (.iload_n 2, 1) := by decide +kernel
theorem dX6_valueOf_210 : decode cX6_valueOf 210 = .ok (.iadd, 1) := by decide +kernel
theorem dX6_valueOf_211 : decode cX6_valueOf 211 = .ok (.iaload, 1) := by decide +kernel
theorem dX6_valueOf_212 : decode cX6_valueOf 212 = .ok (.ireturn, 1) := by decide +kernel
theorem dX6_valueOf_213 : decode cX6_valueOf 213 = .ok (.aload_n 1, 1) := by decide +kernel
theorem dX6_valueOf_214 : decode cX6_valueOf 214 = .ok (.bipush 33, 2) := by decide +kernel
theorem dX6_valueOf_216 : decode cX6_valueOf 216 = .ok (.iload_n 2, 1) := by decide +kernel
theorem dX6_valueOf_217 : decode cX6_valueOf 217 = .ok (.iadd, 1) := by decide +kernel
theorem dX6_valueOf_218 : decode cX6_valueOf 218 = .ok (.iaload, 1) := by decide +kernel
theorem dX6_valueOf_219 : decode cX6_valueOf 219 = .ok (.ifCond .ne 8, 3) := by decide +kernel
theorem dX6_valueOf_222 : decode cX6_valueOf 222 = .ok (.iload 7, 2) := by decide +kernel
theorem dX6_valueOf_224 : decode cX6_valueOf 224 = .ok (.goto 5, 3) := by decide +kernel
theorem dX6_valueOf_227 : decode cX6_valueOf 227 = .ok (.iload 8, 2) := by decide +kernel
theorem dX6_valueOf_229 : decode cX6_valueOf 229 = .ok (.ireturn, 1) := by decide +kernel
theorem dX6_valueOf_230 : decode cX6_valueOf 230 = .ok (.iload 7, 2) := by decide +kernel
theorem dX6_valueOf_232 : decode cX6_valueOf 232 = .ok (.ireturn, 1) := by decide +kernel
theorem dX6_valueOf_233 : decode cX6_valueOf 233 = .ok (.iload 7, 2) := by decide +kernel
theorem dX6_valueOf_235 : decode cX6_valueOf 235 = .ok (.ifCond .eq 8, 3) := by decide +kernel
theorem dX6_valueOf_238 : decode cX6_valueOf 238 = .ok (.iload 8, 2) := by decide +kernel
theorem dX6_valueOf_240 : decode cX6_valueOf 240 = .ok (.goto 5, 3) := by decide +kernel
theorem dX6_valueOf_243 : decode cX6_valueOf 243 = .ok (.iload 9, 2) := by decide +kernel
theorem dX6_valueOf_245 : decode cX6_valueOf 245 = .ok (.ireturn, 1) := by decide +kernel
theorem dX6_valueOf_246 : decode cX6_valueOf 246 = .ok (.iload 5, 2) := by decide +kernel
theorem dX6_valueOf_248 : decode cX6_valueOf 248 = .ok (.iload 7, 2) := by decide +kernel
theorem dX6_valueOf_250 : decode cX6_valueOf 250 = .ok (.iload 8, 2) := by decide +kernel
theorem dX6_valueOf_252 : decode cX6_valueOf 252 = .ok (.invokestatic 168, 3) := by decide +kernel
theorem dX6_valueOf_255 : decode cX6_valueOf 255 = .ok (.ireturn, 1) := by decide +kernel
theorem dX6_keepOn_0 : decode cX6_keepOn 0 = .ok (.iconst 0, 1) := by decide +kernel
theorem dX6_keepOn_1 : decode cX6_keepOn 1 = .ok (.istore_n 2, 1) := by decide +kernel
theorem dX6_keepOn_2 : decode cX6_keepOn 2 = .ok (.iload_n 2, 1) := by decide +kernel
theorem dX6_keepOn_3 : decode cX6_keepOn 3 = .ok (.aload_n 1, 1) := by decide +kernel
theorem dX6_keepOn_4 : decode cX6_keepOn 4 = .ok (.iconst 0, 1) := by decide +kernel
theorem dX6_keepOn_5 : decode cX6_keepOn 5 = .ok (.iaload, 1) := by decide +kernel
theorem dX6_keepOn_6 : decode cX6_keepOn 6 = .ok (.if_icmp .ge 89, 3) := by decide +kernel
theorem dX6_keepOn_9 : decode cX6_keepOn 9 = .ok (.aload_n 1, 1) := by decide +kernel
theorem dX6_keepOn_10 : decode cX6_keepOn 10 = .ok (.iconst 1, 1) := by decide +kernel
theorem dX6_keepOn_11 : decode cX6_keepOn 11 = .ok (.iload_n 2, 1) := by decide +kernel
theorem dX6_keepOn_12 : decode cX6_keepOn 12 = .ok (.iadd, 1) := by decide +kernel
theorem dX6_keepOn_13 : decode cX6_keepOn 13 = .ok (.iaload, 1) := by decide +kernel
theorem dX6_keepOn_14 : decode cX6_keepOn 14 = .ok (.istore_n 3, 1) := by decide +kernel
theorem dX6_keepOn_15 : decode cX6_keepOn 15 = .ok (.aload_n 1, 1) := by decide +kernel
theorem dX6_keepOn_16 : decode cX6_keepOn 16 = .ok (.bipush 41, 2) := by decide +kernel
theorem dX6_keepOn_18 : decode cX6_keepOn 18 = .ok (.iload_n 2, 1) := by decide +kernel
theorem dX6_keepOn_19 : decode cX6_keepOn 19 = .ok (.iadd, 1) := by decide +kernel
theorem dX6_keepOn_20 : decode cX6_keepOn 20 = .ok (.iaload, 1) := by decide +kernel
theorem dX6_keepOn_21 : decode cX6_keepOn 21 = .ok (.bipush (-9), 2) := by decide +kernel
theorem dX6_keepOn_23 : decode cX6_keepOn 23 = .ok (.if_icmp .eq 66, 3) := by decide +kernel
theorem dX6_keepOn_26 : decode cX6_keepOn 26 = .ok (.aload_n 1, 1) := by decide +kernel
theorem dX6_keepOn_27 : decode cX6_keepOn 27 = .ok (.bipush 33, 2) := by decide +kernel
theorem dX6_keepOn_29 : decode cX6_keepOn 29 = .ok (.iload_n 2, 1) := by decide +kernel
theorem dX6_keepOn_30 : decode cX6_keepOn 30 = .ok (.iadd, 1) := by decide +kernel
theorem dX6_keepOn_31 : decode cX6_keepOn 31 = .ok (.iload_n 3, 1) := by decide +kernel
theorem dX6_keepOn_32 : decode cX6_keepOn 32 = .ok (.bipush 6, 2) := by decide +kernel
theorem dX6_keepOn_34 : decode cX6_keepOn 34 = .ok (.if_icmp .ne 21, 3) := by decide +kernel
theorem dX6_keepOn_37 : decode cX6_keepOn 37 = .ok (.aload_n 1, 1) := by decide +kernel
theorem dX6_keepOn_38 : decode cX6_keepOn 38 = .ok (.bipush 41, 2) := by decide +kernel
theorem dX6_keepOn_40 : decode cX6_keepOn 40 = .ok (.aload_n 1, 1) := by decide +kernel
theorem dX6_keepOn_41 : decode cX6_keepOn 41 = .ok (.bipush 9, 2) := by decide +kernel
theorem dX6_keepOn_43 : decode cX6_keepOn 43 = .ok (.iconst 3, 1) := by decide +kernel
theorem dX6_keepOn_44 : decode cX6_keepOn 44 = .ok (.iload_n 2, 1) := by decide +kernel
theorem dX6_keepOn_45 : decode cX6_keepOn 45 = .ok (.imul, 1) := by decide +kernel
theorem dX6_keepOn_46 : decode cX6_keepOn 46 = .ok (.iadd, 1) := by decide +kernel
theorem dX6_keepOn_47 : decode cX6_keepOn 47 = .ok (.iconst 1, 1) := by decide +kernel
theorem dX6_keepOn_48 : decode cX6_keepOn 48 = .ok (.iadd, 1) := by decide +kernel
theorem dX6_keepOn_49 : decode cX6_keepOn 49 = .ok (.iaload, 1) := by decide +kernel
theorem dX6_keepOn_50 : decode cX6_keepOn 50 = .ok (.iadd, 1) := by decide +kernel
theorem dX6_keepOn_51 : decode cX6_keepOn 51 = .ok (.iaload, 1) := by decide +kernel
theorem dX6_keepOn_52 : decode cX6_keepOn 52 = .ok (.goto 36, 3) := by decide +kernel
theorem dX6_keepOn_55 : decode cX6_keepOn 55 = .ok (.iload_n 3, 1) := by decide +kernel
theorem dX6_keepOn_56 : decode cX6_keepOn 56 = .ok (.bipush 7, 2) := by decide +kernel
theorem dX6_keepOn_58 : decode cX6_keepOn 58 = .ok (.if_icmp .ne 19, 3) := by decide +kernel
theorem dX6_keepOn_61 : decode cX6_keepOn 61 = .ok (.aload_n 1, 1) := by decide +kernel
theorem dX6_keepOn_62 : decode cX6_keepOn 62 = .ok (.bipush 41, 2) := by decide +kernel
theorem dX6_keepOn_64 : decode cX6_keepOn 64 = .ok (.aload_n 1, 1) := by decide +kernel
theorem dX6_keepOn_65 : decode cX6_keepOn 65 = .ok (.bipush 9, 2) := by decide +kernel
theorem dX6_keepOn_67 : decode cX6_keepOn 67 = .ok (.iconst 3, 1) := by decide +kernel
theorem dX6_keepOn_68 : decode cX6_keepOn 68 = .ok (.iload_n 2, 1) := by decide +kernel
theorem dX6_keepOn_69 : decode cX6_keepOn 69 = .ok (.imul, 1) := by decide +kernel
theorem dX6_keepOn_70 : decode cX6_keepOn 70 = .ok (.iadd, 1) := by decide +kernel
theorem dX6_keepOn_71 : decode cX6_keepOn 71 = .ok (.iaload, 1) := by decide +kernel
theorem dX6_keepOn_72 : decode cX6_keepOn 72 = .ok (.iadd, 1) := by decide +kernel
theorem dX6_keepOn_73 : decode cX6_keepOn 73 = .ok (.iaload, 1) := by decide +kernel
theorem dX6_keepOn_74 : decode cX6_keepOn 74 = .ok (.goto 14, 3) := by decide +kernel
theorem dX6_keepOn_77 : decode cX6_keepOn 77 = .ok (.iload_n 3, 1) := by decide +kernel
theorem dX6_keepOn_78 : decode cX6_keepOn 78 = .ok (.bipush 8, 2) := by decide +kernel
theorem dX6_keepOn_80 : decode cX6_keepOn 80 = .ok (.if_icmp .ne 7, 3) := by decide +kernel
theorem dX6_keepOn_83 : decode cX6_keepOn 83 = .ok (.iconst 1, 1) := by decide +kernel
theorem dX6_keepOn_84 : decode cX6_keepOn 84 = .ok (.goto 4, 3) := by decide +kernel
theorem dX6_keepOn_87 : decode cX6_keepOn 87 = .ok (.iconst 0, 1) := by decide +kernel
theorem dX6_keepOn_88 : decode cX6_keepOn 88 = .ok (.iastore, 1) := by decide +kernel
theorem dX6_keepOn_89 : decode cX6_keepOn 89 = .ok (.iinc 2 1, 3) := by decide +kernel
theorem dX6_keepOn_92 : decode cX6_keepOn 92 = .ok (.goto (-90), 3) := by decide +kernel
theorem dX6_keepOn_95 : decode cX6_keepOn 95 = .ok (.return_, 1) := by decide +kernel
theorem dX6_goTick_0 : decode cX6_goTick 0 = .ok (.iconst 0, 1) := by decide +kernel
theorem dX6_goTick_1 : decode cX6_goTick 1 = .ok (.istore 4, 2) := by decide +kernel
theorem dX6_goTick_3 : decode cX6_goTick 3 = .ok (.iconst 0, 1) := by decide +kernel
theorem dX6_goTick_4 : decode cX6_goTick 4 = .ok (.istore 5, 2) := by decide +kernel
theorem dX6_goTick_6 : decode cX6_goTick 6 = .ok (.iload 5, 2) := by decide +kernel
theorem dX6_goTick_8 : decode cX6_goTick 8 = .ok (.bipush 8, 2) := by decide +kernel
theorem dX6_goTick_10 : decode cX6_goTick 10 = .ok (.if_icmp .ge 18, 3) := by decide +kernel
theorem dX6_goTick_13 : decode cX6_goTick 13 = .ok (.aload_n 1, 1) := by decide +kernel
theorem dX6_goTick_14 : decode cX6_goTick 14 = .ok (.bipush 41, 2) := by decide +kernel
theorem dX6_goTick_16 : decode cX6_goTick 16 = .ok (.iload 5, 2) := by decide +kernel
theorem dX6_goTick_18 : decode cX6_goTick 18 = .ok (.iadd, 1) := by decide +kernel
theorem dX6_goTick_19 : decode cX6_goTick 19 = .ok (.bipush (-9), 2) := by decide +kernel
theorem dX6_goTick_21 : decode cX6_goTick 21 = .ok (.iastore, 1) := by decide +kernel
theorem dX6_goTick_22 : decode cX6_goTick 22 = .ok (.iinc 5 1, 3) := by decide +kernel
theorem dX6_goTick_25 : decode cX6_goTick 25 = .ok (.goto (-19), 3) := by decide +kernel
theorem dX6_goTick_28 : decode cX6_goTick 28 = .ok (.iconst 0, 1) := by decide +kernel
theorem dX6_goTick_29 : decode cX6_goTick 29 = .ok (.istore 5, 2) := by decide +kernel
theorem dX6_goTick_31 : decode cX6_goTick 31 = .ok (.iload 5, 2) := by decide +kernel
theorem dX6_goTick_33 : decode cX6_goTick 33 = .ok (.aload_n 1, 1) := by decide +kernel
theorem dX6_goTick_34 : decode cX6_goTick 34 = .ok (.iconst 0, 1) := by decide +kernel
theorem dX6_goTick_35 : decode cX6_goTick 35 = .ok (.iaload, 1) := by decide +kernel
theorem dX6_goTick_36 : decode cX6_goTick 36 = .ok (.if_icmp .ge 80, 3) := by decide +kernel
theorem dX6_goTick_39 : decode cX6_goTick 39 = .ok (.iconst 0, 1) := by decide +kernel
theorem dX6_goTick_40 : decode cX6_goTick 40 = .ok (.istore 6, 2) := by decide +kernel
theorem dX6_goTick_42 : decode cX6_goTick 42 = .ok (.aload_n 0, 1) := by decide +kernel
theorem dX6_goTick_43 : decode cX6_goTick 43 = .ok (.getfield 50, 3) := by decide +kernel
theorem dX6_goTick_46 : decode cX6_goTick 46 = .ok (.iload 6, 2) := by decide +kernel
theorem dX6_goTick_48 : decode cX6_goTick 48 = .ok (.iaload, 1) := by decide +kernel
theorem dX6_goTick_49 : decode cX6_goTick 49 = .ok (.iload 5, 2) := by decide +kernel
theorem dX6_goTick_51 : decode cX6_goTick 51 = .ok (.if_icmp .eq 9, 3) := by decide +kernel
theorem dX6_goTick_54 : decode cX6_goTick 54 = .ok (.iinc 6 1, 3) := by decide +kernel
theorem dX6_goTick_57 : decode cX6_goTick 57 = .ok (.goto (-15), 3) := by decide +kernel
theorem dX6_goTick_60 : decode cX6_goTick 60 = .ok (.aload_n 0, 1) := by decide +kernel
theorem dX6_goTick_61 : decode cX6_goTick 61 = .ok (.aload_n 1, 1) := by decide +kernel
theorem dX6_goTick_62 : decode cX6_goTick 62 = .ok (.iload 6, 2) := by decide +kernel
theorem dX6_goTick_64 : decode cX6_goTick 64 = .ok (.invokevirtual 171, 3) := by decide +kernel
theorem dX6_goTick_67 : decode cX6_goTick 67 = .ok (.istore 7, 2) := by decide +kernel
theorem dX6_goTick_69 : decode cX6_goTick 69 = .ok (.aload_n 1, 1) := by decide +kernel
theorem dX6_goTick_70 : decode cX6_goTick 70 = .ok (.bipush 41, 2) := by decide +kernel
theorem dX6_goTick_72 : decode cX6_goTick 72 = .ok (.iload 6, 2) := by decide +kernel
theorem dX6_goTick_74 : decode cX6_goTick 74 = .ok (.iadd, 1) := by decide +kernel
theorem dX6_goTick_75 : decode cX6_goTick 75 = .ok (.iload 7, 2) := by decide +kernel
theorem dX6_goTick_77 : decode cX6_goTick 77 = .ok (.ifCond .eq 15, 3) := by decide +kernel
theorem dX6_goTick_80 : decode cX6_goTick 80 = .ok (.aload_n 0, 1) := by decide +kernel
theorem dX6_goTick_81 : decode cX6_goTick 81 = .ok (.aload_n 1, 1) := by decide +kernel
theorem dX6_goTick_82 : decode cX6_goTick 82 = .ok (.iload 6, 2) := by decide +kernel
theorem dX6_goTick_84 : decode cX6_goTick 84 = .ok (.iload_n 2, 1) := by decide +kernel
theorem dX6_goTick_85 : decode cX6_goTick 85 = .ok (.iload_n 3, 1) := by decide +kernel
theorem dX6_goTick_86 : decode cX6_goTick 86 = .ok (.invokevirtual 174, 3) := by decide +kernel
theorem dX6_goTick_89 : decode cX6_goTick 89 = .ok (.goto 5, 3) := by decide +kernel
theorem dX6_goTick_92 : decode cX6_goTick 92 = .ok (.bipush (-9), 2) := by decide +kernel
theorem dX6_goTick_94 : decode cX6_goTick 94 = .ok (.iastore, 1) := by decide +kernel
theorem dX6_goTick_95 : decode cX6_goTick 95 = .ok (.iload 4, 2) := by decide +kernel
theorem dX6_goTick_97 : decode cX6_goTick 97 = .ok (.iload 7, 2) := by decide +kernel
theorem dX6_goTick_99 : decode cX6_goTick 99 = .ok (.ifCond .eq 7, 3) := by decide +kernel
theorem dX6_goTick_102 : decode cX6_goTick 102 = .ok (.iconst 1, 1) := by decide +kernel
theorem dX6_goTick_103 : decode cX6_goTick 103 = .ok (.goto 4, 3) := by decide +kernel
theorem dX6_goTick_106 : decode cX6_goTick 106 = .ok (.iconst 0, 1) := by decide +kernel
theorem dX6_goTick_107 : decode cX6_goTick 107 = .ok (.iadd, 1) := by decide +kernel
theorem dX6_goTick_108 : decode cX6_goTick 108 = .ok (.istore 4, 2) := by decide +kernel
theorem dX6_goTick_110 : decode cX6_goTick 110 = .ok (.iinc 5 1, 3) := by decide +kernel
theorem dX6_goTick_113 : decode cX6_goTick 113 = .ok (.goto (-82), 3) := by decide +kernel
theorem dX6_goTick_116 : decode cX6_goTick 116 = .ok (.aload_n 0, 1) := by decide +kernel
theorem dX6_goTick_117 : decode cX6_goTick 117 = .ok (.aload_n 1, 1) := by decide +kernel
theorem dX6_goTick_118 : decode cX6_goTick 118 = .ok (.invokevirtual 178, 3) := by decide +kernel
theorem dX6_goTick_121 : decode cX6_goTick 121 = .ok (.aload_n 1, 1) := by decide +kernel
theorem dX6_goTick_122 : decode cX6_goTick 122 = .ok (.bipush 49, 2) := by decide +kernel
theorem dX6_goTick_124 : decode cX6_goTick 124 = .ok (.dup2, 1) := by decide +kernel
theorem dX6_goTick_125 : decode cX6_goTick 125 = .ok (.iaload, 1) := by decide +kernel
theorem dX6_goTick_126 : decode cX6_goTick 126 = .ok (.iconst 1, 1) := by decide +kernel
theorem dX6_goTick_127 : decode cX6_goTick 127 = .ok (.iadd, 1) := by decide +kernel
theorem dX6_goTick_128 : decode cX6_goTick 128 = .ok (.iastore, 1) := by decide +kernel
theorem dX6_goTick_129 : decode cX6_goTick 129 = .ok (.iload 4, 2) := by decide +kernel
theorem dX6_goTick_131 : decode cX6_goTick 131 = .ok (.ireturn, 1) := by decide +kernel
theorem dX6_program_0 : decode cX6_program 0 = .ok (.aload_n 0, 1) := by decide +kernel
theorem dX6_program_1 : decode cX6_program 1 = .ok (.iconst 0, 1) := by decide +kernel
theorem dX6_program_2 : decode cX6_program 2 = .ok (.putfield 62, 3) := by decide +kernel
theorem dX6_program_5 : decode cX6_program 5 = .ok (.aload_n 0, 1) := by decide +kernel
theorem dX6_program_6 : decode cX6_program 6 = .ok (.invokevirtual 98, 3) := by decide +kernel
theorem dX6_program_9 : decode cX6_program 9 = .ok (.bipush (-9), 2) := by decide +kernel
theorem dX6_program_11 : decode cX6_program 11 = .ok (.if_icmp .eq 6, 3) := by decide +kernel
theorem dX6_program_14 : decode cX6_program 14 = .ok (.bipush (-3), 2) := by decide +kernel
theorem dX6_program_16 : decode cX6_program 16 = .ok (.ireturn, 1) := by decide +kernel
theorem dX6_program_17 : decode cX6_program 17 = .ok (.iconst 0, 1) := by decide +kernel
theorem dX6_program_18 : decode cX6_program 18 = .ok (.istore_n 1, 1) := by decide +kernel
theorem dX6_program_19 : decode cX6_program 19 = .ok (.iload_n 1, 1) := by decide +kernel
theorem dX6_program_20 : decode cX6_program 20 = .ok (.bipush 50, 2) := by decide +kernel
theorem dX6_program_22 : decode cX6_program 22 = .ok (.if_icmp .ge 21, 3) := by decide +kernel
theorem dX6_program_25 : decode cX6_program 25 = .ok (.aload_n 0, 1) := by decide +kernel
theorem dX6_program_26 : decode cX6_program 26 = .ok (.getfield 16, 3) := by decide +kernel
theorem dX6_program_29 : decode cX6_program 29 = .ok (.iload_n 1, 1) := by decide +kernel
theorem dX6_program_30 : decode cX6_program 30 = .ok (.aload_n 0, 1) := by decide +kernel
theorem dX6_program_31 : decode cX6_program 31 = .ok (.getfield 13, 3) := by decide +kernel
theorem dX6_program_34 : decode cX6_program 34 = .ok (.iload_n 1, 1) := by decide +kernel
theorem dX6_program_35 : decode cX6_program 35 = .ok (.iaload, 1) := by decide +kernel
theorem dX6_program_36 : decode cX6_program 36 = .ok (.iastore, 1) := by decide +kernel
theorem dX6_program_37 : decode cX6_program 37 = .ok (.iinc 1 1, 3) := by decide +kernel
theorem dX6_program_40 : decode cX6_program 40 = .ok (.goto (-21), 3) := by decide +kernel
theorem dX6_program_43 : decode cX6_program 43 = .ok (.aload_n 0, 1) := by decide +kernel
theorem dX6_program_44 : decode cX6_program 44 = .ok (.getfield 16, 3) := by decide +kernel
theorem dX6_program_47 : decode cX6_program 47 = .ok (.invokestatic 181, 3) := by decide +kernel
theorem dX6_program_50 : decode cX6_program 50 = .ok (.aload_n 0, 1) := by decide +kernel
theorem dX6_program_51 : decode cX6_program 51 = .ok (.iconst 0, 1) := by decide +kernel
theorem dX6_program_52 : decode cX6_program 52 = .ok (.putfield 184, 3) := by decide +kernel
theorem dX6_program_55 : decode cX6_program 55 = .ok (.aload_n 0, 1) := by decide +kernel
theorem dX6_program_56 : decode cX6_program 56 = .ok (.getfield 28, 3) := by decide +kernel
theorem dX6_program_59 : decode cX6_program 59 = .ok (.iconst 0, 1) := by decide +kernel
theorem dX6_program_60 : decode cX6_program 60 = .ok (.iconst 0, 1) := by decide +kernel
theorem dX6_program_61 : decode cX6_program 61 = .ok (.bastore, 1) := by decide +kernel
theorem dX6_program_62 : decode cX6_program 62 = .ok (.aload_n 0, 1) := by decide +kernel
theorem dX6_program_63 : decode cX6_program 63 = .ok (.getfield 28, 3) := by decide +kernel
theorem dX6_program_66 : decode cX6_program 66 = .ok (.iconst 1, 1) := by decide +kernel
theorem dX6_program_67 : decode cX6_program 67 = .ok (.iconst 0, 1) := by decide +kernel
theorem dX6_program_68 : decode cX6_program 68 = .ok (.bastore, 1) := by decide +kernel
theorem dX6_program_69 : decode cX6_program 69 = .ok (.aload_n 0, 1) := by decide +kernel
theorem dX6_program_70 : decode cX6_program 70 = .ok (.invokevirtual 187, 3) := by decide +kernel
theorem dX6_program_73 : decode cX6_program 73 = .ok (.ifCond .eq 7, 3) := by decide +kernel
theorem dX6_program_76 : decode cX6_program 76 = .ok (.iconst 1, 1) := by decide +kernel
theorem dX6_program_77 : decode cX6_program 77 = .ok (.goto 4, 3) := by decide +kernel
theorem dX6_program_80 : decode cX6_program 80 = .ok (.iconst 0, 1) := by decide +kernel
theorem dX6_program_81 : decode cX6_program 81 = .ok (.ireturn, 1) := by decide +kernel
theorem dX6_there_0 : decode cX6_there 0 = .ok (.iconst 0, 1) := by decide +kernel
theorem dX6_there_1 : decode cX6_there 1 = .ok (.istore_n 1, 1) := by decide +kernel
theorem dX6_there_2 : decode cX6_there 2 = .ok (.iconst 0, 1) := by decide +kernel
theorem dX6_there_3 : decode cX6_there 3 = .ok (.istore_n 2, 1) := by decide +kernel
theorem dX6_there_4 : decode cX6_there 4 = .ok (.iload_n 2, 1) := by decide +kernel
theorem dX6_there_5 : decode cX6_there 5 = .ok (.aload_n 0, 1) := by decide +kernel
theorem dX6_there_6 : decode cX6_there 6 = .ok (.getfield 16, 3) := by decide +kernel
theorem dX6_there_9 : decode cX6_there 9 = .ok (.iconst 0, 1) := by decide +kernel
theorem dX6_there_10 : decode cX6_there 10 = .ok (.iaload, 1) := by decide +kernel
theorem dX6_there_11 : decode cX6_there 11 = .ok (.if_icmp .ge 33, 3) := by decide +kernel
theorem dX6_there_14 : decode cX6_there 14 = .ok (.iload_n 1, 1) := by decide +kernel
theorem dX6_there_15 : decode cX6_there 15 = .ok (.aload_n 0, 1) := by decide +kernel
theorem dX6_there_16 : decode cX6_there 16 = .ok (.getfield 16, 3) := by decide +kernel
theorem dX6_there_19 : decode cX6_there 19 = .ok (.bipush 41, 2) := by decide +kernel
theorem dX6_there_21 : decode cX6_there 21 = .ok (.iload_n 2, 1) := by decide +kernel
theorem dX6_there_22 : decode cX6_there 22 = .ok (.iadd, 1) := by decide +kernel
theorem dX6_there_23 : decode cX6_there 23 = .ok (.iaload, 1) := by decide +kernel
theorem dX6_there_24 : decode cX6_there 24 = .ok (.bipush (-9), 2) := by decide +kernel
theorem dX6_there_26 : decode cX6_there 26 = .ok (.if_icmp .ne 7, 3) := by decide +kernel
theorem dX6_there_29 : decode cX6_there 29 = .ok (.iconst 0, 1) := by decide +kernel
theorem dX6_there_30 : decode cX6_there 30 = .ok (.goto 6, 3) := by decide +kernel
theorem dX6_there_33 : decode cX6_there 33 = .ok (.iconst 1, 1) := by decide +kernel
theorem dX6_there_34 : decode cX6_there 34 = .ok (.iload_n 2, 1) := by decide +kernel
theorem dX6_there_35 : decode cX6_there 35 = .ok (.ishl, 1) := by decide +kernel
theorem dX6_there_36 : decode cX6_there 36 = .ok (.ior, 1) := by decide +kernel
theorem dX6_there_37 : decode cX6_there 37 = .ok (.istore_n 1, 1) := by decide +kernel
theorem dX6_there_38 : decode cX6_there 38 = .ok (.iinc 2 1, 3) := by decide +kernel
theorem dX6_there_41 : decode cX6_there 41 = .ok (.goto (-37), 3) := by decide +kernel
theorem dX6_there_44 : decode cX6_there 44 = .ok (.iload_n 1, 1) := by decide +kernel
theorem dX6_there_45 : decode cX6_there 45 = .ok (.ireturn, 1) := by decide +kernel
theorem dX6_about_0 : decode cX6_about 0 = .ok (.aload_n 0, 1) := by decide +kernel
theorem dX6_about_1 : decode cX6_about 1 = .ok (.iconst 0, 1) := by decide +kernel
theorem dX6_about_2 : decode cX6_about 2 = .ok (.putfield 62, 3) := by decide +kernel
theorem dX6_about_5 : decode cX6_about 5 = .ok (.aload_n 0, 1) := by decide +kernel
theorem dX6_about_6 : decode cX6_about 6 = .ok (.aload_n 0, 1) := by decide +kernel
theorem dX6_about_7 : decode cX6_about 7 = .ok (.getfield 16, 3) := by decide +kernel
theorem dX6_about_10 : decode cX6_about 10 = .ok (.invokevirtual 161, 3) := by decide +kernel
theorem dX6_about_13 : decode cX6_about 13 = .ok (.iload_n 1, 1) := by decide +kernel
theorem dX6_about_14 : decode cX6_about 14 = .ok (.tableswitch 117 0 9 #[54, 61, 66, 71, 76, 89, 97, 102, 107, 112], 54) := by decide +kernel
theorem dX6_about_68 : decode cX6_about 68 = .ok (.aload_n 0, 1) := by decide +kernel
theorem dX6_about_69 : decode cX6_about 69 = .ok (.getfield 16, 3) := by decide +kernel
theorem dX6_about_72 : decode cX6_about 72 = .ok (.iconst 0, 1) := by decide +kernel
theorem dX6_about_73 : decode cX6_about 73 = .ok (.iaload, 1) := by decide +kernel
theorem dX6_about_74 : decode cX6_about 74 = .ok (.ireturn, 1) := by decide +kernel
theorem dX6_about_75 : decode cX6_about 75 = .ok (.aload_n 0, 1) := by decide +kernel
theorem dX6_about_76 : decode cX6_about 76 = .ok (.getfield 114, 3) := by decide +kernel
theorem dX6_about_79 : decode cX6_about 79 = .ok (.ireturn, 1) := by decide +kernel
theorem dX6_about_80 : decode cX6_about 80 = .ok (.aload_n 0, 1) := by decide +kernel
theorem dX6_about_81 : decode cX6_about 81 = .ok (.getfield 135, 3) := by decide +kernel
theorem dX6_about_84 : decode cX6_about 84 = .ok (.ireturn, 1) := by decide +kernel
theorem dX6_about_85 : decode cX6_about 85 = .ok (.aload_n 0, 1) := by decide +kernel
theorem dX6_about_86 : decode cX6_about 86 = .ok (.getfield 149, 3) := by decide +kernel
theorem dX6_about_89 : decode cX6_about 89 = .ok (.ireturn, 1) := by decide +kernel
theorem dX6_about_90 : decode cX6_about 90 = .ok (.aload_n 0, 1) := by decide +kernel
theorem dX6_about_91 : decode cX6_about 91 = .ok (.invokevirtual 164, 3) := by decide +kernel
theorem dX6_about_94 : decode cX6_about 94 = .ok (.ifCond .eq 7, 3) := by decide +kernel
theorem dX6_about_97 : decode cX6_about 97 = .ok (.iconst 1, 1) := by decide +kernel
theorem dX6_about_98 : decode cX6_about 98 = .ok (.goto 4, 3) := by decide +kernel
theorem dX6_about_101 : decode cX6_about 101 = .ok (.iconst 0, 1) := by decide +kernel
theorem dX6_about_102 : decode cX6_about 102 = .ok (.ireturn, 1) := by decide +kernel
theorem dX6_about_103 : decode cX6_about 103 = .ok (.aload_n 0, 1) := by decide +kernel
theorem dX6_about_104 : decode cX6_about 104 = .ok (.getfield 16, 3) := by decide +kernel
theorem dX6_about_107 : decode cX6_about 107 = .ok (.bipush 49, 2) := by decide +kernel
theorem dX6_about_109 : decode cX6_about 109 = .ok (.iaload, 1) := by decide +kernel
theorem dX6_about_110 : decode cX6_about 110 = .ok (.ireturn, 1) := by decide +kernel
theorem dX6_about_111 : decode cX6_about 111 = .ok (.aload_n 0, 1) := by decide +kernel
theorem dX6_about_112 : decode cX6_about 112 = .ok (.invokevirtual 190, 3) := by decide +kernel
theorem dX6_about_115 : decode cX6_about 115 = .ok (.ireturn, 1) := by decide +kernel
theorem dX6_about_116 : decode cX6_about 116 = .ok (.aload_n 0, 1) := by decide +kernel
theorem dX6_about_117 : decode cX6_about 117 = .ok (.getfield 184, 3) := by decide +kernel
theorem dX6_about_120 : decode cX6_about 120 = .ok (.ireturn, 1) := by decide +kernel
theorem dX6_about_121 : decode cX6_about 121 = .ok (.aload_n 0, 1) := by decide +kernel
theorem dX6_about_122 : decode cX6_about 122 = .ok (.getfield 193, 3) := by decide +kernel
theorem dX6_about_125 : decode cX6_about 125 = .ok (.ireturn, 1) := by decide +kernel
theorem dX6_about_126 : decode cX6_about 126 = .ok (.aload_n 0, 1) := by decide +kernel
theorem dX6_about_127 : decode cX6_about 127 = .ok (.getfield 76, 3) := by decide +kernel
theorem dX6_about_130 : decode cX6_about 130 = .ok (.ireturn, 1) := by decide +kernel
theorem dX6_about_131 : decode cX6_about 131 = .ok (.bipush (-2), 2) := by decide +kernel
theorem dX6_about_133 : decode cX6_about 133 = .ok (.ireturn, 1) := by decide +kernel
theorem dX6_stream_0 : decode cX6_stream 0 = .ok (.aload_n 0, 1) := by decide +kernel
theorem dX6_stream_1 : decode cX6_stream 1 = .ok (.iconst 0, 1) := by decide +kernel
theorem dX6_stream_2 : decode cX6_stream 2 = .ok (.putfield 62, 3) := by decide +kernel
theorem dX6_stream_5 : decode cX6_stream 5 = .ok (.aload_n 0, 1) := by decide +kernel
theorem dX6_stream_6 : decode cX6_stream 6 = .ok (.iload_n 1, 1) := by decide +kernel
theorem dX6_stream_7 : decode cX6_stream 7 = .ok (.invokevirtual 196, 3) := by decide +kernel
theorem dX6_stream_10 : decode cX6_stream 10 = .ok (.ifCond .eq 5, 3) := by decide +kernel
theorem dX6_stream_13 : decode cX6_stream 13 = .ok (.iconst (-1), 1) := by decide +kernel
theorem dX6_stream_14 : decode cX6_stream 14 = .ok (.ireturn, 1) := by decide +kernel
theorem dX6_stream_15 : decode cX6_stream 15 = .ok (.aload_n 0, 1) := by decide +kernel
theorem dX6_stream_16 : decode cX6_stream 16 = .ok (.aload_n 0, 1) := by decide +kernel
theorem dX6_stream_17 : decode cX6_stream 17 = .ok (.getfield 16, 3) := by decide +kernel
theorem dX6_stream_20 : decode cX6_stream 20 = .ok (.invokevirtual 161, 3) := by decide +kernel
theorem dX6_stream_23 : decode cX6_stream 23 = .ok (.iload_n 2, 1) := by decide +kernel
theorem dX6_stream_24 : decode cX6_stream 24 = .ok (.tableswitch 117 0 4 #[36, 45, 65, 86, 107], 36) := by decide +kernel
theorem dX6_stream_60 : decode cX6_stream 60 = .ok (.aload_n 0, 1) := by decide +kernel
theorem dX6_stream_61 : decode cX6_stream 61 = .ok (.getfield 16, 3) := by decide +kernel
theorem dX6_stream_64 : decode cX6_stream 64 = .ok (.iconst 1, 1) := by decide +kernel
theorem dX6_stream_65 : decode cX6_stream 65 = .ok (.iload_n 1, 1) := by decide +kernel
theorem dX6_stream_66 : decode cX6_stream 66 = .ok (.iadd, 1) := by decide +kernel
theorem dX6_stream_67 : decode cX6_stream 67 = .ok (.iaload, 1) := by decide +kernel
theorem dX6_stream_68 : decode cX6_stream 68 = .ok (.ireturn, 1) := by decide +kernel
theorem dX6_stream_69 : decode cX6_stream 69 = .ok (.aload_n 0, 1) := by decide +kernel
theorem dX6_stream_70 : decode cX6_stream 70 = .ok (.getfield 114, 3) := by decide +kernel
theorem dX6_stream_73 : decode cX6_stream 73 = .ok (.bipush (-9), 2) := by decide +kernel
theorem dX6_stream_75 : decode cX6_stream 75 = .ok (.if_icmp .ne 11, 3) := by decide +kernel
theorem dX6_stream_78 : decode cX6_stream 78 = .ok (.aload_n 0, 1) := by decide +kernel
theorem dX6_stream_79 : decode cX6_stream 79 = .ok (.iload_n 1, 1) := by decide +kernel
theorem dX6_stream_80 : decode cX6_stream 80 = .ok (.invokevirtual 125, 3) := by decide +kernel
theorem dX6_stream_83 : decode cX6_stream 83 = .ok (.goto 5, 3) := by decide +kernel
theorem dX6_stream_86 : decode cX6_stream 86 = .ok (.bipush (-9), 2) := by decide +kernel
theorem dX6_stream_88 : decode cX6_stream 88 = .ok (.ireturn, 1) := by decide +kernel
theorem dX6_stream_89 : decode cX6_stream 89 = .ok (.aload_n 0, 1) := by decide +kernel
theorem dX6_stream_90 : decode cX6_stream 90 = .ok (.getfield 114, 3) := by decide +kernel
theorem dX6_stream_93 : decode cX6_stream 93 = .ok (.bipush (-9), 2) := by decide +kernel
theorem dX6_stream_95 : decode cX6_stream 95 = .ok (.if_icmp .ne 12, 3) := by decide +kernel
theorem dX6_stream_98 : decode cX6_stream 98 = .ok (.aload_n 0, 1) := by decide +kernel
theorem dX6_stream_99 : decode cX6_stream 99 = .ok (.getfield 50, 3) := by decide +kernel
theorem dX6_stream_102 : decode cX6_stream 102 = .ok (.iload_n 1, 1) := by decide +kernel
theorem dX6_stream_103 : decode cX6_stream 103 = .ok (.iaload, 1) := by decide +kernel
theorem dX6_stream_104 : decode cX6_stream 104 = .ok (.goto 5, 3) := by decide +kernel
theorem dX6_stream_107 : decode cX6_stream 107 = .ok (.bipush (-9), 2) := by decide +kernel
theorem dX6_stream_109 : decode cX6_stream 109 = .ok (.ireturn, 1) := by decide +kernel
theorem dX6_stream_110 : decode cX6_stream 110 = .ok (.aload_n 0, 1) := by decide +kernel
theorem dX6_stream_111 : decode cX6_stream 111 = .ok (.getfield 114, 3) := by decide +kernel
theorem dX6_stream_114 : decode cX6_stream 114 = .ok (.bipush (-9), 2) := by decide +kernel
theorem dX6_stream_116 : decode cX6_stream 116 = .ok (.if_icmp .ne 12, 3) := by decide +kernel
theorem dX6_stream_119 : decode cX6_stream 119 = .ok (.aload_n 0, 1) := by decide +kernel
theorem dX6_stream_120 : decode cX6_stream 120 = .ok (.getfield 53, 3) := by decide +kernel
theorem dX6_stream_123 : decode cX6_stream 123 = .ok (.iload_n 1, 1) := by decide +kernel
theorem dX6_stream_124 : decode cX6_stream 124 = .ok (.iaload, 1) := by decide +kernel
theorem dX6_stream_125 : decode cX6_stream 125 = .ok (.goto 5, 3) := by decide +kernel
theorem dX6_stream_128 : decode cX6_stream 128 = .ok (.bipush (-9), 2) := by decide +kernel
theorem dX6_stream_130 : decode cX6_stream 130 = .ok (.ireturn, 1) := by decide +kernel
theorem dX6_stream_131 : decode cX6_stream 131 = .ok (.aload_n 0, 1) := by decide +kernel
theorem dX6_stream_132 : decode cX6_stream 132 = .ok (.getfield 16, 3) := by decide +kernel
theorem dX6_stream_135 : decode cX6_stream 135 = .ok (.bipush 41, 2) := by decide +kernel
theorem dX6_stream_137 : decode cX6_stream 137 = .ok (.iload_n 1, 1) := by decide +kernel
theorem dX6_stream_138 : decode cX6_stream 138 = .ok (.iadd, 1) := by decide +kernel
theorem dX6_stream_139 : decode cX6_stream 139 = .ok (.iaload, 1) := by decide +kernel
theorem dX6_stream_140 : decode cX6_stream 140 = .ok (.ireturn, 1) := by decide +kernel
theorem dX6_stream_141 : decode cX6_stream 141 = .ok (.bipush (-2), 2) := by decide +kernel
theorem dX6_stream_143 : decode cX6_stream 143 = .ok (.ireturn, 1) := by decide +kernel
theorem dX6_figure_0 : decode cX6_figure 0 = .ok (.aload_n 0, 1) := by decide +kernel
theorem dX6_figure_1 : decode cX6_figure 1 = .ok (.iconst 0, 1) := by decide +kernel
theorem dX6_figure_2 : decode cX6_figure 2 = .ok (.putfield 62, 3) := by decide +kernel
theorem dX6_figure_5 : decode cX6_figure 5 = .ok (.aload_n 0, 1) := by decide +kernel
theorem dX6_figure_6 : decode cX6_figure 6 = .ok (.iload_n 1, 1) := by decide +kernel
theorem dX6_figure_7 : decode cX6_figure 7 = .ok (.invokevirtual 196, 3) := by decide +kernel
theorem dX6_figure_10 : decode cX6_figure 10 = .ok (.ifCond .ne 26, 3) := by decide +kernel
theorem dX6_figure_13 : decode cX6_figure 13 = .ok (.iload_n 2, 1) := by decide +kernel
theorem dX6_figure_14 : decode cX6_figure 14 = .ok (.i2l, 1) := by decide +kernel
theorem dX6_figure_15 : decode cX6_figure 15 = .ok (.lconst 0, 1) := by decide +kernel
theorem dX6_figure_16 : decode cX6_figure 16 = .ok (.aload_n 0, 1) := by decide +kernel
theorem dX6_figure_17 : decode cX6_figure 17 = .ok (.getfield 16, 3) := by decide +kernel
theorem dX6_figure_20 : decode cX6_figure 20 = .ok (.iconst 1, 1) := by decide +kernel
theorem dX6_figure_21 : decode cX6_figure 21 = .ok (.iload_n 1, 1) := by decide +kernel
theorem dX6_figure_22 : decode cX6_figure 22 = .ok (.iadd, 1) := by decide +kernel
theorem dX6_figure_23 : decode cX6_figure 23 = .ok (.iaload, 1) := by decide +kernel
theorem dX6_figure_24 : decode cX6_figure 24 = .ok (.invokestatic 70, 3) := by decide +kernel
theorem dX6_figure_27 : decode cX6_figure 27 = .ok (.iconst 1, 1) := by decide +kernel
theorem dX6_figure_28 : decode cX6_figure 28 = .ok (.isub, 1) := by decide +kernel
theorem dX6_figure_29 : decode cX6_figure 29 = .ok (.i2l, 1) := by decide +kernel
theorem dX6_figure_30 : decode cX6_figure 30 = .ok (.invokestatic 66, 3) := by decide +kernel
theorem dX6_figure_33 : decode cX6_figure 33 = .ok (.ifCond .ne 7, 3) := by decide +kernel
theorem dX6_figure_36 : decode cX6_figure 36 = .ok (.iconst (-1), 1) := by decide +kernel
theorem dX6_figure_37 : decode cX6_figure 37 = .ok (.goto 16, 3) := by decide +kernel
theorem dX6_figure_40 : decode cX6_figure 40 = .ok (.aload_n 0, 1) := by decide +kernel
theorem dX6_figure_41 : decode cX6_figure 41 = .ok (.getfield 16, 3) := by decide +kernel
theorem dX6_figure_44 : decode cX6_figure 44 = .ok (.bipush 9, 2) := by decide +kernel
theorem dX6_figure_46 : decode cX6_figure 46 = .ok (.iconst 3, 1) := by decide +kernel
theorem dX6_figure_47 : decode cX6_figure 47 = .ok (.iload_n 1, 1) := by decide +kernel
theorem dX6_figure_48 : decode cX6_figure 48 = .ok (.imul, 1) := by decide +kernel
theorem dX6_figure_49 : decode cX6_figure 49 = .ok (.iadd, 1) := by decide +kernel
theorem dX6_figure_50 : decode cX6_figure 50 = .ok (.iload_n 2, 1) := by decide +kernel
theorem dX6_figure_51 : decode cX6_figure 51 = .ok (.iadd, 1) := by decide +kernel
theorem dX6_figure_52 : decode cX6_figure 52 = .ok (.iaload, 1) := by decide +kernel
theorem dX6_figure_53 : decode cX6_figure 53 = .ok (.ireturn, 1) := by decide +kernel
theorem dX6_clock_0 : decode cX6_clock 0 = .ok (.aload_n 0, 1) := by decide +kernel
theorem dX6_clock_1 : decode cX6_clock 1 = .ok (.iconst 0, 1) := by decide +kernel
theorem dX6_clock_2 : decode cX6_clock 2 = .ok (.putfield 62, 3) := by decide +kernel
theorem dX6_clock_5 : decode cX6_clock 5 = .ok (.aload_n 0, 1) := by decide +kernel
theorem dX6_clock_6 : decode cX6_clock 6 = .ok (.iload_n 1, 1) := by decide +kernel
theorem dX6_clock_7 : decode cX6_clock 7 = .ok (.invokevirtual 196, 3) := by decide +kernel
theorem dX6_clock_10 : decode cX6_clock 10 = .ok (.ifCond .eq 5, 3) := by decide +kernel
theorem dX6_clock_13 : decode cX6_clock 13 = .ok (.iconst (-1), 1) := by decide +kernel
theorem dX6_clock_14 : decode cX6_clock 14 = .ok (.ireturn, 1) := by decide +kernel
theorem dX6_clock_15 : decode cX6_clock 15 = .ok (.aload_n 0, 1) := by decide +kernel
theorem dX6_clock_16 : decode cX6_clock 16 = .ok (.aload_n 0, 1) := by decide +kernel
theorem dX6_clock_17 : decode cX6_clock 17 = .ok (.getfield 16, 3) := by decide +kernel
theorem dX6_clock_20 : decode cX6_clock 20 = .ok (.invokevirtual 161, 3) := by decide +kernel
theorem dX6_clock_23 : decode cX6_clock 23 = .ok (.aload_n 0, 1) := by decide +kernel
theorem dX6_clock_24 : decode cX6_clock 24 = .ok (.getfield 114, 3) := by decide +kernel
theorem dX6_clock_27 : decode cX6_clock 27 = .ok (.bipush (-9), 2) := by decide +kernel
theorem dX6_clock_29 : decode cX6_clock 29 = .ok (.if_icmp .ne 11, 3) := by decide +kernel
theorem dX6_clock_32 : decode cX6_clock 32 = .ok (.aload_n 0, 1) := by decide +kernel
theorem dX6_clock_33 : decode cX6_clock 33 = .ok (.iload_n 1, 1) := by decide +kernel
theorem dX6_clock_34 : decode cX6_clock 34 = .ok (.invokevirtual 125, 3) := by decide +kernel
theorem dX6_clock_37 : decode cX6_clock 37 = .ok (.goto 4, 3) := by decide +kernel
theorem dX6_clock_40 : decode cX6_clock 40 = .ok (.iconst 0, 1) := by decide +kernel
theorem dX6_clock_41 : decode cX6_clock 41 = .ok (.istore_n 3, 1) := by decide +kernel
theorem dX6_clock_42 : decode cX6_clock 42 = .ok (.iload_n 2, 1) := by decide +kernel
theorem dX6_clock_43 : decode cX6_clock 43 = .ok (.i2l, 1) := by decide +kernel
theorem dX6_clock_44 : decode cX6_clock 44 = .ok (.lconst 0, 1) := by decide +kernel
theorem dX6_clock_45 : decode cX6_clock 45 = .ok (.iload_n 3, 1) := by decide +kernel
theorem dX6_clock_46 : decode cX6_clock 46 = .ok (.iconst 1, 1) := by decide +kernel
theorem dX6_clock_47 : decode cX6_clock 47 = .ok (.isub, 1) := by decide +kernel
theorem dX6_clock_48 : decode cX6_clock 48 = .ok (.i2l, 1) := by decide +kernel
end
section
theorem dX6_clock_49 : decode cX6_clock 49 = .ok (.invokestatic 66, 3) := by decide +kernel
theorem dX6_clock_52 : decode cX6_clock 52 = .ok (.ifCond .eq 16, 3) := by decide +kernel
theorem dX6_clock_55 : decode cX6_clock 55 = .ok (.aload_n 0, 1) := by decide +kernel
theorem dX6_clock_56 : decode cX6_clock 56 = .ok (.getfield 56, 3) := by decide +kernel
theorem dX6_clock_59 : decode cX6_clock 59 = .ok (.iload_n 3, 1) := by decide +kernel
theorem dX6_clock_60 : decode cX6_clock 60 = .ok (.iconst 1, 1) := by decide +kernel
theorem dX6_clock_61 : decode cX6_clock 61 = .ok (.isub, 1) := by decide +kernel
theorem dX6_clock_62 : decode cX6_clock 62 = .ok (.iload_n 2, 1) := by decide +kernel
theorem dX6_clock_63 : decode cX6_clock 63 = .ok (.isub, 1) := by decide +kernel
theorem dX6_clock_64 : decode cX6_clock 64 = .ok (.iaload, 1) := by decide +kernel
theorem dX6_clock_65 : decode cX6_clock 65 = .ok (.goto 4, 3) := by decide +kernel
theorem dX6_clock_68 : decode cX6_clock 68 = .ok (.iconst (-1), 1) := by decide +kernel
theorem dX6_clock_69 : decode cX6_clock 69 = .ok (.ireturn, 1) := by decide +kernel
theorem dX6_note_0 : decode cX6_note 0 = .ok (.aload_n 0, 1) := by decide +kernel
theorem dX6_note_1 : decode cX6_note 1 = .ok (.getfield 184, 3) := by decide +kernel
theorem dX6_note_4 : decode cX6_note 4 = .ok (.bipush 14, 2) := by decide +kernel
theorem dX6_note_6 : decode cX6_note 6 = .ok (.if_icmp .ne 43, 3) := by decide +kernel
theorem dX6_note_9 : decode cX6_note 9 = .ok (.iconst 0, 1) := by decide +kernel
theorem dX6_note_10 : decode cX6_note 10 = .ok (.istore_n 1, 1) := by decide +kernel
theorem dX6_note_11 : decode cX6_note 11 = .ok (.iload_n 1, 1) := by decide +kernel
theorem dX6_note_12 : decode cX6_note 12 = .ok (.sipush 650, 3) := by decide +kernel
theorem dX6_note_15 : decode cX6_note 15 = .ok (.if_icmp .ge 24, 3) := by decide +kernel
theorem dX6_note_18 : decode cX6_note 18 = .ok (.aload_n 0, 1) := by decide +kernel
theorem dX6_note_19 : decode cX6_note 19 = .ok (.getfield 22, 3) := by decide +kernel
theorem dX6_note_22 : decode cX6_note 22 = .ok (.iload_n 1, 1) := by decide +kernel
theorem dX6_note_23 : decode cX6_note 23 = .ok (.aload_n 0, 1) := by decide +kernel
theorem dX6_note_24 : decode cX6_note 24 = .ok (.getfield 22, 3) := by decide +kernel
theorem dX6_note_27 : decode cX6_note 27 = .ok (.iload_n 1, 1) := by decide +kernel
theorem dX6_note_28 : decode cX6_note 28 = .ok (.bipush 50, 2) := by decide +kernel
theorem dX6_note_30 : decode cX6_note 30 = .ok (.iadd, 1) := by decide +kernel
theorem dX6_note_31 : decode cX6_note 31 = .ok (.iaload, 1) := by decide +kernel
theorem dX6_note_32 : decode cX6_note 32 = .ok (.iastore, 1) := by decide +kernel
theorem dX6_note_33 : decode cX6_note 33 = .ok (.iinc 1 1, 3) := by decide +kernel
theorem dX6_note_36 : decode cX6_note 36 = .ok (.goto (-25), 3) := by decide +kernel
theorem dX6_note_39 : decode cX6_note 39 = .ok (.aload_n 0, 1) := by decide +kernel
theorem dX6_note_40 : decode cX6_note 40 = .ok (.dup, 1) := by decide +kernel
theorem dX6_note_41 : decode cX6_note 41 = .ok (.getfield 184, 3) := by decide +kernel
theorem dX6_note_44 : decode cX6_note 44 = .ok (.iconst 1, 1) := by decide +kernel
theorem dX6_note_45 : decode cX6_note 45 = .ok (.isub, 1) := by decide +kernel
theorem dX6_note_46 : decode cX6_note 46 = .ok (.putfield 184, 3) := by decide +kernel
theorem dX6_note_49 : decode cX6_note 49 = .ok (.iconst 0, 1) := by decide +kernel
theorem dX6_note_50 : decode cX6_note 50 = .ok (.istore_n 1, 1) := by decide +kernel
theorem dX6_note_51 : decode cX6_note 51 = .ok (.iload_n 1, 1) := by decide +kernel
theorem dX6_note_52 : decode cX6_note 52 = .ok (.bipush 50, 2) := by decide +kernel
theorem dX6_note_54 : decode cX6_note 54 = .ok (.if_icmp .ge 29, 3) := by decide +kernel
theorem dX6_note_57 : decode cX6_note 57 = .ok (.aload_n 0, 1) := by decide +kernel
theorem dX6_note_58 : decode cX6_note 58 = .ok (.getfield 22, 3) := by decide +kernel
theorem dX6_note_61 : decode cX6_note 61 = .ok (.bipush 50, 2) := by decide +kernel
theorem dX6_note_63 : decode cX6_note 63 = .ok (.aload_n 0, 1) := by decide +kernel
theorem dX6_note_64 : decode cX6_note 64 = .ok (.getfield 184, 3) := by decide +kernel
theorem dX6_note_67 : decode cX6_note 67 = .ok (.imul, 1) := by decide +kernel
theorem dX6_note_68 : decode cX6_note 68 = .ok (.iload_n 1, 1) := by decide +kernel
theorem dX6_note_69 : decode cX6_note 69 = .ok (.iadd, 1) := by decide +kernel
theorem dX6_note_70 : decode cX6_note 70 = .ok (.aload_n 0, 1) := by decide +kernel
theorem dX6_note_71 : decode cX6_note 71 = .ok (.getfield 16, 3) := by decide +kernel
theorem dX6_note_74 : decode cX6_note 74 = .ok (.iload_n 1, 1) := by decide +kernel
theorem dX6_note_75 : decode cX6_note 75 = .ok (.iaload, 1) := by decide +kernel
theorem dX6_note_76 : decode cX6_note 76 = .ok (.iastore, 1) := by decide +kernel
theorem dX6_note_77 : decode cX6_note 77 = .ok (.iinc 1 1, 3) := by decide +kernel
theorem dX6_note_80 : decode cX6_note 80 = .ok (.goto (-29), 3) := by decide +kernel
theorem dX6_note_83 : decode cX6_note 83 = .ok (.aload_n 0, 1) := by decide +kernel
theorem dX6_note_84 : decode cX6_note 84 = .ok (.dup, 1) := by decide +kernel
theorem dX6_note_85 : decode cX6_note 85 = .ok (.getfield 184, 3) := by decide +kernel
theorem dX6_note_88 : decode cX6_note 88 = .ok (.iconst 1, 1) := by decide +kernel
theorem dX6_note_89 : decode cX6_note 89 = .ok (.iadd, 1) := by decide +kernel
theorem dX6_note_90 : decode cX6_note 90 = .ok (.putfield 184, 3) := by decide +kernel
theorem dX6_note_93 : decode cX6_note 93 = .ok (.return_, 1) := by decide +kernel
theorem dX6_areInputs_0 : decode cX6_areInputs 0 = .ok (.iload_n 0, 1) := by decide +kernel
theorem dX6_areInputs_1 : decode cX6_areInputs 1 = .ok (.i2l, 1) := by decide +kernel
theorem dX6_areInputs_2 : decode cX6_areInputs 2 = .ok (.lconst 0, 1) := by decide +kernel
theorem dX6_areInputs_3 : decode cX6_areInputs 3 = .ok (.ldc2_w 200, 3) := by decide +kernel
theorem dX6_areInputs_6 : decode cX6_areInputs 6 = .ok (.invokestatic 66, 3) := by decide +kernel
theorem dX6_areInputs_9 : decode cX6_areInputs 9 = .ok (.ifCond .eq 19, 3) := by decide +kernel
theorem dX6_areInputs_12 : decode cX6_areInputs 12 = .ok (.iload_n 1, 1) := by decide +kernel
theorem dX6_areInputs_13 : decode cX6_areInputs 13 = .ok (.i2l, 1) := by decide +kernel
theorem dX6_areInputs_14 : decode cX6_areInputs 14 = .ok (.lconst 0, 1) := by decide +kernel
theorem dX6_areInputs_15 : decode cX6_areInputs 15 = .ok (.ldc2_w 200, 3) := by decide +kernel
theorem dX6_areInputs_18 : decode cX6_areInputs 18 = .ok (.invokestatic 66, 3) := by decide +kernel
theorem dX6_areInputs_21 : decode cX6_areInputs 21 = .ok (.ifCond .eq 7, 3) := by decide +kernel
theorem dX6_areInputs_24 : decode cX6_areInputs 24 = .ok (.iconst 1, 1) := by decide +kernel
theorem dX6_areInputs_25 : decode cX6_areInputs 25 = .ok (.goto 4, 3) := by decide +kernel
theorem dX6_areInputs_28 : decode cX6_areInputs 28 = .ok (.iconst 0, 1) := by decide +kernel
theorem dX6_areInputs_29 : decode cX6_areInputs 29 = .ok (.ireturn, 1) := by decide +kernel
theorem dX6_tick_0 : decode cX6_tick 0 = .ok (.aload_n 0, 1) := by decide +kernel
theorem dX6_tick_1 : decode cX6_tick 1 = .ok (.iconst 0, 1) := by decide +kernel
theorem dX6_tick_2 : decode cX6_tick 2 = .ok (.putfield 62, 3) := by decide +kernel
theorem dX6_tick_5 : decode cX6_tick 5 = .ok (.iload_n 1, 1) := by decide +kernel
theorem dX6_tick_6 : decode cX6_tick 6 = .ok (.iload_n 2, 1) := by decide +kernel
theorem dX6_tick_7 : decode cX6_tick 7 = .ok (.invokestatic 202, 3) := by decide +kernel
theorem dX6_tick_10 : decode cX6_tick 10 = .ok (.ifCond .ne 6, 3) := by decide +kernel
theorem dX6_tick_13 : decode cX6_tick 13 = .ok (.bipush (-2), 2) := by decide +kernel
theorem dX6_tick_15 : decode cX6_tick 15 = .ok (.ireturn, 1) := by decide +kernel
theorem dX6_tick_16 : decode cX6_tick 16 = .ok (.aload_n 0, 1) := by decide +kernel
theorem dX6_tick_17 : decode cX6_tick 17 = .ok (.invokevirtual 187, 3) := by decide +kernel
theorem dX6_tick_20 : decode cX6_tick 20 = .ok (.ifCond .ne 6, 3) := by decide +kernel
theorem dX6_tick_23 : decode cX6_tick 23 = .ok (.bipush (-3), 2) := by decide +kernel
theorem dX6_tick_25 : decode cX6_tick 25 = .ok (.ireturn, 1) := by decide +kernel
theorem dX6_tick_26 : decode cX6_tick 26 = .ok (.aload_n 0, 1) := by decide +kernel
theorem dX6_tick_27 : decode cX6_tick 27 = .ok (.invokevirtual 205, 3) := by decide +kernel
theorem dX6_tick_30 : decode cX6_tick 30 = .ok (.aload_n 0, 1) := by decide +kernel
theorem dX6_tick_31 : decode cX6_tick 31 = .ok (.aload_n 0, 1) := by decide +kernel
theorem dX6_tick_32 : decode cX6_tick 32 = .ok (.getfield 16, 3) := by decide +kernel
theorem dX6_tick_35 : decode cX6_tick 35 = .ok (.iload_n 1, 1) := by decide +kernel
theorem dX6_tick_36 : decode cX6_tick 36 = .ok (.iload_n 2, 1) := by decide +kernel
theorem dX6_tick_37 : decode cX6_tick 37 = .ok (.invokevirtual 208, 3) := by decide +kernel
theorem dX6_tick_40 : decode cX6_tick 40 = .ok (.ireturn, 1) := by decide +kernel
theorem dX6_afresh_0 : decode cX6_afresh 0 = .ok (.aload_n 0, 1) := by decide +kernel
theorem dX6_afresh_1 : decode cX6_afresh 1 = .ok (.iconst 0, 1) := by decide +kernel
theorem dX6_afresh_2 : decode cX6_afresh 2 = .ok (.putfield 62, 3) := by decide +kernel
theorem dX6_afresh_5 : decode cX6_afresh 5 = .ok (.aload_n 0, 1) := by decide +kernel
theorem dX6_afresh_6 : decode cX6_afresh 6 = .ok (.invokevirtual 205, 3) := by decide +kernel
theorem dX6_afresh_9 : decode cX6_afresh 9 = .ok (.aload_n 0, 1) := by decide +kernel
theorem dX6_afresh_10 : decode cX6_afresh 10 = .ok (.getfield 16, 3) := by decide +kernel
theorem dX6_afresh_13 : decode cX6_afresh 13 = .ok (.bipush 49, 2) := by decide +kernel
theorem dX6_afresh_15 : decode cX6_afresh 15 = .ok (.iaload, 1) := by decide +kernel
theorem dX6_afresh_16 : decode cX6_afresh 16 = .ok (.istore_n 1, 1) := by decide +kernel
theorem dX6_afresh_17 : decode cX6_afresh 17 = .ok (.aload_n 0, 1) := by decide +kernel
theorem dX6_afresh_18 : decode cX6_afresh 18 = .ok (.getfield 16, 3) := by decide +kernel
theorem dX6_afresh_21 : decode cX6_afresh 21 = .ok (.invokestatic 181, 3) := by decide +kernel
theorem dX6_afresh_24 : decode cX6_afresh 24 = .ok (.iload_n 1, 1) := by decide +kernel
theorem dX6_afresh_25 : decode cX6_afresh 25 = .ok (.ireturn, 1) := by decide +kernel
theorem dX6_areFigures_0 : decode cX6_areFigures 0 = .ok (.iload_n 1, 1) := by decide +kernel
theorem dX6_areFigures_1 : decode cX6_areFigures 1 = .ok (.invokestatic 70, 3) := by decide +kernel
theorem dX6_areFigures_4 : decode cX6_areFigures 4 = .ok (.istore 5, 2) := by decide +kernel
theorem dX6_areFigures_6 : decode cX6_areFigures 6 = .ok (.iload_n 2, 1) := by decide +kernel
theorem dX6_areFigures_7 : decode cX6_areFigures 7 = .ok (.i2l, 1) := by decide +kernel
theorem dX6_areFigures_8 : decode cX6_areFigures 8 = .ok (.lconst 0, 1) := by decide +kernel
theorem dX6_areFigures_9 : decode cX6_areFigures 9 = .ok (.iload_n 1, 1) := by decide +kernel
theorem dX6_areFigures_10 : decode cX6_areFigures 10 = .ok (.iconst 0, 1) := by decide +kernel
theorem dX6_areFigures_11 : decode cX6_areFigures 11 = .ok (.aload_n 0, 1) := by decide +kernel
theorem dX6_areFigures_12 : decode cX6_areFigures 12 = .ok (.getfield 16, 3) := by decide +kernel
theorem dX6_areFigures_15 : decode cX6_areFigures 15 = .ok (.iconst 0, 1) := by decide +kernel
theorem dX6_areFigures_16 : decode cX6_areFigures 16 = .ok (.iaload, 1) := by decide +kernel
theorem dX6_areFigures_17 : decode cX6_areFigures 17 = .ok (.invokestatic 88, 3) := by decide +kernel
theorem dX6_areFigures_20 : decode cX6_areFigures 20 = .ok (.i2l, 1) := by decide +kernel
theorem dX6_areFigures_21 : decode cX6_areFigures 21 = .ok (.invokestatic 66, 3) := by decide +kernel
theorem dX6_areFigures_24 : decode cX6_areFigures 24 = .ok (.istore 6, 2) := by decide +kernel
theorem dX6_areFigures_26 : decode cX6_areFigures 26 = .ok (.iload 6, 2) := by decide +kernel
theorem dX6_areFigures_28 : decode cX6_areFigures 28 = .ok (.ifCond .eq 38, 3) := by decide +kernel
theorem dX6_areFigures_31 : decode cX6_areFigures 31 = .ok (.iload_n 3, 1) := by decide +kernel
theorem dX6_areFigures_32 : decode cX6_areFigures 32 = .ok (.i2l, 1) := by decide +kernel
theorem dX6_areFigures_33 : decode cX6_areFigures 33 = .ok (.lconst 0, 1) := by decide +kernel
theorem dX6_areFigures_34 : decode cX6_areFigures 34 = .ok (.iload 5, 2) := by decide +kernel
theorem dX6_areFigures_36 : decode cX6_areFigures 36 = .ok (.iconst 1, 1) := by decide +kernel
theorem dX6_areFigures_37 : decode cX6_areFigures 37 = .ok (.if_icmp .le 18, 3) := by decide +kernel
theorem dX6_areFigures_40 : decode cX6_areFigures 40 = .ok (.iload_n 1, 1) := by decide +kernel
theorem dX6_areFigures_41 : decode cX6_areFigures 41 = .ok (.iconst 1, 1) := by decide +kernel
theorem dX6_areFigures_42 : decode cX6_areFigures 42 = .ok (.aload_n 0, 1) := by decide +kernel
theorem dX6_areFigures_43 : decode cX6_areFigures 43 = .ok (.getfield 16, 3) := by decide +kernel
theorem dX6_areFigures_46 : decode cX6_areFigures 46 = .ok (.iconst 0, 1) := by decide +kernel
theorem dX6_areFigures_47 : decode cX6_areFigures 47 = .ok (.iaload, 1) := by decide +kernel
theorem dX6_areFigures_48 : decode cX6_areFigures 48 = .ok (.invokestatic 88, 3) := by decide +kernel
theorem dX6_areFigures_51 : decode cX6_areFigures 51 = .ok (.i2l, 1) := by decide +kernel
theorem dX6_areFigures_52 : decode cX6_areFigures 52 = .ok (.goto 4, 3) := by decide +kernel
theorem dX6_areFigures_55 : decode cX6_areFigures 55 = .ok (.lconst 0, 1) := by decide +kernel
theorem dX6_areFigures_56 : decode cX6_areFigures 56 = .ok (.invokestatic 66, 3) := by decide +kernel
theorem dX6_areFigures_59 : decode cX6_areFigures 59 = .ok (.ifCond .eq 7, 3) := by decide +kernel
theorem dX6_areFigures_62 : decode cX6_areFigures 62 = .ok (.iconst 1, 1) := by decide +kernel
theorem dX6_areFigures_63 : decode cX6_areFigures 63 = .ok (.goto 4, 3) := by decide +kernel
theorem dX6_areFigures_66 : decode cX6_areFigures 66 = .ok (.iconst 0, 1) := by decide +kernel
theorem dX6_areFigures_67 : decode cX6_areFigures 67 = .ok (.istore 6, 2) := by decide +kernel
theorem dX6_areFigures_69 : decode cX6_areFigures 69 = .ok (.iload 6, 2) := by decide +kernel
theorem dX6_areFigures_71 : decode cX6_areFigures 71 = .ok (.ifCond .eq 39, 3) := by decide +kernel
theorem dX6_areFigures_74 : decode cX6_areFigures 74 = .ok (.iload 4, 2) := by decide +kernel
theorem dX6_areFigures_76 : decode cX6_areFigures 76 = .ok (.i2l, 1) := by decide +kernel
theorem dX6_areFigures_77 : decode cX6_areFigures 77 = .ok (.lconst 0, 1) := by decide +kernel
theorem dX6_areFigures_78 : decode cX6_areFigures 78 = .ok (.iload 5, 2) := by decide +kernel
theorem dX6_areFigures_80 : decode cX6_areFigures 80 = .ok (.iconst 2, 1) := by decide +kernel
theorem dX6_areFigures_81 : decode cX6_areFigures 81 = .ok (.if_icmp .le 18, 3) := by decide +kernel
theorem dX6_areFigures_84 : decode cX6_areFigures 84 = .ok (.iload_n 1, 1) := by decide +kernel
theorem dX6_areFigures_85 : decode cX6_areFigures 85 = .ok (.iconst 2, 1) := by decide +kernel
theorem dX6_areFigures_86 : decode cX6_areFigures 86 = .ok (.aload_n 0, 1) := by decide +kernel
theorem dX6_areFigures_87 : decode cX6_areFigures 87 = .ok (.getfield 16, 3) := by decide +kernel
theorem dX6_areFigures_90 : decode cX6_areFigures 90 = .ok (.iconst 0, 1) := by decide +kernel
theorem dX6_areFigures_91 : decode cX6_areFigures 91 = .ok (.iaload, 1) := by decide +kernel
theorem dX6_areFigures_92 : decode cX6_areFigures 92 = .ok (.invokestatic 88, 3) := by decide +kernel
theorem dX6_areFigures_95 : decode cX6_areFigures 95 = .ok (.i2l, 1) := by decide +kernel
theorem dX6_areFigures_96 : decode cX6_areFigures 96 = .ok (.goto 4, 3) := by decide +kernel
theorem dX6_areFigures_99 : decode cX6_areFigures 99 = .ok (.lconst 0, 1) := by decide +kernel
theorem dX6_areFigures_100 : decode cX6_areFigures 100 = .ok (.invokestatic 66, 3) := by decide +kernel
theorem dX6_areFigures_103 : decode cX6_areFigures 103 = .ok (.ifCond .eq 7, 3) := by decide +kernel
theorem dX6_areFigures_106 : decode cX6_areFigures 106 = .ok (.iconst 1, 1) := by decide +kernel
theorem dX6_areFigures_107 : decode cX6_areFigures 107 = .ok (.goto 4, 3) := by decide +kernel
theorem dX6_areFigures_110 : decode cX6_areFigures 110 = .ok (.iconst 0, 1) := by decide +kernel
theorem dX6_areFigures_111 : decode cX6_areFigures 111 = .ok (.ireturn, 1) := by decide +kernel
theorem dX6_tell_0 : decode cX6_tell 0 = .ok (.aload_n 0, 1) := by decide +kernel
theorem dX6_tell_1 : decode cX6_tell 1 = .ok (.iconst 0, 1) := by decide +kernel
theorem dX6_tell_2 : decode cX6_tell 2 = .ok (.putfield 62, 3) := by decide +kernel
theorem dX6_tell_5 : decode cX6_tell 5 = .ok (.aload_n 0, 1) := by decide +kernel
theorem dX6_tell_6 : decode cX6_tell 6 = .ok (.iload_n 1, 1) := by decide +kernel
theorem dX6_tell_7 : decode cX6_tell 7 = .ok (.invokevirtual 196, 3) := by decide +kernel
theorem dX6_tell_10 : decode cX6_tell 10 = .ok (.ifCond .eq 5, 3) := by decide +kernel
theorem dX6_tell_13 : decode cX6_tell 13 = .ok (.iconst (-1), 1) := by decide +kernel
theorem dX6_tell_14 : decode cX6_tell 14 = .ok (.ireturn, 1) := by decide +kernel
theorem dX6_tell_15 : decode cX6_tell 15 = .ok (.iload_n 2, 1) := by decide +kernel
theorem dX6_tell_16 : decode cX6_tell 16 = .ok (.i2l, 1) := by decide +kernel
theorem dX6_tell_17 : decode cX6_tell 17 = .ok (.lconst 0, 1) := by decide +kernel
theorem dX6_tell_18 : decode cX6_tell 18 = .ok (.ldc2_w 211, 3) := by decide +kernel
theorem dX6_tell_21 : decode cX6_tell 21 = .ok (.invokestatic 66, 3) := by decide +kernel
theorem dX6_tell_24 : decode cX6_tell 24 = .ok (.ifCond .eq 16, 3) := by decide +kernel
theorem dX6_tell_27 : decode cX6_tell 27 = .ok (.aload_n 0, 1) := by decide +kernel
theorem dX6_tell_28 : decode cX6_tell 28 = .ok (.iload_n 2, 1) := by decide +kernel
theorem dX6_tell_29 : decode cX6_tell 29 = .ok (.iload_n 3, 1) := by decide +kernel
theorem dX6_tell_30 : decode cX6_tell 30 = .ok (.iload 4, 2) := by decide +kernel
theorem dX6_tell_32 : decode cX6_tell 32 = .ok (.iload 5, 2) := by decide +kernel
theorem dX6_tell_34 : decode cX6_tell 34 = .ok (.invokevirtual 213, 3) := by decide +kernel
theorem dX6_tell_37 : decode cX6_tell 37 = .ok (.ifCond .ne 6, 3) := by decide +kernel
theorem dX6_tell_40 : decode cX6_tell 40 = .ok (.bipush (-2), 2) := by decide +kernel
theorem dX6_tell_42 : decode cX6_tell 42 = .ok (.ireturn, 1) := by decide +kernel
theorem dX6_tell_43 : decode cX6_tell 43 = .ok (.aload_n 0, 1) := by decide +kernel
theorem dX6_tell_44 : decode cX6_tell 44 = .ok (.invokevirtual 205, 3) := by decide +kernel
theorem dX6_tell_47 : decode cX6_tell 47 = .ok (.aload_n 0, 1) := by decide +kernel
theorem dX6_tell_48 : decode cX6_tell 48 = .ok (.getfield 16, 3) := by decide +kernel
theorem dX6_tell_51 : decode cX6_tell 51 = .ok (.iconst 1, 1) := by decide +kernel
theorem dX6_tell_52 : decode cX6_tell 52 = .ok (.iload_n 1, 1) := by decide +kernel
theorem dX6_tell_53 : decode cX6_tell 53 = .ok (.iadd, 1) := by decide +kernel
theorem dX6_tell_54 : decode cX6_tell 54 = .ok (.iload_n 2, 1) := by decide +kernel
theorem dX6_tell_55 : decode cX6_tell 55 = .ok (.iastore, 1) := by decide +kernel
theorem dX6_tell_56 : decode cX6_tell 56 = .ok (.aload_n 0, 1) := by decide +kernel
theorem dX6_tell_57 : decode cX6_tell 57 = .ok (.getfield 16, 3) := by decide +kernel
theorem dX6_tell_60 : decode cX6_tell 60 = .ok (.bipush 9, 2) := by decide +kernel
theorem dX6_tell_62 : decode cX6_tell 62 = .ok (.iconst 3, 1) := by decide +kernel
theorem dX6_tell_63 : decode cX6_tell 63 = .ok (.iload_n 1, 1) := by decide +kernel
theorem dX6_tell_64 : decode cX6_tell 64 = .ok (.imul, 1) := by decide +kernel
theorem dX6_tell_65 : decode cX6_tell 65 = .ok (.iadd, 1) := by decide +kernel
theorem dX6_tell_66 : decode cX6_tell 66 = .ok (.iload_n 3, 1) := by decide +kernel
theorem dX6_tell_67 : decode cX6_tell 67 = .ok (.iastore, 1) := by decide +kernel
theorem dX6_tell_68 : decode cX6_tell 68 = .ok (.aload_n 0, 1) := by decide +kernel
theorem dX6_tell_69 : decode cX6_tell 69 = .ok (.getfield 16, 3) := by decide +kernel
theorem dX6_tell_72 : decode cX6_tell 72 = .ok (.bipush 9, 2) := by decide +kernel
theorem dX6_tell_74 : decode cX6_tell 74 = .ok (.iconst 3, 1) := by decide +kernel
theorem dX6_tell_75 : decode cX6_tell 75 = .ok (.iload_n 1, 1) := by decide +kernel
theorem dX6_tell_76 : decode cX6_tell 76 = .ok (.imul, 1) := by decide +kernel
theorem dX6_tell_77 : decode cX6_tell 77 = .ok (.iadd, 1) := by decide +kernel
theorem dX6_tell_78 : decode cX6_tell 78 = .ok (.iconst 1, 1) := by decide +kernel
theorem dX6_tell_79 : decode cX6_tell 79 = .ok (.iadd, 1) := by decide +kernel
theorem dX6_tell_80 : decode cX6_tell 80 = .ok (.iload 4, 2) := by decide +kernel
theorem dX6_tell_82 : decode cX6_tell 82 = .ok (.iastore, 1) := by decide +kernel
theorem dX6_tell_83 : decode cX6_tell 83 = .ok (.aload_n 0, 1) := by decide +kernel
theorem dX6_tell_84 : decode cX6_tell 84 = .ok (.getfield 16, 3) := by decide +kernel
theorem dX6_tell_87 : decode cX6_tell 87 = .ok (.bipush 9, 2) := by decide +kernel
theorem dX6_tell_89 : decode cX6_tell 89 = .ok (.iconst 3, 1) := by decide +kernel
theorem dX6_tell_90 : decode cX6_tell 90 = .ok (.iload_n 1, 1) := by decide +kernel
theorem dX6_tell_91 : decode cX6_tell 91 = .ok (.imul, 1) := by decide +kernel
theorem dX6_tell_92 : decode cX6_tell 92 = .ok (.iadd, 1) := by decide +kernel
theorem dX6_tell_93 : decode cX6_tell 93 = .ok (.iconst 2, 1) := by decide +kernel
theorem dX6_tell_94 : decode cX6_tell 94 = .ok (.iadd, 1) := by decide +kernel
theorem dX6_tell_95 : decode cX6_tell 95 = .ok (.iload 5, 2) := by decide +kernel
theorem dX6_tell_97 : decode cX6_tell 97 = .ok (.iastore, 1) := by decide +kernel
theorem dX6_tell_98 : decode cX6_tell 98 = .ok (.aload_n 0, 1) := by decide +kernel
theorem dX6_tell_99 : decode cX6_tell 99 = .ok (.getfield 16, 3) := by decide +kernel
theorem dX6_tell_102 : decode cX6_tell 102 = .ok (.invokestatic 181, 3) := by decide +kernel
theorem dX6_tell_105 : decode cX6_tell 105 = .ok (.aload_n 0, 1) := by decide +kernel
theorem dX6_tell_106 : decode cX6_tell 106 = .ok (.invokevirtual 187, 3) := by decide +kernel
theorem dX6_tell_109 : decode cX6_tell 109 = .ok (.ifCond .eq 7, 3) := by decide +kernel
theorem dX6_tell_112 : decode cX6_tell 112 = .ok (.iconst 1, 1) := by decide +kernel
theorem dX6_tell_113 : decode cX6_tell 113 = .ok (.goto 4, 3) := by decide +kernel
theorem dX6_tell_116 : decode cX6_tell 116 = .ok (.iconst 0, 1) := by decide +kernel
theorem dX6_tell_117 : decode cX6_tell 117 = .ok (.ireturn, 1) := by decide +kernel
theorem dX6_undo_0 : decode cX6_undo 0 = .ok (.aload_n 0, 1) := by decide +kernel
theorem dX6_undo_1 : decode cX6_undo 1 = .ok (.iconst 0, 1) := by decide +kernel
theorem dX6_undo_2 : decode cX6_undo 2 = .ok (.putfield 62, 3) := by decide +kernel
theorem dX6_undo_5 : decode cX6_undo 5 = .ok (.aload_n 0, 1) := by decide +kernel
theorem dX6_undo_6 : decode cX6_undo 6 = .ok (.getfield 184, 3) := by decide +kernel
theorem dX6_undo_9 : decode cX6_undo 9 = .ok (.ifCond .ne 6, 3) := by decide +kernel
theorem dX6_undo_12 : decode cX6_undo 12 = .ok (.bipush (-3), 2) := by decide +kernel
theorem dX6_undo_14 : decode cX6_undo 14 = .ok (.ireturn, 1) := by decide +kernel
theorem dX6_undo_15 : decode cX6_undo 15 = .ok (.aload_n 0, 1) := by decide +kernel
theorem dX6_undo_16 : decode cX6_undo 16 = .ok (.dup, 1) := by decide +kernel
theorem dX6_undo_17 : decode cX6_undo 17 = .ok (.getfield 184, 3) := by decide +kernel
theorem dX6_undo_20 : decode cX6_undo 20 = .ok (.iconst 1, 1) := by decide +kernel
theorem dX6_undo_21 : decode cX6_undo 21 = .ok (.isub, 1) := by decide +kernel
theorem dX6_undo_22 : decode cX6_undo 22 = .ok (.putfield 184, 3) := by decide +kernel
theorem dX6_undo_25 : decode cX6_undo 25 = .ok (.iconst 0, 1) := by decide +kernel
theorem dX6_undo_26 : decode cX6_undo 26 = .ok (.istore_n 1, 1) := by decide +kernel
theorem dX6_undo_27 : decode cX6_undo 27 = .ok (.iload_n 1, 1) := by decide +kernel
theorem dX6_undo_28 : decode cX6_undo 28 = .ok (.bipush 50, 2) := by decide +kernel
theorem dX6_undo_30 : decode cX6_undo 30 = .ok (.if_icmp .ge 29, 3) := by decide +kernel
theorem dX6_undo_33 : decode cX6_undo 33 = .ok (.aload_n 0, 1) := by decide +kernel
theorem dX6_undo_34 : decode cX6_undo 34 = .ok (.getfield 16, 3) := by decide +kernel
theorem dX6_undo_37 : decode cX6_undo 37 = .ok (.iload_n 1, 1) := by decide +kernel
theorem dX6_undo_38 : decode cX6_undo 38 = .ok (.aload_n 0, 1) := by decide +kernel
theorem dX6_undo_39 : decode cX6_undo 39 = .ok (.getfield 22, 3) := by decide +kernel
theorem dX6_undo_42 : decode cX6_undo 42 = .ok (.bipush 50, 2) := by decide +kernel
theorem dX6_undo_44 : decode cX6_undo 44 = .ok (.aload_n 0, 1) := by decide +kernel
theorem dX6_undo_45 : decode cX6_undo 45 = .ok (.getfield 184, 3) := by decide +kernel
theorem dX6_undo_48 : decode cX6_undo 48 = .ok (.imul, 1) := by decide +kernel
theorem dX6_undo_49 : decode cX6_undo 49 = .ok (.iload_n 1, 1) := by decide +kernel
theorem dX6_undo_50 : decode cX6_undo 50 = .ok (.iadd, 1) := by decide +kernel
theorem dX6_undo_51 : decode cX6_undo 51 = .ok (.iaload, 1) := by decide +kernel
theorem dX6_undo_52 : decode cX6_undo 52 = .ok (.iastore, 1) := by decide +kernel
theorem dX6_undo_53 : decode cX6_undo 53 = .ok (.iinc 1 1, 3) := by decide +kernel
theorem dX6_undo_56 : decode cX6_undo 56 = .ok (.goto (-29), 3) := by decide +kernel
theorem dX6_undo_59 : decode cX6_undo 59 = .ok (.aload_n 0, 1) := by decide +kernel
theorem dX6_undo_60 : decode cX6_undo 60 = .ok (.getfield 184, 3) := by decide +kernel
theorem dX6_undo_63 : decode cX6_undo 63 = .ok (.ireturn, 1) := by decide +kernel
theorem dX6_begin_0 : decode cX6_begin 0 = .ok (.iconst 0, 1) := by decide +kernel
theorem dX6_begin_1 : decode cX6_begin 1 = .ok (.istore_n 1, 1) := by decide +kernel
theorem dX6_begin_2 : decode cX6_begin 2 = .ok (.iload_n 1, 1) := by decide +kernel
theorem dX6_begin_3 : decode cX6_begin 3 = .ok (.bipush 50, 2) := by decide +kernel
theorem dX6_begin_5 : decode cX6_begin 5 = .ok (.if_icmp .ge 21, 3) := by decide +kernel
theorem dX6_begin_8 : decode cX6_begin 8 = .ok (.aload_n 0, 1) := by decide +kernel
theorem dX6_begin_9 : decode cX6_begin 9 = .ok (.getfield 19, 3) := by decide +kernel
theorem dX6_begin_12 : decode cX6_begin 12 = .ok (.iload_n 1, 1) := by decide +kernel
theorem dX6_begin_13 : decode cX6_begin 13 = .ok (.aload_n 0, 1) := by decide +kernel
theorem dX6_begin_14 : decode cX6_begin 14 = .ok (.getfield 16, 3) := by decide +kernel
theorem dX6_begin_17 : decode cX6_begin 17 = .ok (.iload_n 1, 1) := by decide +kernel
theorem dX6_begin_18 : decode cX6_begin 18 = .ok (.iaload, 1) := by decide +kernel
theorem dX6_begin_19 : decode cX6_begin 19 = .ok (.iastore, 1) := by decide +kernel
theorem dX6_begin_20 : decode cX6_begin 20 = .ok (.iinc 1 1, 3) := by decide +kernel
theorem dX6_begin_23 : decode cX6_begin 23 = .ok (.goto (-21), 3) := by decide +kernel
theorem dX6_begin_26 : decode cX6_begin 26 = .ok (.return_, 1) := by decide +kernel
theorem dX6_goTicks_0 : decode cX6_goTicks 0 = .ok (.iconst 0, 1) := by decide +kernel
theorem dX6_goTicks_1 : decode cX6_goTicks 1 = .ok (.istore 4, 2) := by decide +kernel
theorem dX6_goTicks_3 : decode cX6_goTicks 3 = .ok (.iload 4, 2) := by decide +kernel
theorem dX6_goTicks_5 : decode cX6_goTicks 5 = .ok (.iload_n 1, 1) := by decide +kernel
theorem dX6_goTicks_6 : decode cX6_goTicks 6 = .ok (.if_icmp .ge 20, 3) := by decide +kernel
theorem dX6_goTicks_9 : decode cX6_goTicks 9 = .ok (.aload_n 0, 1) := by decide +kernel
theorem dX6_goTicks_10 : decode cX6_goTicks 10 = .ok (.aload_n 0, 1) := by decide +kernel
theorem dX6_goTicks_11 : decode cX6_goTicks 11 = .ok (.getfield 19, 3) := by decide +kernel
theorem dX6_goTicks_14 : decode cX6_goTicks 14 = .ok (.iload_n 2, 1) := by decide +kernel
theorem dX6_goTicks_15 : decode cX6_goTicks 15 = .ok (.iload_n 3, 1) := by decide +kernel
theorem dX6_goTicks_16 : decode cX6_goTicks 16 = .ok (.invokevirtual 208, 3) := by decide +kernel
theorem dX6_goTicks_19 : decode cX6_goTicks 19 = .ok (.pop, 1) := by decide +kernel
theorem dX6_goTicks_20 : decode cX6_goTicks 20 = .ok (.iinc 4 1, 3) := by decide +kernel
theorem dX6_goTicks_23 : decode cX6_goTicks 23 = .ok (.goto (-20), 3) := by decide +kernel
theorem dX6_goTicks_26 : decode cX6_goTicks 26 = .ok (.return_, 1) := by decide +kernel
theorem dX6_later_0 : decode cX6_later 0 = .ok (.aload_n 0, 1) := by decide +kernel
theorem dX6_later_1 : decode cX6_later 1 = .ok (.iconst 0, 1) := by decide +kernel
theorem dX6_later_2 : decode cX6_later 2 = .ok (.putfield 62, 3) := by decide +kernel
theorem dX6_later_5 : decode cX6_later 5 = .ok (.aload_n 0, 1) := by decide +kernel
theorem dX6_later_6 : decode cX6_later 6 = .ok (.iload_n 1, 1) := by decide +kernel
theorem dX6_later_7 : decode cX6_later 7 = .ok (.invokevirtual 196, 3) := by decide +kernel
theorem dX6_later_10 : decode cX6_later 10 = .ok (.ifCond .eq 5, 3) := by decide +kernel
theorem dX6_later_13 : decode cX6_later 13 = .ok (.iconst (-1), 1) := by decide +kernel
theorem dX6_later_14 : decode cX6_later 14 = .ok (.ireturn, 1) := by decide +kernel
theorem dX6_later_15 : decode cX6_later 15 = .ok (.iload_n 2, 1) := by decide +kernel
theorem dX6_later_16 : decode cX6_later 16 = .ok (.i2l, 1) := by decide +kernel
theorem dX6_later_17 : decode cX6_later 17 = .ok (.lconst 1, 1) := by decide +kernel
theorem dX6_later_18 : decode cX6_later 18 = .ok (.ldc2_w 217, 3) := by decide +kernel
theorem dX6_later_21 : decode cX6_later 21 = .ok (.invokestatic 66, 3) := by decide +kernel
theorem dX6_later_24 : decode cX6_later 24 = .ok (.ifCond .eq 12, 3) := by decide +kernel
theorem dX6_later_27 : decode cX6_later 27 = .ok (.iload_n 3, 1) := by decide +kernel
theorem dX6_later_28 : decode cX6_later 28 = .ok (.iload 4, 2) := by decide +kernel
theorem dX6_later_30 : decode cX6_later 30 = .ok (.invokestatic 202, 3) := by decide +kernel
theorem dX6_later_33 : decode cX6_later 33 = .ok (.ifCond .ne 6, 3) := by decide +kernel
theorem dX6_later_36 : decode cX6_later 36 = .ok (.bipush (-2), 2) := by decide +kernel
theorem dX6_later_38 : decode cX6_later 38 = .ok (.ireturn, 1) := by decide +kernel
theorem dX6_later_39 : decode cX6_later 39 = .ok (.aload_n 0, 1) := by decide +kernel
theorem dX6_later_40 : decode cX6_later 40 = .ok (.invokevirtual 187, 3) := by decide +kernel
theorem dX6_later_43 : decode cX6_later 43 = .ok (.ifCond .ne 6, 3) := by decide +kernel
theorem dX6_later_46 : decode cX6_later 46 = .ok (.bipush (-3), 2) := by decide +kernel
theorem dX6_later_48 : decode cX6_later 48 = .ok (.ireturn, 1) := by decide +kernel
theorem dX6_later_49 : decode cX6_later 49 = .ok (.aload_n 0, 1) := by decide +kernel
theorem dX6_later_50 : decode cX6_later 50 = .ok (.invokevirtual 219, 3) := by decide +kernel
theorem dX6_later_53 : decode cX6_later 53 = .ok (.aload_n 0, 1) := by decide +kernel
theorem dX6_later_54 : decode cX6_later 54 = .ok (.iload_n 2, 1) := by decide +kernel
theorem dX6_later_55 : decode cX6_later 55 = .ok (.iload_n 3, 1) := by decide +kernel
theorem dX6_later_56 : decode cX6_later 56 = .ok (.iload 4, 2) := by decide +kernel
theorem dX6_later_58 : decode cX6_later 58 = .ok (.invokevirtual 222, 3) := by decide +kernel
theorem dX6_later_61 : decode cX6_later 61 = .ok (.aload_n 0, 1) := by decide +kernel
theorem dX6_later_62 : decode cX6_later 62 = .ok (.getfield 19, 3) := by decide +kernel
theorem dX6_later_65 : decode cX6_later 65 = .ok (.bipush 41, 2) := by decide +kernel
theorem dX6_later_67 : decode cX6_later 67 = .ok (.iload_n 1, 1) := by decide +kernel
theorem dX6_later_68 : decode cX6_later 68 = .ok (.iadd, 1) := by decide +kernel
theorem dX6_later_69 : decode cX6_later 69 = .ok (.iaload, 1) := by decide +kernel
theorem dX6_later_70 : decode cX6_later 70 = .ok (.ireturn, 1) := by decide +kernel
theorem dX6_first_0 : decode cX6_first 0 = .ok (.aload_n 0, 1) := by decide +kernel
theorem dX6_first_1 : decode cX6_first 1 = .ok (.iconst 0, 1) := by decide +kernel
theorem dX6_first_2 : decode cX6_first 2 = .ok (.putfield 62, 3) := by decide +kernel
theorem dX6_first_5 : decode cX6_first 5 = .ok (.aload_n 0, 1) := by decide +kernel
theorem dX6_first_6 : decode cX6_first 6 = .ok (.iload_n 1, 1) := by decide +kernel
theorem dX6_first_7 : decode cX6_first 7 = .ok (.invokevirtual 196, 3) := by decide +kernel
theorem dX6_first_10 : decode cX6_first 10 = .ok (.ifCond .eq 5, 3) := by decide +kernel
theorem dX6_first_13 : decode cX6_first 13 = .ok (.iconst (-1), 1) := by decide +kernel
theorem dX6_first_14 : decode cX6_first 14 = .ok (.ireturn, 1) := by decide +kernel
theorem dX6_first_15 : decode cX6_first 15 = .ok (.iload_n 2, 1) := by decide +kernel
theorem dX6_first_16 : decode cX6_first 16 = .ok (.i2l, 1) := by decide +kernel
theorem dX6_first_17 : decode cX6_first 17 = .ok (.lconst 0, 1) := by decide +kernel
theorem dX6_first_18 : decode cX6_first 18 = .ok (.ldc2_w 200, 3) := by decide +kernel
theorem dX6_first_21 : decode cX6_first 21 = .ok (.invokestatic 66, 3) := by decide +kernel
theorem dX6_first_24 : decode cX6_first 24 = .ok (.ifCond .eq 12, 3) := by decide +kernel
theorem dX6_first_27 : decode cX6_first 27 = .ok (.iload_n 3, 1) := by decide +kernel
theorem dX6_first_28 : decode cX6_first 28 = .ok (.iload 4, 2) := by decide +kernel
theorem dX6_first_30 : decode cX6_first 30 = .ok (.invokestatic 202, 3) := by decide +kernel
theorem dX6_first_33 : decode cX6_first 33 = .ok (.ifCond .ne 6, 3) := by decide +kernel
theorem dX6_first_36 : decode cX6_first 36 = .ok (.bipush (-2), 2) := by decide +kernel
theorem dX6_first_38 : decode cX6_first 38 = .ok (.ireturn, 1) := by decide +kernel
theorem dX6_first_39 : decode cX6_first 39 = .ok (.aload_n 0, 1) := by decide +kernel
theorem dX6_first_40 : decode cX6_first 40 = .ok (.invokevirtual 187, 3) := by decide +kernel
theorem dX6_first_43 : decode cX6_first 43 = .ok (.ifCond .ne 6, 3) := by decide +kernel
theorem dX6_first_46 : decode cX6_first 46 = .ok (.bipush (-3), 2) := by decide +kernel
theorem dX6_first_48 : decode cX6_first 48 = .ok (.ireturn, 1) := by decide +kernel
theorem dX6_first_49 : decode cX6_first 49 = .ok (.aload_n 0, 1) := by decide +kernel
theorem dX6_first_50 : decode cX6_first 50 = .ok (.invokevirtual 219, 3) := by decide +kernel
theorem dX6_first_53 : decode cX6_first 53 = .ok (.iconst 1, 1) := by decide +kernel
theorem dX6_first_54 : decode cX6_first 54 = .ok (.istore 5, 2) := by decide +kernel
theorem dX6_first_56 : decode cX6_first 56 = .ok (.iload 5, 2) := by decide +kernel
theorem dX6_first_58 : decode cX6_first 58 = .ok (.bipush 40, 2) := by decide +kernel
theorem dX6_first_60 : decode cX6_first 60 = .ok (.if_icmp .gt 37, 3) := by decide +kernel
theorem dX6_first_63 : decode cX6_first 63 = .ok (.aload_n 0, 1) := by decide +kernel
theorem dX6_first_64 : decode cX6_first 64 = .ok (.aload_n 0, 1) := by decide +kernel
theorem dX6_first_65 : decode cX6_first 65 = .ok (.getfield 19, 3) := by decide +kernel
theorem dX6_first_68 : decode cX6_first 68 = .ok (.iload_n 3, 1) := by decide +kernel
theorem dX6_first_69 : decode cX6_first 69 = .ok (.iload 4, 2) := by decide +kernel
theorem dX6_first_71 : decode cX6_first 71 = .ok (.invokevirtual 208, 3) := by decide +kernel
theorem dX6_first_74 : decode cX6_first 74 = .ok (.pop, 1) := by decide +kernel
theorem dX6_first_75 : decode cX6_first 75 = .ok (.aload_n 0, 1) := by decide +kernel
theorem dX6_first_76 : decode cX6_first 76 = .ok (.getfield 19, 3) := by decide +kernel
theorem dX6_first_79 : decode cX6_first 79 = .ok (.bipush 41, 2) := by decide +kernel
theorem dX6_first_81 : decode cX6_first 81 = .ok (.iload_n 1, 1) := by decide +kernel
theorem dX6_first_82 : decode cX6_first 82 = .ok (.iadd, 1) := by decide +kernel
theorem dX6_first_83 : decode cX6_first 83 = .ok (.iaload, 1) := by decide +kernel
theorem dX6_first_84 : decode cX6_first 84 = .ok (.iload_n 2, 1) := by decide +kernel
theorem dX6_first_85 : decode cX6_first 85 = .ok (.if_icmp .ne 6, 3) := by decide +kernel
theorem dX6_first_88 : decode cX6_first 88 = .ok (.iload 5, 2) := by decide +kernel
theorem dX6_first_90 : decode cX6_first 90 = .ok (.ireturn, 1) := by decide +kernel
theorem dX6_first_91 : decode cX6_first 91 = .ok (.iinc 5 1, 3) := by decide +kernel
theorem dX6_first_94 : decode cX6_first 94 = .ok (.goto (-38), 3) := by decide +kernel
theorem dX6_first_97 : decode cX6_first 97 = .ok (.bipush (-9), 2) := by decide +kernel
theorem dX6_first_99 : decode cX6_first 99 = .ok (.ireturn, 1) := by decide +kernel
theorem dX6_areAlike_0 : decode cX6_areAlike 0 = .ok (.iconst 1, 1) := by decide +kernel
theorem dX6_areAlike_1 : decode cX6_areAlike 1 = .ok (.istore_n 3, 1) := by decide +kernel
theorem dX6_areAlike_2 : decode cX6_areAlike 2 = .ok (.iconst 0, 1) := by decide +kernel
theorem dX6_areAlike_3 : decode cX6_areAlike 3 = .ok (.istore 4, 2) := by decide +kernel
theorem dX6_areAlike_5 : decode cX6_areAlike 5 = .ok (.iload 4, 2) := by decide +kernel
theorem dX6_areAlike_7 : decode cX6_areAlike 7 = .ok (.bipush 8, 2) := by decide +kernel
theorem dX6_areAlike_9 : decode cX6_areAlike 9 = .ok (.if_icmp .ge 46, 3) := by decide +kernel
theorem dX6_areAlike_12 : decode cX6_areAlike 12 = .ok (.iload_n 3, 1) := by decide +kernel
theorem dX6_areAlike_13 : decode cX6_areAlike 13 = .ok (.ifCond .eq 34, 3) := by decide +kernel
theorem dX6_areAlike_16 : decode cX6_areAlike 16 = .ok (.aload_n 0, 1) := by decide +kernel
theorem dX6_areAlike_17 : decode cX6_areAlike 17 = .ok (.getfield 59, 3) := by decide +kernel
theorem dX6_areAlike_20 : decode cX6_areAlike 20 = .ok (.bipush 8, 2) := by decide +kernel
theorem dX6_areAlike_22 : decode cX6_areAlike 22 = .ok (.iload_n 1, 1) := by decide +kernel
theorem dX6_areAlike_23 : decode cX6_areAlike 23 = .ok (.imul, 1) := by decide +kernel
theorem dX6_areAlike_24 : decode cX6_areAlike 24 = .ok (.iload 4, 2) := by decide +kernel
theorem dX6_areAlike_26 : decode cX6_areAlike 26 = .ok (.iadd, 1) := by decide +kernel
theorem dX6_areAlike_27 : decode cX6_areAlike 27 = .ok (.iaload, 1) := by decide +kernel
theorem dX6_areAlike_28 : decode cX6_areAlike 28 = .ok (.aload_n 0, 1) := by decide +kernel
theorem dX6_areAlike_29 : decode cX6_areAlike 29 = .ok (.getfield 59, 3) := by decide +kernel
theorem dX6_areAlike_32 : decode cX6_areAlike 32 = .ok (.bipush 8, 2) := by decide +kernel
theorem dX6_areAlike_34 : decode cX6_areAlike 34 = .ok (.iload_n 2, 1) := by decide +kernel
theorem dX6_areAlike_35 : decode cX6_areAlike 35 = .ok (.imul, 1) := by decide +kernel
theorem dX6_areAlike_36 : decode cX6_areAlike 36 = .ok (.iload 4, 2) := by decide +kernel
theorem dX6_areAlike_38 : decode cX6_areAlike 38 = .ok (.iadd, 1) := by decide +kernel
theorem dX6_areAlike_39 : decode cX6_areAlike 39 = .ok (.iaload, 1) := by decide +kernel
theorem dX6_areAlike_40 : decode cX6_areAlike 40 = .ok (.if_icmp .ne 7, 3) := by decide +kernel
theorem dX6_areAlike_43 : decode cX6_areAlike 43 = .ok (.iconst 1, 1) := by decide +kernel
theorem dX6_areAlike_44 : decode cX6_areAlike 44 = .ok (.goto 4, 3) := by decide +kernel
theorem dX6_areAlike_47 : decode cX6_areAlike 47 = .ok (.iconst 0, 1) := by decide +kernel
theorem dX6_areAlike_48 : decode cX6_areAlike 48 = .ok (.istore_n 3, 1) := by decide +kernel
theorem dX6_areAlike_49 : decode cX6_areAlike 49 = .ok (.iinc 4 1, 3) := by decide +kernel
theorem dX6_areAlike_52 : decode cX6_areAlike 52 = .ok (.goto (-47), 3) := by decide +kernel
theorem dX6_areAlike_55 : decode cX6_areAlike 55 = .ok (.iload_n 3, 1) := by decide +kernel
theorem dX6_areAlike_56 : decode cX6_areAlike 56 = .ok (.ireturn, 1) := by decide +kernel
theorem dX6_layStates_0 : decode cX6_layStates 0 = .ok (.aload_n 0, 1) := by decide +kernel
theorem dX6_layStates_1 : decode cX6_layStates 1 = .ok (.invokevirtual 219, 3) := by decide +kernel
theorem dX6_layStates_4 : decode cX6_layStates 4 = .ok (.iconst 0, 1) := by decide +kernel
theorem dX6_layStates_5 : decode cX6_layStates 5 = .ok (.istore_n 3, 1) := by decide +kernel
theorem dX6_layStates_6 : decode cX6_layStates 6 = .ok (.iload_n 3, 1) := by decide +kernel
theorem dX6_layStates_7 : decode cX6_layStates 7 = .ok (.bipush 40, 2) := by decide +kernel
theorem dX6_layStates_9 : decode cX6_layStates 9 = .ok (.if_icmp .gt 99, 3) := by decide +kernel
theorem dX6_layStates_12 : decode cX6_layStates 12 = .ok (.iconst 0, 1) := by decide +kernel
theorem dX6_layStates_13 : decode cX6_layStates 13 = .ok (.istore 4, 2) := by decide +kernel
theorem dX6_layStates_15 : decode cX6_layStates 15 = .ok (.iload 4, 2) := by decide +kernel
theorem dX6_layStates_17 : decode cX6_layStates 17 = .ok (.bipush 8, 2) := by decide +kernel
theorem dX6_layStates_19 : decode cX6_layStates 19 = .ok (.if_icmp .ge 72, 3) := by decide +kernel
theorem dX6_layStates_22 : decode cX6_layStates 22 = .ok (.aload_n 0, 1) := by decide +kernel
theorem dX6_layStates_23 : decode cX6_layStates 23 = .ok (.getfield 19, 3) := by decide +kernel
theorem dX6_layStates_26 : decode cX6_layStates 26 = .ok (.iconst 1, 1) := by decide +kernel
theorem dX6_layStates_27 : decode cX6_layStates 27 = .ok (.iload 4, 2) := by decide +kernel
theorem dX6_layStates_29 : decode cX6_layStates 29 = .ok (.iadd, 1) := by decide +kernel
theorem dX6_layStates_30 : decode cX6_layStates 30 = .ok (.iaload, 1) := by decide +kernel
theorem dX6_layStates_31 : decode cX6_layStates 31 = .ok (.istore 5, 2) := by decide +kernel
theorem dX6_layStates_33 : decode cX6_layStates 33 = .ok (.aload_n 0, 1) := by decide +kernel
theorem dX6_layStates_34 : decode cX6_layStates 34 = .ok (.getfield 59, 3) := by decide +kernel
theorem dX6_layStates_37 : decode cX6_layStates 37 = .ok (.bipush 8, 2) := by decide +kernel
theorem dX6_layStates_39 : decode cX6_layStates 39 = .ok (.iload_n 3, 1) := by decide +kernel
theorem dX6_layStates_40 : decode cX6_layStates 40 = .ok (.imul, 1) := by decide +kernel
theorem dX6_layStates_41 : decode cX6_layStates 41 = .ok (.iload 4, 2) := by decide +kernel
theorem dX6_layStates_43 : decode cX6_layStates 43 = .ok (.iadd, 1) := by decide +kernel
theorem dX6_layStates_44 : decode cX6_layStates 44 = .ok (.iload 4, 2) := by decide +kernel
theorem dX6_layStates_46 : decode cX6_layStates 46 = .ok (.aload_n 0, 1) := by decide +kernel
theorem dX6_layStates_47 : decode cX6_layStates 47 = .ok (.getfield 19, 3) := by decide +kernel
theorem dX6_layStates_50 : decode cX6_layStates 50 = .ok (.iconst 0, 1) := by decide +kernel
theorem dX6_layStates_51 : decode cX6_layStates 51 = .ok (.iaload, 1) := by decide +kernel
theorem dX6_layStates_52 : decode cX6_layStates 52 = .ok (.if_icmp .ge 31, 3) := by decide +kernel
theorem dX6_layStates_55 : decode cX6_layStates 55 = .ok (.iload 5, 2) := by decide +kernel
theorem dX6_layStates_57 : decode cX6_layStates 57 = .ok (.i2l, 1) := by decide +kernel
theorem dX6_layStates_58 : decode cX6_layStates 58 = .ok (.ldc2_w 226, 3) := by decide +kernel
theorem dX6_layStates_61 : decode cX6_layStates 61 = .ok (.ldc2_w 92, 3) := by decide +kernel
theorem dX6_layStates_64 : decode cX6_layStates 64 = .ok (.invokestatic 66, 3) := by decide +kernel
theorem dX6_layStates_67 : decode cX6_layStates 67 = .ok (.ifCond .eq 16, 3) := by decide +kernel
theorem dX6_layStates_70 : decode cX6_layStates 70 = .ok (.aload_n 0, 1) := by decide +kernel
theorem dX6_layStates_71 : decode cX6_layStates 71 = .ok (.getfield 19, 3) := by decide +kernel
theorem dX6_layStates_74 : decode cX6_layStates 74 = .ok (.bipush 33, 2) := by decide +kernel
theorem dX6_layStates_76 : decode cX6_layStates 76 = .ok (.iload 4, 2) := by decide +kernel
theorem dX6_layStates_78 : decode cX6_layStates 78 = .ok (.iadd, 1) := by decide +kernel
theorem dX6_layStates_79 : decode cX6_layStates 79 = .ok (.iaload, 1) := by decide +kernel
theorem dX6_layStates_80 : decode cX6_layStates 80 = .ok (.goto 4, 3) := by decide +kernel
theorem dX6_layStates_83 : decode cX6_layStates 83 = .ok (.iconst 0, 1) := by decide +kernel
theorem dX6_layStates_84 : decode cX6_layStates 84 = .ok (.iastore, 1) := by decide +kernel
theorem dX6_layStates_85 : decode cX6_layStates 85 = .ok (.iinc 4 1, 3) := by decide +kernel
theorem dX6_layStates_88 : decode cX6_layStates 88 = .ok (.goto (-73), 3) := by decide +kernel
theorem dX6_layStates_91 : decode cX6_layStates 91 = .ok (.aload_n 0, 1) := by decide +kernel
theorem dX6_layStates_92 : decode cX6_layStates 92 = .ok (.aload_n 0, 1) := by decide +kernel
theorem dX6_layStates_93 : decode cX6_layStates 93 = .ok (.getfield 19, 3) := by decide +kernel
theorem dX6_layStates_96 : decode cX6_layStates 96 = .ok (.iload_n 1, 1) := by decide +kernel
theorem dX6_layStates_97 : decode cX6_layStates 97 = .ok (.iload_n 2, 1) := by decide +kernel
theorem dX6_layStates_98 : decode cX6_layStates 98 = .ok (.invokevirtual 208, 3) := by decide +kernel
theorem dX6_layStates_101 : decode cX6_layStates 101 = .ok (.pop, 1) := by decide +kernel
theorem dX6_layStates_102 : decode cX6_layStates 102 = .ok (.iinc 3 1, 3) := by decide +kernel
theorem dX6_layStates_105 : decode cX6_layStates 105 = .ok (.goto (-99), 3) := by decide +kernel
theorem dX6_layStates_108 : decode cX6_layStates 108 = .ok (.return_, 1) := by decide +kernel
theorem dX6_round_0 : decode cX6_round 0 = .ok (.aload_n 0, 1) := by decide +kernel
theorem dX6_round_1 : decode cX6_round 1 = .ok (.iconst 0, 1) := by decide +kernel
theorem dX6_round_2 : decode cX6_round 2 = .ok (.putfield 62, 3) := by decide +kernel
theorem dX6_round_5 : decode cX6_round 5 = .ok (.iload_n 1, 1) := by decide +kernel
theorem dX6_round_6 : decode cX6_round 6 = .ok (.iload_n 2, 1) := by decide +kernel
theorem dX6_round_7 : decode cX6_round 7 = .ok (.invokestatic 202, 3) := by decide +kernel
theorem dX6_round_10 : decode cX6_round 10 = .ok (.ifCond .eq 13, 3) := by decide +kernel
theorem dX6_round_13 : decode cX6_round 13 = .ok (.iload_n 3, 1) := by decide +kernel
theorem dX6_round_14 : decode cX6_round 14 = .ok (.i2l, 1) := by decide +kernel
theorem dX6_round_15 : decode cX6_round 15 = .ok (.lconst 0, 1) := by decide +kernel
theorem dX6_round_16 : decode cX6_round 16 = .ok (.lconst 1, 1) := by decide +kernel
theorem dX6_round_17 : decode cX6_round 17 = .ok (.invokestatic 66, 3) := by decide +kernel
theorem dX6_round_20 : decode cX6_round 20 = .ok (.ifCond .ne 6, 3) := by decide +kernel
theorem dX6_round_23 : decode cX6_round 23 = .ok (.bipush (-2), 2) := by decide +kernel
theorem dX6_round_25 : decode cX6_round 25 = .ok (.ireturn, 1) := by decide +kernel
theorem dX6_round_26 : decode cX6_round 26 = .ok (.aload_n 0, 1) := by decide +kernel
theorem dX6_round_27 : decode cX6_round 27 = .ok (.invokevirtual 187, 3) := by decide +kernel
theorem dX6_round_30 : decode cX6_round 30 = .ok (.ifCond .ne 6, 3) := by decide +kernel
theorem dX6_round_33 : decode cX6_round 33 = .ok (.bipush (-3), 2) := by decide +kernel
theorem dX6_round_35 : decode cX6_round 35 = .ok (.ireturn, 1) := by decide +kernel
theorem dX6_round_36 : decode cX6_round 36 = .ok (.aload_n 0, 1) := by decide +kernel
theorem dX6_round_37 : decode cX6_round 37 = .ok (.iload_n 1, 1) := by decide +kernel
theorem dX6_round_38 : decode cX6_round 38 = .ok (.iload_n 2, 1) := by decide +kernel
theorem dX6_round_39 : decode cX6_round 39 = .ok (.invokevirtual 228, 3) := by decide +kernel
theorem dX6_round_42 : decode cX6_round 42 = .ok (.iconst 1, 1) := by decide +kernel
theorem dX6_round_43 : decode cX6_round 43 = .ok (.istore 4, 2) := by decide +kernel
theorem dX6_round_45 : decode cX6_round 45 = .ok (.iload 4, 2) := by decide +kernel
theorem dX6_round_47 : decode cX6_round 47 = .ok (.bipush 40, 2) := by decide +kernel
theorem dX6_round_49 : decode cX6_round 49 = .ok (.if_icmp .gt 54, 3) := by decide +kernel
theorem dX6_round_52 : decode cX6_round 52 = .ok (.iconst 0, 1) := by decide +kernel
theorem dX6_round_53 : decode cX6_round 53 = .ok (.istore 5, 2) := by decide +kernel
theorem dX6_round_55 : decode cX6_round 55 = .ok (.iload 5, 2) := by decide +kernel
theorem dX6_round_57 : decode cX6_round 57 = .ok (.iload 4, 2) := by decide +kernel
theorem dX6_round_59 : decode cX6_round 59 = .ok (.iadd, 1) := by decide +kernel
theorem dX6_round_60 : decode cX6_round 60 = .ok (.bipush 40, 2) := by decide +kernel
theorem dX6_round_62 : decode cX6_round 62 = .ok (.if_icmp .gt 35, 3) := by decide +kernel
theorem dX6_round_65 : decode cX6_round 65 = .ok (.aload_n 0, 1) := by decide +kernel
theorem dX6_round_66 : decode cX6_round 66 = .ok (.iload 5, 2) := by decide +kernel
theorem dX6_round_68 : decode cX6_round 68 = .ok (.iload 5, 2) := by decide +kernel
theorem dX6_round_70 : decode cX6_round 70 = .ok (.iload 4, 2) := by decide +kernel
theorem dX6_round_72 : decode cX6_round 72 = .ok (.iadd, 1) := by decide +kernel
theorem dX6_round_73 : decode cX6_round 73 = .ok (.invokevirtual 232, 3) := by decide +kernel
theorem dX6_round_76 : decode cX6_round 76 = .ok (.ifCond .eq 15, 3) := by decide +kernel
theorem dX6_round_79 : decode cX6_round 79 = .ok (.iload_n 3, 1) := by decide +kernel
theorem dX6_round_80 : decode cX6_round 80 = .ok (.ifCond .ne 8, 3) := by decide +kernel
theorem dX6_round_83 : decode cX6_round 83 = .ok (.iload 4, 2) := by decide +kernel
theorem dX6_round_85 : decode cX6_round 85 = .ok (.goto 5, 3) := by decide +kernel
theorem dX6_round_88 : decode cX6_round 88 = .ok (.iload 5, 2) := by decide +kernel
theorem dX6_round_90 : decode cX6_round 90 = .ok (.ireturn, 1) := by decide +kernel
theorem dX6_round_91 : decode cX6_round 91 = .ok (.iinc 5 1, 3) := by decide +kernel
theorem dX6_round_94 : decode cX6_round 94 = .ok (.goto (-39), 3) := by decide +kernel
theorem dX6_round_97 : decode cX6_round 97 = .ok (.iinc 4 1, 3) := by decide +kernel
theorem dX6_round_100 : decode cX6_round 100 = .ok (.goto (-55), 3) := by decide +kernel
theorem dX6_round_103 : decode cX6_round 103 = .ok (.bipush (-9), 2) := by decide +kernel
theorem dX6_round_105 : decode cX6_round 105 = .ok (.ireturn, 1) := by decide +kernel
theorem dX6_longPower_0 : decode cX6_longPower 0 = .ok (.lconst 1, 1) := by decide +kernel
theorem dX6_longPower_1 : decode cX6_longPower 1 = .ok (.lstore_n 3, 1) := by decide +kernel
theorem dX6_longPower_2 : decode cX6_longPower 2 = .ok (.iconst 0, 1) := by decide +kernel
theorem dX6_longPower_3 : decode cX6_longPower 3 = .ok (.istore 5, 2) := by decide +kernel
theorem dX6_longPower_5 : decode cX6_longPower 5 = .ok (.iload 5, 2) := by decide +kernel
theorem dX6_longPower_7 : decode cX6_longPower 7 = .ok (.iload_n 2, 1) := by decide +kernel
theorem dX6_longPower_8 : decode cX6_longPower 8 = .ok (.if_icmp .ge 13, 3) := by decide +kernel
theorem dX6_longPower_11 : decode cX6_longPower 11 = .ok (.lload_n 3, 1) := by decide +kernel
theorem dX6_longPower_12 : decode cX6_longPower 12 = .ok (.lload_n 0, 1) := by decide +kernel
theorem dX6_longPower_13 : decode cX6_longPower 13 = .ok (.lmul, 1) := by decide +kernel
theorem dX6_longPower_14 : decode cX6_longPower 14 = .ok (.lstore_n 3, 1) := by decide +kernel
theorem dX6_longPower_15 : decode cX6_longPower 15 = .ok (.iinc 5 1, 3) := by decide +kernel
theorem dX6_longPower_18 : decode cX6_longPower 18 = .ok (.goto (-13), 3) := by decide +kernel
theorem dX6_longPower_21 : decode cX6_longPower 21 = .ok (.lload_n 3, 1) := by decide +kernel
theorem dX6_longPower_22 : decode cX6_longPower 22 = .ok (.lreturn, 1) := by decide +kernel
theorem dX6_areLike_0 : decode cX6_areLike 0 = .ok (.aload_n 0, 1) := by decide +kernel
theorem dX6_areLike_1 : decode cX6_areLike 1 = .ok (.iload_n 1, 1) := by decide +kernel
theorem dX6_areLike_2 : decode cX6_areLike 2 = .ok (.invokevirtual 125, 3) := by decide +kernel
theorem dX6_areLike_5 : decode cX6_areLike 5 = .ok (.istore_n 3, 1) := by decide +kernel
theorem dX6_areLike_6 : decode cX6_areLike 6 = .ok (.iload_n 3, 1) := by decide +kernel
theorem dX6_areLike_7 : decode cX6_areLike 7 = .ok (.ifCond .ne 8, 3) := by decide +kernel
theorem dX6_areLike_10 : decode cX6_areLike 10 = .ok (.bipush (-9), 2) := by decide +kernel
theorem dX6_areLike_12 : decode cX6_areLike 12 = .ok (.goto 9, 3) := by decide +kernel
theorem dX6_areLike_15 : decode cX6_areLike 15 = .ok (.aload_n 0, 1) := by decide +kernel
theorem dX6_areLike_16 : decode cX6_areLike 16 = .ok (.getfield 56, 3) := by decide +kernel
theorem dX6_areLike_19 : decode cX6_areLike 19 = .ok (.iconst 0, 1) := by decide +kernel
theorem dX6_areLike_20 : decode cX6_areLike 20 = .ok (.iaload, 1) := by decide +kernel
theorem dX6_areLike_21 : decode cX6_areLike 21 = .ok (.istore 4, 2) := by decide +kernel
theorem dX6_areLike_23 : decode cX6_areLike 23 = .ok (.aload_n 0, 1) := by decide +kernel
theorem dX6_areLike_24 : decode cX6_areLike 24 = .ok (.iload_n 2, 1) := by decide +kernel
theorem dX6_areLike_25 : decode cX6_areLike 25 = .ok (.invokevirtual 125, 3) := by decide +kernel
theorem dX6_areLike_28 : decode cX6_areLike 28 = .ok (.istore 5, 2) := by decide +kernel
theorem dX6_areLike_30 : decode cX6_areLike 30 = .ok (.iload_n 3, 1) := by decide +kernel
theorem dX6_areLike_31 : decode cX6_areLike 31 = .ok (.iload 5, 2) := by decide +kernel
theorem dX6_areLike_33 : decode cX6_areLike 33 = .ok (.if_icmp .ne 22, 3) := by decide +kernel
theorem dX6_areLike_36 : decode cX6_areLike 36 = .ok (.iload_n 3, 1) := by decide +kernel
theorem dX6_areLike_37 : decode cX6_areLike 37 = .ok (.ifCond .eq 14, 3) := by decide +kernel
theorem dX6_areLike_40 : decode cX6_areLike 40 = .ok (.aload_n 0, 1) := by decide +kernel
theorem dX6_areLike_41 : decode cX6_areLike 41 = .ok (.getfield 56, 3) := by decide +kernel
theorem dX6_areLike_44 : decode cX6_areLike 44 = .ok (.iconst 0, 1) := by decide +kernel
theorem dX6_areLike_45 : decode cX6_areLike 45 = .ok (.iaload, 1) := by decide +kernel
theorem dX6_areLike_46 : decode cX6_areLike 46 = .ok (.iload 4, 2) := by decide +kernel
theorem dX6_areLike_48 : decode cX6_areLike 48 = .ok (.if_icmp .ne 7, 3) := by decide +kernel
theorem dX6_areLike_51 : decode cX6_areLike 51 = .ok (.iconst 1, 1) := by decide +kernel
theorem dX6_areLike_52 : decode cX6_areLike 52 = .ok (.goto 4, 3) := by decide +kernel
theorem dX6_areLike_55 : decode cX6_areLike 55 = .ok (.iconst 0, 1) := by decide +kernel
theorem dX6_areLike_56 : decode cX6_areLike 56 = .ok (.ireturn, 1) := by decide +kernel
theorem dX6_isSo_0 : decode cX6_isSo 0 = .ok (.aload_n 0, 1) := by decide +kernel
theorem dX6_isSo_1 : decode cX6_isSo 1 = .ok (.iload_n 2, 1) := by decide +kernel
theorem dX6_isSo_2 : decode cX6_isSo 2 = .ok (.invokevirtual 196, 3) := by decide +kernel
theorem dX6_isSo_5 : decode cX6_isSo 5 = .ok (.ifCond .eq 5, 3) := by decide +kernel
theorem dX6_isSo_8 : decode cX6_isSo 8 = .ok (.iconst 0, 1) := by decide +kernel
theorem dX6_isSo_9 : decode cX6_isSo 9 = .ok (.ireturn, 1) := by decide +kernel
theorem dX6_isSo_10 : decode cX6_isSo 10 = .ok (.iload_n 1, 1) := by decide +kernel
theorem dX6_isSo_11 : decode cX6_isSo 11 = .ok (.tableswitch 98 3 5 #[25, 49, 78], 25) := by decide +kernel
theorem dX6_isSo_36 : decode cX6_isSo 36 = .ok (.iload_n 3, 1) := by decide +kernel
theorem dX6_isSo_37 : decode cX6_isSo 37 = .ok (.ifCond .ne 21, 3) := by decide +kernel
theorem dX6_isSo_40 : decode cX6_isSo 40 = .ok (.aload_n 0, 1) := by decide +kernel
theorem dX6_isSo_41 : decode cX6_isSo 41 = .ok (.getfield 19, 3) := by decide +kernel
theorem dX6_isSo_44 : decode cX6_isSo 44 = .ok (.bipush 41, 2) := by decide +kernel
theorem dX6_isSo_46 : decode cX6_isSo 46 = .ok (.iload_n 2, 1) := by decide +kernel
theorem dX6_isSo_47 : decode cX6_isSo 47 = .ok (.iadd, 1) := by decide +kernel
theorem dX6_isSo_48 : decode cX6_isSo 48 = .ok (.iaload, 1) := by decide +kernel
theorem dX6_isSo_49 : decode cX6_isSo 49 = .ok (.iload 4, 2) := by decide +kernel
theorem dX6_isSo_51 : decode cX6_isSo 51 = .ok (.if_icmp .ne 7, 3) := by decide +kernel
theorem dX6_isSo_54 : decode cX6_isSo 54 = .ok (.iconst 1, 1) := by decide +kernel
theorem dX6_isSo_55 : decode cX6_isSo 55 = .ok (.goto 4, 3) := by decide +kernel
theorem dX6_isSo_58 : decode cX6_isSo 58 = .ok (.iconst 0, 1) := by decide +kernel
theorem dX6_isSo_59 : decode cX6_isSo 59 = .ok (.ireturn, 1) := by decide +kernel
theorem dX6_isSo_60 : decode cX6_isSo 60 = .ok (.iload_n 3, 1) := by decide +kernel
theorem dX6_isSo_61 : decode cX6_isSo 61 = .ok (.ifCond .ne 26, 3) := by decide +kernel
theorem dX6_isSo_64 : decode cX6_isSo 64 = .ok (.iload 4, 2) := by decide +kernel
theorem dX6_isSo_66 : decode cX6_isSo 66 = .ok (.ifCond .ne 21, 3) := by decide +kernel
theorem dX6_isSo_69 : decode cX6_isSo 69 = .ok (.aload_n 0, 1) := by decide +kernel
theorem dX6_isSo_70 : decode cX6_isSo 70 = .ok (.getfield 19, 3) := by decide +kernel
theorem dX6_isSo_73 : decode cX6_isSo 73 = .ok (.bipush 41, 2) := by decide +kernel
theorem dX6_isSo_75 : decode cX6_isSo 75 = .ok (.iload_n 2, 1) := by decide +kernel
theorem dX6_isSo_76 : decode cX6_isSo 76 = .ok (.iadd, 1) := by decide +kernel
theorem dX6_isSo_77 : decode cX6_isSo 77 = .ok (.iaload, 1) := by decide +kernel
theorem dX6_isSo_78 : decode cX6_isSo 78 = .ok (.bipush (-9), 2) := by decide +kernel
theorem dX6_isSo_80 : decode cX6_isSo 80 = .ok (.if_icmp .ne 7, 3) := by decide +kernel
theorem dX6_isSo_83 : decode cX6_isSo 83 = .ok (.iconst 1, 1) := by decide +kernel
theorem dX6_isSo_84 : decode cX6_isSo 84 = .ok (.goto 4, 3) := by decide +kernel
theorem dX6_isSo_87 : decode cX6_isSo 87 = .ok (.iconst 0, 1) := by decide +kernel
theorem dX6_isSo_88 : decode cX6_isSo 88 = .ok (.ireturn, 1) := by decide +kernel
theorem dX6_isSo_89 : decode cX6_isSo 89 = .ok (.iload 4, 2) := by decide +kernel
theorem dX6_isSo_91 : decode cX6_isSo 91 = .ok (.ifCond .ne 16, 3) := by decide +kernel
theorem dX6_isSo_94 : decode cX6_isSo 94 = .ok (.aload_n 0, 1) := by decide +kernel
theorem dX6_isSo_95 : decode cX6_isSo 95 = .ok (.iload_n 2, 1) := by decide +kernel
theorem dX6_isSo_96 : decode cX6_isSo 96 = .ok (.invokevirtual 125, 3) := by decide +kernel
theorem dX6_isSo_99 : decode cX6_isSo 99 = .ok (.iload_n 3, 1) := by decide +kernel
theorem dX6_isSo_100 : decode cX6_isSo 100 = .ok (.if_icmp .ne 7, 3) := by decide +kernel
theorem dX6_isSo_103 : decode cX6_isSo 103 = .ok (.iconst 1, 1) := by decide +kernel
theorem dX6_isSo_104 : decode cX6_isSo 104 = .ok (.goto 4, 3) := by decide +kernel
theorem dX6_isSo_107 : decode cX6_isSo 107 = .ok (.iconst 0, 1) := by decide +kernel
theorem dX6_isSo_108 : decode cX6_isSo 108 = .ok (.ireturn, 1) := by decide +kernel
theorem dX6_isSo_109 : decode cX6_isSo 109 = .ok (.iload_n 1, 1) := by decide +kernel
theorem dX6_isSo_110 : decode cX6_isSo 110 = .ok (.bipush 6, 2) := by decide +kernel
theorem dX6_isSo_112 : decode cX6_isSo 112 = .ok (.if_icmp .ne 29, 3) := by decide +kernel
theorem dX6_isSo_115 : decode cX6_isSo 115 = .ok (.iload 4, 2) := by decide +kernel
theorem dX6_isSo_117 : decode cX6_isSo 117 = .ok (.ifCond .ne 24, 3) := by decide +kernel
theorem dX6_isSo_120 : decode cX6_isSo 120 = .ok (.aload_n 0, 1) := by decide +kernel
theorem dX6_isSo_121 : decode cX6_isSo 121 = .ok (.iload_n 3, 1) := by decide +kernel
theorem dX6_isSo_122 : decode cX6_isSo 122 = .ok (.invokevirtual 196, 3) := by decide +kernel
theorem dX6_isSo_125 : decode cX6_isSo 125 = .ok (.ifCond .ne 16, 3) := by decide +kernel
theorem dX6_isSo_128 : decode cX6_isSo 128 = .ok (.aload_n 0, 1) := by decide +kernel
theorem dX6_isSo_129 : decode cX6_isSo 129 = .ok (.iload_n 2, 1) := by decide +kernel
theorem dX6_isSo_130 : decode cX6_isSo 130 = .ok (.iload_n 3, 1) := by decide +kernel
theorem dX6_isSo_131 : decode cX6_isSo 131 = .ok (.invokevirtual 235, 3) := by decide +kernel
theorem dX6_isSo_134 : decode cX6_isSo 134 = .ok (.ifCond .eq 7, 3) := by decide +kernel
theorem dX6_isSo_137 : decode cX6_isSo 137 = .ok (.iconst 1, 1) := by decide +kernel
theorem dX6_isSo_138 : decode cX6_isSo 138 = .ok (.goto 4, 3) := by decide +kernel
theorem dX6_isSo_141 : decode cX6_isSo 141 = .ok (.iconst 0, 1) := by decide +kernel
theorem dX6_isSo_142 : decode cX6_isSo 142 = .ok (.ireturn, 1) := by decide +kernel
theorem dX6_does_0 : decode cX6_does 0 = .ok (.iload_n 1, 1) := by decide +kernel
theorem dX6_does_1 : decode cX6_does 1 = .ok (.sipush 10000, 3) := by decide +kernel
theorem dX6_does_4 : decode cX6_does 4 = .ok (.idiv, 1) := by decide +kernel
theorem dX6_does_5 : decode cX6_does 5 = .ok (.iconst 1, 1) := by decide +kernel
theorem dX6_does_6 : decode cX6_does 6 = .ok (.if_icmp .ne 25, 3) := by decide +kernel
theorem dX6_does_9 : decode cX6_does 9 = .ok (.aload_n 0, 1) := by decide +kernel
theorem dX6_does_10 : decode cX6_does 10 = .ok (.aload_n 0, 1) := by decide +kernel
theorem dX6_does_11 : decode cX6_does 11 = .ok (.getfield 19, 3) := by decide +kernel
theorem dX6_does_14 : decode cX6_does 14 = .ok (.iload_n 1, 1) := by decide +kernel
theorem dX6_does_15 : decode cX6_does 15 = .ok (.bipush 100, 2) := by decide +kernel
theorem dX6_does_17 : decode cX6_does 17 = .ok (.idiv, 1) := by decide +kernel
theorem dX6_does_18 : decode cX6_does 18 = .ok (.bipush 100, 2) := by decide +kernel
theorem dX6_does_20 : decode cX6_does 20 = .ok (.irem, 1) := by decide +kernel
theorem dX6_does_21 : decode cX6_does 21 = .ok (.iload_n 1, 1) := by decide +kernel
theorem dX6_does_22 : decode cX6_does 22 = .ok (.bipush 100, 2) := by decide +kernel
theorem dX6_does_24 : decode cX6_does 24 = .ok (.irem, 1) := by decide +kernel
theorem dX6_does_25 : decode cX6_does 25 = .ok (.invokevirtual 208, 3) := by decide +kernel
theorem dX6_does_28 : decode cX6_does 28 = .ok (.pop, 1) := by decide +kernel
theorem dX6_does_29 : decode cX6_does 29 = .ok (.iconst 1, 1) := by decide +kernel
theorem dX6_does_30 : decode cX6_does 30 = .ok (.ireturn, 1) := by decide +kernel
theorem dX6_does_31 : decode cX6_does 31 = .ok (.iload_n 1, 1) := by decide +kernel
theorem dX6_does_32 : decode cX6_does 32 = .ok (.sipush 20000, 3) := by decide +kernel
theorem dX6_does_35 : decode cX6_does 35 = .ok (.if_icmp .ne 12, 3) := by decide +kernel
theorem dX6_does_38 : decode cX6_does 38 = .ok (.aload_n 0, 1) := by decide +kernel
theorem dX6_does_39 : decode cX6_does 39 = .ok (.getfield 19, 3) := by decide +kernel
theorem dX6_does_42 : decode cX6_does 42 = .ok (.invokestatic 181, 3) := by decide +kernel
theorem dX6_does_45 : decode cX6_does 45 = .ok (.iconst 1, 1) := by decide +kernel
theorem dX6_does_46 : decode cX6_does 46 = .ok (.ireturn, 1) := by decide +kernel
theorem dX6_does_47 : decode cX6_does 47 = .ok (.aload_n 0, 1) := by decide +kernel
theorem dX6_does_48 : decode cX6_does 48 = .ok (.iload_n 1, 1) := by decide +kernel
theorem dX6_does_49 : decode cX6_does 49 = .ok (.sipush 10000, 3) := by decide +kernel
theorem dX6_does_52 : decode cX6_does 52 = .ok (.idiv, 1) := by decide +kernel
theorem dX6_does_53 : decode cX6_does 53 = .ok (.iload_n 1, 1) := by decide +kernel
theorem dX6_does_54 : decode cX6_does 54 = .ok (.sipush 1000, 3) := by decide +kernel
theorem dX6_does_57 : decode cX6_does 57 = .ok (.idiv, 1) := by decide +kernel
theorem dX6_does_58 : decode cX6_does 58 = .ok (.bipush 10, 2) := by decide +kernel
theorem dX6_does_60 : decode cX6_does 60 = .ok (.irem, 1) := by decide +kernel
theorem dX6_does_61 : decode cX6_does 61 = .ok (.iload_n 1, 1) := by decide +kernel
theorem dX6_does_62 : decode cX6_does 62 = .ok (.bipush 100, 2) := by decide +kernel
theorem dX6_does_64 : decode cX6_does 64 = .ok (.idiv, 1) := by decide +kernel
theorem dX6_does_65 : decode cX6_does 65 = .ok (.bipush 10, 2) := by decide +kernel
theorem dX6_does_67 : decode cX6_does 67 = .ok (.irem, 1) := by decide +kernel
theorem dX6_does_68 : decode cX6_does 68 = .ok (.iload_n 1, 1) := by decide +kernel
theorem dX6_does_69 : decode cX6_does 69 = .ok (.bipush 100, 2) := by decide +kernel
theorem dX6_does_71 : decode cX6_does 71 = .ok (.irem, 1) := by decide +kernel
theorem dX6_does_72 : decode cX6_does 72 = .ok (.invokevirtual 238, 3) := by decide +kernel
theorem dX6_does_75 : decode cX6_does 75 = .ok (.ireturn, 1) := by decide +kernel
theorem dX6_judge_0 : decode cX6_judge 0 = .ok (.aload_n 0, 1) := by decide +kernel
theorem dX6_judge_1 : decode cX6_judge 1 = .ok (.iconst 0, 1) := by decide +kernel
theorem dX6_judge_2 : decode cX6_judge 2 = .ok (.putfield 62, 3) := by decide +kernel
theorem dX6_judge_5 : decode cX6_judge 5 = .ok (.iload_n 1, 1) := by decide +kernel
theorem dX6_judge_6 : decode cX6_judge 6 = .ok (.i2l, 1) := by decide +kernel
theorem dX6_judge_7 : decode cX6_judge 7 = .ok (.lconst 1, 1) := by decide +kernel
theorem dX6_judge_8 : decode cX6_judge 8 = .ok (.ldc2_w 241, 3) := by decide +kernel
theorem dX6_judge_11 : decode cX6_judge 11 = .ok (.invokestatic 66, 3) := by decide +kernel
theorem dX6_judge_14 : decode cX6_judge 14 = .ok (.ifCond .eq 20, 3) := by decide +kernel
theorem dX6_judge_17 : decode cX6_judge 17 = .ok (.lload_n 2, 1) := by decide +kernel
theorem dX6_judge_18 : decode cX6_judge 18 = .ok (.lconst 0, 1) := by decide +kernel
theorem dX6_judge_19 : decode cX6_judge 19 = .ok (.ldc2_w 243, 3) := by decide +kernel
theorem dX6_judge_22 : decode cX6_judge 22 = .ok (.iload_n 1, 1) := by decide +kernel
theorem dX6_judge_23 : decode cX6_judge 23 = .ok (.invokestatic 245, 3) := by decide +kernel
theorem dX6_judge_26 : decode cX6_judge 26 = .ok (.lconst 1, 1) := by decide +kernel
theorem dX6_judge_27 : decode cX6_judge 27 = .ok (.lsub, 1) := by decide +kernel
theorem dX6_judge_28 : decode cX6_judge 28 = .ok (.invokestatic 66, 3) := by decide +kernel
theorem dX6_judge_31 : decode cX6_judge 31 = .ok (.ifCond .ne 6, 3) := by decide +kernel
theorem dX6_judge_34 : decode cX6_judge 34 = .ok (.bipush (-2), 2) := by decide +kernel
theorem dX6_judge_36 : decode cX6_judge 36 = .ok (.ireturn, 1) := by decide +kernel
theorem dX6_judge_37 : decode cX6_judge 37 = .ok (.aload_n 0, 1) := by decide +kernel
theorem dX6_judge_38 : decode cX6_judge 38 = .ok (.invokevirtual 187, 3) := by decide +kernel
theorem dX6_judge_41 : decode cX6_judge 41 = .ok (.ifCond .ne 6, 3) := by decide +kernel
theorem dX6_judge_44 : decode cX6_judge 44 = .ok (.bipush (-3), 2) := by decide +kernel
theorem dX6_judge_46 : decode cX6_judge 46 = .ok (.ireturn, 1) := by decide +kernel
theorem dX6_judge_47 : decode cX6_judge 47 = .ok (.aload_n 0, 1) := by decide +kernel
theorem dX6_judge_48 : decode cX6_judge 48 = .ok (.invokevirtual 219, 3) := by decide +kernel
theorem dX6_judge_51 : decode cX6_judge 51 = .ok (.iconst 0, 1) := by decide +kernel
theorem dX6_judge_52 : decode cX6_judge 52 = .ok (.istore 4, 2) := by decide +kernel
theorem dX6_judge_54 : decode cX6_judge 54 = .ok (.iload 4, 2) := by decide +kernel
theorem dX6_judge_56 : decode cX6_judge 56 = .ok (.iload_n 1, 1) := by decide +kernel
theorem dX6_judge_57 : decode cX6_judge 57 = .ok (.if_icmp .ge 38, 3) := by decide +kernel
theorem dX6_judge_60 : decode cX6_judge 60 = .ok (.aload_n 0, 1) := by decide +kernel
theorem dX6_judge_61 : decode cX6_judge 61 = .ok (.lload_n 2, 1) := by decide +kernel
theorem dX6_judge_62 : decode cX6_judge 62 = .ok (.ldc2_w 243, 3) := by decide +kernel
theorem dX6_judge_65 : decode cX6_judge 65 = .ok (.iload_n 1, 1) := by decide +kernel
theorem dX6_judge_66 : decode cX6_judge 66 = .ok (.iconst 1, 1) := by decide +kernel
theorem dX6_judge_67 : decode cX6_judge 67 = .ok (.isub, 1) := by decide +kernel
theorem dX6_judge_68 : decode cX6_judge 68 = .ok (.iload 4, 2) := by decide +kernel
theorem dX6_judge_70 : decode cX6_judge 70 = .ok (.isub, 1) := by decide +kernel
theorem dX6_judge_71 : decode cX6_judge 71 = .ok (.invokestatic 245, 3) := by decide +kernel
theorem dX6_judge_74 : decode cX6_judge 74 = .ok (.ldiv, 1) := by decide +kernel
theorem dX6_judge_75 : decode cX6_judge 75 = .ok (.ldc2_w 243, 3) := by decide +kernel
theorem dX6_judge_78 : decode cX6_judge 78 = .ok (.lrem, 1) := by decide +kernel
theorem dX6_judge_79 : decode cX6_judge 79 = .ok (.l2i, 1) := by decide +kernel
theorem dX6_judge_80 : decode cX6_judge 80 = .ok (.invokevirtual 249, 3) := by decide +kernel
theorem dX6_judge_83 : decode cX6_judge 83 = .ok (.ifCond .ne 6, 3) := by decide +kernel
theorem dX6_judge_86 : decode cX6_judge 86 = .ok (.iload 4, 2) := by decide +kernel
theorem dX6_judge_88 : decode cX6_judge 88 = .ok (.ireturn, 1) := by decide +kernel
theorem dX6_judge_89 : decode cX6_judge 89 = .ok (.iinc 4 1, 3) := by decide +kernel
theorem dX6_judge_92 : decode cX6_judge 92 = .ok (.goto (-38), 3) := by decide +kernel
theorem dX6_judge_95 : decode cX6_judge 95 = .ok (.bipush (-9), 2) := by decide +kernel
theorem dX6_judge_97 : decode cX6_judge 97 = .ok (.ireturn, 1) := by decide +kernel
theorem dX6_see_0 : decode cX6_see 0 = .ok (.aload_n 0, 1) := by decide +kernel
theorem dX6_see_1 : decode cX6_see 1 = .ok (.iconst 0, 1) := by decide +kernel
theorem dX6_see_2 : decode cX6_see 2 = .ok (.putfield 62, 3) := by decide +kernel
theorem dX6_see_5 : decode cX6_see 5 = .ok (.iload_n 1, 1) := by decide +kernel
theorem dX6_see_6 : decode cX6_see 6 = .ok (.i2l, 1) := by decide +kernel
theorem dX6_see_7 : decode cX6_see 7 = .ok (.lconst 1, 1) := by decide +kernel
theorem dX6_see_8 : decode cX6_see 8 = .ok (.ldc2_w 252, 3) := by decide +kernel
theorem dX6_see_11 : decode cX6_see 11 = .ok (.invokestatic 66, 3) := by decide +kernel
theorem dX6_see_14 : decode cX6_see 14 = .ok (.ifCond .eq 38, 3) := by decide +kernel
theorem dX6_see_17 : decode cX6_see 17 = .ok (.iload_n 2, 1) := by decide +kernel
theorem dX6_see_18 : decode cX6_see 18 = .ok (.i2l, 1) := by decide +kernel
theorem dX6_see_19 : decode cX6_see 19 = .ok (.lconst 0, 1) := by decide +kernel
theorem dX6_see_20 : decode cX6_see 20 = .ok (.ldc2_w 254, 3) := by decide +kernel
theorem dX6_see_23 : decode cX6_see 23 = .ok (.invokestatic 66, 3) := by decide +kernel
theorem dX6_see_26 : decode cX6_see 26 = .ok (.ifCond .eq 26, 3) := by decide +kernel
theorem dX6_see_29 : decode cX6_see 29 = .ok (.iload_n 3, 1) := by decide +kernel
theorem dX6_see_30 : decode cX6_see 30 = .ok (.i2l, 1) := by decide +kernel
theorem dX6_see_31 : decode cX6_see 31 = .ok (.lconst 0, 1) := by decide +kernel
theorem dX6_see_32 : decode cX6_see 32 = .ok (.ldc2_w 200, 3) := by decide +kernel
theorem dX6_see_35 : decode cX6_see 35 = .ok (.invokestatic 66, 3) := by decide +kernel
theorem dX6_see_38 : decode cX6_see 38 = .ok (.ifCond .eq 14, 3) := by decide +kernel
theorem dX6_see_41 : decode cX6_see 41 = .ok (.iload 4, 2) := by decide +kernel
theorem dX6_see_43 : decode cX6_see 43 = .ok (.i2l, 1) := by decide +kernel
theorem dX6_see_44 : decode cX6_see 44 = .ok (.lconst 0, 1) := by decide +kernel
theorem dX6_see_45 : decode cX6_see 45 = .ok (.lconst 1, 1) := by decide +kernel
theorem dX6_see_46 : decode cX6_see 46 = .ok (.invokestatic 66, 3) := by decide +kernel
theorem dX6_see_49 : decode cX6_see 49 = .ok (.ifCond .ne 6, 3) := by decide +kernel
theorem dX6_see_52 : decode cX6_see 52 = .ok (.bipush (-2), 2) := by decide +kernel
theorem dX6_see_54 : decode cX6_see 54 = .ok (.ireturn, 1) := by decide +kernel
theorem dX6_see_55 : decode cX6_see 55 = .ok (.aload_n 0, 1) := by decide +kernel
theorem dX6_see_56 : decode cX6_see 56 = .ok (.getfield 193, 3) := by decide +kernel
theorem dX6_see_59 : decode cX6_see 59 = .ok (.bipush 6, 2) := by decide +kernel
theorem dX6_see_61 : decode cX6_see 61 = .ok (.if_icmp .ne 6, 3) := by decide +kernel
theorem dX6_see_64 : decode cX6_see 64 = .ok (.bipush (-4), 2) := by decide +kernel
theorem dX6_see_66 : decode cX6_see 66 = .ok (.ireturn, 1) := by decide +kernel
theorem dX6_see_67 : decode cX6_see 67 = .ok (.aload_n 0, 1) := by decide +kernel
theorem dX6_see_68 : decode cX6_see 68 = .ok (.getfield 32, 3) := by decide +kernel
theorem dX6_see_71 : decode cX6_see 71 = .ok (.aload_n 0, 1) := by decide +kernel
theorem dX6_see_72 : decode cX6_see 72 = .ok (.getfield 193, 3) := by decide +kernel
theorem dX6_see_75 : decode cX6_see 75 = .ok (.iload_n 1, 1) := by decide +kernel
theorem dX6_see_76 : decode cX6_see 76 = .ok (.iastore, 1) := by decide +kernel
theorem dX6_see_77 : decode cX6_see 77 = .ok (.aload_n 0, 1) := by decide +kernel
theorem dX6_see_78 : decode cX6_see 78 = .ok (.getfield 35, 3) := by decide +kernel
theorem dX6_see_81 : decode cX6_see 81 = .ok (.aload_n 0, 1) := by decide +kernel
theorem dX6_see_82 : decode cX6_see 82 = .ok (.getfield 193, 3) := by decide +kernel
theorem dX6_see_85 : decode cX6_see 85 = .ok (.iload_n 2, 1) := by decide +kernel
theorem dX6_see_86 : decode cX6_see 86 = .ok (.iastore, 1) := by decide +kernel
theorem dX6_see_87 : decode cX6_see 87 = .ok (.aload_n 0, 1) := by decide +kernel
theorem dX6_see_88 : decode cX6_see 88 = .ok (.getfield 38, 3) := by decide +kernel
theorem dX6_see_91 : decode cX6_see 91 = .ok (.aload_n 0, 1) := by decide +kernel
theorem dX6_see_92 : decode cX6_see 92 = .ok (.getfield 193, 3) := by decide +kernel
theorem dX6_see_95 : decode cX6_see 95 = .ok (.iload_n 3, 1) := by decide +kernel
theorem dX6_see_96 : decode cX6_see 96 = .ok (.iastore, 1) := by decide +kernel
theorem dX6_see_97 : decode cX6_see 97 = .ok (.aload_n 0, 1) := by decide +kernel
theorem dX6_see_98 : decode cX6_see 98 = .ok (.getfield 41, 3) := by decide +kernel
theorem dX6_see_101 : decode cX6_see 101 = .ok (.aload_n 0, 1) := by decide +kernel
theorem dX6_see_102 : decode cX6_see 102 = .ok (.getfield 193, 3) := by decide +kernel
theorem dX6_see_105 : decode cX6_see 105 = .ok (.iload 4, 2) := by decide +kernel
theorem dX6_see_107 : decode cX6_see 107 = .ok (.iastore, 1) := by decide +kernel
theorem dX6_see_108 : decode cX6_see 108 = .ok (.aload_n 0, 1) := by decide +kernel
theorem dX6_see_109 : decode cX6_see 109 = .ok (.dup, 1) := by decide +kernel
theorem dX6_see_110 : decode cX6_see 110 = .ok (.getfield 193, 3) := by decide +kernel
theorem dX6_see_113 : decode cX6_see 113 = .ok (.iconst 1, 1) := by decide +kernel
theorem dX6_see_114 : decode cX6_see 114 = .ok (.iadd, 1) := by decide +kernel
theorem dX6_see_115 : decode cX6_see 115 = .ok (.putfield 193, 3) := by decide +kernel
theorem dX6_see_118 : decode cX6_see 118 = .ok (.aload_n 0, 1) := by decide +kernel
theorem dX6_see_119 : decode cX6_see 119 = .ok (.getfield 193, 3) := by decide +kernel
theorem dX6_see_122 : decode cX6_see 122 = .ok (.ireturn, 1) := by decide +kernel
theorem dX6_unsee_0 : decode cX6_unsee 0 = .ok (.aload_n 0, 1) := by decide +kernel
theorem dX6_unsee_1 : decode cX6_unsee 1 = .ok (.iconst 0, 1) := by decide +kernel
theorem dX6_unsee_2 : decode cX6_unsee 2 = .ok (.putfield 62, 3) := by decide +kernel
theorem dX6_unsee_5 : decode cX6_unsee 5 = .ok (.aload_n 0, 1) := by decide +kernel
theorem dX6_unsee_6 : decode cX6_unsee 6 = .ok (.getfield 193, 3) := by decide +kernel
theorem dX6_unsee_9 : decode cX6_unsee 9 = .ok (.istore_n 1, 1) := by decide +kernel
theorem dX6_unsee_10 : decode cX6_unsee 10 = .ok (.aload_n 0, 1) := by decide +kernel
theorem dX6_unsee_11 : decode cX6_unsee 11 = .ok (.iconst 0, 1) := by decide +kernel
theorem dX6_unsee_12 : decode cX6_unsee 12 = .ok (.putfield 193, 3) := by decide +kernel
theorem dX6_unsee_15 : decode cX6_unsee 15 = .ok (.iload_n 1, 1) := by decide +kernel
theorem dX6_unsee_16 : decode cX6_unsee 16 = .ok (.ireturn, 1) := by decide +kernel
theorem dX6_explains_0 : decode cX6_explains 0 = .ok (.aload_n 0, 1) := by decide +kernel
theorem dX6_explains_1 : decode cX6_explains 1 = .ok (.invokevirtual 219, 3) := by decide +kernel
theorem dX6_explains_4 : decode cX6_explains 4 = .ok (.aload_n 0, 1) := by decide +kernel
theorem dX6_explains_5 : decode cX6_explains 5 = .ok (.getfield 19, 3) := by decide +kernel
theorem dX6_explains_8 : decode cX6_explains 8 = .ok (.invokestatic 181, 3) := by decide +kernel
theorem dX6_explains_11 : decode cX6_explains 11 = .ok (.iconst 1, 1) := by decide +kernel
theorem dX6_explains_12 : decode cX6_explains 12 = .ok (.istore_n 3, 1) := by decide +kernel
theorem dX6_explains_13 : decode cX6_explains 13 = .ok (.iconst 1, 1) := by decide +kernel
theorem dX6_explains_14 : decode cX6_explains 14 = .ok (.istore 4, 2) := by decide +kernel
theorem dX6_explains_16 : decode cX6_explains 16 = .ok (.iload 4, 2) := by decide +kernel
theorem dX6_explains_18 : decode cX6_explains 18 = .ok (.bipush 12, 2) := by decide +kernel
theorem dX6_explains_20 : decode cX6_explains 20 = .ok (.if_icmp .gt 109, 3) := by decide +kernel
theorem dX6_explains_23 : decode cX6_explains 23 = .ok (.aload_n 0, 1) := by decide +kernel
theorem dX6_explains_24 : decode cX6_explains 24 = .ok (.aload_n 0, 1) := by decide +kernel
theorem dX6_explains_25 : decode cX6_explains 25 = .ok (.getfield 19, 3) := by decide +kernel
theorem dX6_explains_28 : decode cX6_explains 28 = .ok (.iload_n 1, 1) := by decide +kernel
theorem dX6_explains_29 : decode cX6_explains 29 = .ok (.iload_n 2, 1) := by decide +kernel
theorem dX6_explains_30 : decode cX6_explains 30 = .ok (.invokevirtual 208, 3) := by decide +kernel
theorem dX6_explains_33 : decode cX6_explains 33 = .ok (.pop, 1) := by decide +kernel
theorem dX6_explains_34 : decode cX6_explains 34 = .ok (.iconst 0, 1) := by decide +kernel
theorem dX6_explains_35 : decode cX6_explains 35 = .ok (.istore 5, 2) := by decide +kernel
theorem dX6_explains_37 : decode cX6_explains 37 = .ok (.iload 5, 2) := by decide +kernel
theorem dX6_explains_39 : decode cX6_explains 39 = .ok (.aload_n 0, 1) := by decide +kernel
theorem dX6_explains_40 : decode cX6_explains 40 = .ok (.getfield 193, 3) := by decide +kernel
theorem dX6_explains_43 : decode cX6_explains 43 = .ok (.if_icmp .ge 80, 3) := by decide +kernel
theorem dX6_explains_46 : decode cX6_explains 46 = .ok (.iload_n 3, 1) := by decide +kernel
theorem dX6_explains_47 : decode cX6_explains 47 = .ok (.ifCond .eq 68, 3) := by decide +kernel
theorem dX6_explains_50 : decode cX6_explains 50 = .ok (.aload_n 0, 1) := by decide +kernel
theorem dX6_explains_51 : decode cX6_explains 51 = .ok (.getfield 32, 3) := by decide +kernel
theorem dX6_explains_54 : decode cX6_explains 54 = .ok (.iload 5, 2) := by decide +kernel
theorem dX6_explains_56 : decode cX6_explains 56 = .ok (.iaload, 1) := by decide +kernel
theorem dX6_explains_57 : decode cX6_explains 57 = .ok (.iload 4, 2) := by decide +kernel
theorem dX6_explains_59 : decode cX6_explains 59 = .ok (.if_icmp .ne 52, 3) := by decide +kernel
theorem dX6_explains_62 : decode cX6_explains 62 = .ok (.aload_n 0, 1) := by decide +kernel
theorem dX6_explains_63 : decode cX6_explains 63 = .ok (.getfield 19, 3) := by decide +kernel
theorem dX6_explains_66 : decode cX6_explains 66 = .ok (.bipush 41, 2) := by decide +kernel
theorem dX6_explains_68 : decode cX6_explains 68 = .ok (.aload_n 0, 1) := by decide +kernel
theorem dX6_explains_69 : decode cX6_explains 69 = .ok (.getfield 35, 3) := by decide +kernel
theorem dX6_explains_72 : decode cX6_explains 72 = .ok (.iload 5, 2) := by decide +kernel
theorem dX6_explains_74 : decode cX6_explains 74 = .ok (.iaload, 1) := by decide +kernel
theorem dX6_explains_75 : decode cX6_explains 75 = .ok (.iadd, 1) := by decide +kernel
theorem dX6_explains_76 : decode cX6_explains 76 = .ok (.iaload, 1) := by decide +kernel
theorem dX6_explains_77 : decode cX6_explains 77 = .ok (.aload_n 0, 1) := by decide +kernel
theorem dX6_explains_78 : decode cX6_explains 78 = .ok (.getfield 38, 3) := by decide +kernel
theorem dX6_explains_81 : decode cX6_explains 81 = .ok (.iload 5, 2) := by decide +kernel
theorem dX6_explains_83 : decode cX6_explains 83 = .ok (.iaload, 1) := by decide +kernel
theorem dX6_explains_84 : decode cX6_explains 84 = .ok (.if_icmp .ne 7, 3) := by decide +kernel
theorem dX6_explains_87 : decode cX6_explains 87 = .ok (.iconst 1, 1) := by decide +kernel
theorem dX6_explains_88 : decode cX6_explains 88 = .ok (.goto 4, 3) := by decide +kernel
theorem dX6_explains_91 : decode cX6_explains 91 = .ok (.iconst 0, 1) := by decide +kernel
theorem dX6_explains_92 : decode cX6_explains 92 = .ok (.aload_n 0, 1) := by decide +kernel
theorem dX6_explains_93 : decode cX6_explains 93 = .ok (.getfield 41, 3) := by decide +kernel
theorem dX6_explains_96 : decode cX6_explains 96 = .ok (.iload 5, 2) := by decide +kernel
theorem dX6_explains_98 : decode cX6_explains 98 = .ok (.iaload, 1) := by decide +kernel
theorem dX6_explains_99 : decode cX6_explains 99 = .ok (.iconst 1, 1) := by decide +kernel
theorem dX6_explains_100 : decode cX6_explains 100 = .ok (.if_icmp .ne 7, 3) := by decide +kernel
theorem dX6_explains_103 : decode cX6_explains 103 = .ok (.iconst 1, 1) := by decide +kernel
theorem dX6_explains_104 : decode cX6_explains 104 = .ok (.goto 4, 3) := by decide +kernel
theorem dX6_explains_107 : decode cX6_explains 107 = .ok (.iconst 0, 1) := by decide +kernel
theorem dX6_explains_108 : decode cX6_explains 108 = .ok (.if_icmp .ne 7, 3) := by decide +kernel
theorem dX6_explains_111 : decode cX6_explains 111 = .ok (.iconst 1, 1) := by decide +kernel
theorem dX6_explains_112 : decode cX6_explains 112 = .ok (.goto 4, 3) := by decide +kernel
theorem dX6_explains_115 : decode cX6_explains 115 = .ok (.iconst 0, 1) := by decide +kernel
theorem dX6_explains_116 : decode cX6_explains 116 = .ok (.istore_n 3, 1) := by decide +kernel
theorem dX6_explains_117 : decode cX6_explains 117 = .ok (.iinc 5 1, 3) := by decide +kernel
theorem dX6_explains_120 : decode cX6_explains 120 = .ok (.goto (-83), 3) := by decide +kernel
theorem dX6_explains_123 : decode cX6_explains 123 = .ok (.iinc 4 1, 3) := by decide +kernel
theorem dX6_explains_126 : decode cX6_explains 126 = .ok (.goto (-110), 3) := by decide +kernel
theorem dX6_explains_129 : decode cX6_explains 129 = .ok (.iload_n 3, 1) := by decide +kernel
theorem dX6_explains_130 : decode cX6_explains 130 = .ok (.ireturn, 1) := by decide +kernel
theorem dX6_inputs_0 : decode cX6_inputs 0 = .ok (.aload_n 0, 1) := by decide +kernel
theorem dX6_inputs_1 : decode cX6_inputs 1 = .ok (.iconst 0, 1) := by decide +kernel
theorem dX6_inputs_2 : decode cX6_inputs 2 = .ok (.putfield 62, 3) := by decide +kernel
theorem dX6_inputs_5 : decode cX6_inputs 5 = .ok (.iload_n 1, 1) := by decide +kernel
theorem dX6_inputs_6 : decode cX6_inputs 6 = .ok (.i2l, 1) := by decide +kernel
theorem dX6_inputs_7 : decode cX6_inputs 7 = .ok (.lconst 0, 1) := by decide +kernel
theorem dX6_inputs_8 : decode cX6_inputs 8 = .ok (.lconst 1, 1) := by decide +kernel
theorem dX6_inputs_9 : decode cX6_inputs 9 = .ok (.invokestatic 66, 3) := by decide +kernel
theorem dX6_inputs_12 : decode cX6_inputs 12 = .ok (.ifCond .ne 6, 3) := by decide +kernel
theorem dX6_inputs_15 : decode cX6_inputs 15 = .ok (.bipush (-2), 2) := by decide +kernel
theorem dX6_inputs_17 : decode cX6_inputs 17 = .ok (.ireturn, 1) := by decide +kernel
theorem dX6_inputs_18 : decode cX6_inputs 18 = .ok (.aload_n 0, 1) := by decide +kernel
theorem dX6_inputs_19 : decode cX6_inputs 19 = .ok (.invokevirtual 187, 3) := by decide +kernel
theorem dX6_inputs_22 : decode cX6_inputs 22 = .ok (.ifCond .ne 6, 3) := by decide +kernel
theorem dX6_inputs_25 : decode cX6_inputs 25 = .ok (.bipush (-3), 2) := by decide +kernel
theorem dX6_inputs_27 : decode cX6_inputs 27 = .ok (.ireturn, 1) := by decide +kernel
theorem dX6_inputs_28 : decode cX6_inputs 28 = .ok (.aload_n 0, 1) := by decide +kernel
theorem dX6_inputs_29 : decode cX6_inputs 29 = .ok (.iconst 0, 1) := by decide +kernel
theorem dX6_inputs_30 : decode cX6_inputs 30 = .ok (.putfield 256, 3) := by decide +kernel
theorem dX6_inputs_33 : decode cX6_inputs 33 = .ok (.aload_n 0, 1) := by decide +kernel
theorem dX6_inputs_34 : decode cX6_inputs 34 = .ok (.bipush (-9), 2) := by decide +kernel
theorem dX6_inputs_36 : decode cX6_inputs 36 = .ok (.putfield 259, 3) := by decide +kernel
theorem dX6_inputs_39 : decode cX6_inputs 39 = .ok (.iconst 0, 1) := by decide +kernel
theorem dX6_inputs_40 : decode cX6_inputs 40 = .ok (.istore_n 2, 1) := by decide +kernel
theorem dX6_inputs_41 : decode cX6_inputs 41 = .ok (.iload_n 2, 1) := by decide +kernel
theorem dX6_inputs_42 : decode cX6_inputs 42 = .ok (.bipush 100, 2) := by decide +kernel
theorem dX6_inputs_44 : decode cX6_inputs 44 = .ok (.if_icmp .ge 63, 3) := by decide +kernel
theorem dX6_inputs_47 : decode cX6_inputs 47 = .ok (.aload_n 0, 1) := by decide +kernel
theorem dX6_inputs_48 : decode cX6_inputs 48 = .ok (.iload_n 2, 1) := by decide +kernel
theorem dX6_inputs_49 : decode cX6_inputs 49 = .ok (.bipush 10, 2) := by decide +kernel
theorem dX6_inputs_51 : decode cX6_inputs 51 = .ok (.idiv, 1) := by decide +kernel
theorem dX6_inputs_52 : decode cX6_inputs 52 = .ok (.iload_n 2, 1) := by decide +kernel
theorem dX6_inputs_53 : decode cX6_inputs 53 = .ok (.bipush 10, 2) := by decide +kernel
theorem dX6_inputs_55 : decode cX6_inputs 55 = .ok (.irem, 1) := by decide +kernel
theorem dX6_inputs_56 : decode cX6_inputs 56 = .ok (.invokevirtual 262, 3) := by decide +kernel
theorem dX6_inputs_59 : decode cX6_inputs 59 = .ok (.istore_n 3, 1) := by decide +kernel
theorem dX6_inputs_60 : decode cX6_inputs 60 = .ok (.aload_n 0, 1) := by decide +kernel
theorem dX6_inputs_61 : decode cX6_inputs 61 = .ok (.iload_n 3, 1) := by decide +kernel
theorem dX6_inputs_62 : decode cX6_inputs 62 = .ok (.ifCond .eq 14, 3) := by decide +kernel
theorem dX6_inputs_65 : decode cX6_inputs 65 = .ok (.aload_n 0, 1) := by decide +kernel
theorem dX6_inputs_66 : decode cX6_inputs 66 = .ok (.getfield 256, 3) := by decide +kernel
theorem dX6_inputs_69 : decode cX6_inputs 69 = .ok (.ifCond .ne 7, 3) := by decide +kernel
theorem dX6_inputs_72 : decode cX6_inputs 72 = .ok (.iload_n 2, 1) := by decide +kernel
theorem dX6_inputs_73 : decode cX6_inputs 73 = .ok (.goto 7, 3) := by decide +kernel
theorem dX6_inputs_76 : decode cX6_inputs 76 = .ok (.aload_n 0, 1) := by decide +kernel
theorem dX6_inputs_77 : decode cX6_inputs 77 = .ok (.getfield 259, 3) := by decide +kernel
theorem dX6_inputs_80 : decode cX6_inputs 80 = .ok (.putfield 259, 3) := by decide +kernel
theorem dX6_inputs_83 : decode cX6_inputs 83 = .ok (.aload_n 0, 1) := by decide +kernel
theorem dX6_inputs_84 : decode cX6_inputs 84 = .ok (.dup, 1) := by decide +kernel
theorem dX6_inputs_85 : decode cX6_inputs 85 = .ok (.getfield 256, 3) := by decide +kernel
theorem dX6_inputs_88 : decode cX6_inputs 88 = .ok (.iload_n 3, 1) := by decide +kernel
theorem dX6_inputs_89 : decode cX6_inputs 89 = .ok (.ifCond .eq 7, 3) := by decide +kernel
theorem dX6_inputs_92 : decode cX6_inputs 92 = .ok (.iconst 1, 1) := by decide +kernel
theorem dX6_inputs_93 : decode cX6_inputs 93 = .ok (.goto 4, 3) := by decide +kernel
theorem dX6_inputs_96 : decode cX6_inputs 96 = .ok (.iconst 0, 1) := by decide +kernel
theorem dX6_inputs_97 : decode cX6_inputs 97 = .ok (.iadd, 1) := by decide +kernel
theorem dX6_inputs_98 : decode cX6_inputs 98 = .ok (.putfield 256, 3) := by decide +kernel
theorem dX6_inputs_101 : decode cX6_inputs 101 = .ok (.iinc 2 1, 3) := by decide +kernel
theorem dX6_inputs_104 : decode cX6_inputs 104 = .ok (.goto (-63), 3) := by decide +kernel
theorem dX6_inputs_107 : decode cX6_inputs 107 = .ok (.iload_n 1, 1) := by decide +kernel
theorem dX6_inputs_108 : decode cX6_inputs 108 = .ok (.ifCond .ne 10, 3) := by decide +kernel
theorem dX6_inputs_111 : decode cX6_inputs 111 = .ok (.aload_n 0, 1) := by decide +kernel
theorem dX6_inputs_112 : decode cX6_inputs 112 = .ok (.getfield 256, 3) := by decide +kernel
theorem dX6_inputs_115 : decode cX6_inputs 115 = .ok (.goto 7, 3) := by decide +kernel
theorem dX6_inputs_118 : decode cX6_inputs 118 = .ok (.aload_n 0, 1) := by decide +kernel
theorem dX6_inputs_119 : decode cX6_inputs 119 = .ok (.getfield 259, 3) := by decide +kernel
theorem dX6_inputs_122 : decode cX6_inputs 122 = .ok (.ireturn, 1) := by decide +kernel
theorem dX6_divisor_0 : decode cX6_divisor 0 = .ok (.iload_n 0, 1) := by decide +kernel
theorem dX6_divisor_1 : decode cX6_divisor 1 = .ok (.istore_n 2, 1) := by decide +kernel
theorem dX6_divisor_2 : decode cX6_divisor 2 = .ok (.iload_n 1, 1) := by decide +kernel
theorem dX6_divisor_3 : decode cX6_divisor 3 = .ok (.istore_n 3, 1) := by decide +kernel
theorem dX6_divisor_4 : decode cX6_divisor 4 = .ok (.iload_n 3, 1) := by decide +kernel
theorem dX6_divisor_5 : decode cX6_divisor 5 = .ok (.ifCond .eq 16, 3) := by decide +kernel
theorem dX6_divisor_8 : decode cX6_divisor 8 = .ok (.iload_n 2, 1) := by decide +kernel
theorem dX6_divisor_9 : decode cX6_divisor 9 = .ok (.iload_n 3, 1) := by decide +kernel
theorem dX6_divisor_10 : decode cX6_divisor 10 = .ok (.irem, 1) := by decide +kernel
theorem dX6_divisor_11 : decode cX6_divisor 11 = .ok (.istore 4, 2) := by decide +kernel
theorem dX6_divisor_13 : decode cX6_divisor 13 = .ok (.iload_n 3, 1) := by decide +kernel
theorem dX6_divisor_14 : decode cX6_divisor 14 = .ok (.istore_n 2, 1) := by decide +kernel
theorem dX6_divisor_15 : decode cX6_divisor 15 = .ok (.iload 4, 2) := by decide +kernel
theorem dX6_divisor_17 : decode cX6_divisor 17 = .ok (.istore_n 3, 1) := by decide +kernel
theorem dX6_divisor_18 : decode cX6_divisor 18 = .ok (.goto (-14), 3) := by decide +kernel
theorem dX6_divisor_21 : decode cX6_divisor 21 = .ok (.iload_n 2, 1) := by decide +kernel
theorem dX6_divisor_22 : decode cX6_divisor 22 = .ok (.ireturn, 1) := by decide +kernel
theorem dX6_fraction_0 : decode cX6_fraction 0 = .ok (.iload_n 0, 1) := by decide +kernel
theorem dX6_fraction_1 : decode cX6_fraction 1 = .ok (.iload_n 1, 1) := by decide +kernel
theorem dX6_fraction_2 : decode cX6_fraction 2 = .ok (.invokestatic 265, 3) := by decide +kernel
theorem dX6_fraction_5 : decode cX6_fraction 5 = .ok (.istore_n 3, 1) := by decide +kernel
theorem dX6_fraction_6 : decode cX6_fraction 6 = .ok (.iload_n 2, 1) := by decide +kernel
theorem dX6_fraction_7 : decode cX6_fraction 7 = .ok (.ifCond .eq 9, 3) := by decide +kernel
theorem dX6_fraction_10 : decode cX6_fraction 10 = .ok (.iload_n 0, 1) := by decide +kernel
theorem dX6_fraction_11 : decode cX6_fraction 11 = .ok (.iload_n 3, 1) := by decide +kernel
theorem dX6_fraction_12 : decode cX6_fraction 12 = .ok (.idiv, 1) := by decide +kernel
theorem dX6_fraction_13 : decode cX6_fraction 13 = .ok (.goto 6, 3) := by decide +kernel
theorem dX6_fraction_16 : decode cX6_fraction 16 = .ok (.iload_n 1, 1) := by decide +kernel
theorem dX6_fraction_17 : decode cX6_fraction 17 = .ok (.iload_n 3, 1) := by decide +kernel
theorem dX6_fraction_18 : decode cX6_fraction 18 = .ok (.idiv, 1) := by decide +kernel
theorem dX6_fraction_19 : decode cX6_fraction 19 = .ok (.ireturn, 1) := by decide +kernel
theorem dX6_timesThere_0 : decode cX6_timesThere 0 = .ok (.aload_n 0, 1) := by decide +kernel
theorem dX6_timesThere_1 : decode cX6_timesThere 1 = .ok (.invokevirtual 219, 3) := by decide +kernel
theorem dX6_timesThere_4 : decode cX6_timesThere 4 = .ok (.iconst 0, 1) := by decide +kernel
theorem dX6_timesThere_5 : decode cX6_timesThere 5 = .ok (.istore 4, 2) := by decide +kernel
theorem dX6_timesThere_7 : decode cX6_timesThere 7 = .ok (.iconst 0, 1) := by decide +kernel
theorem dX6_timesThere_8 : decode cX6_timesThere 8 = .ok (.istore 5, 2) := by decide +kernel
theorem dX6_timesThere_10 : decode cX6_timesThere 10 = .ok (.iload 5, 2) := by decide +kernel
theorem dX6_timesThere_12 : decode cX6_timesThere 12 = .ok (.iload_n 3, 1) := by decide +kernel
theorem dX6_timesThere_13 : decode cX6_timesThere 13 = .ok (.if_icmp .ge 49, 3) := by decide +kernel
theorem dX6_timesThere_16 : decode cX6_timesThere 16 = .ok (.aload_n 0, 1) := by decide +kernel
theorem dX6_timesThere_17 : decode cX6_timesThere 17 = .ok (.aload_n 0, 1) := by decide +kernel
theorem dX6_timesThere_18 : decode cX6_timesThere 18 = .ok (.getfield 19, 3) := by decide +kernel
theorem dX6_timesThere_21 : decode cX6_timesThere 21 = .ok (.iload_n 2, 1) := by decide +kernel
theorem dX6_timesThere_22 : decode cX6_timesThere 22 = .ok (.iload 5, 2) := by decide +kernel
theorem dX6_timesThere_24 : decode cX6_timesThere 24 = .ok (.ishr, 1) := by decide +kernel
theorem dX6_timesThere_25 : decode cX6_timesThere 25 = .ok (.iconst 1, 1) := by decide +kernel
theorem dX6_timesThere_26 : decode cX6_timesThere 26 = .ok (.iand, 1) := by decide +kernel
theorem dX6_timesThere_27 : decode cX6_timesThere 27 = .ok (.iconst 0, 1) := by decide +kernel
theorem dX6_timesThere_28 : decode cX6_timesThere 28 = .ok (.invokevirtual 208, 3) := by decide +kernel
theorem dX6_timesThere_31 : decode cX6_timesThere 31 = .ok (.pop, 1) := by decide +kernel
theorem dX6_timesThere_32 : decode cX6_timesThere 32 = .ok (.iload 4, 2) := by decide +kernel
theorem dX6_timesThere_34 : decode cX6_timesThere 34 = .ok (.aload_n 0, 1) := by decide +kernel
theorem dX6_timesThere_35 : decode cX6_timesThere 35 = .ok (.getfield 19, 3) := by decide +kernel
theorem dX6_timesThere_38 : decode cX6_timesThere 38 = .ok (.bipush 41, 2) := by decide +kernel
theorem dX6_timesThere_40 : decode cX6_timesThere 40 = .ok (.iload_n 1, 1) := by decide +kernel
theorem dX6_timesThere_41 : decode cX6_timesThere 41 = .ok (.iadd, 1) := by decide +kernel
theorem dX6_timesThere_42 : decode cX6_timesThere 42 = .ok (.iaload, 1) := by decide +kernel
theorem dX6_timesThere_43 : decode cX6_timesThere 43 = .ok (.bipush (-9), 2) := by decide +kernel
theorem dX6_timesThere_45 : decode cX6_timesThere 45 = .ok (.if_icmp .ne 7, 3) := by decide +kernel
theorem dX6_timesThere_48 : decode cX6_timesThere 48 = .ok (.iconst 0, 1) := by decide +kernel
theorem dX6_timesThere_49 : decode cX6_timesThere 49 = .ok (.goto 4, 3) := by decide +kernel
theorem dX6_timesThere_52 : decode cX6_timesThere 52 = .ok (.iconst 1, 1) := by decide +kernel
theorem dX6_timesThere_53 : decode cX6_timesThere 53 = .ok (.iadd, 1) := by decide +kernel
theorem dX6_timesThere_54 : decode cX6_timesThere 54 = .ok (.istore 4, 2) := by decide +kernel
theorem dX6_timesThere_56 : decode cX6_timesThere 56 = .ok (.iinc 5 1, 3) := by decide +kernel
theorem dX6_timesThere_59 : decode cX6_timesThere 59 = .ok (.goto (-49), 3) := by decide +kernel
theorem dX6_timesThere_62 : decode cX6_timesThere 62 = .ok (.iload 4, 2) := by decide +kernel
theorem dX6_timesThere_64 : decode cX6_timesThere 64 = .ok (.ireturn, 1) := by decide +kernel
theorem dX6_odds_0 : decode cX6_odds 0 = .ok (.aload_n 0, 1) := by decide +kernel
theorem dX6_odds_1 : decode cX6_odds 1 = .ok (.iconst 0, 1) := by decide +kernel
theorem dX6_odds_2 : decode cX6_odds 2 = .ok (.putfield 62, 3) := by decide +kernel
theorem dX6_odds_5 : decode cX6_odds 5 = .ok (.aload_n 0, 1) := by decide +kernel
theorem dX6_odds_6 : decode cX6_odds 6 = .ok (.iload_n 1, 1) := by decide +kernel
theorem dX6_odds_7 : decode cX6_odds 7 = .ok (.invokevirtual 196, 3) := by decide +kernel
theorem dX6_odds_10 : decode cX6_odds 10 = .ok (.ifCond .eq 5, 3) := by decide +kernel
theorem dX6_odds_13 : decode cX6_odds 13 = .ok (.iconst (-1), 1) := by decide +kernel
theorem dX6_odds_14 : decode cX6_odds 14 = .ok (.ireturn, 1) := by decide +kernel
theorem dX6_odds_15 : decode cX6_odds 15 = .ok (.iload_n 2, 1) := by decide +kernel
theorem dX6_odds_16 : decode cX6_odds 16 = .ok (.i2l, 1) := by decide +kernel
theorem dX6_odds_17 : decode cX6_odds 17 = .ok (.lconst 0, 1) := by decide +kernel
theorem dX6_odds_18 : decode cX6_odds 18 = .ok (.ldc2_w 226, 3) := by decide +kernel
theorem dX6_odds_21 : decode cX6_odds 21 = .ok (.invokestatic 66, 3) := by decide +kernel
theorem dX6_odds_24 : decode cX6_odds 24 = .ok (.ifCond .eq 28, 3) := by decide +kernel
theorem dX6_odds_27 : decode cX6_odds 27 = .ok (.iload_n 3, 1) := by decide +kernel
theorem dX6_odds_28 : decode cX6_odds 28 = .ok (.i2l, 1) := by decide +kernel
theorem dX6_odds_29 : decode cX6_odds 29 = .ok (.lconst 1, 1) := by decide +kernel
theorem dX6_odds_30 : decode cX6_odds 30 = .ok (.ldc2_w 226, 3) := by decide +kernel
theorem dX6_odds_33 : decode cX6_odds 33 = .ok (.invokestatic 66, 3) := by decide +kernel
theorem dX6_odds_36 : decode cX6_odds 36 = .ok (.ifCond .eq 16, 3) := by decide +kernel
theorem dX6_odds_39 : decode cX6_odds 39 = .ok (.iload 4, 2) := by decide +kernel
theorem dX6_odds_41 : decode cX6_odds 41 = .ok (.i2l, 1) := by decide +kernel
theorem dX6_odds_42 : decode cX6_odds 42 = .ok (.lconst 0, 1) := by decide +kernel
theorem dX6_odds_43 : decode cX6_odds 43 = .ok (.ldc2_w 269, 3) := by decide +kernel
theorem dX6_odds_46 : decode cX6_odds 46 = .ok (.invokestatic 66, 3) := by decide +kernel
theorem dX6_odds_49 : decode cX6_odds 49 = .ok (.ifCond .ne 6, 3) := by decide +kernel
theorem dX6_odds_52 : decode cX6_odds 52 = .ok (.bipush (-2), 2) := by decide +kernel
theorem dX6_odds_54 : decode cX6_odds 54 = .ok (.ireturn, 1) := by decide +kernel
theorem dX6_odds_55 : decode cX6_odds 55 = .ok (.aload_n 0, 1) := by decide +kernel
theorem dX6_odds_56 : decode cX6_odds 56 = .ok (.invokevirtual 187, 3) := by decide +kernel
theorem dX6_odds_59 : decode cX6_odds 59 = .ok (.ifCond .ne 6, 3) := by decide +kernel
theorem dX6_odds_62 : decode cX6_odds 62 = .ok (.bipush (-3), 2) := by decide +kernel
theorem dX6_odds_64 : decode cX6_odds 64 = .ok (.ireturn, 1) := by decide +kernel
theorem dX6_odds_65 : decode cX6_odds 65 = .ok (.iconst 0, 1) := by decide +kernel
theorem dX6_odds_66 : decode cX6_odds 66 = .ok (.istore 6, 2) := by decide +kernel
theorem dX6_odds_68 : decode cX6_odds 68 = .ok (.iconst 0, 1) := by decide +kernel
theorem dX6_odds_69 : decode cX6_odds 69 = .ok (.istore 7, 2) := by decide +kernel
theorem dX6_odds_71 : decode cX6_odds 71 = .ok (.iload 7, 2) := by decide +kernel
theorem dX6_odds_73 : decode cX6_odds 73 = .ok (.iconst 1, 1) := by decide +kernel
theorem dX6_odds_74 : decode cX6_odds 74 = .ok (.iload_n 3, 1) := by decide +kernel
theorem dX6_odds_75 : decode cX6_odds 75 = .ok (.ishl, 1) := by decide +kernel
theorem dX6_odds_76 : decode cX6_odds 76 = .ok (.if_icmp .ge 80, 3) := by decide +kernel
theorem dX6_odds_79 : decode cX6_odds 79 = .ok (.iconst 0, 1) := by decide +kernel
theorem dX6_odds_80 : decode cX6_odds 80 = .ok (.istore 8, 2) := by decide +kernel
theorem dX6_odds_82 : decode cX6_odds 82 = .ok (.iconst 0, 1) := by decide +kernel
theorem dX6_odds_83 : decode cX6_odds 83 = .ok (.istore 9, 2) := by decide +kernel
theorem dX6_odds_85 : decode cX6_odds 85 = .ok (.iload 9, 2) := by decide +kernel
theorem dX6_odds_87 : decode cX6_odds 87 = .ok (.iload_n 3, 1) := by decide +kernel
theorem dX6_odds_88 : decode cX6_odds 88 = .ok (.if_icmp .ge 21, 3) := by decide +kernel
theorem dX6_odds_91 : decode cX6_odds 91 = .ok (.iload 8, 2) := by decide +kernel
theorem dX6_odds_93 : decode cX6_odds 93 = .ok (.iload 7, 2) := by decide +kernel
theorem dX6_odds_95 : decode cX6_odds 95 = .ok (.iload 9, 2) := by decide +kernel
theorem dX6_odds_97 : decode cX6_odds 97 = .ok (.ishr, 1) := by decide +kernel
theorem dX6_odds_98 : decode cX6_odds 98 = .ok (.iconst 1, 1) := by decide +kernel
theorem dX6_odds_99 : decode cX6_odds 99 = .ok (.iand, 1) := by decide +kernel
theorem dX6_odds_100 : decode cX6_odds 100 = .ok (.iadd, 1) := by decide +kernel
theorem dX6_odds_101 : decode cX6_odds 101 = .ok (.istore 8, 2) := by decide +kernel
theorem dX6_odds_103 : decode cX6_odds 103 = .ok (.iinc 9 1, 3) := by decide +kernel
theorem dX6_odds_106 : decode cX6_odds 106 = .ok (.goto (-21), 3) := by decide +kernel
theorem dX6_odds_109 : decode cX6_odds 109 = .ok (.iload 6, 2) := by decide +kernel
theorem dX6_odds_111 : decode cX6_odds 111 = .ok (.aload_n 0, 1) := by decide +kernel
theorem dX6_odds_112 : decode cX6_odds 112 = .ok (.iload_n 1, 1) := by decide +kernel
theorem dX6_odds_113 : decode cX6_odds 113 = .ok (.iload 7, 2) := by decide +kernel
theorem dX6_odds_115 : decode cX6_odds 115 = .ok (.iload_n 3, 1) := by decide +kernel
theorem dX6_odds_116 : decode cX6_odds 116 = .ok (.invokevirtual 271, 3) := by decide +kernel
theorem dX6_odds_119 : decode cX6_odds 119 = .ok (.iload_n 2, 1) := by decide +kernel
theorem dX6_odds_120 : decode cX6_odds 120 = .ok (.if_icmp .lt 26, 3) := by decide +kernel
theorem dX6_odds_123 : decode cX6_odds 123 = .ok (.iload 4, 2) := by decide +kernel
theorem dX6_odds_125 : decode cX6_odds 125 = .ok (.iload 8, 2) := by decide +kernel
theorem dX6_odds_127 : decode cX6_odds 127 = .ok (.invokestatic 274, 3) := by decide +kernel
theorem dX6_odds_130 : decode cX6_odds 130 = .ok (.bipush 10, 2) := by decide +kernel
theorem dX6_odds_132 : decode cX6_odds 132 = .ok (.iload 4, 2) := by decide +kernel
theorem dX6_odds_134 : decode cX6_odds 134 = .ok (.isub, 1) := by decide +kernel
theorem dX6_odds_135 : decode cX6_odds 135 = .ok (.iload_n 3, 1) := by decide +kernel
theorem dX6_odds_136 : decode cX6_odds 136 = .ok (.iload 8, 2) := by decide +kernel
theorem dX6_odds_138 : decode cX6_odds 138 = .ok (.isub, 1) := by decide +kernel
theorem dX6_odds_139 : decode cX6_odds 139 = .ok (.invokestatic 274, 3) := by decide +kernel
theorem dX6_odds_142 : decode cX6_odds 142 = .ok (.imul, 1) := by decide +kernel
theorem dX6_odds_143 : decode cX6_odds 143 = .ok (.goto 4, 3) := by decide +kernel
theorem dX6_odds_146 : decode cX6_odds 146 = .ok (.iconst 0, 1) := by decide +kernel
theorem dX6_odds_147 : decode cX6_odds 147 = .ok (.iadd, 1) := by decide +kernel
theorem dX6_odds_148 : decode cX6_odds 148 = .ok (.istore 6, 2) := by decide +kernel
theorem dX6_odds_150 : decode cX6_odds 150 = .ok (.iinc 7 1, 3) := by decide +kernel
theorem dX6_odds_153 : decode cX6_odds 153 = .ok (.goto (-82), 3) := by decide +kernel
theorem dX6_odds_156 : decode cX6_odds 156 = .ok (.iload 6, 2) := by decide +kernel
theorem dX6_odds_158 : decode cX6_odds 158 = .ok (.bipush 10, 2) := by decide +kernel
theorem dX6_odds_160 : decode cX6_odds 160 = .ok (.iload_n 3, 1) := by decide +kernel
theorem dX6_odds_161 : decode cX6_odds 161 = .ok (.invokestatic 274, 3) := by decide +kernel
theorem dX6_odds_164 : decode cX6_odds 164 = .ok (.iload 5, 2) := by decide +kernel
theorem dX6_odds_166 : decode cX6_odds 166 = .ok (.invokestatic 277, 3) := by decide +kernel
theorem dX6_odds_169 : decode cX6_odds 169 = .ok (.ireturn, 1) := by decide +kernel
theorem dX6_seed_0 : decode cX6_seed 0 = .ok (.aload_n 0, 1) := by decide +kernel
theorem dX6_seed_1 : decode cX6_seed 1 = .ok (.iconst 0, 1) := by decide +kernel
theorem dX6_seed_2 : decode cX6_seed 2 = .ok (.putfield 62, 3) := by decide +kernel
theorem dX6_seed_5 : decode cX6_seed 5 = .ok (.aload_n 0, 1) := by decide +kernel
theorem dX6_seed_6 : decode cX6_seed 6 = .ok (.getfield 281, 3) := by decide +kernel
theorem dX6_seed_9 : decode cX6_seed 9 = .ok (.lstore_n 3, 1) := by decide +kernel
theorem dX6_seed_10 : decode cX6_seed 10 = .ok (.aload_n 0, 1) := by decide +kernel
theorem dX6_seed_11 : decode cX6_seed 11 = .ok (.lload_n 1, 1) := by decide +kernel
theorem dX6_seed_12 : decode cX6_seed 12 = .ok (.putfield 281, 3) := by decide +kernel
theorem dX6_seed_15 : decode cX6_seed 15 = .ok (.lload_n 3, 1) := by decide +kernel
theorem dX6_seed_16 : decode cX6_seed 16 = .ok (.lreturn, 1) := by decide +kernel
theorem dX6_sumOf_0 : decode cX6_sumOf 0 = .ok (.iload_n 1, 1) := by decide +kernel
theorem dX6_sumOf_1 : decode cX6_sumOf 1 = .ok (.istore_n 2, 1) := by decide +kernel
theorem dX6_sumOf_2 : decode cX6_sumOf 2 = .ok (.iconst 0, 1) := by decide +kernel
theorem dX6_sumOf_3 : decode cX6_sumOf 3 = .ok (.istore_n 3, 1) := by decide +kernel
theorem dX6_sumOf_4 : decode cX6_sumOf 4 = .ok (.iload_n 3, 1) := by decide +kernel
theorem dX6_sumOf_5 : decode cX6_sumOf 5 = .ok (.bipush 8, 2) := by decide +kernel
theorem dX6_sumOf_7 : decode cX6_sumOf 7 = .ok (.if_icmp .ge 37, 3) := by decide +kernel
theorem dX6_sumOf_10 : decode cX6_sumOf 10 = .ok (.iload_n 2, 1) := by decide +kernel
theorem dX6_sumOf_11 : decode cX6_sumOf 11 = .ok (.aload_n 0, 1) := by decide +kernel
theorem dX6_sumOf_12 : decode cX6_sumOf 12 = .ok (.getfield 19, 3) := by decide +kernel
theorem dX6_sumOf_15 : decode cX6_sumOf 15 = .ok (.bipush 41, 2) := by decide +kernel
theorem dX6_sumOf_17 : decode cX6_sumOf 17 = .ok (.iload_n 3, 1) := by decide +kernel
theorem dX6_sumOf_18 : decode cX6_sumOf 18 = .ok (.iadd, 1) := by decide +kernel
theorem dX6_sumOf_19 : decode cX6_sumOf 19 = .ok (.iaload, 1) := by decide +kernel
theorem dX6_sumOf_20 : decode cX6_sumOf 20 = .ok (.ifCond .le 15, 3) := by decide +kernel
theorem dX6_sumOf_23 : decode cX6_sumOf 23 = .ok (.aload_n 0, 1) := by decide +kernel
theorem dX6_sumOf_24 : decode cX6_sumOf 24 = .ok (.getfield 19, 3) := by decide +kernel
theorem dX6_sumOf_27 : decode cX6_sumOf 27 = .ok (.bipush 41, 2) := by decide +kernel
theorem dX6_sumOf_29 : decode cX6_sumOf 29 = .ok (.iload_n 3, 1) := by decide +kernel
theorem dX6_sumOf_30 : decode cX6_sumOf 30 = .ok (.iadd, 1) := by decide +kernel
theorem dX6_sumOf_31 : decode cX6_sumOf 31 = .ok (.iaload, 1) := by decide +kernel
theorem dX6_sumOf_32 : decode cX6_sumOf 32 = .ok (.goto 4, 3) := by decide +kernel
theorem dX6_sumOf_35 : decode cX6_sumOf 35 = .ok (.iconst 0, 1) := by decide +kernel
theorem dX6_sumOf_36 : decode cX6_sumOf 36 = .ok (.iadd, 1) := by decide +kernel
theorem dX6_sumOf_37 : decode cX6_sumOf 37 = .ok (.istore_n 2, 1) := by decide +kernel
theorem dX6_sumOf_38 : decode cX6_sumOf 38 = .ok (.iinc 3 1, 3) := by decide +kernel
theorem dX6_sumOf_41 : decode cX6_sumOf 41 = .ok (.goto (-37), 3) := by decide +kernel
theorem dX6_sumOf_44 : decode cX6_sumOf 44 = .ok (.iload_n 2, 1) := by decide +kernel
theorem dX6_sumOf_45 : decode cX6_sumOf 45 = .ok (.ireturn, 1) := by decide +kernel
theorem dX6_runs_0 : decode cX6_runs 0 = .ok (.aload_n 0, 1) := by decide +kernel
theorem dX6_runs_1 : decode cX6_runs 1 = .ok (.iconst 0, 1) := by decide +kernel
theorem dX6_runs_2 : decode cX6_runs 2 = .ok (.putfield 62, 3) := by decide +kernel
theorem dX6_runs_5 : decode cX6_runs 5 = .ok (.iload_n 1, 1) := by decide +kernel
theorem dX6_runs_6 : decode cX6_runs 6 = .ok (.i2l, 1) := by decide +kernel
theorem dX6_runs_7 : decode cX6_runs 7 = .ok (.lconst 1, 1) := by decide +kernel
theorem dX6_runs_8 : decode cX6_runs 8 = .ok (.ldc2_w 285, 3) := by decide +kernel
theorem dX6_runs_11 : decode cX6_runs 11 = .ok (.invokestatic 66, 3) := by decide +kernel
theorem dX6_runs_14 : decode cX6_runs 14 = .ok (.ifCond .ne 6, 3) := by decide +kernel
theorem dX6_runs_17 : decode cX6_runs 17 = .ok (.bipush (-2), 2) := by decide +kernel
theorem dX6_runs_19 : decode cX6_runs 19 = .ok (.ireturn, 1) := by decide +kernel
theorem dX6_runs_20 : decode cX6_runs 20 = .ok (.aload_n 0, 1) := by decide +kernel
theorem dX6_runs_21 : decode cX6_runs 21 = .ok (.invokevirtual 187, 3) := by decide +kernel
theorem dX6_runs_24 : decode cX6_runs 24 = .ok (.ifCond .ne 6, 3) := by decide +kernel
theorem dX6_runs_27 : decode cX6_runs 27 = .ok (.bipush (-3), 2) := by decide +kernel
theorem dX6_runs_29 : decode cX6_runs 29 = .ok (.ireturn, 1) := by decide +kernel
theorem dX6_runs_30 : decode cX6_runs 30 = .ok (.aload_n 0, 1) := by decide +kernel
theorem dX6_runs_31 : decode cX6_runs 31 = .ok (.invokevirtual 219, 3) := by decide +kernel
theorem dX6_runs_34 : decode cX6_runs 34 = .ok (.iconst 0, 1) := by decide +kernel
theorem dX6_runs_35 : decode cX6_runs 35 = .ok (.istore_n 2, 1) := by decide +kernel
theorem dX6_runs_36 : decode cX6_runs 36 = .ok (.iconst 0, 1) := by decide +kernel
theorem dX6_runs_37 : decode cX6_runs 37 = .ok (.istore_n 3, 1) := by decide +kernel
theorem dX6_runs_38 : decode cX6_runs 38 = .ok (.iload_n 3, 1) := by decide +kernel
theorem dX6_runs_39 : decode cX6_runs 39 = .ok (.iload_n 1, 1) := by decide +kernel
theorem dX6_runs_40 : decode cX6_runs 40 = .ok (.if_icmp .ge 63, 3) := by decide +kernel
theorem dX6_runs_43 : decode cX6_runs 43 = .ok (.aload_n 0, 1) := by decide +kernel
theorem dX6_runs_44 : decode cX6_runs 44 = .ok (.aload_n 0, 1) := by decide +kernel
theorem dX6_runs_45 : decode cX6_runs 45 = .ok (.getfield 281, 3) := by decide +kernel
theorem dX6_runs_48 : decode cX6_runs 48 = .ok (.ldc2_w 287, 3) := by decide +kernel
theorem dX6_runs_51 : decode cX6_runs 51 = .ok (.lmul, 1) := by decide +kernel
theorem dX6_runs_52 : decode cX6_runs 52 = .ok (.ldc2_w 289, 3) := by decide +kernel
theorem dX6_runs_55 : decode cX6_runs 55 = .ok (.ladd, 1) := by decide +kernel
theorem dX6_runs_56 : decode cX6_runs 56 = .ok (.putfield 281, 3) := by decide +kernel
theorem dX6_runs_59 : decode cX6_runs 59 = .ok (.aload_n 0, 1) := by decide +kernel
theorem dX6_runs_60 : decode cX6_runs 60 = .ok (.getfield 281, 3) := by decide +kernel
theorem dX6_runs_63 : decode cX6_runs 63 = .ok (.bipush 33, 2) := by decide +kernel
theorem dX6_runs_65 : decode cX6_runs 65 = .ok (.lushr, 1) := by decide +kernel
theorem dX6_runs_66 : decode cX6_runs 66 = .ok (.l2i, 1) := by decide +kernel
theorem dX6_runs_67 : decode cX6_runs 67 = .ok (.istore 4, 2) := by decide +kernel
theorem dX6_runs_69 : decode cX6_runs 69 = .ok (.iload_n 2, 1) := by decide +kernel
theorem dX6_runs_70 : decode cX6_runs 70 = .ok (.aload_n 0, 1) := by decide +kernel
theorem dX6_runs_71 : decode cX6_runs 71 = .ok (.aload_n 0, 1) := by decide +kernel
theorem dX6_runs_72 : decode cX6_runs 72 = .ok (.aload_n 0, 1) := by decide +kernel
theorem dX6_runs_73 : decode cX6_runs 73 = .ok (.getfield 19, 3) := by decide +kernel
theorem dX6_runs_76 : decode cX6_runs 76 = .ok (.iload 4, 2) := by decide +kernel
theorem dX6_runs_78 : decode cX6_runs 78 = .ok (.bipush 10, 2) := by decide +kernel
theorem dX6_runs_80 : decode cX6_runs 80 = .ok (.irem, 1) := by decide +kernel
theorem dX6_runs_81 : decode cX6_runs 81 = .ok (.iload 4, 2) := by decide +kernel
theorem dX6_runs_83 : decode cX6_runs 83 = .ok (.bipush 16, 2) := by decide +kernel
theorem dX6_runs_85 : decode cX6_runs 85 = .ok (.idiv, 1) := by decide +kernel
theorem dX6_runs_86 : decode cX6_runs 86 = .ok (.bipush 10, 2) := by decide +kernel
theorem dX6_runs_88 : decode cX6_runs 88 = .ok (.irem, 1) := by decide +kernel
theorem dX6_runs_89 : decode cX6_runs 89 = .ok (.invokevirtual 208, 3) := by decide +kernel
theorem dX6_runs_92 : decode cX6_runs 92 = .ok (.invokevirtual 291, 3) := by decide +kernel
theorem dX6_runs_95 : decode cX6_runs 95 = .ok (.iadd, 1) := by decide +kernel
theorem dX6_runs_96 : decode cX6_runs 96 = .ok (.istore_n 2, 1) := by decide +kernel
theorem dX6_runs_97 : decode cX6_runs 97 = .ok (.iinc 3 1, 3) := by decide +kernel
theorem dX6_runs_100 : decode cX6_runs 100 = .ok (.goto (-62), 3) := by decide +kernel
theorem dX6_runs_103 : decode cX6_runs 103 = .ok (.iload_n 2, 1) := by decide +kernel
theorem dX6_runs_104 : decode cX6_runs 104 = .ok (.ireturn, 1) := by decide +kernel
theorem dX6_keep_0 : decode cX6_keep 0 = .ok (.aload_n 0, 1) := by decide +kernel
theorem dX6_keep_1 : decode cX6_keep 1 = .ok (.iconst 0, 1) := by decide +kernel
theorem dX6_keep_2 : decode cX6_keep 2 = .ok (.putfield 62, 3) := by decide +kernel
theorem dX6_keep_5 : decode cX6_keep 5 = .ok (.iload_n 1, 1) := by decide +kernel
theorem dX6_keep_6 : decode cX6_keep 6 = .ok (.i2l, 1) := by decide +kernel
theorem dX6_keep_7 : decode cX6_keep 7 = .ok (.lconst 0, 1) := by decide +kernel
theorem dX6_keep_8 : decode cX6_keep 8 = .ok (.lconst 1, 1) := by decide +kernel
theorem dX6_keep_9 : decode cX6_keep 9 = .ok (.invokestatic 66, 3) := by decide +kernel
theorem dX6_keep_12 : decode cX6_keep 12 = .ok (.ifCond .ne 5, 3) := by decide +kernel
theorem dX6_keep_15 : decode cX6_keep 15 = .ok (.iconst (-1), 1) := by decide +kernel
theorem dX6_keep_16 : decode cX6_keep 16 = .ok (.ireturn, 1) := by decide +kernel
theorem dX6_keep_17 : decode cX6_keep 17 = .ok (.aload_n 0, 1) := by decide +kernel
theorem dX6_keep_18 : decode cX6_keep 18 = .ok (.getfield 28, 3) := by decide +kernel
theorem dX6_keep_21 : decode cX6_keep 21 = .ok (.iload_n 1, 1) := by decide +kernel
theorem dX6_keep_22 : decode cX6_keep 22 = .ok (.iconst 1, 1) := by decide +kernel
theorem dX6_keep_23 : decode cX6_keep 23 = .ok (.bastore, 1) := by decide +kernel
theorem dX6_keep_24 : decode cX6_keep 24 = .ok (.iconst 0, 1) := by decide +kernel
theorem dX6_keep_25 : decode cX6_keep 25 = .ok (.istore_n 2, 1) := by decide +kernel
theorem dX6_keep_26 : decode cX6_keep 26 = .ok (.iload_n 2, 1) := by decide +kernel
theorem dX6_keep_27 : decode cX6_keep 27 = .ok (.bipush 50, 2) := by decide +kernel
theorem dX6_keep_29 : decode cX6_keep 29 = .ok (.if_icmp .ge 26, 3) := by decide +kernel
theorem dX6_keep_32 : decode cX6_keep 32 = .ok (.aload_n 0, 1) := by decide +kernel
theorem dX6_keep_33 : decode cX6_keep 33 = .ok (.getfield 25, 3) := by decide +kernel
theorem dX6_keep_36 : decode cX6_keep 36 = .ok (.bipush 50, 2) := by decide +kernel
theorem dX6_keep_38 : decode cX6_keep 38 = .ok (.iload_n 1, 1) := by decide +kernel
theorem dX6_keep_39 : decode cX6_keep 39 = .ok (.imul, 1) := by decide +kernel
theorem dX6_keep_40 : decode cX6_keep 40 = .ok (.iload_n 2, 1) := by decide +kernel
theorem dX6_keep_41 : decode cX6_keep 41 = .ok (.iadd, 1) := by decide +kernel
theorem dX6_keep_42 : decode cX6_keep 42 = .ok (.aload_n 0, 1) := by decide +kernel
theorem dX6_keep_43 : decode cX6_keep 43 = .ok (.getfield 16, 3) := by decide +kernel
theorem dX6_keep_46 : decode cX6_keep 46 = .ok (.iload_n 2, 1) := by decide +kernel
theorem dX6_keep_47 : decode cX6_keep 47 = .ok (.iaload, 1) := by decide +kernel
theorem dX6_keep_48 : decode cX6_keep 48 = .ok (.iastore, 1) := by decide +kernel
theorem dX6_keep_49 : decode cX6_keep 49 = .ok (.iinc 2 1, 3) := by decide +kernel
theorem dX6_keep_52 : decode cX6_keep 52 = .ok (.goto (-26), 3) := by decide +kernel
theorem dX6_keep_55 : decode cX6_keep 55 = .ok (.aload_n 0, 1) := by decide +kernel
theorem dX6_keep_56 : decode cX6_keep 56 = .ok (.getfield 16, 3) := by decide +kernel
theorem dX6_keep_59 : decode cX6_keep 59 = .ok (.bipush 49, 2) := by decide +kernel
theorem dX6_keep_61 : decode cX6_keep 61 = .ok (.iaload, 1) := by decide +kernel
theorem dX6_keep_62 : decode cX6_keep 62 = .ok (.ireturn, 1) := by decide +kernel
theorem dX6_again_0 : decode cX6_again 0 = .ok (.aload_n 0, 1) := by decide +kernel
theorem dX6_again_1 : decode cX6_again 1 = .ok (.iconst 0, 1) := by decide +kernel
theorem dX6_again_2 : decode cX6_again 2 = .ok (.putfield 62, 3) := by decide +kernel
theorem dX6_again_5 : decode cX6_again 5 = .ok (.iload_n 1, 1) := by decide +kernel
theorem dX6_again_6 : decode cX6_again 6 = .ok (.i2l, 1) := by decide +kernel
theorem dX6_again_7 : decode cX6_again 7 = .ok (.lconst 0, 1) := by decide +kernel
theorem dX6_again_8 : decode cX6_again 8 = .ok (.lconst 1, 1) := by decide +kernel
theorem dX6_again_9 : decode cX6_again 9 = .ok (.invokestatic 66, 3) := by decide +kernel
theorem dX6_again_12 : decode cX6_again 12 = .ok (.ifCond .ne 5, 3) := by decide +kernel
theorem dX6_again_15 : decode cX6_again 15 = .ok (.iconst (-1), 1) := by decide +kernel
theorem dX6_again_16 : decode cX6_again 16 = .ok (.ireturn, 1) := by decide +kernel
theorem dX6_again_17 : decode cX6_again 17 = .ok (.aload_n 0, 1) := by decide +kernel
theorem dX6_again_18 : decode cX6_again 18 = .ok (.getfield 28, 3) := by decide +kernel
theorem dX6_again_21 : decode cX6_again 21 = .ok (.iload_n 1, 1) := by decide +kernel
theorem dX6_again_22 : decode cX6_again 22 = .ok (.baload, 1) := by decide +kernel
theorem dX6_again_23 : decode cX6_again 23 = .ok (.ifCond .ne 6, 3) := by decide +kernel
theorem dX6_again_26 : decode cX6_again 26 = .ok (.bipush (-3), 2) := by decide +kernel
theorem dX6_again_28 : decode cX6_again 28 = .ok (.ireturn, 1) := by decide +kernel
theorem dX6_again_29 : decode cX6_again 29 = .ok (.iconst 0, 1) := by decide +kernel
theorem dX6_again_30 : decode cX6_again 30 = .ok (.istore_n 2, 1) := by decide +kernel
theorem dX6_again_31 : decode cX6_again 31 = .ok (.iload_n 2, 1) := by decide +kernel
theorem dX6_again_32 : decode cX6_again 32 = .ok (.bipush 50, 2) := by decide +kernel
theorem dX6_again_34 : decode cX6_again 34 = .ok (.if_icmp .ge 26, 3) := by decide +kernel
theorem dX6_again_37 : decode cX6_again 37 = .ok (.aload_n 0, 1) := by decide +kernel
theorem dX6_again_38 : decode cX6_again 38 = .ok (.getfield 16, 3) := by decide +kernel
theorem dX6_again_41 : decode cX6_again 41 = .ok (.iload_n 2, 1) := by decide +kernel
theorem dX6_again_42 : decode cX6_again 42 = .ok (.aload_n 0, 1) := by decide +kernel
theorem dX6_again_43 : decode cX6_again 43 = .ok (.getfield 25, 3) := by decide +kernel
theorem dX6_again_46 : decode cX6_again 46 = .ok (.bipush 50, 2) := by decide +kernel
theorem dX6_again_48 : decode cX6_again 48 = .ok (.iload_n 1, 1) := by decide +kernel
theorem dX6_again_49 : decode cX6_again 49 = .ok (.imul, 1) := by decide +kernel
theorem dX6_again_50 : decode cX6_again 50 = .ok (.iload_n 2, 1) := by decide +kernel
theorem dX6_again_51 : decode cX6_again 51 = .ok (.iadd, 1) := by decide +kernel
theorem dX6_again_52 : decode cX6_again 52 = .ok (.iaload, 1) := by decide +kernel
theorem dX6_again_53 : decode cX6_again 53 = .ok (.iastore, 1) := by decide +kernel
theorem dX6_again_54 : decode cX6_again 54 = .ok (.iinc 2 1, 3) := by decide +kernel
theorem dX6_again_57 : decode cX6_again 57 = .ok (.goto (-26), 3) := by decide +kernel
theorem dX6_again_60 : decode cX6_again 60 = .ok (.aload_n 0, 1) := by decide +kernel
theorem dX6_again_61 : decode cX6_again 61 = .ok (.iconst 0, 1) := by decide +kernel
theorem dX6_again_62 : decode cX6_again 62 = .ok (.putfield 184, 3) := by decide +kernel
theorem dX6_again_65 : decode cX6_again 65 = .ok (.aload_n 0, 1) := by decide +kernel
theorem dX6_again_66 : decode cX6_again 66 = .ok (.getfield 16, 3) := by decide +kernel
theorem dX6_again_69 : decode cX6_again 69 = .ok (.bipush 49, 2) := by decide +kernel
theorem dX6_again_71 : decode cX6_again 71 = .ok (.iaload, 1) := by decide +kernel
theorem dX6_again_72 : decode cX6_again 72 = .ok (.ireturn, 1) := by decide +kernel
theorem dJ0_length_8abf5_0 : decode cJ0_length_8abf5 0 = .ok (.aload_n 0, 1) := by decide +kernel
theorem dJ0_length_8abf5_1 : decode cJ0_length_8abf5 1 = .ok (.getfield 9, 3) := by decide +kernel
theorem dJ0_length_8abf5_4 : decode cJ0_length_8abf5 4 = .ok (.arraylength, 1) := by decide +kernel
theorem dJ0_length_8abf5_5 : decode cJ0_length_8abf5 5 = .ok (.aload_n 0, 1) := by decide +kernel
theorem dJ0_length_8abf5_6 : decode cJ0_length_8abf5 6 = .ok (.invokevirtual 335, 3) := by decide +kernel
theorem dJ0_length_8abf5_9 : decode cJ0_length_8abf5 9 = .ok (.ishr, 1) := by decide +kernel
theorem dJ0_length_8abf5_10 : decode cJ0_length_8abf5 10 = .ok (.ireturn, 1) := by decide +kernel
theorem dJ0_indexOf_0f7a4_0 : decode cJ0_indexOf_0f7a4 0 = .ok (.aload_n 0, 1) := by decide +kernel
theorem dJ0_indexOf_0f7a4_1 : decode cJ0_indexOf_0f7a4 1 = .ok (.iload_n 1, 1) := by decide +kernel
theorem dJ0_indexOf_0f7a4_2 : decode cJ0_indexOf_0f7a4 2 = .ok (.iconst 0, 1) := by decide +kernel
theorem dJ0_indexOf_0f7a4_3 : decode cJ0_indexOf_0f7a4 3 = .ok (.invokevirtual 633, 3) := by decide +kernel
theorem dJ0_indexOf_0f7a4_6 : decode cJ0_indexOf_0f7a4 6 = .ok (.ireturn, 1) := by decide +kernel
theorem dJ0_indexOf_7cf53_0 : decode cJ0_indexOf_7cf53 0 = .ok (.aload_n 0, 1) := by decide +kernel
theorem dJ0_indexOf_7cf53_1 : decode cJ0_indexOf_7cf53 1 = .ok (.invokevirtual 492, 3) := by decide +kernel
theorem dJ0_indexOf_7cf53_4 : decode cJ0_indexOf_7cf53 4 = .ok (.ifCond .eq 19, 3) := by decide +kernel
theorem dJ0_indexOf_7cf53_7 : decode cJ0_indexOf_7cf53 7 = .ok (.aload_n 0, 1) := by decide +kernel
theorem dJ0_indexOf_7cf53_8 : decode cJ0_indexOf_7cf53 8 = .ok (.getfield 9, 3) := by decide +kernel
theorem dJ0_indexOf_7cf53_11 : decode cJ0_indexOf_7cf53 11 = .ok (.iload_n 1, 1) := by decide +kernel
theorem dJ0_indexOf_7cf53_12 : decode cJ0_indexOf_7cf53 12 = .ok (.iload_n 2, 1) := by decide +kernel
theorem dJ0_indexOf_7cf53_13 : decode cJ0_indexOf_7cf53 13 = .ok (.aload_n 0, 1) := by decide +kernel
theorem dJ0_indexOf_7cf53_14 : decode cJ0_indexOf_7cf53 14 = .ok (.invokevirtual 505, 3) := by decide +kernel
theorem dJ0_indexOf_7cf53_17 : decode cJ0_indexOf_7cf53 17 = .ok (.invokestatic 637, 3) := by decide +kernel
theorem dJ0_indexOf_7cf53_20 : decode cJ0_indexOf_7cf53 20 = .ok (.goto 16, 3) := by decide +kernel
theorem dJ0_indexOf_7cf53_23 : decode cJ0_indexOf_7cf53 23 = .ok (.aload_n 0, 1) := by decide +kernel
theorem dJ0_indexOf_7cf53_24 : decode cJ0_indexOf_7cf53 24 = .ok (.getfield 9, 3) := by decide +kernel
theorem dJ0_indexOf_7cf53_27 : decode cJ0_indexOf_7cf53 27 = .ok (.iload_n 1, 1) := by decide +kernel
theorem dJ0_indexOf_7cf53_28 : decode cJ0_indexOf_7cf53 28 = .ok (.iload_n 2, 1) := by decide +kernel
theorem dJ0_indexOf_7cf53_29 : decode cJ0_indexOf_7cf53 29 = .ok (.aload_n 0, 1) := by decide +kernel
theorem dJ0_indexOf_7cf53_30 : decode cJ0_indexOf_7cf53 30 = .ok (.invokevirtual 505, 3) := by decide +kernel
theorem dJ0_indexOf_7cf53_33 : decode cJ0_indexOf_7cf53 33 = .ok (.invokestatic 640, 3) := by decide +kernel
theorem dJ0_indexOf_7cf53_36 : decode cJ0_indexOf_7cf53 36 = .ok (.ireturn, 1) := by decide +kernel
theorem dJ0_coder_7d493_0 : decode cJ0_coder_7d493 0 = .ok (.getstatic 38, 3) := by decide +kernel
theorem dJ0_coder_7d493_3 : decode cJ0_coder_7d493 3 = .ok (.ifCond .eq 10, 3) := by decide +kernel
theorem dJ0_coder_7d493_6 : decode cJ0_coder_7d493 6 = .ok (.aload_n 0, 1) := by decide +kernel
theorem dJ0_coder_7d493_7 : decode cJ0_coder_7d493 7 = .ok (.getfield 15, 3) := by decide +kernel
theorem dJ0_coder_7d493_10 : decode cJ0_coder_7d493 10 = .ok (.goto 4, 3) := by decide +kernel
theorem dJ0_coder_7d493_13 : decode cJ0_coder_7d493 13 = .ok (.iconst 1, 1) := by decide +kernel
theorem dJ0_coder_7d493_14 : decode cJ0_coder_7d493 14 = .ok (.ireturn, 1) := by decide +kernel
theorem dJ0_isLatin1_aae02_0 : decode cJ0_isLatin1_aae02 0 = .ok (.getstatic 38, 3) := by decide +kernel
theorem dJ0_isLatin1_aae02_3 : decode cJ0_isLatin1_aae02 3 = .ok (.ifCond .eq 14, 3) := by decide +kernel
theorem dJ0_isLatin1_aae02_6 : decode cJ0_isLatin1_aae02 6 = .ok (.aload_n 0, 1) := by decide +kernel
theorem dJ0_isLatin1_aae02_7 : decode cJ0_isLatin1_aae02 7 = .ok (.getfield 15, 3) := by decide +kernel
theorem dJ0_isLatin1_aae02_10 : decode cJ0_isLatin1_aae02 10 = .ok (.ifCond .ne 7, 3) := by decide +kernel
theorem dJ0_isLatin1_aae02_13 : decode cJ0_isLatin1_aae02 13 = .ok (.iconst 1, 1) := by decide +kernel
theorem dJ0_isLatin1_aae02_14 : decode cJ0_isLatin1_aae02 14 = .ok (.goto 4, 3) := by decide +kernel
theorem dJ0_isLatin1_aae02_17 : decode cJ0_isLatin1_aae02 17 = .ok (.iconst 0, 1) := by decide +kernel
theorem dJ0_isLatin1_aae02_18 : decode cJ0_isLatin1_aae02 18 = .ok (.ireturn, 1) := by decide +kernel
theorem dJ1_canEncode_9a6ad_0 : decode cJ1_canEncode_9a6ad 0 = .ok (.iload_n 0, 1) := by decide +kernel
theorem dJ1_canEncode_9a6ad_1 : decode cJ1_canEncode_9a6ad 1 = .ok (.ifCond .lt 14, 3) := by decide +kernel
theorem dJ1_canEncode_9a6ad_4 : decode cJ1_canEncode_9a6ad 4 = .ok (.iload_n 0, 1) := by decide +kernel
theorem dJ1_canEncode_9a6ad_5 : decode cJ1_canEncode_9a6ad 5 = .ok (.sipush 255, 3) := by decide +kernel
theorem dJ1_canEncode_9a6ad_8 : decode cJ1_canEncode_9a6ad 8 = .ok (.if_icmp .gt 7, 3) := by decide +kernel
theorem dJ1_canEncode_9a6ad_11 : decode cJ1_canEncode_9a6ad 11 = .ok (.iconst 1, 1) := by decide +kernel
theorem dJ1_canEncode_9a6ad_12 : decode cJ1_canEncode_9a6ad 12 = .ok (.goto 4, 3) := by decide +kernel
theorem dJ1_canEncode_9a6ad_15 : decode cJ1_canEncode_9a6ad 15 = .ok (.iconst 0, 1) := by decide +kernel
theorem dJ1_canEncode_9a6ad_16 : decode cJ1_canEncode_9a6ad 16 = .ok (.ireturn, 1) := by decide +kernel
theorem dJ1_indexOf_4cfef_0 : decode cJ1_indexOf_4cfef 0 = .ok (.iload_n 1, 1) := by decide +kernel
theorem dJ1_indexOf_4cfef_1 : decode cJ1_indexOf_4cfef 1 = .ok (.invokestatic 88, 3) := by decide +kernel
theorem dJ1_indexOf_4cfef_4 : decode cJ1_indexOf_4cfef 4 = .ok (.ifCond .ne 5, 3) := by decide +kernel
theorem dJ1_indexOf_4cfef_7 : decode cJ1_indexOf_4cfef 7 = .ok (.iconst (-1), 1) := by decide +kernel
theorem dJ1_indexOf_4cfef_8 : decode cJ1_indexOf_4cfef 8 = .ok (.ireturn, 1) := by decide +kernel
theorem dJ1_indexOf_4cfef_9 : decode cJ1_indexOf_4cfef 9 = .ok (.iload_n 2, 1) := by decide +kernel
theorem dJ1_indexOf_4cfef_10 : decode cJ1_indexOf_4cfef 10 = .ok (.iconst 0, 1) := by decide +kernel
theorem dJ1_indexOf_4cfef_11 : decode cJ1_indexOf_4cfef 11 = .ok (.invokestatic 92, 3) := by decide +kernel
theorem dJ1_indexOf_4cfef_14 : decode cJ1_indexOf_4cfef 14 = .ok (.istore_n 2, 1) := by decide +kernel
theorem dJ1_indexOf_4cfef_15 : decode cJ1_indexOf_4cfef 15 = .ok (.iload_n 3, 1) := by decide +kernel
theorem dJ1_indexOf_4cfef_16 : decode cJ1_indexOf_4cfef 16 = .ok (.aload_n 0, 1) := by decide +kernel
theorem dJ1_indexOf_4cfef_17 : decode cJ1_indexOf_4cfef 17 = .ok (.arraylength, 1) := by decide +kernel
theorem dJ1_indexOf_4cfef_18 : decode cJ1_indexOf_4cfef 18 = .ok (.invokestatic 38, 3) := by decide +kernel
theorem dJ1_indexOf_4cfef_21 : decode cJ1_indexOf_4cfef 21 = .ok (.istore_n 3, 1) := by decide +kernel
theorem dJ1_indexOf_4cfef_22 : decode cJ1_indexOf_4cfef 22 = .ok (.iload_n 2, 1) := by decide +kernel
theorem dJ1_indexOf_4cfef_23 : decode cJ1_indexOf_4cfef 23 = .ok (.iload_n 3, 1) := by decide +kernel
theorem dJ1_indexOf_4cfef_24 : decode cJ1_indexOf_4cfef 24 = .ok (.if_icmp .lt 5, 3) := by decide +kernel
theorem dJ1_indexOf_4cfef_27 : decode cJ1_indexOf_4cfef 27 = .ok (.iconst (-1), 1) := by decide +kernel
theorem dJ1_indexOf_4cfef_28 : decode cJ1_indexOf_4cfef 28 = .ok (.ireturn, 1) := by decide +kernel
theorem dJ1_indexOf_4cfef_29 : decode cJ1_indexOf_4cfef 29 = .ok (.aload_n 0, 1) := by decide +kernel
theorem dJ1_indexOf_4cfef_30 : decode cJ1_indexOf_4cfef 30 = .ok (.iload_n 1, 1) := by decide +kernel
theorem dJ1_indexOf_4cfef_31 : decode cJ1_indexOf_4cfef 31 = .ok (.iload_n 2, 1) := by decide +kernel
theorem dJ1_indexOf_4cfef_32 : decode cJ1_indexOf_4cfef 32 = .ok (.iload_n 3, 1) := by decide +kernel
theorem dJ1_indexOf_4cfef_33 : decode cJ1_indexOf_4cfef 33 = .ok (.invokestatic 95, 3) := by decide +kernel
theorem dJ1_indexOf_4cfef_36 : decode cJ1_indexOf_4cfef 36 = .ok (.ireturn, 1) := by decide +kernel
theorem dJ1_indexOfChar_4cfef_0 : decode cJ1_indexOfChar_4cfef 0 = .ok (.iload_n 1, 1) := by decide +kernel
theorem dJ1_indexOfChar_4cfef_1 : decode cJ1_indexOfChar_4cfef 1 = .ok (.i2b, 1) := by decide +kernel
theorem dJ1_indexOfChar_4cfef_2 : decode cJ1_indexOfChar_4cfef 2 = .ok (.istore 4, 2) := by decide +kernel
theorem dJ1_indexOfChar_4cfef_4 : decode cJ1_indexOfChar_4cfef 4 = .ok (.iload_n 2, 1) := by decide +kernel
theorem dJ1_indexOfChar_4cfef_5 : decode cJ1_indexOfChar_4cfef 5 = .ok (.istore 5, 2) := by decide +kernel
theorem dJ1_indexOfChar_4cfef_7 : decode cJ1_indexOfChar_4cfef 7 = .ok (.iload 5, 2) := by decide +kernel
theorem dJ1_indexOfChar_4cfef_9 : decode cJ1_indexOfChar_4cfef 9 = .ok (.iload_n 3, 1) := by decide +kernel
theorem dJ1_indexOfChar_4cfef_10 : decode cJ1_indexOfChar_4cfef 10 = .ok (.if_icmp .ge 21, 3) := by decide +kernel
theorem dJ1_indexOfChar_4cfef_13 : decode cJ1_indexOfChar_4cfef 13 = .ok (.aload_n 0, 1) := by decide +kernel
theorem dJ1_indexOfChar_4cfef_14 : decode cJ1_indexOfChar_4cfef 14 = .ok (.iload 5, 2) := by decide +kernel
theorem dJ1_indexOfChar_4cfef_16 : decode cJ1_indexOfChar_4cfef 16 = .ok (.baload, 1) := by decide +kernel
theorem dJ1_indexOfChar_4cfef_17 : decode cJ1_indexOfChar_4cfef 17 = .ok (.iload 4, 2) := by decide +kernel
theorem dJ1_indexOfChar_4cfef_19 : decode cJ1_indexOfChar_4cfef 19 = .ok (.if_icmp .ne 6, 3) := by decide +kernel
theorem dJ1_indexOfChar_4cfef_22 : decode cJ1_indexOfChar_4cfef 22 = .ok (.iload 5, 2) := by decide +kernel
theorem dJ1_indexOfChar_4cfef_24 : decode cJ1_indexOfChar_4cfef 24 = .ok (.ireturn, 1) := by decide +kernel
theorem dJ1_indexOfChar_4cfef_25 : decode cJ1_indexOfChar_4cfef 25 = .ok (.iinc 5 1, 3) := by decide +kernel
theorem dJ1_indexOfChar_4cfef_28 : decode cJ1_indexOfChar_4cfef 28 = .ok (.goto (-21), 3) := by decide +kernel
theorem dJ1_indexOfChar_4cfef_31 : decode cJ1_indexOfChar_4cfef 31 = .ok (.iconst (-1), 1) := by decide +kernel
theorem dJ1_indexOfChar_4cfef_32 : decode cJ1_indexOfChar_4cfef 32 = .ok (.ireturn, 1) := by decide +kernel
theorem dJ6_bitCount_0f7a4_0 : decode cJ6_bitCount_0f7a4 0 = .ok (.iload_n 0, 1) := by decide +kernel
theorem dJ6_bitCount_0f7a4_1 : decode cJ6_bitCount_0f7a4 1 = .ok (.iload_n 0, 1) := by decide +kernel
theorem dJ6_bitCount_0f7a4_2 : decode cJ6_bitCount_0f7a4 2 = .ok (.iconst 1, 1) := by decide +kernel
theorem dJ6_bitCount_0f7a4_3 : decode cJ6_bitCount_0f7a4 3 = .ok (.iushr, 1) := by decide +kernel
theorem dJ6_bitCount_0f7a4_4 : decode cJ6_bitCount_0f7a4 4 = .ok (.ldc_w 265, 3) := by decide +kernel
theorem dJ6_bitCount_0f7a4_7 : decode cJ6_bitCount_0f7a4 7 = .ok (.iand, 1) := by decide +kernel
theorem dJ6_bitCount_0f7a4_8 : decode cJ6_bitCount_0f7a4 8 = .ok (.isub, 1) := by decide +kernel
theorem dJ6_bitCount_0f7a4_9 : decode cJ6_bitCount_0f7a4 9 = .ok (.istore_n 0, 1) := by decide +kernel
theorem dJ6_bitCount_0f7a4_10 : decode cJ6_bitCount_0f7a4 10 = .ok (.iload_n 0, 1) := by decide +kernel
theorem dJ6_bitCount_0f7a4_11 : decode cJ6_bitCount_0f7a4 11 = .ok (.ldc_w 266, 3) := by decide +kernel
theorem dJ6_bitCount_0f7a4_14 : decode cJ6_bitCount_0f7a4 14 = .ok (.iand, 1) := by decide +kernel
theorem dJ6_bitCount_0f7a4_15 : decode cJ6_bitCount_0f7a4 15 = .ok (.iload_n 0, 1) := by decide +kernel
theorem dJ6_bitCount_0f7a4_16 : decode cJ6_bitCount_0f7a4 16 = .ok (.iconst 2, 1) := by decide +kernel
theorem dJ6_bitCount_0f7a4_17 : decode cJ6_bitCount_0f7a4 17 = .ok (.iushr, 1) := by decide +kernel
theorem dJ6_bitCount_0f7a4_18 : decode cJ6_bitCount_0f7a4 18 = .ok (.ldc_w 266, 3) := by decide +kernel
theorem dJ6_bitCount_0f7a4_21 : decode cJ6_bitCount_0f7a4 21 = .ok (.iand, 1) := by decide +kernel
theorem dJ6_bitCount_0f7a4_22 : decode cJ6_bitCount_0f7a4 22 = .ok (.iadd, 1) := by decide +kernel
theorem dJ6_bitCount_0f7a4_23 : decode cJ6_bitCount_0f7a4 23 = .ok (.istore_n 0, 1) := by decide +kernel
theorem dJ6_bitCount_0f7a4_24 : decode cJ6_bitCount_0f7a4 24 = .ok (.iload_n 0, 1) := by decide +kernel
theorem dJ6_bitCount_0f7a4_25 : decode cJ6_bitCount_0f7a4 25 = .ok (.iload_n 0, 1) := by decide +kernel
theorem dJ6_bitCount_0f7a4_26 : decode cJ6_bitCount_0f7a4 26 = .ok (.iconst 4, 1) := by decide +kernel
theorem dJ6_bitCount_0f7a4_27 : decode cJ6_bitCount_0f7a4 27 = .ok (.iushr, 1) := by decide +kernel
theorem dJ6_bitCount_0f7a4_28 : decode cJ6_bitCount_0f7a4 28 = .ok (.iadd, 1) := by decide +kernel
theorem dJ6_bitCount_0f7a4_29 : decode cJ6_bitCount_0f7a4 29 = .ok (.ldc_w 267, 3) := by decide +kernel
theorem dJ6_bitCount_0f7a4_32 : decode cJ6_bitCount_0f7a4 32 = .ok (.iand, 1) := by decide +kernel
theorem dJ6_bitCount_0f7a4_33 : decode cJ6_bitCount_0f7a4 33 = .ok (.istore_n 0, 1) := by decide +kernel
theorem dJ6_bitCount_0f7a4_34 : decode cJ6_bitCount_0f7a4 34 = .ok (.iload_n 0, 1) := by decide +kernel
theorem dJ6_bitCount_0f7a4_35 : decode cJ6_bitCount_0f7a4 35 = .ok (.iload_n 0, 1) := by decide +kernel
theorem dJ6_bitCount_0f7a4_36 : decode cJ6_bitCount_0f7a4 36 = .ok (.bipush 8, 2) := by decide +kernel
theorem dJ6_bitCount_0f7a4_38 : decode cJ6_bitCount_0f7a4 38 = .ok (.iushr, 1) := by decide +kernel
theorem dJ6_bitCount_0f7a4_39 : decode cJ6_bitCount_0f7a4 39 = .ok (.iadd, 1) := by decide +kernel
theorem dJ6_bitCount_0f7a4_40 : decode cJ6_bitCount_0f7a4 40 = .ok (.istore_n 0, 1) := by decide +kernel
theorem dJ6_bitCount_0f7a4_41 : decode cJ6_bitCount_0f7a4 41 = .ok (.iload_n 0, 1) := by decide +kernel
theorem dJ6_bitCount_0f7a4_42 : decode cJ6_bitCount_0f7a4 42 = .ok (.iload_n 0, 1) := by decide +kernel
theorem dJ6_bitCount_0f7a4_43 : decode cJ6_bitCount_0f7a4 43 = .ok (.bipush 16, 2) := by decide +kernel
theorem dJ6_bitCount_0f7a4_45 : decode cJ6_bitCount_0f7a4 45 = .ok (.iushr, 1) := by decide +kernel
theorem dJ6_bitCount_0f7a4_46 : decode cJ6_bitCount_0f7a4 46 = .ok (.iadd, 1) := by decide +kernel
theorem dJ6_bitCount_0f7a4_47 : decode cJ6_bitCount_0f7a4 47 = .ok (.istore_n 0, 1) := by decide +kernel
theorem dJ6_bitCount_0f7a4_48 : decode cJ6_bitCount_0f7a4 48 = .ok (.iload_n 0, 1) := by decide +kernel
theorem dJ6_bitCount_0f7a4_49 : decode cJ6_bitCount_0f7a4 49 = .ok (.bipush 63, 2) := by decide +kernel
theorem dJ6_bitCount_0f7a4_51 : decode cJ6_bitCount_0f7a4 51 = .ok (.iand, 1) := by decide +kernel
theorem dJ6_bitCount_0f7a4_52 : decode cJ6_bitCount_0f7a4 52 = .ok (.ireturn, 1) := by decide +kernel
theorem dJ7_fill_53178_0 : decode cJ7_fill_53178 0 = .ok (.iconst 0, 1) := by decide +kernel
theorem dJ7_fill_53178_1 : decode cJ7_fill_53178 1 = .ok (.istore_n 2, 1) := by decide +kernel
theorem dJ7_fill_53178_2 : decode cJ7_fill_53178 2 = .ok (.aload_n 0, 1) := by decide +kernel
theorem dJ7_fill_53178_3 : decode cJ7_fill_53178 3 = .ok (.arraylength, 1) := by decide +kernel
theorem dJ7_fill_53178_4 : decode cJ7_fill_53178 4 = .ok (.istore_n 3, 1) := by decide +kernel
theorem dJ7_fill_53178_5 : decode cJ7_fill_53178 5 = .ok (.iload_n 2, 1) := by decide +kernel
theorem dJ7_fill_53178_6 : decode cJ7_fill_53178 6 = .ok (.iload_n 3, 1) := by decide +kernel
theorem dJ7_fill_53178_7 : decode cJ7_fill_53178 7 = .ok (.if_icmp .ge 13, 3) := by decide +kernel
theorem dJ7_fill_53178_10 : decode cJ7_fill_53178 10 = .ok (.aload_n 0, 1) := by decide +kernel
theorem dJ7_fill_53178_11 : decode cJ7_fill_53178 11 = .ok (.iload_n 2, 1) := by decide +kernel
theorem dJ7_fill_53178_12 : decode cJ7_fill_53178 12 = .ok (.iload_n 1, 1) := by decide +kernel
theorem dJ7_fill_53178_13 : decode cJ7_fill_53178 13 = .ok (.iastore, 1) := by decide +kernel
theorem dJ7_fill_53178_14 : decode cJ7_fill_53178 14 = .ok (.iinc 2 1, 3) := by decide +kernel
theorem dJ7_fill_53178_17 : decode cJ7_fill_53178 17 = .ok (.goto (-12), 3) := by decide +kernel
theorem dJ7_fill_53178_20 : decode cJ7_fill_53178 20 = .ok (.return_, 1) := by decide +kernel
theorem dL_law_0 : decode cL_law 0 = .ok (.new 7, 3) := by decide +kernel
theorem dL_law_3 : decode cL_law 3 = .ok (.dup, 1) := by decide +kernel
theorem dL_law_4 : decode cL_law 4 = .ok (.invokespecial 9, 3) := by decide +kernel
theorem dL_law_7 : decode cL_law 7 = .ok (.astore_n 1, 1) := by decide +kernel
theorem dL_law_8 : decode cL_law 8 = .ok (.new 10, 3) := by decide +kernel
theorem dL_law_11 : decode cL_law 11 = .ok (.dup, 1) := by decide +kernel
theorem dL_law_12 : decode cL_law 12 = .ok (.invokespecial 12, 3) := by decide +kernel
theorem dL_law_15 : decode cL_law 15 = .ok (.astore_n 2, 1) := by decide +kernel
theorem dL_law_16 : decode cL_law 16 = .ok (.iconst 0, 1) := by decide +kernel
theorem dL_law_17 : decode cL_law 17 = .ok (.istore_n 3, 1) := by decide +kernel
theorem dL_law_18 : decode cL_law 18 = .ok (.iload_n 3, 1) := by decide +kernel
theorem dL_law_19 : decode cL_law 19 = .ok (.aload_n 0, 1) := by decide +kernel
theorem dL_law_20 : decode cL_law 20 = .ok (.arraylength, 1) := by decide +kernel
theorem dL_law_21 : decode cL_law 21 = .ok (.bipush 6, 2) := by decide +kernel
theorem dL_law_23 : decode cL_law 23 = .ok (.isub, 1) := by decide +kernel
theorem dL_law_24 : decode cL_law 24 = .ok (.if_icmp .gt 935, 3) := by decide +kernel
theorem dL_law_27 : decode cL_law 27 = .ok (.aload_n 0, 1) := by decide +kernel
theorem dL_law_28 : decode cL_law 28 = .ok (.iload_n 3, 1) := by decide +kernel
theorem dL_law_29 : decode cL_law 29 = .ok (.iaload, 1) := by decide +kernel
theorem dL_law_30 : decode cL_law 30 = .ok (.bipush 31, 2) := by decide +kernel
theorem dL_law_32 : decode cL_law 32 = .ok (.iand, 1) := by decide +kernel
theorem dL_law_33 : decode cL_law 33 = .ok (.tableswitch 920 0 23 #[111, 134, 147, 160, 173, 196, 229, 262, 295, 328, 341, 404, 417, 470, 523, 566, 629, 682, 695, 718, 797, 851, 874, 897], 111) := by decide +kernel
theorem dL_law_144 : decode cL_law 144 = .ok (.aload_n 1, 1) := by decide +kernel
theorem dL_law_145 : decode cL_law 145 = .ok (.aload_n 0, 1) := by decide +kernel
theorem dL_law_146 : decode cL_law 146 = .ok (.iload_n 3, 1) := by decide +kernel
theorem dL_law_147 : decode cL_law 147 = .ok (.iconst 1, 1) := by decide +kernel
theorem dL_law_148 : decode cL_law 148 = .ok (.iadd, 1) := by decide +kernel
theorem dL_law_149 : decode cL_law 149 = .ok (.iaload, 1) := by decide +kernel
theorem dL_law_150 : decode cL_law 150 = .ok (.invokevirtual 13, 3) := by decide +kernel
theorem dL_law_153 : decode cL_law 153 = .ok (.aload_n 2, 1) := by decide +kernel
theorem dL_law_154 : decode cL_law 154 = .ok (.aload_n 0, 1) := by decide +kernel
theorem dL_law_155 : decode cL_law 155 = .ok (.iload_n 3, 1) := by decide +kernel
theorem dL_law_156 : decode cL_law 156 = .ok (.iconst 1, 1) := by decide +kernel
theorem dL_law_157 : decode cL_law 157 = .ok (.iadd, 1) := by decide +kernel
theorem dL_law_158 : decode cL_law 158 = .ok (.iaload, 1) := by decide +kernel
theorem dL_law_159 : decode cL_law 159 = .ok (.invokevirtual 17, 3) := by decide +kernel
theorem dL_law_162 : decode cL_law 162 = .ok (.if_icmp .eq 791, 3) := by decide +kernel
theorem dL_law_165 : decode cL_law 165 = .ok (.iconst 0, 1) := by decide +kernel
theorem dL_law_166 : decode cL_law 166 = .ok (.ireturn, 1) := by decide +kernel
theorem dL_law_167 : decode cL_law 167 = .ok (.aload_n 1, 1) := by decide +kernel
theorem dL_law_168 : decode cL_law 168 = .ok (.invokevirtual 18, 3) := by decide +kernel
theorem dL_law_171 : decode cL_law 171 = .ok (.aload_n 2, 1) := by decide +kernel
theorem dL_law_172 : decode cL_law 172 = .ok (.invokevirtual 22, 3) := by decide +kernel
theorem dL_law_175 : decode cL_law 175 = .ok (.if_icmp .eq 778, 3) := by decide +kernel
theorem dL_law_178 : decode cL_law 178 = .ok (.iconst 0, 1) := by decide +kernel
theorem dL_law_179 : decode cL_law 179 = .ok (.ireturn, 1) := by decide +kernel
theorem dL_law_180 : decode cL_law 180 = .ok (.aload_n 1, 1) := by decide +kernel
theorem dL_law_181 : decode cL_law 181 = .ok (.invokevirtual 23, 3) := by decide +kernel
theorem dL_law_184 : decode cL_law 184 = .ok (.aload_n 2, 1) := by decide +kernel
theorem dL_law_185 : decode cL_law 185 = .ok (.invokevirtual 26, 3) := by decide +kernel
theorem dL_law_188 : decode cL_law 188 = .ok (.if_icmp .eq 765, 3) := by decide +kernel
theorem dL_law_191 : decode cL_law 191 = .ok (.iconst 0, 1) := by decide +kernel
theorem dL_law_192 : decode cL_law 192 = .ok (.ireturn, 1) := by decide +kernel
theorem dL_law_193 : decode cL_law 193 = .ok (.aload_n 1, 1) := by decide +kernel
theorem dL_law_194 : decode cL_law 194 = .ok (.invokevirtual 27, 3) := by decide +kernel
theorem dL_law_197 : decode cL_law 197 = .ok (.aload_n 2, 1) := by decide +kernel
theorem dL_law_198 : decode cL_law 198 = .ok (.invokevirtual 30, 3) := by decide +kernel
theorem dL_law_201 : decode cL_law 201 = .ok (.if_icmp .eq 752, 3) := by decide +kernel
theorem dL_law_204 : decode cL_law 204 = .ok (.iconst 0, 1) := by decide +kernel
theorem dL_law_205 : decode cL_law 205 = .ok (.ireturn, 1) := by decide +kernel
theorem dL_law_206 : decode cL_law 206 = .ok (.aload_n 1, 1) := by decide +kernel
theorem dL_law_207 : decode cL_law 207 = .ok (.aload_n 0, 1) := by decide +kernel
theorem dL_law_208 : decode cL_law 208 = .ok (.iload_n 3, 1) := by decide +kernel
theorem dL_law_209 : decode cL_law 209 = .ok (.iconst 1, 1) := by decide +kernel
theorem dL_law_210 : decode cL_law 210 = .ok (.iadd, 1) := by decide +kernel
theorem dL_law_211 : decode cL_law 211 = .ok (.iaload, 1) := by decide +kernel
theorem dL_law_212 : decode cL_law 212 = .ok (.invokevirtual 31, 3) := by decide +kernel
theorem dL_law_215 : decode cL_law 215 = .ok (.aload_n 2, 1) := by decide +kernel
theorem dL_law_216 : decode cL_law 216 = .ok (.aload_n 0, 1) := by decide +kernel
theorem dL_law_217 : decode cL_law 217 = .ok (.iload_n 3, 1) := by decide +kernel
theorem dL_law_218 : decode cL_law 218 = .ok (.iconst 1, 1) := by decide +kernel
theorem dL_law_219 : decode cL_law 219 = .ok (.iadd, 1) := by decide +kernel
theorem dL_law_220 : decode cL_law 220 = .ok (.iaload, 1) := by decide +kernel
theorem dL_law_221 : decode cL_law 221 = .ok (.invokevirtual 34, 3) := by decide +kernel
theorem dL_law_224 : decode cL_law 224 = .ok (.if_icmp .eq 729, 3) := by decide +kernel
theorem dL_law_227 : decode cL_law 227 = .ok (.iconst 0, 1) := by decide +kernel
theorem dL_law_228 : decode cL_law 228 = .ok (.ireturn, 1) := by decide +kernel
theorem dL_law_229 : decode cL_law 229 = .ok (.aload_n 1, 1) := by decide +kernel
theorem dL_law_230 : decode cL_law 230 = .ok (.aload_n 0, 1) := by decide +kernel
theorem dL_law_231 : decode cL_law 231 = .ok (.iload_n 3, 1) := by decide +kernel
theorem dL_law_232 : decode cL_law 232 = .ok (.iconst 1, 1) := by decide +kernel
theorem dL_law_233 : decode cL_law 233 = .ok (.iadd, 1) := by decide +kernel
theorem dL_law_234 : decode cL_law 234 = .ok (.iaload, 1) := by decide +kernel
theorem dL_law_235 : decode cL_law 235 = .ok (.aload_n 0, 1) := by decide +kernel
theorem dL_law_236 : decode cL_law 236 = .ok (.iload_n 3, 1) := by decide +kernel
theorem dL_law_237 : decode cL_law 237 = .ok (.iconst 2, 1) := by decide +kernel
theorem dL_law_238 : decode cL_law 238 = .ok (.iadd, 1) := by decide +kernel
theorem dL_law_239 : decode cL_law 239 = .ok (.iaload, 1) := by decide +kernel
theorem dL_law_240 : decode cL_law 240 = .ok (.invokevirtual 35, 3) := by decide +kernel
theorem dL_law_243 : decode cL_law 243 = .ok (.aload_n 2, 1) := by decide +kernel
theorem dL_law_244 : decode cL_law 244 = .ok (.aload_n 0, 1) := by decide +kernel
theorem dL_law_245 : decode cL_law 245 = .ok (.iload_n 3, 1) := by decide +kernel
theorem dL_law_246 : decode cL_law 246 = .ok (.iconst 1, 1) := by decide +kernel
theorem dL_law_247 : decode cL_law 247 = .ok (.iadd, 1) := by decide +kernel
theorem dL_law_248 : decode cL_law 248 = .ok (.iaload, 1) := by decide +kernel
theorem dL_law_249 : decode cL_law 249 = .ok (.aload_n 0, 1) := by decide +kernel
theorem dL_law_250 : decode cL_law 250 = .ok (.iload_n 3, 1) := by decide +kernel
theorem dL_law_251 : decode cL_law 251 = .ok (.iconst 2, 1) := by decide +kernel
theorem dL_law_252 : decode cL_law 252 = .ok (.iadd, 1) := by decide +kernel
theorem dL_law_253 : decode cL_law 253 = .ok (.iaload, 1) := by decide +kernel
theorem dL_law_254 : decode cL_law 254 = .ok (.invokevirtual 39, 3) := by decide +kernel
theorem dL_law_257 : decode cL_law 257 = .ok (.if_icmp .eq 696, 3) := by decide +kernel
theorem dL_law_260 : decode cL_law 260 = .ok (.iconst 0, 1) := by decide +kernel
theorem dL_law_261 : decode cL_law 261 = .ok (.ireturn, 1) := by decide +kernel
theorem dL_law_262 : decode cL_law 262 = .ok (.aload_n 1, 1) := by decide +kernel
theorem dL_law_263 : decode cL_law 263 = .ok (.aload_n 0, 1) := by decide +kernel
theorem dL_law_264 : decode cL_law 264 = .ok (.iload_n 3, 1) := by decide +kernel
theorem dL_law_265 : decode cL_law 265 = .ok (.iconst 1, 1) := by decide +kernel
theorem dL_law_266 : decode cL_law 266 = .ok (.iadd, 1) := by decide +kernel
theorem dL_law_267 : decode cL_law 267 = .ok (.iaload, 1) := by decide +kernel
theorem dL_law_268 : decode cL_law 268 = .ok (.aload_n 0, 1) := by decide +kernel
theorem dL_law_269 : decode cL_law 269 = .ok (.iload_n 3, 1) := by decide +kernel
theorem dL_law_270 : decode cL_law 270 = .ok (.iconst 2, 1) := by decide +kernel
theorem dL_law_271 : decode cL_law 271 = .ok (.iadd, 1) := by decide +kernel
theorem dL_law_272 : decode cL_law 272 = .ok (.iaload, 1) := by decide +kernel
theorem dL_law_273 : decode cL_law 273 = .ok (.invokevirtual 40, 3) := by decide +kernel
theorem dL_law_276 : decode cL_law 276 = .ok (.aload_n 2, 1) := by decide +kernel
theorem dL_law_277 : decode cL_law 277 = .ok (.aload_n 0, 1) := by decide +kernel
theorem dL_law_278 : decode cL_law 278 = .ok (.iload_n 3, 1) := by decide +kernel
theorem dL_law_279 : decode cL_law 279 = .ok (.iconst 1, 1) := by decide +kernel
theorem dL_law_280 : decode cL_law 280 = .ok (.iadd, 1) := by decide +kernel
theorem dL_law_281 : decode cL_law 281 = .ok (.iaload, 1) := by decide +kernel
theorem dL_law_282 : decode cL_law 282 = .ok (.aload_n 0, 1) := by decide +kernel
theorem dL_law_283 : decode cL_law 283 = .ok (.iload_n 3, 1) := by decide +kernel
theorem dL_law_284 : decode cL_law 284 = .ok (.iconst 2, 1) := by decide +kernel
theorem dL_law_285 : decode cL_law 285 = .ok (.iadd, 1) := by decide +kernel
theorem dL_law_286 : decode cL_law 286 = .ok (.iaload, 1) := by decide +kernel
theorem dL_law_287 : decode cL_law 287 = .ok (.invokevirtual 43, 3) := by decide +kernel
theorem dL_law_290 : decode cL_law 290 = .ok (.if_icmp .eq 663, 3) := by decide +kernel
theorem dL_law_293 : decode cL_law 293 = .ok (.iconst 0, 1) := by decide +kernel
theorem dL_law_294 : decode cL_law 294 = .ok (.ireturn, 1) := by decide +kernel
theorem dL_law_295 : decode cL_law 295 = .ok (.aload_n 1, 1) := by decide +kernel
theorem dL_law_296 : decode cL_law 296 = .ok (.aload_n 0, 1) := by decide +kernel
theorem dL_law_297 : decode cL_law 297 = .ok (.iload_n 3, 1) := by decide +kernel
theorem dL_law_298 : decode cL_law 298 = .ok (.iconst 1, 1) := by decide +kernel
theorem dL_law_299 : decode cL_law 299 = .ok (.iadd, 1) := by decide +kernel
theorem dL_law_300 : decode cL_law 300 = .ok (.iaload, 1) := by decide +kernel
theorem dL_law_301 : decode cL_law 301 = .ok (.aload_n 0, 1) := by decide +kernel
theorem dL_law_302 : decode cL_law 302 = .ok (.iload_n 3, 1) := by decide +kernel
theorem dL_law_303 : decode cL_law 303 = .ok (.iconst 2, 1) := by decide +kernel
theorem dL_law_304 : decode cL_law 304 = .ok (.iadd, 1) := by decide +kernel
theorem dL_law_305 : decode cL_law 305 = .ok (.iaload, 1) := by decide +kernel
theorem dL_law_306 : decode cL_law 306 = .ok (.invokevirtual 44, 3) := by decide +kernel
theorem dL_law_309 : decode cL_law 309 = .ok (.aload_n 2, 1) := by decide +kernel
theorem dL_law_310 : decode cL_law 310 = .ok (.aload_n 0, 1) := by decide +kernel
theorem dL_law_311 : decode cL_law 311 = .ok (.iload_n 3, 1) := by decide +kernel
theorem dL_law_312 : decode cL_law 312 = .ok (.iconst 1, 1) := by decide +kernel
theorem dL_law_313 : decode cL_law 313 = .ok (.iadd, 1) := by decide +kernel
theorem dL_law_314 : decode cL_law 314 = .ok (.iaload, 1) := by decide +kernel
theorem dL_law_315 : decode cL_law 315 = .ok (.aload_n 0, 1) := by decide +kernel
theorem dL_law_316 : decode cL_law 316 = .ok (.iload_n 3, 1) := by decide +kernel
theorem dL_law_317 : decode cL_law 317 = .ok (.iconst 2, 1) := by decide +kernel
theorem dL_law_318 : decode cL_law 318 = .ok (.iadd, 1) := by decide +kernel
theorem dL_law_319 : decode cL_law 319 = .ok (.iaload, 1) := by decide +kernel
theorem dL_law_320 : decode cL_law 320 = .ok (.invokevirtual 47, 3) := by decide +kernel
theorem dL_law_323 : decode cL_law 323 = .ok (.if_icmp .eq 630, 3) := by decide +kernel
theorem dL_law_326 : decode cL_law 326 = .ok (.iconst 0, 1) := by decide +kernel
theorem dL_law_327 : decode cL_law 327 = .ok (.ireturn, 1) := by decide +kernel
theorem dL_law_328 : decode cL_law 328 = .ok (.aload_n 1, 1) := by decide +kernel
theorem dL_law_329 : decode cL_law 329 = .ok (.aload_n 0, 1) := by decide +kernel
theorem dL_law_330 : decode cL_law 330 = .ok (.iload_n 3, 1) := by decide +kernel
theorem dL_law_331 : decode cL_law 331 = .ok (.iconst 1, 1) := by decide +kernel
theorem dL_law_332 : decode cL_law 332 = .ok (.iadd, 1) := by decide +kernel
theorem dL_law_333 : decode cL_law 333 = .ok (.iaload, 1) := by decide +kernel
theorem dL_law_334 : decode cL_law 334 = .ok (.aload_n 0, 1) := by decide +kernel
theorem dL_law_335 : decode cL_law 335 = .ok (.iload_n 3, 1) := by decide +kernel
theorem dL_law_336 : decode cL_law 336 = .ok (.iconst 2, 1) := by decide +kernel
theorem dL_law_337 : decode cL_law 337 = .ok (.iadd, 1) := by decide +kernel
theorem dL_law_338 : decode cL_law 338 = .ok (.iaload, 1) := by decide +kernel
theorem dL_law_339 : decode cL_law 339 = .ok (.invokevirtual 48, 3) := by decide +kernel
theorem dL_law_342 : decode cL_law 342 = .ok (.aload_n 2, 1) := by decide +kernel
theorem dL_law_343 : decode cL_law 343 = .ok (.aload_n 0, 1) := by decide +kernel
theorem dL_law_344 : decode cL_law 344 = .ok (.iload_n 3, 1) := by decide +kernel
theorem dL_law_345 : decode cL_law 345 = .ok (.iconst 1, 1) := by decide +kernel
theorem dL_law_346 : decode cL_law 346 = .ok (.iadd, 1) := by decide +kernel
theorem dL_law_347 : decode cL_law 347 = .ok (.iaload, 1) := by decide +kernel
theorem dL_law_348 : decode cL_law 348 = .ok (.aload_n 0, 1) := by decide +kernel
theorem dL_law_349 : decode cL_law 349 = .ok (.iload_n 3, 1) := by decide +kernel
theorem dL_law_350 : decode cL_law 350 = .ok (.iconst 2, 1) := by decide +kernel
theorem dL_law_351 : decode cL_law 351 = .ok (.iadd, 1) := by decide +kernel
theorem dL_law_352 : decode cL_law 352 = .ok (.iaload, 1) := by decide +kernel
theorem dL_law_353 : decode cL_law 353 = .ok (.invokevirtual 51, 3) := by decide +kernel
theorem dL_law_356 : decode cL_law 356 = .ok (.if_icmp .eq 597, 3) := by decide +kernel
theorem dL_law_359 : decode cL_law 359 = .ok (.iconst 0, 1) := by decide +kernel
theorem dL_law_360 : decode cL_law 360 = .ok (.ireturn, 1) := by decide +kernel
theorem dL_law_361 : decode cL_law 361 = .ok (.aload_n 1, 1) := by decide +kernel
theorem dL_law_362 : decode cL_law 362 = .ok (.invokevirtual 52, 3) := by decide +kernel
theorem dL_law_365 : decode cL_law 365 = .ok (.aload_n 2, 1) := by decide +kernel
theorem dL_law_366 : decode cL_law 366 = .ok (.invokevirtual 55, 3) := by decide +kernel
theorem dL_law_369 : decode cL_law 369 = .ok (.if_icmp .eq 584, 3) := by decide +kernel
theorem dL_law_372 : decode cL_law 372 = .ok (.iconst 0, 1) := by decide +kernel
theorem dL_law_373 : decode cL_law 373 = .ok (.ireturn, 1) := by decide +kernel
theorem dL_law_374 : decode cL_law 374 = .ok (.aload_n 1, 1) := by decide +kernel
theorem dL_law_375 : decode cL_law 375 = .ok (.aload_n 0, 1) := by decide +kernel
theorem dL_law_376 : decode cL_law 376 = .ok (.iload_n 3, 1) := by decide +kernel
theorem dL_law_377 : decode cL_law 377 = .ok (.iconst 1, 1) := by decide +kernel
theorem dL_law_378 : decode cL_law 378 = .ok (.iadd, 1) := by decide +kernel
theorem dL_law_379 : decode cL_law 379 = .ok (.iaload, 1) := by decide +kernel
theorem dL_law_380 : decode cL_law 380 = .ok (.aload_n 0, 1) := by decide +kernel
theorem dL_law_381 : decode cL_law 381 = .ok (.iload_n 3, 1) := by decide +kernel
theorem dL_law_382 : decode cL_law 382 = .ok (.iconst 2, 1) := by decide +kernel
theorem dL_law_383 : decode cL_law 383 = .ok (.iadd, 1) := by decide +kernel
theorem dL_law_384 : decode cL_law 384 = .ok (.iaload, 1) := by decide +kernel
theorem dL_law_385 : decode cL_law 385 = .ok (.aload_n 0, 1) := by decide +kernel
theorem dL_law_386 : decode cL_law 386 = .ok (.iload_n 3, 1) := by decide +kernel
theorem dL_law_387 : decode cL_law 387 = .ok (.iconst 3, 1) := by decide +kernel
theorem dL_law_388 : decode cL_law 388 = .ok (.iadd, 1) := by decide +kernel
theorem dL_law_389 : decode cL_law 389 = .ok (.iaload, 1) := by decide +kernel
theorem dL_law_390 : decode cL_law 390 = .ok (.aload_n 0, 1) := by decide +kernel
theorem dL_law_391 : decode cL_law 391 = .ok (.iload_n 3, 1) := by decide +kernel
theorem dL_law_392 : decode cL_law 392 = .ok (.iconst 4, 1) := by decide +kernel
theorem dL_law_393 : decode cL_law 393 = .ok (.iadd, 1) := by decide +kernel
theorem dL_law_394 : decode cL_law 394 = .ok (.iaload, 1) := by decide +kernel
theorem dL_law_395 : decode cL_law 395 = .ok (.aload_n 0, 1) := by decide +kernel
theorem dL_law_396 : decode cL_law 396 = .ok (.iload_n 3, 1) := by decide +kernel
theorem dL_law_397 : decode cL_law 397 = .ok (.iconst 5, 1) := by decide +kernel
theorem dL_law_398 : decode cL_law 398 = .ok (.iadd, 1) := by decide +kernel
theorem dL_law_399 : decode cL_law 399 = .ok (.iaload, 1) := by decide +kernel
theorem dL_law_400 : decode cL_law 400 = .ok (.invokevirtual 56, 3) := by decide +kernel
theorem dL_law_403 : decode cL_law 403 = .ok (.aload_n 2, 1) := by decide +kernel
theorem dL_law_404 : decode cL_law 404 = .ok (.aload_n 0, 1) := by decide +kernel
theorem dL_law_405 : decode cL_law 405 = .ok (.iload_n 3, 1) := by decide +kernel
theorem dL_law_406 : decode cL_law 406 = .ok (.iconst 1, 1) := by decide +kernel
theorem dL_law_407 : decode cL_law 407 = .ok (.iadd, 1) := by decide +kernel
theorem dL_law_408 : decode cL_law 408 = .ok (.iaload, 1) := by decide +kernel
theorem dL_law_409 : decode cL_law 409 = .ok (.aload_n 0, 1) := by decide +kernel
theorem dL_law_410 : decode cL_law 410 = .ok (.iload_n 3, 1) := by decide +kernel
theorem dL_law_411 : decode cL_law 411 = .ok (.iconst 2, 1) := by decide +kernel
theorem dL_law_412 : decode cL_law 412 = .ok (.iadd, 1) := by decide +kernel
theorem dL_law_413 : decode cL_law 413 = .ok (.iaload, 1) := by decide +kernel
theorem dL_law_414 : decode cL_law 414 = .ok (.aload_n 0, 1) := by decide +kernel
theorem dL_law_415 : decode cL_law 415 = .ok (.iload_n 3, 1) := by decide +kernel
theorem dL_law_416 : decode cL_law 416 = .ok (.iconst 3, 1) := by decide +kernel
theorem dL_law_417 : decode cL_law 417 = .ok (.iadd, 1) := by decide +kernel
theorem dL_law_418 : decode cL_law 418 = .ok (.iaload, 1) := by decide +kernel
theorem dL_law_419 : decode cL_law 419 = .ok (.aload_n 0, 1) := by decide +kernel
theorem dL_law_420 : decode cL_law 420 = .ok (.iload_n 3, 1) := by decide +kernel
theorem dL_law_421 : decode cL_law 421 = .ok (.iconst 4, 1) := by decide +kernel
theorem dL_law_422 : decode cL_law 422 = .ok (.iadd, 1) := by decide +kernel
theorem dL_law_423 : decode cL_law 423 = .ok (.iaload, 1) := by decide +kernel
theorem dL_law_424 : decode cL_law 424 = .ok (.aload_n 0, 1) := by decide +kernel
theorem dL_law_425 : decode cL_law 425 = .ok (.iload_n 3, 1) := by decide +kernel
theorem dL_law_426 : decode cL_law 426 = .ok (.iconst 5, 1) := by decide +kernel
theorem dL_law_427 : decode cL_law 427 = .ok (.iadd, 1) := by decide +kernel
theorem dL_law_428 : decode cL_law 428 = .ok (.iaload, 1) := by decide +kernel
theorem dL_law_429 : decode cL_law 429 = .ok (.invokevirtual 60, 3) := by decide +kernel
theorem dL_law_432 : decode cL_law 432 = .ok (.if_icmp .eq 521, 3) := by decide +kernel
theorem dL_law_435 : decode cL_law 435 = .ok (.iconst 0, 1) := by decide +kernel
theorem dL_law_436 : decode cL_law 436 = .ok (.ireturn, 1) := by decide +kernel
theorem dL_law_437 : decode cL_law 437 = .ok (.aload_n 1, 1) := by decide +kernel
theorem dL_law_438 : decode cL_law 438 = .ok (.invokevirtual 61, 3) := by decide +kernel
theorem dL_law_441 : decode cL_law 441 = .ok (.aload_n 2, 1) := by decide +kernel
theorem dL_law_442 : decode cL_law 442 = .ok (.invokevirtual 64, 3) := by decide +kernel
theorem dL_law_445 : decode cL_law 445 = .ok (.if_icmp .eq 508, 3) := by decide +kernel
theorem dL_law_448 : decode cL_law 448 = .ok (.iconst 0, 1) := by decide +kernel
theorem dL_law_449 : decode cL_law 449 = .ok (.ireturn, 1) := by decide +kernel
theorem dL_law_450 : decode cL_law 450 = .ok (.aload_n 1, 1) := by decide +kernel
theorem dL_law_451 : decode cL_law 451 = .ok (.aload_n 0, 1) := by decide +kernel
theorem dL_law_452 : decode cL_law 452 = .ok (.iload_n 3, 1) := by decide +kernel
theorem dL_law_453 : decode cL_law 453 = .ok (.iconst 1, 1) := by decide +kernel
theorem dL_law_454 : decode cL_law 454 = .ok (.iadd, 1) := by decide +kernel
theorem dL_law_455 : decode cL_law 455 = .ok (.iaload, 1) := by decide +kernel
theorem dL_law_456 : decode cL_law 456 = .ok (.aload_n 0, 1) := by decide +kernel
theorem dL_law_457 : decode cL_law 457 = .ok (.iload_n 3, 1) := by decide +kernel
theorem dL_law_458 : decode cL_law 458 = .ok (.iconst 2, 1) := by decide +kernel
theorem dL_law_459 : decode cL_law 459 = .ok (.iadd, 1) := by decide +kernel
theorem dL_law_460 : decode cL_law 460 = .ok (.iaload, 1) := by decide +kernel
theorem dL_law_461 : decode cL_law 461 = .ok (.aload_n 0, 1) := by decide +kernel
theorem dL_law_462 : decode cL_law 462 = .ok (.iload_n 3, 1) := by decide +kernel
theorem dL_law_463 : decode cL_law 463 = .ok (.iconst 3, 1) := by decide +kernel
theorem dL_law_464 : decode cL_law 464 = .ok (.iadd, 1) := by decide +kernel
theorem dL_law_465 : decode cL_law 465 = .ok (.iaload, 1) := by decide +kernel
theorem dL_law_466 : decode cL_law 466 = .ok (.aload_n 0, 1) := by decide +kernel
theorem dL_law_467 : decode cL_law 467 = .ok (.iload_n 3, 1) := by decide +kernel
theorem dL_law_468 : decode cL_law 468 = .ok (.iconst 4, 1) := by decide +kernel
theorem dL_law_469 : decode cL_law 469 = .ok (.iadd, 1) := by decide +kernel
theorem dL_law_470 : decode cL_law 470 = .ok (.iaload, 1) := by decide +kernel
theorem dL_law_471 : decode cL_law 471 = .ok (.invokevirtual 65, 3) := by decide +kernel
theorem dL_law_474 : decode cL_law 474 = .ok (.aload_n 2, 1) := by decide +kernel
theorem dL_law_475 : decode cL_law 475 = .ok (.aload_n 0, 1) := by decide +kernel
theorem dL_law_476 : decode cL_law 476 = .ok (.iload_n 3, 1) := by decide +kernel
theorem dL_law_477 : decode cL_law 477 = .ok (.iconst 1, 1) := by decide +kernel
theorem dL_law_478 : decode cL_law 478 = .ok (.iadd, 1) := by decide +kernel
theorem dL_law_479 : decode cL_law 479 = .ok (.iaload, 1) := by decide +kernel
theorem dL_law_480 : decode cL_law 480 = .ok (.aload_n 0, 1) := by decide +kernel
theorem dL_law_481 : decode cL_law 481 = .ok (.iload_n 3, 1) := by decide +kernel
theorem dL_law_482 : decode cL_law 482 = .ok (.iconst 2, 1) := by decide +kernel
theorem dL_law_483 : decode cL_law 483 = .ok (.iadd, 1) := by decide +kernel
theorem dL_law_484 : decode cL_law 484 = .ok (.iaload, 1) := by decide +kernel
theorem dL_law_485 : decode cL_law 485 = .ok (.aload_n 0, 1) := by decide +kernel
theorem dL_law_486 : decode cL_law 486 = .ok (.iload_n 3, 1) := by decide +kernel
theorem dL_law_487 : decode cL_law 487 = .ok (.iconst 3, 1) := by decide +kernel
theorem dL_law_488 : decode cL_law 488 = .ok (.iadd, 1) := by decide +kernel
theorem dL_law_489 : decode cL_law 489 = .ok (.iaload, 1) := by decide +kernel
theorem dL_law_490 : decode cL_law 490 = .ok (.aload_n 0, 1) := by decide +kernel
theorem dL_law_491 : decode cL_law 491 = .ok (.iload_n 3, 1) := by decide +kernel
theorem dL_law_492 : decode cL_law 492 = .ok (.iconst 4, 1) := by decide +kernel
theorem dL_law_493 : decode cL_law 493 = .ok (.iadd, 1) := by decide +kernel
theorem dL_law_494 : decode cL_law 494 = .ok (.iaload, 1) := by decide +kernel
theorem dL_law_495 : decode cL_law 495 = .ok (.invokevirtual 69, 3) := by decide +kernel
theorem dL_law_498 : decode cL_law 498 = .ok (.if_icmp .eq 455, 3) := by decide +kernel
theorem dL_law_501 : decode cL_law 501 = .ok (.iconst 0, 1) := by decide +kernel
theorem dL_law_502 : decode cL_law 502 = .ok (.ireturn, 1) := by decide +kernel
theorem dL_law_503 : decode cL_law 503 = .ok (.aload_n 1, 1) := by decide +kernel
theorem dL_law_504 : decode cL_law 504 = .ok (.aload_n 0, 1) := by decide +kernel
theorem dL_law_505 : decode cL_law 505 = .ok (.iload_n 3, 1) := by decide +kernel
theorem dL_law_506 : decode cL_law 506 = .ok (.iconst 1, 1) := by decide +kernel
theorem dL_law_507 : decode cL_law 507 = .ok (.iadd, 1) := by decide +kernel
theorem dL_law_508 : decode cL_law 508 = .ok (.iaload, 1) := by decide +kernel
theorem dL_law_509 : decode cL_law 509 = .ok (.aload_n 0, 1) := by decide +kernel
theorem dL_law_510 : decode cL_law 510 = .ok (.iload_n 3, 1) := by decide +kernel
theorem dL_law_511 : decode cL_law 511 = .ok (.iconst 2, 1) := by decide +kernel
theorem dL_law_512 : decode cL_law 512 = .ok (.iadd, 1) := by decide +kernel
theorem dL_law_513 : decode cL_law 513 = .ok (.iaload, 1) := by decide +kernel
theorem dL_law_514 : decode cL_law 514 = .ok (.aload_n 0, 1) := by decide +kernel
theorem dL_law_515 : decode cL_law 515 = .ok (.iload_n 3, 1) := by decide +kernel
theorem dL_law_516 : decode cL_law 516 = .ok (.iconst 3, 1) := by decide +kernel
theorem dL_law_517 : decode cL_law 517 = .ok (.iadd, 1) := by decide +kernel
theorem dL_law_518 : decode cL_law 518 = .ok (.iaload, 1) := by decide +kernel
theorem dL_law_519 : decode cL_law 519 = .ok (.aload_n 0, 1) := by decide +kernel
theorem dL_law_520 : decode cL_law 520 = .ok (.iload_n 3, 1) := by decide +kernel
theorem dL_law_521 : decode cL_law 521 = .ok (.iconst 4, 1) := by decide +kernel
theorem dL_law_522 : decode cL_law 522 = .ok (.iadd, 1) := by decide +kernel
theorem dL_law_523 : decode cL_law 523 = .ok (.iaload, 1) := by decide +kernel
theorem dL_law_524 : decode cL_law 524 = .ok (.invokevirtual 70, 3) := by decide +kernel
theorem dL_law_527 : decode cL_law 527 = .ok (.aload_n 2, 1) := by decide +kernel
theorem dL_law_528 : decode cL_law 528 = .ok (.aload_n 0, 1) := by decide +kernel
theorem dL_law_529 : decode cL_law 529 = .ok (.iload_n 3, 1) := by decide +kernel
theorem dL_law_530 : decode cL_law 530 = .ok (.iconst 1, 1) := by decide +kernel
theorem dL_law_531 : decode cL_law 531 = .ok (.iadd, 1) := by decide +kernel
theorem dL_law_532 : decode cL_law 532 = .ok (.iaload, 1) := by decide +kernel
theorem dL_law_533 : decode cL_law 533 = .ok (.aload_n 0, 1) := by decide +kernel
theorem dL_law_534 : decode cL_law 534 = .ok (.iload_n 3, 1) := by decide +kernel
theorem dL_law_535 : decode cL_law 535 = .ok (.iconst 2, 1) := by decide +kernel
theorem dL_law_536 : decode cL_law 536 = .ok (.iadd, 1) := by decide +kernel
theorem dL_law_537 : decode cL_law 537 = .ok (.iaload, 1) := by decide +kernel
theorem dL_law_538 : decode cL_law 538 = .ok (.aload_n 0, 1) := by decide +kernel
theorem dL_law_539 : decode cL_law 539 = .ok (.iload_n 3, 1) := by decide +kernel
theorem dL_law_540 : decode cL_law 540 = .ok (.iconst 3, 1) := by decide +kernel
theorem dL_law_541 : decode cL_law 541 = .ok (.iadd, 1) := by decide +kernel
theorem dL_law_542 : decode cL_law 542 = .ok (.iaload, 1) := by decide +kernel
theorem dL_law_543 : decode cL_law 543 = .ok (.aload_n 0, 1) := by decide +kernel
theorem dL_law_544 : decode cL_law 544 = .ok (.iload_n 3, 1) := by decide +kernel
theorem dL_law_545 : decode cL_law 545 = .ok (.iconst 4, 1) := by decide +kernel
theorem dL_law_546 : decode cL_law 546 = .ok (.iadd, 1) := by decide +kernel
theorem dL_law_547 : decode cL_law 547 = .ok (.iaload, 1) := by decide +kernel
theorem dL_law_548 : decode cL_law 548 = .ok (.invokevirtual 73, 3) := by decide +kernel
theorem dL_law_551 : decode cL_law 551 = .ok (.if_icmp .eq 402, 3) := by decide +kernel
theorem dL_law_554 : decode cL_law 554 = .ok (.iconst 0, 1) := by decide +kernel
theorem dL_law_555 : decode cL_law 555 = .ok (.ireturn, 1) := by decide +kernel
theorem dL_law_556 : decode cL_law 556 = .ok (.aload_n 1, 1) := by decide +kernel
theorem dL_law_557 : decode cL_law 557 = .ok (.aload_n 0, 1) := by decide +kernel
theorem dL_law_558 : decode cL_law 558 = .ok (.iload_n 3, 1) := by decide +kernel
theorem dL_law_559 : decode cL_law 559 = .ok (.iconst 1, 1) := by decide +kernel
theorem dL_law_560 : decode cL_law 560 = .ok (.iadd, 1) := by decide +kernel
theorem dL_law_561 : decode cL_law 561 = .ok (.iaload, 1) := by decide +kernel
theorem dL_law_562 : decode cL_law 562 = .ok (.aload_n 0, 1) := by decide +kernel
theorem dL_law_563 : decode cL_law 563 = .ok (.iload_n 3, 1) := by decide +kernel
theorem dL_law_564 : decode cL_law 564 = .ok (.iconst 2, 1) := by decide +kernel
theorem dL_law_565 : decode cL_law 565 = .ok (.iadd, 1) := by decide +kernel
theorem dL_law_566 : decode cL_law 566 = .ok (.iaload, 1) := by decide +kernel
theorem dL_law_567 : decode cL_law 567 = .ok (.aload_n 0, 1) := by decide +kernel
theorem dL_law_568 : decode cL_law 568 = .ok (.iload_n 3, 1) := by decide +kernel
theorem dL_law_569 : decode cL_law 569 = .ok (.iconst 3, 1) := by decide +kernel
theorem dL_law_570 : decode cL_law 570 = .ok (.iadd, 1) := by decide +kernel
theorem dL_law_571 : decode cL_law 571 = .ok (.iaload, 1) := by decide +kernel
theorem dL_law_572 : decode cL_law 572 = .ok (.invokevirtual 74, 3) := by decide +kernel
theorem dL_law_575 : decode cL_law 575 = .ok (.aload_n 2, 1) := by decide +kernel
theorem dL_law_576 : decode cL_law 576 = .ok (.aload_n 0, 1) := by decide +kernel
theorem dL_law_577 : decode cL_law 577 = .ok (.iload_n 3, 1) := by decide +kernel
theorem dL_law_578 : decode cL_law 578 = .ok (.iconst 1, 1) := by decide +kernel
theorem dL_law_579 : decode cL_law 579 = .ok (.iadd, 1) := by decide +kernel
theorem dL_law_580 : decode cL_law 580 = .ok (.iaload, 1) := by decide +kernel
theorem dL_law_581 : decode cL_law 581 = .ok (.aload_n 0, 1) := by decide +kernel
theorem dL_law_582 : decode cL_law 582 = .ok (.iload_n 3, 1) := by decide +kernel
theorem dL_law_583 : decode cL_law 583 = .ok (.iconst 2, 1) := by decide +kernel
theorem dL_law_584 : decode cL_law 584 = .ok (.iadd, 1) := by decide +kernel
theorem dL_law_585 : decode cL_law 585 = .ok (.iaload, 1) := by decide +kernel
theorem dL_law_586 : decode cL_law 586 = .ok (.aload_n 0, 1) := by decide +kernel
theorem dL_law_587 : decode cL_law 587 = .ok (.iload_n 3, 1) := by decide +kernel
theorem dL_law_588 : decode cL_law 588 = .ok (.iconst 3, 1) := by decide +kernel
theorem dL_law_589 : decode cL_law 589 = .ok (.iadd, 1) := by decide +kernel
theorem dL_law_590 : decode cL_law 590 = .ok (.iaload, 1) := by decide +kernel
theorem dL_law_591 : decode cL_law 591 = .ok (.invokevirtual 78, 3) := by decide +kernel
theorem dL_law_594 : decode cL_law 594 = .ok (.if_icmp .eq 359, 3) := by decide +kernel
theorem dL_law_597 : decode cL_law 597 = .ok (.iconst 0, 1) := by decide +kernel
theorem dL_law_598 : decode cL_law 598 = .ok (.ireturn, 1) := by decide +kernel
theorem dL_law_599 : decode cL_law 599 = .ok (.aload_n 1, 1) := by decide +kernel
theorem dL_law_600 : decode cL_law 600 = .ok (.aload_n 0, 1) := by decide +kernel
theorem dL_law_601 : decode cL_law 601 = .ok (.iload_n 3, 1) := by decide +kernel
theorem dL_law_602 : decode cL_law 602 = .ok (.iconst 1, 1) := by decide +kernel
theorem dL_law_603 : decode cL_law 603 = .ok (.iadd, 1) := by decide +kernel
theorem dL_law_604 : decode cL_law 604 = .ok (.iaload, 1) := by decide +kernel
theorem dL_law_605 : decode cL_law 605 = .ok (.aload_n 0, 1) := by decide +kernel
theorem dL_law_606 : decode cL_law 606 = .ok (.iload_n 3, 1) := by decide +kernel
theorem dL_law_607 : decode cL_law 607 = .ok (.iconst 2, 1) := by decide +kernel
theorem dL_law_608 : decode cL_law 608 = .ok (.iadd, 1) := by decide +kernel
theorem dL_law_609 : decode cL_law 609 = .ok (.iaload, 1) := by decide +kernel
theorem dL_law_610 : decode cL_law 610 = .ok (.i2l, 1) := by decide +kernel
theorem dL_law_611 : decode cL_law 611 = .ok (.bipush 32, 2) := by decide +kernel
theorem dL_law_613 : decode cL_law 613 = .ok (.lshl, 1) := by decide +kernel
theorem dL_law_614 : decode cL_law 614 = .ok (.aload_n 0, 1) := by decide +kernel
theorem dL_law_615 : decode cL_law 615 = .ok (.iload_n 3, 1) := by decide +kernel
theorem dL_law_616 : decode cL_law 616 = .ok (.iconst 3, 1) := by decide +kernel
theorem dL_law_617 : decode cL_law 617 = .ok (.iadd, 1) := by decide +kernel
theorem dL_law_618 : decode cL_law 618 = .ok (.iaload, 1) := by decide +kernel
theorem dL_law_619 : decode cL_law 619 = .ok (.i2l, 1) := by decide +kernel
theorem dL_law_620 : decode cL_law 620 = .ok (.ldc2_w 79, 3) := by decide +kernel
theorem dL_law_623 : decode cL_law 623 = .ok (.land, 1) := by decide +kernel
theorem dL_law_624 : decode cL_law 624 = .ok (.lor, 1) := by decide +kernel
theorem dL_law_625 : decode cL_law 625 = .ok (.invokevirtual 81, 3) := by decide +kernel
theorem dL_law_628 : decode cL_law 628 = .ok (.aload_n 2, 1) := by decide +kernel
theorem dL_law_629 : decode cL_law 629 = .ok (.aload_n 0, 1) := by decide +kernel
theorem dL_law_630 : decode cL_law 630 = .ok (.iload_n 3, 1) := by decide +kernel
theorem dL_law_631 : decode cL_law 631 = .ok (.iconst 1, 1) := by decide +kernel
theorem dL_law_632 : decode cL_law 632 = .ok (.iadd, 1) := by decide +kernel
theorem dL_law_633 : decode cL_law 633 = .ok (.iaload, 1) := by decide +kernel
theorem dL_law_634 : decode cL_law 634 = .ok (.aload_n 0, 1) := by decide +kernel
theorem dL_law_635 : decode cL_law 635 = .ok (.iload_n 3, 1) := by decide +kernel
theorem dL_law_636 : decode cL_law 636 = .ok (.iconst 2, 1) := by decide +kernel
theorem dL_law_637 : decode cL_law 637 = .ok (.iadd, 1) := by decide +kernel
theorem dL_law_638 : decode cL_law 638 = .ok (.iaload, 1) := by decide +kernel
theorem dL_law_639 : decode cL_law 639 = .ok (.i2l, 1) := by decide +kernel
theorem dL_law_640 : decode cL_law 640 = .ok (.bipush 32, 2) := by decide +kernel
theorem dL_law_642 : decode cL_law 642 = .ok (.lshl, 1) := by decide +kernel
theorem dL_law_643 : decode cL_law 643 = .ok (.aload_n 0, 1) := by decide +kernel
theorem dL_law_644 : decode cL_law 644 = .ok (.iload_n 3, 1) := by decide +kernel
theorem dL_law_645 : decode cL_law 645 = .ok (.iconst 3, 1) := by decide +kernel
theorem dL_law_646 : decode cL_law 646 = .ok (.iadd, 1) := by decide +kernel
theorem dL_law_647 : decode cL_law 647 = .ok (.iaload, 1) := by decide +kernel
theorem dL_law_648 : decode cL_law 648 = .ok (.i2l, 1) := by decide +kernel
theorem dL_law_649 : decode cL_law 649 = .ok (.ldc2_w 79, 3) := by decide +kernel
theorem dL_law_652 : decode cL_law 652 = .ok (.land, 1) := by decide +kernel
theorem dL_law_653 : decode cL_law 653 = .ok (.lor, 1) := by decide +kernel
theorem dL_law_654 : decode cL_law 654 = .ok (.invokevirtual 85, 3) := by decide +kernel
theorem dL_law_657 : decode cL_law 657 = .ok (.if_icmp .eq 296, 3) := by decide +kernel
theorem dL_law_660 : decode cL_law 660 = .ok (.iconst 0, 1) := by decide +kernel
theorem dL_law_661 : decode cL_law 661 = .ok (.ireturn, 1) := by decide +kernel
theorem dL_law_662 : decode cL_law 662 = .ok (.aload_n 1, 1) := by decide +kernel
theorem dL_law_663 : decode cL_law 663 = .ok (.aload_n 0, 1) := by decide +kernel
theorem dL_law_664 : decode cL_law 664 = .ok (.iload_n 3, 1) := by decide +kernel
theorem dL_law_665 : decode cL_law 665 = .ok (.iconst 1, 1) := by decide +kernel
theorem dL_law_666 : decode cL_law 666 = .ok (.iadd, 1) := by decide +kernel
theorem dL_law_667 : decode cL_law 667 = .ok (.iaload, 1) := by decide +kernel
theorem dL_law_668 : decode cL_law 668 = .ok (.aload_n 0, 1) := by decide +kernel
theorem dL_law_669 : decode cL_law 669 = .ok (.iload_n 3, 1) := by decide +kernel
theorem dL_law_670 : decode cL_law 670 = .ok (.iconst 2, 1) := by decide +kernel
theorem dL_law_671 : decode cL_law 671 = .ok (.iadd, 1) := by decide +kernel
theorem dL_law_672 : decode cL_law 672 = .ok (.iaload, 1) := by decide +kernel
theorem dL_law_673 : decode cL_law 673 = .ok (.aload_n 0, 1) := by decide +kernel
theorem dL_law_674 : decode cL_law 674 = .ok (.iload_n 3, 1) := by decide +kernel
theorem dL_law_675 : decode cL_law 675 = .ok (.iconst 3, 1) := by decide +kernel
theorem dL_law_676 : decode cL_law 676 = .ok (.iadd, 1) := by decide +kernel
theorem dL_law_677 : decode cL_law 677 = .ok (.iaload, 1) := by decide +kernel
theorem dL_law_678 : decode cL_law 678 = .ok (.aload_n 0, 1) := by decide +kernel
theorem dL_law_679 : decode cL_law 679 = .ok (.iload_n 3, 1) := by decide +kernel
theorem dL_law_680 : decode cL_law 680 = .ok (.iconst 4, 1) := by decide +kernel
theorem dL_law_681 : decode cL_law 681 = .ok (.iadd, 1) := by decide +kernel
theorem dL_law_682 : decode cL_law 682 = .ok (.iaload, 1) := by decide +kernel
theorem dL_law_683 : decode cL_law 683 = .ok (.invokevirtual 86, 3) := by decide +kernel
theorem dL_law_686 : decode cL_law 686 = .ok (.aload_n 2, 1) := by decide +kernel
theorem dL_law_687 : decode cL_law 687 = .ok (.aload_n 0, 1) := by decide +kernel
theorem dL_law_688 : decode cL_law 688 = .ok (.iload_n 3, 1) := by decide +kernel
theorem dL_law_689 : decode cL_law 689 = .ok (.iconst 1, 1) := by decide +kernel
theorem dL_law_690 : decode cL_law 690 = .ok (.iadd, 1) := by decide +kernel
theorem dL_law_691 : decode cL_law 691 = .ok (.iaload, 1) := by decide +kernel
theorem dL_law_692 : decode cL_law 692 = .ok (.aload_n 0, 1) := by decide +kernel
theorem dL_law_693 : decode cL_law 693 = .ok (.iload_n 3, 1) := by decide +kernel
theorem dL_law_694 : decode cL_law 694 = .ok (.iconst 2, 1) := by decide +kernel
theorem dL_law_695 : decode cL_law 695 = .ok (.iadd, 1) := by decide +kernel
theorem dL_law_696 : decode cL_law 696 = .ok (.iaload, 1) := by decide +kernel
theorem dL_law_697 : decode cL_law 697 = .ok (.aload_n 0, 1) := by decide +kernel
theorem dL_law_698 : decode cL_law 698 = .ok (.iload_n 3, 1) := by decide +kernel
theorem dL_law_699 : decode cL_law 699 = .ok (.iconst 3, 1) := by decide +kernel
theorem dL_law_700 : decode cL_law 700 = .ok (.iadd, 1) := by decide +kernel
theorem dL_law_701 : decode cL_law 701 = .ok (.iaload, 1) := by decide +kernel
theorem dL_law_702 : decode cL_law 702 = .ok (.aload_n 0, 1) := by decide +kernel
theorem dL_law_703 : decode cL_law 703 = .ok (.iload_n 3, 1) := by decide +kernel
theorem dL_law_704 : decode cL_law 704 = .ok (.iconst 4, 1) := by decide +kernel
theorem dL_law_705 : decode cL_law 705 = .ok (.iadd, 1) := by decide +kernel
theorem dL_law_706 : decode cL_law 706 = .ok (.iaload, 1) := by decide +kernel
theorem dL_law_707 : decode cL_law 707 = .ok (.invokevirtual 89, 3) := by decide +kernel
theorem dL_law_710 : decode cL_law 710 = .ok (.if_icmp .eq 243, 3) := by decide +kernel
theorem dL_law_713 : decode cL_law 713 = .ok (.iconst 0, 1) := by decide +kernel
theorem dL_law_714 : decode cL_law 714 = .ok (.ireturn, 1) := by decide +kernel
theorem dL_law_715 : decode cL_law 715 = .ok (.aload_n 1, 1) := by decide +kernel
theorem dL_law_716 : decode cL_law 716 = .ok (.invokevirtual 90, 3) := by decide +kernel
theorem dL_law_719 : decode cL_law 719 = .ok (.aload_n 2, 1) := by decide +kernel
theorem dL_law_720 : decode cL_law 720 = .ok (.invokevirtual 93, 3) := by decide +kernel
theorem dL_law_723 : decode cL_law 723 = .ok (.if_icmp .eq 230, 3) := by decide +kernel
theorem dL_law_726 : decode cL_law 726 = .ok (.iconst 0, 1) := by decide +kernel
theorem dL_law_727 : decode cL_law 727 = .ok (.ireturn, 1) := by decide +kernel
theorem dL_law_728 : decode cL_law 728 = .ok (.aload_n 1, 1) := by decide +kernel
theorem dL_law_729 : decode cL_law 729 = .ok (.aload_n 0, 1) := by decide +kernel
theorem dL_law_730 : decode cL_law 730 = .ok (.iload_n 3, 1) := by decide +kernel
theorem dL_law_731 : decode cL_law 731 = .ok (.iconst 1, 1) := by decide +kernel
theorem dL_law_732 : decode cL_law 732 = .ok (.iadd, 1) := by decide +kernel
theorem dL_law_733 : decode cL_law 733 = .ok (.iaload, 1) := by decide +kernel
theorem dL_law_734 : decode cL_law 734 = .ok (.invokevirtual 94, 3) := by decide +kernel
theorem dL_law_737 : decode cL_law 737 = .ok (.aload_n 2, 1) := by decide +kernel
theorem dL_law_738 : decode cL_law 738 = .ok (.aload_n 0, 1) := by decide +kernel
theorem dL_law_739 : decode cL_law 739 = .ok (.iload_n 3, 1) := by decide +kernel
theorem dL_law_740 : decode cL_law 740 = .ok (.iconst 1, 1) := by decide +kernel
theorem dL_law_741 : decode cL_law 741 = .ok (.iadd, 1) := by decide +kernel
theorem dL_law_742 : decode cL_law 742 = .ok (.iaload, 1) := by decide +kernel
theorem dL_law_743 : decode cL_law 743 = .ok (.invokevirtual 97, 3) := by decide +kernel
theorem dL_law_746 : decode cL_law 746 = .ok (.if_icmp .eq 207, 3) := by decide +kernel
theorem dL_law_749 : decode cL_law 749 = .ok (.iconst 0, 1) := by decide +kernel
theorem dL_law_750 : decode cL_law 750 = .ok (.ireturn, 1) := by decide +kernel
theorem dL_law_751 : decode cL_law 751 = .ok (.aload_n 1, 1) := by decide +kernel
theorem dL_law_752 : decode cL_law 752 = .ok (.aload_n 0, 1) := by decide +kernel
theorem dL_law_753 : decode cL_law 753 = .ok (.iload_n 3, 1) := by decide +kernel
theorem dL_law_754 : decode cL_law 754 = .ok (.iconst 1, 1) := by decide +kernel
theorem dL_law_755 : decode cL_law 755 = .ok (.iadd, 1) := by decide +kernel
theorem dL_law_756 : decode cL_law 756 = .ok (.iaload, 1) := by decide +kernel
theorem dL_law_757 : decode cL_law 757 = .ok (.aload_n 0, 1) := by decide +kernel
theorem dL_law_758 : decode cL_law 758 = .ok (.iload_n 3, 1) := by decide +kernel
theorem dL_law_759 : decode cL_law 759 = .ok (.iconst 2, 1) := by decide +kernel
theorem dL_law_760 : decode cL_law 760 = .ok (.iadd, 1) := by decide +kernel
theorem dL_law_761 : decode cL_law 761 = .ok (.iaload, 1) := by decide +kernel
theorem dL_law_762 : decode cL_law 762 = .ok (.aload_n 0, 1) := by decide +kernel
theorem dL_law_763 : decode cL_law 763 = .ok (.iload_n 3, 1) := by decide +kernel
theorem dL_law_764 : decode cL_law 764 = .ok (.iconst 3, 1) := by decide +kernel
theorem dL_law_765 : decode cL_law 765 = .ok (.iadd, 1) := by decide +kernel
theorem dL_law_766 : decode cL_law 766 = .ok (.iaload, 1) := by decide +kernel
theorem dL_law_767 : decode cL_law 767 = .ok (.aload_n 0, 1) := by decide +kernel
theorem dL_law_768 : decode cL_law 768 = .ok (.iload_n 3, 1) := by decide +kernel
theorem dL_law_769 : decode cL_law 769 = .ok (.iconst 4, 1) := by decide +kernel
theorem dL_law_770 : decode cL_law 770 = .ok (.iadd, 1) := by decide +kernel
theorem dL_law_771 : decode cL_law 771 = .ok (.iaload, 1) := by decide +kernel
theorem dL_law_772 : decode cL_law 772 = .ok (.aload_n 0, 1) := by decide +kernel
theorem dL_law_773 : decode cL_law 773 = .ok (.iload_n 3, 1) := by decide +kernel
theorem dL_law_774 : decode cL_law 774 = .ok (.iconst 5, 1) := by decide +kernel
theorem dL_law_775 : decode cL_law 775 = .ok (.iadd, 1) := by decide +kernel
theorem dL_law_776 : decode cL_law 776 = .ok (.iaload, 1) := by decide +kernel
theorem dL_law_777 : decode cL_law 777 = .ok (.ifCond .eq 7, 3) := by decide +kernel
theorem dL_law_780 : decode cL_law 780 = .ok (.iconst 1, 1) := by decide +kernel
theorem dL_law_781 : decode cL_law 781 = .ok (.goto 4, 3) := by decide +kernel
theorem dL_law_784 : decode cL_law 784 = .ok (.iconst 0, 1) := by decide +kernel
theorem dL_law_785 : decode cL_law 785 = .ok (.invokevirtual 98, 3) := by decide +kernel
theorem dL_law_788 : decode cL_law 788 = .ok (.aload_n 2, 1) := by decide +kernel
theorem dL_law_789 : decode cL_law 789 = .ok (.aload_n 0, 1) := by decide +kernel
theorem dL_law_790 : decode cL_law 790 = .ok (.iload_n 3, 1) := by decide +kernel
theorem dL_law_791 : decode cL_law 791 = .ok (.iconst 1, 1) := by decide +kernel
theorem dL_law_792 : decode cL_law 792 = .ok (.iadd, 1) := by decide +kernel
theorem dL_law_793 : decode cL_law 793 = .ok (.iaload, 1) := by decide +kernel
theorem dL_law_794 : decode cL_law 794 = .ok (.aload_n 0, 1) := by decide +kernel
theorem dL_law_795 : decode cL_law 795 = .ok (.iload_n 3, 1) := by decide +kernel
theorem dL_law_796 : decode cL_law 796 = .ok (.iconst 2, 1) := by decide +kernel
theorem dL_law_797 : decode cL_law 797 = .ok (.iadd, 1) := by decide +kernel
theorem dL_law_798 : decode cL_law 798 = .ok (.iaload, 1) := by decide +kernel
theorem dL_law_799 : decode cL_law 799 = .ok (.aload_n 0, 1) := by decide +kernel
theorem dL_law_800 : decode cL_law 800 = .ok (.iload_n 3, 1) := by decide +kernel
theorem dL_law_801 : decode cL_law 801 = .ok (.iconst 3, 1) := by decide +kernel
theorem dL_law_802 : decode cL_law 802 = .ok (.iadd, 1) := by decide +kernel
theorem dL_law_803 : decode cL_law 803 = .ok (.iaload, 1) := by decide +kernel
theorem dL_law_804 : decode cL_law 804 = .ok (.aload_n 0, 1) := by decide +kernel
theorem dL_law_805 : decode cL_law 805 = .ok (.iload_n 3, 1) := by decide +kernel
theorem dL_law_806 : decode cL_law 806 = .ok (.iconst 4, 1) := by decide +kernel
theorem dL_law_807 : decode cL_law 807 = .ok (.iadd, 1) := by decide +kernel
theorem dL_law_808 : decode cL_law 808 = .ok (.iaload, 1) := by decide +kernel
theorem dL_law_809 : decode cL_law 809 = .ok (.aload_n 0, 1) := by decide +kernel
theorem dL_law_810 : decode cL_law 810 = .ok (.iload_n 3, 1) := by decide +kernel
theorem dL_law_811 : decode cL_law 811 = .ok (.iconst 5, 1) := by decide +kernel
theorem dL_law_812 : decode cL_law 812 = .ok (.iadd, 1) := by decide +kernel
theorem dL_law_813 : decode cL_law 813 = .ok (.iaload, 1) := by decide +kernel
theorem dL_law_814 : decode cL_law 814 = .ok (.ifCond .eq 7, 3) := by decide +kernel
theorem dL_law_817 : decode cL_law 817 = .ok (.iconst 1, 1) := by decide +kernel
theorem dL_law_818 : decode cL_law 818 = .ok (.goto 4, 3) := by decide +kernel
theorem dL_law_821 : decode cL_law 821 = .ok (.iconst 0, 1) := by decide +kernel
theorem dL_law_822 : decode cL_law 822 = .ok (.invokevirtual 102, 3) := by decide +kernel
theorem dL_law_825 : decode cL_law 825 = .ok (.if_icmp .eq 128, 3) := by decide +kernel
theorem dL_law_828 : decode cL_law 828 = .ok (.iconst 0, 1) := by decide +kernel
theorem dL_law_829 : decode cL_law 829 = .ok (.ireturn, 1) := by decide +kernel
theorem dL_law_830 : decode cL_law 830 = .ok (.aload_n 1, 1) := by decide +kernel
theorem dL_law_831 : decode cL_law 831 = .ok (.aload_n 0, 1) := by decide +kernel
theorem dL_law_832 : decode cL_law 832 = .ok (.iload_n 3, 1) := by decide +kernel
theorem dL_law_833 : decode cL_law 833 = .ok (.iconst 1, 1) := by decide +kernel
theorem dL_law_834 : decode cL_law 834 = .ok (.iadd, 1) := by decide +kernel
theorem dL_law_835 : decode cL_law 835 = .ok (.iaload, 1) := by decide +kernel
theorem dL_law_836 : decode cL_law 836 = .ok (.i2l, 1) := by decide +kernel
theorem dL_law_837 : decode cL_law 837 = .ok (.bipush 32, 2) := by decide +kernel
theorem dL_law_839 : decode cL_law 839 = .ok (.lshl, 1) := by decide +kernel
theorem dL_law_840 : decode cL_law 840 = .ok (.aload_n 0, 1) := by decide +kernel
theorem dL_law_841 : decode cL_law 841 = .ok (.iload_n 3, 1) := by decide +kernel
theorem dL_law_842 : decode cL_law 842 = .ok (.iconst 2, 1) := by decide +kernel
theorem dL_law_843 : decode cL_law 843 = .ok (.iadd, 1) := by decide +kernel
theorem dL_law_844 : decode cL_law 844 = .ok (.iaload, 1) := by decide +kernel
theorem dL_law_845 : decode cL_law 845 = .ok (.i2l, 1) := by decide +kernel
theorem dL_law_846 : decode cL_law 846 = .ok (.ldc2_w 79, 3) := by decide +kernel
theorem dL_law_849 : decode cL_law 849 = .ok (.land, 1) := by decide +kernel
theorem dL_law_850 : decode cL_law 850 = .ok (.lor, 1) := by decide +kernel
theorem dL_law_851 : decode cL_law 851 = .ok (.invokevirtual 103, 3) := by decide +kernel
theorem dL_law_854 : decode cL_law 854 = .ok (.aload_n 2, 1) := by decide +kernel
theorem dL_law_855 : decode cL_law 855 = .ok (.aload_n 0, 1) := by decide +kernel
theorem dL_law_856 : decode cL_law 856 = .ok (.iload_n 3, 1) := by decide +kernel
theorem dL_law_857 : decode cL_law 857 = .ok (.iconst 1, 1) := by decide +kernel
theorem dL_law_858 : decode cL_law 858 = .ok (.iadd, 1) := by decide +kernel
theorem dL_law_859 : decode cL_law 859 = .ok (.iaload, 1) := by decide +kernel
theorem dL_law_860 : decode cL_law 860 = .ok (.i2l, 1) := by decide +kernel
theorem dL_law_861 : decode cL_law 861 = .ok (.bipush 32, 2) := by decide +kernel
theorem dL_law_863 : decode cL_law 863 = .ok (.lshl, 1) := by decide +kernel
theorem dL_law_864 : decode cL_law 864 = .ok (.aload_n 0, 1) := by decide +kernel
theorem dL_law_865 : decode cL_law 865 = .ok (.iload_n 3, 1) := by decide +kernel
theorem dL_law_866 : decode cL_law 866 = .ok (.iconst 2, 1) := by decide +kernel
theorem dL_law_867 : decode cL_law 867 = .ok (.iadd, 1) := by decide +kernel
theorem dL_law_868 : decode cL_law 868 = .ok (.iaload, 1) := by decide +kernel
theorem dL_law_869 : decode cL_law 869 = .ok (.i2l, 1) := by decide +kernel
theorem dL_law_870 : decode cL_law 870 = .ok (.ldc2_w 79, 3) := by decide +kernel
theorem dL_law_873 : decode cL_law 873 = .ok (.land, 1) := by decide +kernel
theorem dL_law_874 : decode cL_law 874 = .ok (.lor, 1) := by decide +kernel
theorem dL_law_875 : decode cL_law 875 = .ok (.invokevirtual 107, 3) := by decide +kernel
theorem dL_law_878 : decode cL_law 878 = .ok (.lcmp, 1) := by decide +kernel
theorem dL_law_879 : decode cL_law 879 = .ok (.ifCond .eq 74, 3) := by decide +kernel
theorem dL_law_882 : decode cL_law 882 = .ok (.iconst 0, 1) := by decide +kernel
theorem dL_law_883 : decode cL_law 883 = .ok (.ireturn, 1) := by decide +kernel
theorem dL_law_884 : decode cL_law 884 = .ok (.aload_n 1, 1) := by decide +kernel
theorem dL_law_885 : decode cL_law 885 = .ok (.aload_n 0, 1) := by decide +kernel
theorem dL_law_886 : decode cL_law 886 = .ok (.iload_n 3, 1) := by decide +kernel
theorem dL_law_887 : decode cL_law 887 = .ok (.iconst 1, 1) := by decide +kernel
theorem dL_law_888 : decode cL_law 888 = .ok (.iadd, 1) := by decide +kernel
theorem dL_law_889 : decode cL_law 889 = .ok (.iaload, 1) := by decide +kernel
theorem dL_law_890 : decode cL_law 890 = .ok (.invokevirtual 108, 3) := by decide +kernel
theorem dL_law_893 : decode cL_law 893 = .ok (.aload_n 2, 1) := by decide +kernel
theorem dL_law_894 : decode cL_law 894 = .ok (.aload_n 0, 1) := by decide +kernel
theorem dL_law_895 : decode cL_law 895 = .ok (.iload_n 3, 1) := by decide +kernel
theorem dL_law_896 : decode cL_law 896 = .ok (.iconst 1, 1) := by decide +kernel
theorem dL_law_897 : decode cL_law 897 = .ok (.iadd, 1) := by decide +kernel
theorem dL_law_898 : decode cL_law 898 = .ok (.iaload, 1) := by decide +kernel
theorem dL_law_899 : decode cL_law 899 = .ok (.invokevirtual 111, 3) := by decide +kernel
theorem dL_law_902 : decode cL_law 902 = .ok (.if_icmp .eq 51, 3) := by decide +kernel
theorem dL_law_905 : decode cL_law 905 = .ok (.iconst 0, 1) := by decide +kernel
theorem dL_law_906 : decode cL_law 906 = .ok (.ireturn, 1) := by decide +kernel
theorem dL_law_907 : decode cL_law 907 = .ok (.aload_n 1, 1) := by decide +kernel
theorem dL_law_908 : decode cL_law 908 = .ok (.aload_n 0, 1) := by decide +kernel
theorem dL_law_909 : decode cL_law 909 = .ok (.iload_n 3, 1) := by decide +kernel
theorem dL_law_910 : decode cL_law 910 = .ok (.iconst 1, 1) := by decide +kernel
theorem dL_law_911 : decode cL_law 911 = .ok (.iadd, 1) := by decide +kernel
theorem dL_law_912 : decode cL_law 912 = .ok (.iaload, 1) := by decide +kernel
theorem dL_law_913 : decode cL_law 913 = .ok (.invokevirtual 112, 3) := by decide +kernel
theorem dL_law_916 : decode cL_law 916 = .ok (.aload_n 2, 1) := by decide +kernel
theorem dL_law_917 : decode cL_law 917 = .ok (.aload_n 0, 1) := by decide +kernel
theorem dL_law_918 : decode cL_law 918 = .ok (.iload_n 3, 1) := by decide +kernel
theorem dL_law_919 : decode cL_law 919 = .ok (.iconst 1, 1) := by decide +kernel
theorem dL_law_920 : decode cL_law 920 = .ok (.iadd, 1) := by decide +kernel
theorem dL_law_921 : decode cL_law 921 = .ok (.iaload, 1) := by decide +kernel
theorem dL_law_922 : decode cL_law 922 = .ok (.invokevirtual 115, 3) := by decide +kernel
theorem dL_law_925 : decode cL_law 925 = .ok (.if_icmp .eq 28, 3) := by decide +kernel
theorem dL_law_928 : decode cL_law 928 = .ok (.iconst 0, 1) := by decide +kernel
theorem dL_law_929 : decode cL_law 929 = .ok (.ireturn, 1) := by decide +kernel
theorem dL_law_930 : decode cL_law 930 = .ok (.aload_n 1, 1) := by decide +kernel
theorem dL_law_931 : decode cL_law 931 = .ok (.aload_n 0, 1) := by decide +kernel
theorem dL_law_932 : decode cL_law 932 = .ok (.iload_n 3, 1) := by decide +kernel
theorem dL_law_933 : decode cL_law 933 = .ok (.iconst 1, 1) := by decide +kernel
theorem dL_law_934 : decode cL_law 934 = .ok (.iadd, 1) := by decide +kernel
theorem dL_law_935 : decode cL_law 935 = .ok (.iaload, 1) := by decide +kernel
theorem dL_law_936 : decode cL_law 936 = .ok (.invokevirtual 116, 3) := by decide +kernel
theorem dL_law_939 : decode cL_law 939 = .ok (.aload_n 2, 1) := by decide +kernel
theorem dL_law_940 : decode cL_law 940 = .ok (.aload_n 0, 1) := by decide +kernel
theorem dL_law_941 : decode cL_law 941 = .ok (.iload_n 3, 1) := by decide +kernel
theorem dL_law_942 : decode cL_law 942 = .ok (.iconst 1, 1) := by decide +kernel
theorem dL_law_943 : decode cL_law 943 = .ok (.iadd, 1) := by decide +kernel
theorem dL_law_944 : decode cL_law 944 = .ok (.iaload, 1) := by decide +kernel
theorem dL_law_945 : decode cL_law 945 = .ok (.invokevirtual 119, 3) := by decide +kernel
theorem dL_law_948 : decode cL_law 948 = .ok (.if_icmp .eq 5, 3) := by decide +kernel
theorem dL_law_951 : decode cL_law 951 = .ok (.iconst 0, 1) := by decide +kernel
theorem dL_law_952 : decode cL_law 952 = .ok (.ireturn, 1) := by decide +kernel
theorem dL_law_953 : decode cL_law 953 = .ok (.iinc 3 6, 3) := by decide +kernel
theorem dL_law_956 : decode cL_law 956 = .ok (.goto (-938), 3) := by decide +kernel
theorem dL_law_959 : decode cL_law 959 = .ok (.iconst 1, 1) := by decide +kernel
theorem dL_law_960 : decode cL_law 960 = .ok (.ireturn, 1) := by decide +kernel
end
section
def gws : List Cond := lw_tbl.filter goodWord
theorem gws_mem {w : Cond} (h : w ∈ lw_tbl) (g : goodWord w = true) : w ∈ gws := List.mem_filter.mpr ⟨h, g⟩
theorem gws_good {w : Cond} (h : w ∈ gws) : (w.onTables && w.keeps) = true ∨ ∃ ty, w = .arrayClass ty := good_of_word (List.mem_filter.mp h).2
theorem gws_tbl {w : Cond} (h : w ∈ gws) : w ∈ lw_tbl := (List.mem_filter.mp h).1
theorem kt_1 : ∀ w ∈ tables_1_1, w ∈ lw_tbl := fun _ h => List.mem_append_right _ (List.mem_append_left _ h)
theorem kt_2 : ∀ w ∈ tables_1_2, w ∈ lw_tbl := fun _ h => List.mem_append_right _ (List.mem_append_right _ (List.mem_append_left _ h))
theorem kt_3 : ∀ w ∈ tables_1_3, w ∈ lw_tbl := fun _ h => List.mem_append_right _ (List.mem_append_right _ (List.mem_append_right _ (List.mem_append_left _ h)))
theorem kt_4 : ∀ w ∈ tables_1_4, w ∈ lw_tbl := fun _ h => List.mem_append_right _ (List.mem_append_right _ (List.mem_append_right _ (List.mem_append_right _ (List.mem_append_left _ h))))
theorem kt_5 : ∀ w ∈ tables_1_5, w ∈ lw_tbl := fun _ h => List.mem_append_right _ (List.mem_append_right _ (List.mem_append_right _ (List.mem_append_right _ (List.mem_append_right _ (h)))))
theorem kp_1 {q : MethodName × Nat} (h : q ∈ lw_privs_1) : Cond.selects q.1.cls q.1 q.1 ∈ lw_tbl := List.mem_append_left _ (List.mem_map.mpr ⟨q, (List.mem_append_left _ h), rfl⟩)
theorem kp_2 {q : MethodName × Nat} (h : q ∈ lw_privs_2) : Cond.selects q.1.cls q.1 q.1 ∈ lw_tbl := List.mem_append_left _ (List.mem_map.mpr ⟨q, (List.mem_append_right _ (List.mem_append_left _ h)), rfl⟩)
theorem kp_3 {q : MethodName × Nat} (h : q ∈ lw_privs_3) : Cond.selects q.1.cls q.1 q.1 ∈ lw_tbl := List.mem_append_left _ (List.mem_map.mpr ⟨q, (List.mem_append_right _ (List.mem_append_right _ (List.mem_append_left _ h))), rfl⟩)
theorem kp_4 {q : MethodName × Nat} (h : q ∈ lw_privs_4) : Cond.selects q.1.cls q.1 q.1 ∈ lw_tbl := List.mem_append_left _ (List.mem_map.mpr ⟨q, (List.mem_append_right _ (List.mem_append_right _ (List.mem_append_right _ (List.mem_append_left _ h)))), rfl⟩)
theorem kp_5 {q : MethodName × Nat} (h : q ∈ lw_privs_5) : Cond.selects q.1.cls q.1 q.1 ∈ lw_tbl := List.mem_append_left _ (List.mem_map.mpr ⟨q, (List.mem_append_right _ (List.mem_append_right _ (List.mem_append_right _ (List.mem_append_right _ (h))))), rfl⟩)
theorem kw_0 : (Jvm.Cond.initialized "ClockedFlowsLaw") ∈ gws := gws_mem (kt_1 _ (List.mem_of_getElem? (i := 0) rfl)) rfl
theorem kw_1 : (Jvm.Cond.initialized "ClockedFlows") ∈ gws := gws_mem (kt_1 _ (List.mem_of_getElem? (i := 1) rfl)) rfl
theorem kw_2 : (Jvm.Cond.initialized "ClockedFlows$Text") ∈ gws := gws_mem (kt_1 _ (List.mem_of_getElem? (i := 2) rfl)) rfl
theorem kw_3 : (Jvm.Cond.initialized "ClockedFlows$Flow") ∈ gws := gws_mem (kt_1 _ (List.mem_of_getElem? (i := 3) rfl)) rfl
theorem kw_4 : (Jvm.Cond.initialized "java/util/Arrays") ∈ gws := gws_mem (kt_1 _ (List.mem_of_getElem? (i := 4) rfl)) rfl
theorem kw_5 : (Jvm.Cond.initialized "ClockedFlows$Sense") ∈ gws := gws_mem (kt_1 _ (List.mem_of_getElem? (i := 5) rfl)) rfl
theorem kw_6 : (Jvm.Cond.initialized "ClockedFlows$Doings") ∈ gws := gws_mem (kt_1 _ (List.mem_of_getElem? (i := 6) rfl)) rfl
theorem kw_7 : (Jvm.Cond.initialized "ClockedFlows$Sights") ∈ gws := gws_mem (kt_1 _ (List.mem_of_getElem? (i := 7) rfl)) rfl
theorem kw_8 : (Jvm.Cond.initialized "ClockedFlowsModel") ∈ gws := gws_mem (kt_1 _ (List.mem_of_getElem? (i := 8) rfl)) rfl
theorem kw_9 : (Jvm.Cond.initialized "java/lang/String") ∈ gws := gws_mem (kt_1 _ (List.mem_of_getElem? (i := 9) rfl)) rfl
theorem kw_10 : (Jvm.Cond.initialized "java/lang/StringLatin1") ∈ gws := gws_mem (kt_1 _ (List.mem_of_getElem? (i := 10) rfl)) rfl
theorem kw_11 : (Jvm.Cond.initialized "java/lang/Math") ∈ gws := gws_mem (kt_1 _ (List.mem_of_getElem? (i := 11) rfl)) rfl
theorem kw_12 : (Jvm.Cond.initialized "java/lang/StringUTF16") ∈ gws := gws_mem (kt_1 _ (List.mem_of_getElem? (i := 12) rfl)) rfl
theorem kw_13 : (Jvm.Cond.initialized "jdk/internal/util/Preconditions") ∈ gws := gws_mem (kt_1 _ (List.mem_of_getElem? (i := 13) rfl)) rfl
theorem kw_14 : (Jvm.Cond.initialized "java/lang/Character") ∈ gws := gws_mem (kt_1 _ (List.mem_of_getElem? (i := 14) rfl)) rfl
theorem kw_15 : (Jvm.Cond.initialized "java/lang/System") ∈ gws := gws_mem (kt_1 _ (List.mem_of_getElem? (i := 15) rfl)) rfl
theorem kw_16 : (Jvm.Cond.initialized "java/lang/Integer") ∈ gws := gws_mem (kt_1 _ (List.mem_of_getElem? (i := 16) rfl)) rfl
theorem kw_17 : (Jvm.Cond.classLink "ClockedFlowsLaw" (7 : Nat) "ClockedFlows") ∈ gws := gws_mem (kt_1 _ (List.mem_of_getElem? (i := 17) rfl)) rfl
theorem kw_18 : (Jvm.Cond.instantiable "ClockedFlows" (10 : Nat)) ∈ gws := gws_mem (kt_1 _ (List.mem_of_getElem? (i := 18) rfl)) rfl
theorem kw_19 : (Jvm.Cond.methodLink "ClockedFlowsLaw" (9 : Nat) ({ cls := "ClockedFlows", name := "<init>", desc := "()V" } : Jvm.MethodName)) ∈ gws := gws_mem (kt_1 _ (List.mem_of_getElem? (i := 19) rfl)) rfl
theorem kw_20 : (Jvm.Cond.instanceMethod ({ cls := "ClockedFlows", name := "<init>", desc := "()V" } : Jvm.MethodName)) ∈ gws := gws_mem (kt_1 _ (List.mem_of_getElem? (i := 20) rfl)) rfl
theorem kw_21 : (Jvm.Cond.code ({ cls := "ClockedFlows", name := "<init>", desc := "()V" } : Jvm.MethodName) prog_1_method_1_code (2 : Nat) (Option.none : Option Jvm.ClassFile.FieldType)) ∈ gws := gws_mem (kt_1 _ (List.mem_of_getElem? (i := 21) rfl)) rfl
theorem kw_22 : (Jvm.Cond.methodLink "ClockedFlows" (1 : Nat) ({ cls := "java/lang/Object", name := "<init>", desc := "()V" } : Jvm.MethodName)) ∈ gws := gws_mem (kt_1 _ (List.mem_of_getElem? (i := 22) rfl)) rfl
theorem kw_23 : (Jvm.Cond.instanceMethod ({ cls := "java/lang/Object", name := "<init>", desc := "()V" } : Jvm.MethodName)) ∈ gws := gws_mem (kt_1 _ (List.mem_of_getElem? (i := 23) rfl)) rfl
theorem kw_24 : (Jvm.Cond.code ({ cls := "java/lang/Object", name := "<init>", desc := "()V" } : Jvm.MethodName) object_method_1_code (1 : Nat) (Option.none : Option Jvm.ClassFile.FieldType)) ∈ gws := gws_mem (kt_1 _ (List.mem_of_getElem? (i := 24) rfl)) rfl
theorem kw_25 : (Jvm.Cond.classLink "ClockedFlows" (7 : Nat) "ClockedFlows$Text") ∈ gws := gws_mem (kt_1 _ (List.mem_of_getElem? (i := 25) rfl)) rfl
theorem kw_26 : (Jvm.Cond.instantiable "ClockedFlows$Text" (2 : Nat)) ∈ gws := gws_mem (kt_1 _ (List.mem_of_getElem? (i := 26) rfl)) rfl
theorem kw_27 : (Jvm.Cond.methodLinkNest "ClockedFlows" (9 : Nat) ({ cls := "ClockedFlows$Text", name := "<init>", desc := "()V" } : Jvm.MethodName) "ClockedFlows") ∈ lw_tbl := kt_1 _ (List.mem_of_getElem? (i := 27) rfl)
theorem kw_28 : (Jvm.Cond.instanceMethod ({ cls := "ClockedFlows$Text", name := "<init>", desc := "()V" } : Jvm.MethodName)) ∈ gws := gws_mem (kt_1 _ (List.mem_of_getElem? (i := 28) rfl)) rfl
theorem kw_29 : (Jvm.Cond.code ({ cls := "ClockedFlows$Text", name := "<init>", desc := "()V" } : Jvm.MethodName) prog_6_method_1_code (1 : Nat) (Option.none : Option Jvm.ClassFile.FieldType)) ∈ gws := gws_mem (kt_1 _ (List.mem_of_getElem? (i := 29) rfl)) rfl
theorem kw_30 : (Jvm.Cond.methodLink "ClockedFlows$Text" (3 : Nat) ({ cls := "java/lang/Object", name := "<init>", desc := "()V" } : Jvm.MethodName)) ∈ gws := gws_mem (kt_1 _ (List.mem_of_getElem? (i := 30) rfl)) rfl
theorem kw_31 : (Jvm.Cond.fieldLink "ClockedFlows$Text" (9 : Nat) "ClockedFlows$Text" "letters" "[I") ∈ gws := gws_mem (kt_1 _ (List.mem_of_getElem? (i := 31) rfl)) rfl
theorem kw_32 : (Jvm.Cond.fieldLink "ClockedFlows$Text" (15 : Nat) "ClockedFlows$Text" "length" "I") ∈ gws := gws_mem (kt_1 _ (List.mem_of_getElem? (i := 32) rfl)) rfl
theorem kw_33 : (Jvm.Cond.fieldLink "ClockedFlows" (67 : Nat) "ClockedFlows$Text" "length" "I") ∈ gws := gws_mem (kt_1 _ (List.mem_of_getElem? (i := 33) rfl)) rfl
theorem kw_34 : (Jvm.Cond.laysFinal "ClockedFlows$Text" "ClockedFlows$Text" "letters" "[I") ∈ gws := gws_mem (kt_1 _ (List.mem_of_getElem? (i := 34) rfl)) rfl
theorem kw_36 : (Jvm.Cond.lays "ClockedFlows$Text" "ClockedFlows$Text" "length" "I") ∈ gws := gws_mem (kt_1 _ (List.mem_of_getElem? (i := 36) rfl)) rfl
theorem kw_39 : (Jvm.Cond.arrayClass Jvm.ClassFile.FieldType.int) ∈ gws := gws_mem (kt_1 _ (List.mem_of_getElem? (i := 39) rfl)) rfl
theorem kw_40 : (Jvm.Cond.classLink "ClockedFlows" (16 : Nat) "ClockedFlows$Flow") ∈ gws := gws_mem (kt_1 _ (List.mem_of_getElem? (i := 40) rfl)) rfl
theorem kw_41 : (Jvm.Cond.instantiable "ClockedFlows$Flow" (6 : Nat)) ∈ gws := gws_mem (kt_1 _ (List.mem_of_getElem? (i := 41) rfl)) rfl
theorem kw_42 : (Jvm.Cond.methodLink "ClockedFlows" (18 : Nat) ({ cls := "ClockedFlows$Flow", name := "<init>", desc := "()V" } : Jvm.MethodName)) ∈ gws := gws_mem (kt_1 _ (List.mem_of_getElem? (i := 42) rfl)) rfl
theorem kw_43 : (Jvm.Cond.instanceMethod ({ cls := "ClockedFlows$Flow", name := "<init>", desc := "()V" } : Jvm.MethodName)) ∈ gws := gws_mem (kt_1 _ (List.mem_of_getElem? (i := 43) rfl)) rfl
theorem kw_44 : (Jvm.Cond.code ({ cls := "ClockedFlows$Flow", name := "<init>", desc := "()V" } : Jvm.MethodName) prog_3_method_1_code (1 : Nat) (Option.none : Option Jvm.ClassFile.FieldType)) ∈ gws := gws_mem (kt_1 _ (List.mem_of_getElem? (i := 44) rfl)) rfl
theorem kw_45 : (Jvm.Cond.methodLink "ClockedFlows$Flow" (3 : Nat) ({ cls := "java/lang/Object", name := "<init>", desc := "()V" } : Jvm.MethodName)) ∈ gws := gws_mem (kt_1 _ (List.mem_of_getElem? (i := 45) rfl)) rfl
theorem kw_46 : (Jvm.Cond.methodLink "ClockedFlows$Flow" (31 : Nat) ({ cls := "java/util/Arrays", name := "fill", desc := "([II)V" } : Jvm.MethodName)) ∈ gws := gws_mem (kt_1 _ (List.mem_of_getElem? (i := 46) rfl)) rfl
theorem kw_47 : (Jvm.Cond.static ({ cls := "java/util/Arrays", name := "fill", desc := "([II)V" } : Jvm.MethodName)) ∈ gws := gws_mem (kt_1 _ (List.mem_of_getElem? (i := 47) rfl)) rfl
theorem kw_48 : (Jvm.Cond.code ({ cls := "java/util/Arrays", name := "fill", desc := "([II)V" } : Jvm.MethodName) prog_16_method_103_code (4 : Nat) (Option.none : Option Jvm.ClassFile.FieldType)) ∈ gws := gws_mem (kt_1 _ (List.mem_of_getElem? (i := 48) rfl)) rfl
theorem kw_49 : (Jvm.Cond.fieldLink "ClockedFlows$Flow" (9 : Nat) "ClockedFlows$Flow" "count" "I") ∈ gws := gws_mem (kt_1 _ (List.mem_of_getElem? (i := 49) rfl)) rfl
theorem kw_50 : (Jvm.Cond.fieldLink "ClockedFlows$Sense" (46 : Nat) "ClockedFlows$Flow" "count" "I") ∈ gws := gws_mem (kt_1 _ (List.mem_of_getElem? (i := 50) rfl)) rfl
theorem kw_51 : (Jvm.Cond.fieldLink "ClockedFlows$Text" (23 : Nat) "ClockedFlows$Flow" "count" "I") ∈ gws := gws_mem (kt_1 _ (List.mem_of_getElem? (i := 51) rfl)) rfl
theorem kw_52 : (Jvm.Cond.fieldLink "ClockedFlows" (92 : Nat) "ClockedFlows$Flow" "count" "I") ∈ gws := gws_mem (kt_1 _ (List.mem_of_getElem? (i := 52) rfl)) rfl
theorem kw_53 : (Jvm.Cond.fieldLink "ClockedFlows$Flow" (15 : Nat) "ClockedFlows$Flow" "ticks" "I") ∈ gws := gws_mem (kt_1 _ (List.mem_of_getElem? (i := 53) rfl)) rfl
theorem kw_54 : (Jvm.Cond.fieldLink "ClockedFlows" (104 : Nat) "ClockedFlows$Flow" "ticks" "I") ∈ gws := gws_mem (kt_1 _ (List.mem_of_getElem? (i := 54) rfl)) rfl
theorem kw_55 : (Jvm.Cond.fieldLink "ClockedFlows$Flow" (18 : Nat) "ClockedFlows$Flow" "kinds" "[I") ∈ gws := gws_mem (kt_1 _ (List.mem_of_getElem? (i := 55) rfl)) rfl
theorem kw_56 : (Jvm.Cond.fieldLink "ClockedFlows$Flow" (22 : Nat) "ClockedFlows$Flow" "parts" "[I") ∈ gws := gws_mem (kt_1 _ (List.mem_of_getElem? (i := 56) rfl)) rfl
theorem kw_57 : (Jvm.Cond.fieldLink "ClockedFlows$Flow" (25 : Nat) "ClockedFlows$Flow" "held" "[I") ∈ gws := gws_mem (kt_1 _ (List.mem_of_getElem? (i := 57) rfl)) rfl
theorem kw_58 : (Jvm.Cond.fieldLink "ClockedFlows" (216 : Nat) "ClockedFlows$Flow" "held" "[I") ∈ gws := gws_mem (kt_1 _ (List.mem_of_getElem? (i := 58) rfl)) rfl
theorem kw_59 : (Jvm.Cond.fieldLink "ClockedFlows$Flow" (28 : Nat) "ClockedFlows$Flow" "values" "[I") ∈ gws := gws_mem (kt_1 _ (List.mem_of_getElem? (i := 59) rfl)) rfl
theorem kw_60 : (Jvm.Cond.lays "ClockedFlows$Flow" "ClockedFlows$Flow" "count" "I") ∈ gws := gws_mem (kt_1 _ (List.mem_of_getElem? (i := 60) rfl)) rfl
theorem kw_62 : (Jvm.Cond.lays "ClockedFlows$Flow" "ClockedFlows$Flow" "ticks" "I") ∈ gws := gws_mem (kt_1 _ (List.mem_of_getElem? (i := 62) rfl)) rfl
theorem kw_64 : (Jvm.Cond.laysFinal "ClockedFlows$Flow" "ClockedFlows$Flow" "kinds" "[I") ∈ gws := gws_mem (kt_1 _ (List.mem_of_getElem? (i := 64) rfl)) rfl
theorem kw_66 : (Jvm.Cond.laysFinal "ClockedFlows$Flow" "ClockedFlows$Flow" "parts" "[I") ∈ gws := gws_mem (kt_1 _ (List.mem_of_getElem? (i := 66) rfl)) rfl
theorem kw_68 : (Jvm.Cond.laysFinal "ClockedFlows$Flow" "ClockedFlows$Flow" "held" "[I") ∈ gws := gws_mem (kt_1 _ (List.mem_of_getElem? (i := 68) rfl)) rfl
theorem kw_70 : (Jvm.Cond.laysFinal "ClockedFlows$Flow" "ClockedFlows$Flow" "values" "[I") ∈ gws := gws_mem (kt_1 _ (List.mem_of_getElem? (i := 70) rfl)) rfl
theorem kw_73 : (Jvm.Cond.classLink "ClockedFlows" (26 : Nat) "ClockedFlows$Sense") ∈ gws := gws_mem (kt_1 _ (List.mem_of_getElem? (i := 73) rfl)) rfl
theorem kw_74 : (Jvm.Cond.instantiable "ClockedFlows$Sense" (11 : Nat)) ∈ gws := gws_mem (kt_1 _ (List.mem_of_getElem? (i := 74) rfl)) rfl
theorem kw_75 : (Jvm.Cond.methodLinkNest "ClockedFlows" (28 : Nat) ({ cls := "ClockedFlows$Sense", name := "<init>", desc := "()V" } : Jvm.MethodName) "ClockedFlows") ∈ lw_tbl := kt_1 _ (List.mem_of_getElem? (i := 75) rfl)
theorem kw_76 : (Jvm.Cond.instanceMethod ({ cls := "ClockedFlows$Sense", name := "<init>", desc := "()V" } : Jvm.MethodName)) ∈ gws := gws_mem (kt_1 _ (List.mem_of_getElem? (i := 76) rfl)) rfl
theorem kw_77 : (Jvm.Cond.code ({ cls := "ClockedFlows$Sense", name := "<init>", desc := "()V" } : Jvm.MethodName) prog_4_method_1_code (1 : Nat) (Option.none : Option Jvm.ClassFile.FieldType)) ∈ gws := gws_mem (kt_1 _ (List.mem_of_getElem? (i := 77) rfl)) rfl
theorem kw_78 : (Jvm.Cond.methodLink "ClockedFlows$Sense" (3 : Nat) ({ cls := "java/lang/Object", name := "<init>", desc := "()V" } : Jvm.MethodName)) ∈ gws := gws_mem (kt_1 _ (List.mem_of_getElem? (i := 78) rfl)) rfl
theorem kw_79 : (Jvm.Cond.fieldLink "ClockedFlows$Sense" (9 : Nat) "ClockedFlows$Sense" "clash" "I") ∈ gws := gws_mem (kt_1 _ (List.mem_of_getElem? (i := 79) rfl)) rfl
theorem kw_80 : (Jvm.Cond.fieldLink "ClockedFlows" (95 : Nat) "ClockedFlows$Sense" "clash" "I") ∈ gws := gws_mem (kt_1 _ (List.mem_of_getElem? (i := 80) rfl)) rfl
theorem kw_81 : (Jvm.Cond.fieldLink "ClockedFlows$Sense" (15 : Nat) "ClockedFlows$Sense" "knot" "I") ∈ gws := gws_mem (kt_1 _ (List.mem_of_getElem? (i := 81) rfl)) rfl
theorem kw_82 : (Jvm.Cond.fieldLink "ClockedFlows" (98 : Nat) "ClockedFlows$Sense" "knot" "I") ∈ gws := gws_mem (kt_1 _ (List.mem_of_getElem? (i := 82) rfl)) rfl
theorem kw_83 : (Jvm.Cond.fieldLink "ClockedFlows$Sense" (18 : Nat) "ClockedFlows$Sense" "raw" "I") ∈ gws := gws_mem (kt_1 _ (List.mem_of_getElem? (i := 83) rfl)) rfl
theorem kw_84 : (Jvm.Cond.fieldLink "ClockedFlows" (101 : Nat) "ClockedFlows$Sense" "raw" "I") ∈ gws := gws_mem (kt_1 _ (List.mem_of_getElem? (i := 84) rfl)) rfl
theorem kw_85 : (Jvm.Cond.fieldLink "ClockedFlows$Sense" (21 : Nat) "ClockedFlows$Sense" "count" "I") ∈ gws := gws_mem (kt_1 _ (List.mem_of_getElem? (i := 85) rfl)) rfl
theorem kw_86 : (Jvm.Cond.fieldLink "ClockedFlows$Sense" (24 : Nat) "ClockedFlows$Sense" "group" "[I") ∈ gws := gws_mem (kt_1 _ (List.mem_of_getElem? (i := 86) rfl)) rfl
theorem kw_87 : (Jvm.Cond.fieldLink "ClockedFlows$Sense" (28 : Nat) "ClockedFlows$Sense" "bound" "[I") ∈ gws := gws_mem (kt_1 _ (List.mem_of_getElem? (i := 87) rfl)) rfl
theorem kw_88 : (Jvm.Cond.fieldLink "ClockedFlows$Sense" (31 : Nat) "ClockedFlows$Sense" "settled" "[I") ∈ gws := gws_mem (kt_1 _ (List.mem_of_getElem? (i := 88) rfl)) rfl
theorem kw_89 : (Jvm.Cond.fieldLink "ClockedFlows$Flow" (63 : Nat) "ClockedFlows$Sense" "settled" "[I") ∈ gws := gws_mem (kt_1 _ (List.mem_of_getElem? (i := 89) rfl)) rfl
theorem kw_90 : (Jvm.Cond.fieldLink "ClockedFlows" (225 : Nat) "ClockedFlows$Sense" "settled" "[I") ∈ gws := gws_mem (kt_1 _ (List.mem_of_getElem? (i := 90) rfl)) rfl
theorem kw_91 : (Jvm.Cond.fieldLink "ClockedFlows$Sense" (34 : Nat) "ClockedFlows$Sense" "depth" "[I") ∈ gws := gws_mem (kt_1 _ (List.mem_of_getElem? (i := 91) rfl)) rfl
theorem kw_92 : (Jvm.Cond.fieldLink "ClockedFlows" (119 : Nat) "ClockedFlows$Sense" "depth" "[I") ∈ gws := gws_mem (kt_1 _ (List.mem_of_getElem? (i := 92) rfl)) rfl
theorem kw_93 : (Jvm.Cond.fieldLink "ClockedFlows$Sense" (37 : Nat) "ClockedFlows$Sense" "order" "[I") ∈ gws := gws_mem (kt_1 _ (List.mem_of_getElem? (i := 93) rfl)) rfl
theorem kw_94 : (Jvm.Cond.fieldLink "ClockedFlows" (122 : Nat) "ClockedFlows$Sense" "order" "[I") ∈ gws := gws_mem (kt_1 _ (List.mem_of_getElem? (i := 94) rfl)) rfl
theorem kw_95 : (Jvm.Cond.fieldLink "ClockedFlows$Sense" (40 : Nat) "ClockedFlows$Sense" "turn" "[I") ∈ gws := gws_mem (kt_1 _ (List.mem_of_getElem? (i := 95) rfl)) rfl
theorem kw_96 : (Jvm.Cond.fieldLink "ClockedFlows$Flow" (58 : Nat) "ClockedFlows$Sense" "turn" "[I") ∈ gws := gws_mem (kt_1 _ (List.mem_of_getElem? (i := 96) rfl)) rfl
theorem kw_97 : (Jvm.Cond.fieldLink "ClockedFlows$Sense" (43 : Nat) "ClockedFlows$Sense" "level" "[I") ∈ gws := gws_mem (kt_1 _ (List.mem_of_getElem? (i := 97) rfl)) rfl
theorem kw_98 : (Jvm.Cond.fieldLink "ClockedFlows" (125 : Nat) "ClockedFlows$Sense" "level" "[I") ∈ gws := gws_mem (kt_1 _ (List.mem_of_getElem? (i := 98) rfl)) rfl
theorem kw_99 : (Jvm.Cond.lays "ClockedFlows$Sense" "ClockedFlows$Sense" "clash" "I") ∈ gws := gws_mem (kt_1 _ (List.mem_of_getElem? (i := 99) rfl)) rfl
theorem kw_101 : (Jvm.Cond.lays "ClockedFlows$Sense" "ClockedFlows$Sense" "knot" "I") ∈ gws := gws_mem (kt_1 _ (List.mem_of_getElem? (i := 101) rfl)) rfl
theorem kw_103 : (Jvm.Cond.lays "ClockedFlows$Sense" "ClockedFlows$Sense" "raw" "I") ∈ gws := gws_mem (kt_1 _ (List.mem_of_getElem? (i := 103) rfl)) rfl
theorem kw_105 : (Jvm.Cond.lays "ClockedFlows$Sense" "ClockedFlows$Sense" "count" "I") ∈ gws := gws_mem (kt_1 _ (List.mem_of_getElem? (i := 105) rfl)) rfl
theorem kw_107 : (Jvm.Cond.laysFinal "ClockedFlows$Sense" "ClockedFlows$Sense" "group" "[I") ∈ gws := gws_mem (kt_1 _ (List.mem_of_getElem? (i := 107) rfl)) rfl
theorem kw_109 : (Jvm.Cond.laysFinal "ClockedFlows$Sense" "ClockedFlows$Sense" "bound" "[I") ∈ gws := gws_mem (kt_1 _ (List.mem_of_getElem? (i := 109) rfl)) rfl
theorem kw_111 : (Jvm.Cond.laysFinal "ClockedFlows$Sense" "ClockedFlows$Sense" "settled" "[I") ∈ gws := gws_mem (kt_1 _ (List.mem_of_getElem? (i := 111) rfl)) rfl
theorem kw_113 : (Jvm.Cond.laysFinal "ClockedFlows$Sense" "ClockedFlows$Sense" "depth" "[I") ∈ gws := gws_mem (kt_1 _ (List.mem_of_getElem? (i := 113) rfl)) rfl
theorem kw_115 : (Jvm.Cond.laysFinal "ClockedFlows$Sense" "ClockedFlows$Sense" "order" "[I") ∈ gws := gws_mem (kt_1 _ (List.mem_of_getElem? (i := 115) rfl)) rfl
theorem kw_117 : (Jvm.Cond.laysFinal "ClockedFlows$Sense" "ClockedFlows$Sense" "turn" "[I") ∈ gws := gws_mem (kt_1 _ (List.mem_of_getElem? (i := 117) rfl)) rfl
theorem kw_119 : (Jvm.Cond.laysFinal "ClockedFlows$Sense" "ClockedFlows$Sense" "level" "[I") ∈ gws := gws_mem (kt_1 _ (List.mem_of_getElem? (i := 119) rfl)) rfl
theorem kw_122 : (Jvm.Cond.classLink "ClockedFlows" (33 : Nat) "ClockedFlows$Doings") ∈ gws := gws_mem (kt_1 _ (List.mem_of_getElem? (i := 122) rfl)) rfl
theorem kw_123 : (Jvm.Cond.instantiable "ClockedFlows$Doings" (3 : Nat)) ∈ gws := gws_mem (kt_1 _ (List.mem_of_getElem? (i := 123) rfl)) rfl
theorem kw_124 : (Jvm.Cond.methodLink "ClockedFlows" (35 : Nat) ({ cls := "ClockedFlows$Doings", name := "<init>", desc := "()V" } : Jvm.MethodName)) ∈ gws := gws_mem (kt_1 _ (List.mem_of_getElem? (i := 124) rfl)) rfl
theorem kw_125 : (Jvm.Cond.instanceMethod ({ cls := "ClockedFlows$Doings", name := "<init>", desc := "()V" } : Jvm.MethodName)) ∈ gws := gws_mem (kt_1 _ (List.mem_of_getElem? (i := 125) rfl)) rfl
theorem kw_126 : (Jvm.Cond.code ({ cls := "ClockedFlows$Doings", name := "<init>", desc := "()V" } : Jvm.MethodName) prog_2_method_1_code (2 : Nat) (Option.none : Option Jvm.ClassFile.FieldType)) ∈ gws := gws_mem (kt_1 _ (List.mem_of_getElem? (i := 126) rfl)) rfl
theorem kw_127 : (Jvm.Cond.methodLink "ClockedFlows$Doings" (3 : Nat) ({ cls := "java/lang/Object", name := "<init>", desc := "()V" } : Jvm.MethodName)) ∈ gws := gws_mem (kt_1 _ (List.mem_of_getElem? (i := 127) rfl)) rfl
theorem kw_128 : (Jvm.Cond.classLink "ClockedFlows$Doings" (18 : Nat) "ClockedFlows$Flow") ∈ gws := gws_mem (kt_1 _ (List.mem_of_getElem? (i := 128) rfl)) rfl
theorem kw_129 : (Jvm.Cond.arrayOver (Jvm.ClassFile.FieldType.object "ClockedFlows$Flow")) ∈ lw_tbl := kt_1 _ (List.mem_of_getElem? (i := 129) rfl)
theorem kw_130 : (Jvm.Cond.methodLink "ClockedFlows$Doings" (24 : Nat) ({ cls := "ClockedFlows$Flow", name := "<init>", desc := "()V" } : Jvm.MethodName)) ∈ gws := gws_mem (kt_1 _ (List.mem_of_getElem? (i := 130) rfl)) rfl
theorem kw_131 : (Jvm.Cond.fieldLink "ClockedFlows$Doings" (9 : Nat) "ClockedFlows$Doings" "count" "I") ∈ gws := gws_mem (kt_1 _ (List.mem_of_getElem? (i := 131) rfl)) rfl
theorem kw_132 : (Jvm.Cond.fieldLink "ClockedFlows" (110 : Nat) "ClockedFlows$Doings" "count" "I") ∈ gws := gws_mem (kt_1 _ (List.mem_of_getElem? (i := 132) rfl)) rfl
theorem kw_133 : (Jvm.Cond.fieldLink "ClockedFlows$Doings" (15 : Nat) "ClockedFlows$Doings" "oldest" "I") ∈ gws := gws_mem (kt_1 _ (List.mem_of_getElem? (i := 133) rfl)) rfl
theorem kw_134 : (Jvm.Cond.fieldLink "ClockedFlows$Doings" (20 : Nat) "ClockedFlows$Doings" "row" "[LClockedFlows$Flow;") ∈ gws := gws_mem (kt_1 _ (List.mem_of_getElem? (i := 134) rfl)) rfl
theorem kw_135 : (Jvm.Cond.lays "ClockedFlows$Doings" "ClockedFlows$Doings" "count" "I") ∈ gws := gws_mem (kt_1 _ (List.mem_of_getElem? (i := 135) rfl)) rfl
theorem kw_137 : (Jvm.Cond.lays "ClockedFlows$Doings" "ClockedFlows$Doings" "oldest" "I") ∈ gws := gws_mem (kt_1 _ (List.mem_of_getElem? (i := 137) rfl)) rfl
theorem kw_139 : (Jvm.Cond.laysFinal "ClockedFlows$Doings" "ClockedFlows$Doings" "row" "[LClockedFlows$Flow;") ∈ gws := gws_mem (kt_1 _ (List.mem_of_getElem? (i := 139) rfl)) rfl
theorem kw_142 : (Jvm.Cond.classLink "ClockedFlows" (40 : Nat) "ClockedFlows$Sights") ∈ gws := gws_mem (kt_1 _ (List.mem_of_getElem? (i := 142) rfl)) rfl
theorem kw_143 : (Jvm.Cond.instantiable "ClockedFlows$Sights" (5 : Nat)) ∈ gws := gws_mem (kt_1 _ (List.mem_of_getElem? (i := 143) rfl)) rfl
theorem kw_144 : (Jvm.Cond.methodLinkNest "ClockedFlows" (42 : Nat) ({ cls := "ClockedFlows$Sights", name := "<init>", desc := "()V" } : Jvm.MethodName) "ClockedFlows") ∈ lw_tbl := kt_1 _ (List.mem_of_getElem? (i := 144) rfl)
theorem kw_145 : (Jvm.Cond.instanceMethod ({ cls := "ClockedFlows$Sights", name := "<init>", desc := "()V" } : Jvm.MethodName)) ∈ gws := gws_mem (kt_1 _ (List.mem_of_getElem? (i := 145) rfl)) rfl
theorem kw_146 : (Jvm.Cond.code ({ cls := "ClockedFlows$Sights", name := "<init>", desc := "()V" } : Jvm.MethodName) prog_5_method_1_code (1 : Nat) (Option.none : Option Jvm.ClassFile.FieldType)) ∈ gws := gws_mem (kt_1 _ (List.mem_of_getElem? (i := 146) rfl)) rfl
theorem kw_147 : (Jvm.Cond.methodLink "ClockedFlows$Sights" (3 : Nat) ({ cls := "java/lang/Object", name := "<init>", desc := "()V" } : Jvm.MethodName)) ∈ gws := gws_mem (kt_1 _ (List.mem_of_getElem? (i := 147) rfl)) rfl
theorem kw_148 : (Jvm.Cond.fieldLink "ClockedFlows$Sights" (9 : Nat) "ClockedFlows$Sights" "count" "I") ∈ gws := gws_mem (kt_1 _ (List.mem_of_getElem? (i := 148) rfl)) rfl
theorem kw_149 : (Jvm.Cond.fieldLink "ClockedFlows" (111 : Nat) "ClockedFlows$Sights" "count" "I") ∈ gws := gws_mem (kt_1 _ (List.mem_of_getElem? (i := 149) rfl)) rfl
theorem kw_150 : (Jvm.Cond.fieldLink "ClockedFlows$Sights" (15 : Nat) "ClockedFlows$Sights" "at" "[I") ∈ gws := gws_mem (kt_1 _ (List.mem_of_getElem? (i := 150) rfl)) rfl
theorem kw_151 : (Jvm.Cond.fieldLink "ClockedFlows$Sights" (19 : Nat) "ClockedFlows$Sights" "streams" "[I") ∈ gws := gws_mem (kt_1 _ (List.mem_of_getElem? (i := 151) rfl)) rfl
theorem kw_152 : (Jvm.Cond.fieldLink "ClockedFlows$Sights" (22 : Nat) "ClockedFlows$Sights" "seen" "[I") ∈ gws := gws_mem (kt_1 _ (List.mem_of_getElem? (i := 152) rfl)) rfl
theorem kw_153 : (Jvm.Cond.fieldLink "ClockedFlows$Sights" (25 : Nat) "ClockedFlows$Sights" "so" "[Z") ∈ gws := gws_mem (kt_1 _ (List.mem_of_getElem? (i := 153) rfl)) rfl
theorem kw_154 : (Jvm.Cond.lays "ClockedFlows$Sights" "ClockedFlows$Sights" "count" "I") ∈ gws := gws_mem (kt_1 _ (List.mem_of_getElem? (i := 154) rfl)) rfl
theorem kw_156 : (Jvm.Cond.laysFinal "ClockedFlows$Sights" "ClockedFlows$Sights" "at" "[I") ∈ gws := gws_mem (kt_1 _ (List.mem_of_getElem? (i := 156) rfl)) rfl
theorem kw_158 : (Jvm.Cond.laysFinal "ClockedFlows$Sights" "ClockedFlows$Sights" "streams" "[I") ∈ gws := gws_mem (kt_1 _ (List.mem_of_getElem? (i := 158) rfl)) rfl
theorem kw_160 : (Jvm.Cond.laysFinal "ClockedFlows$Sights" "ClockedFlows$Sights" "seen" "[I") ∈ gws := gws_mem (kt_1 _ (List.mem_of_getElem? (i := 160) rfl)) rfl
theorem kw_162 : (Jvm.Cond.laysFinal "ClockedFlows$Sights" "ClockedFlows$Sights" "so" "[Z") ∈ gws := gws_mem (kt_1 _ (List.mem_of_getElem? (i := 162) rfl)) rfl
theorem kw_165 : (Jvm.Cond.arrayClass Jvm.ClassFile.FieldType.boolean) ∈ gws := gws_mem (kt_1 _ (List.mem_of_getElem? (i := 165) rfl)) rfl
theorem kw_166 : (Jvm.Cond.fieldLink "ClockedFlows" (10 : Nat) "ClockedFlows" "text" "LClockedFlows$Text;") ∈ gws := gws_mem (kt_1 _ (List.mem_of_getElem? (i := 166) rfl)) rfl
theorem kw_167 : (Jvm.Cond.fieldLink "ClockedFlows" (19 : Nat) "ClockedFlows" "now" "LClockedFlows$Flow;") ∈ gws := gws_mem (kt_1 _ (List.mem_of_getElem? (i := 167) rfl)) rfl
theorem kw_168 : (Jvm.Cond.fieldLink "ClockedFlows" (23 : Nat) "ClockedFlows" "spare" "LClockedFlows$Flow;") ∈ gws := gws_mem (kt_1 _ (List.mem_of_getElem? (i := 168) rfl)) rfl
theorem kw_169 : (Jvm.Cond.fieldLink "ClockedFlows" (29 : Nat) "ClockedFlows" "sense" "LClockedFlows$Sense;") ∈ gws := gws_mem (kt_1 _ (List.mem_of_getElem? (i := 169) rfl)) rfl
theorem kw_170 : (Jvm.Cond.fieldLink "ClockedFlows" (36 : Nat) "ClockedFlows" "doings" "LClockedFlows$Doings;") ∈ gws := gws_mem (kt_1 _ (List.mem_of_getElem? (i := 170) rfl)) rfl
theorem kw_171 : (Jvm.Cond.fieldLink "ClockedFlows" (43 : Nat) "ClockedFlows" "sights" "LClockedFlows$Sights;") ∈ gws := gws_mem (kt_1 _ (List.mem_of_getElem? (i := 171) rfl)) rfl
theorem kw_172 : (Jvm.Cond.fieldLink "ClockedFlows" (47 : Nat) "ClockedFlows" "slots" "[LClockedFlows$Flow;") ∈ gws := gws_mem (kt_1 _ (List.mem_of_getElem? (i := 172) rfl)) rfl
theorem kw_173 : (Jvm.Cond.fieldLink "ClockedFlows" (51 : Nat) "ClockedFlows" "slotKept" "[Z") ∈ gws := gws_mem (kt_1 _ (List.mem_of_getElem? (i := 173) rfl)) rfl
theorem kw_174 : (Jvm.Cond.fieldLink "ClockedFlows" (55 : Nat) "ClockedFlows" "trail" "[I") ∈ gws := gws_mem (kt_1 _ (List.mem_of_getElem? (i := 174) rfl)) rfl
theorem kw_175 : (Jvm.Cond.fieldLink "ClockedFlows" (59 : Nat) "ClockedFlows" "theSeed" "J") ∈ gws := gws_mem (kt_1 _ (List.mem_of_getElem? (i := 175) rfl)) rfl
theorem kw_176 : (Jvm.Cond.laysFinal "ClockedFlows" "ClockedFlows" "text" "LClockedFlows$Text;") ∈ gws := gws_mem (kt_1 _ (List.mem_of_getElem? (i := 176) rfl)) rfl
theorem kw_178 : (Jvm.Cond.laysFinal "ClockedFlows" "ClockedFlows" "now" "LClockedFlows$Flow;") ∈ gws := gws_mem (kt_1 _ (List.mem_of_getElem? (i := 178) rfl)) rfl
theorem kw_180 : (Jvm.Cond.laysFinal "ClockedFlows" "ClockedFlows" "spare" "LClockedFlows$Flow;") ∈ gws := gws_mem (kt_1 _ (List.mem_of_getElem? (i := 180) rfl)) rfl
theorem kw_182 : (Jvm.Cond.laysFinal "ClockedFlows" "ClockedFlows" "sense" "LClockedFlows$Sense;") ∈ gws := gws_mem (kt_1 _ (List.mem_of_getElem? (i := 182) rfl)) rfl
theorem kw_184 : (Jvm.Cond.laysFinal "ClockedFlows" "ClockedFlows" "doings" "LClockedFlows$Doings;") ∈ gws := gws_mem (kt_1 _ (List.mem_of_getElem? (i := 184) rfl)) rfl
theorem kw_186 : (Jvm.Cond.laysFinal "ClockedFlows" "ClockedFlows" "sights" "LClockedFlows$Sights;") ∈ gws := gws_mem (kt_1 _ (List.mem_of_getElem? (i := 186) rfl)) rfl
theorem kw_188 : (Jvm.Cond.laysFinal "ClockedFlows" "ClockedFlows" "slots" "[LClockedFlows$Flow;") ∈ gws := gws_mem (kt_1 _ (List.mem_of_getElem? (i := 188) rfl)) rfl
theorem kw_190 : (Jvm.Cond.laysFinal "ClockedFlows" "ClockedFlows" "slotKept" "[Z") ∈ gws := gws_mem (kt_1 _ (List.mem_of_getElem? (i := 190) rfl)) rfl
theorem kw_192 : (Jvm.Cond.laysFinal "ClockedFlows" "ClockedFlows" "trail" "[I") ∈ gws := gws_mem (kt_1 _ (List.mem_of_getElem? (i := 192) rfl)) rfl
theorem kw_194 : (Jvm.Cond.lays "ClockedFlows" "ClockedFlows" "theSeed" "J") ∈ gws := gws_mem (kt_1 _ (List.mem_of_getElem? (i := 194) rfl)) rfl
theorem kw_197 : (Jvm.Cond.methodLink "ClockedFlowsLaw" (13 : Nat) ({ cls := "ClockedFlows", name := "write", desc := "(I)I" } : Jvm.MethodName)) ∈ gws := gws_mem (kt_1 _ (List.mem_of_getElem? (i := 197) rfl)) rfl
theorem kw_198 : (Jvm.Cond.instanceMethod ({ cls := "ClockedFlows", name := "write", desc := "(I)I" } : Jvm.MethodName)) ∈ gws := gws_mem (kt_1 _ (List.mem_of_getElem? (i := 198) rfl)) rfl
theorem kw_199 : (Jvm.Cond.selects "ClockedFlows" ({ cls := "ClockedFlows", name := "write", desc := "(I)I" } : Jvm.MethodName) ({ cls := "ClockedFlows", name := "write", desc := "(I)I" } : Jvm.MethodName)) ∈ gws := gws_mem (kt_1 _ (List.mem_of_getElem? (i := 199) rfl)) rfl
theorem kw_200 : (Jvm.Cond.code ({ cls := "ClockedFlows", name := "write", desc := "(I)I" } : Jvm.MethodName) prog_1_method_2_code (2 : Nat) (Option.some Jvm.ClassFile.FieldType.int)) ∈ gws := gws_mem (kt_1 _ (List.mem_of_getElem? (i := 200) rfl)) rfl
theorem kw_201 : (Jvm.Cond.methodLink "ClockedFlows" (63 : Nat) ({ cls := "ClockedFlows$Text", name := "append", desc := "(I)Z" } : Jvm.MethodName)) ∈ gws := gws_mem (kt_1 _ (List.mem_of_getElem? (i := 201) rfl)) rfl
theorem kw_202 : (Jvm.Cond.instanceMethod ({ cls := "ClockedFlows$Text", name := "append", desc := "(I)Z" } : Jvm.MethodName)) ∈ gws := gws_mem (kt_1 _ (List.mem_of_getElem? (i := 202) rfl)) rfl
theorem kw_203 : (Jvm.Cond.selects "ClockedFlows$Text" ({ cls := "ClockedFlows$Text", name := "append", desc := "(I)Z" } : Jvm.MethodName) ({ cls := "ClockedFlows$Text", name := "append", desc := "(I)Z" } : Jvm.MethodName)) ∈ gws := gws_mem (kt_1 _ (List.mem_of_getElem? (i := 203) rfl)) rfl
theorem kw_204 : (Jvm.Cond.code ({ cls := "ClockedFlows$Text", name := "append", desc := "(I)Z" } : Jvm.MethodName) prog_6_method_2_code (2 : Nat) (Option.some Jvm.ClassFile.FieldType.boolean)) ∈ gws := gws_mem (kt_1 _ (List.mem_of_getElem? (i := 204) rfl)) rfl
theorem kw_205 : (Jvm.Cond.methodLink "ClockedFlowsLaw" (18 : Nat) ({ cls := "ClockedFlows", name := "wipe", desc := "()I" } : Jvm.MethodName)) ∈ gws := gws_mem (kt_1 _ (List.mem_of_getElem? (i := 205) rfl)) rfl
theorem kw_206 : (Jvm.Cond.instanceMethod ({ cls := "ClockedFlows", name := "wipe", desc := "()I" } : Jvm.MethodName)) ∈ gws := gws_mem (kt_1 _ (List.mem_of_getElem? (i := 206) rfl)) rfl
theorem kw_207 : (Jvm.Cond.selects "ClockedFlows" ({ cls := "ClockedFlows", name := "wipe", desc := "()I" } : Jvm.MethodName) ({ cls := "ClockedFlows", name := "wipe", desc := "()I" } : Jvm.MethodName)) ∈ gws := gws_mem (kt_1 _ (List.mem_of_getElem? (i := 207) rfl)) rfl
theorem kw_208 : (Jvm.Cond.code ({ cls := "ClockedFlows", name := "wipe", desc := "()I" } : Jvm.MethodName) prog_1_method_3_code (2 : Nat) (Option.some Jvm.ClassFile.FieldType.int)) ∈ gws := gws_mem (kt_1 _ (List.mem_of_getElem? (i := 208) rfl)) rfl
theorem kw_209 : (Jvm.Cond.methodLink "ClockedFlowsLaw" (23 : Nat) ({ cls := "ClockedFlows", name := "fault", desc := "()I" } : Jvm.MethodName)) ∈ gws := gws_mem (kt_1 _ (List.mem_of_getElem? (i := 209) rfl)) rfl
theorem kw_210 : (Jvm.Cond.instanceMethod ({ cls := "ClockedFlows", name := "fault", desc := "()I" } : Jvm.MethodName)) ∈ gws := gws_mem (kt_1 _ (List.mem_of_getElem? (i := 210) rfl)) rfl
theorem kw_211 : (Jvm.Cond.selects "ClockedFlows" ({ cls := "ClockedFlows", name := "fault", desc := "()I" } : Jvm.MethodName) ({ cls := "ClockedFlows", name := "fault", desc := "()I" } : Jvm.MethodName)) ∈ gws := gws_mem (kt_1 _ (List.mem_of_getElem? (i := 211) rfl)) rfl
theorem kw_212 : (Jvm.Cond.code ({ cls := "ClockedFlows", name := "fault", desc := "()I" } : Jvm.MethodName) prog_1_method_4_code (1 : Nat) (Option.some Jvm.ClassFile.FieldType.int)) ∈ gws := gws_mem (kt_1 _ (List.mem_of_getElem? (i := 212) rfl)) rfl
theorem kw_213 : (Jvm.Cond.methodLink "ClockedFlows" (71 : Nat) ({ cls := "ClockedFlows$Text", name := "readInto", desc := "(LClockedFlows$Flow;)I" } : Jvm.MethodName)) ∈ gws := gws_mem (kt_1 _ (List.mem_of_getElem? (i := 213) rfl)) rfl
theorem kw_214 : (Jvm.Cond.instanceMethod ({ cls := "ClockedFlows$Text", name := "readInto", desc := "(LClockedFlows$Flow;)I" } : Jvm.MethodName)) ∈ gws := gws_mem (kt_1 _ (List.mem_of_getElem? (i := 214) rfl)) rfl
theorem kw_215 : (Jvm.Cond.selects "ClockedFlows$Text" ({ cls := "ClockedFlows$Text", name := "readInto", desc := "(LClockedFlows$Flow;)I" } : Jvm.MethodName) ({ cls := "ClockedFlows$Text", name := "readInto", desc := "(LClockedFlows$Flow;)I" } : Jvm.MethodName)) ∈ gws := gws_mem (kt_1 _ (List.mem_of_getElem? (i := 215) rfl)) rfl
theorem kw_216 : (Jvm.Cond.code ({ cls := "ClockedFlows$Text", name := "readInto", desc := "(LClockedFlows$Flow;)I" } : Jvm.MethodName) prog_6_method_3_code (5 : Nat) (Option.some Jvm.ClassFile.FieldType.int)) ∈ gws := gws_mem (kt_1 _ (List.mem_of_getElem? (i := 216) rfl)) rfl
theorem kw_217 : (Jvm.Cond.methodLink "ClockedFlows$Text" (19 : Nat) ({ cls := "ClockedFlows$Text", name := "letterAt", desc := "(I)I" } : Jvm.MethodName)) ∈ gws := gws_mem (kt_1 _ (List.mem_of_getElem? (i := 217) rfl)) rfl
theorem kw_219 : (Jvm.Cond.instanceMethod ({ cls := "ClockedFlows$Text", name := "letterAt", desc := "(I)I" } : Jvm.MethodName)) ∈ gws := gws_mem (kt_1 _ (List.mem_of_getElem? (i := 219) rfl)) rfl
theorem kw_220 : (Jvm.Cond.code ({ cls := "ClockedFlows$Text", name := "letterAt", desc := "(I)I" } : Jvm.MethodName) prog_6_method_5_code (2 : Nat) (Option.some Jvm.ClassFile.FieldType.int)) ∈ gws := gws_mem (kt_1 _ (List.mem_of_getElem? (i := 220) rfl)) rfl
theorem kw_221 : (Jvm.Cond.methodLink "ClockedFlows$Text" (28 : Nat) ({ cls := "ClockedFlows$Text", name := "readEquation", desc := "(LClockedFlows$Flow;II)I" } : Jvm.MethodName)) ∈ gws := gws_mem (kt_1 _ (List.mem_of_getElem? (i := 221) rfl)) rfl
theorem kw_223 : (Jvm.Cond.instanceMethod ({ cls := "ClockedFlows$Text", name := "readEquation", desc := "(LClockedFlows$Flow;II)I" } : Jvm.MethodName)) ∈ gws := gws_mem (kt_1 _ (List.mem_of_getElem? (i := 223) rfl)) rfl
theorem kw_224 : (Jvm.Cond.code ({ cls := "ClockedFlows$Text", name := "readEquation", desc := "(LClockedFlows$Flow;II)I" } : Jvm.MethodName) prog_6_method_4_code (8 : Nat) (Option.some Jvm.ClassFile.FieldType.int)) ∈ gws := gws_mem (kt_1 _ (List.mem_of_getElem? (i := 224) rfl)) rfl
theorem kw_225 : (Jvm.Cond.stringRef "ClockedFlows$Text" (38 : Nat) "IK+-<?FPAWNM") ∈ lw_tbl := kt_1 _ (List.mem_of_getElem? (i := 225) rfl)
theorem kw_226 : (Jvm.Cond.methodLink "ClockedFlows$Text" (40 : Nat) ({ cls := "java/lang/String", name := "indexOf", desc := "(I)I" } : Jvm.MethodName)) ∈ gws := gws_mem (kt_1 _ (List.mem_of_getElem? (i := 226) rfl)) rfl
theorem kw_227 : (Jvm.Cond.instanceMethod ({ cls := "java/lang/String", name := "indexOf", desc := "(I)I" } : Jvm.MethodName)) ∈ gws := gws_mem (kt_1 _ (List.mem_of_getElem? (i := 227) rfl)) rfl
theorem kw_228 : (Jvm.Cond.selects "java/lang/String" ({ cls := "java/lang/String", name := "indexOf", desc := "(I)I" } : Jvm.MethodName) ({ cls := "java/lang/String", name := "indexOf", desc := "(I)I" } : Jvm.MethodName)) ∈ gws := gws_mem (kt_1 _ (List.mem_of_getElem? (i := 228) rfl)) rfl
theorem kw_229 : (Jvm.Cond.code ({ cls := "java/lang/String", name := "indexOf", desc := "(I)I" } : Jvm.MethodName) prog_12_method_79_code (2 : Nat) (Option.some Jvm.ClassFile.FieldType.int)) ∈ gws := gws_mem (kt_1 _ (List.mem_of_getElem? (i := 229) rfl)) rfl
theorem kw_230 : (Jvm.Cond.methodLink "java/lang/String" (633 : Nat) ({ cls := "java/lang/String", name := "indexOf", desc := "(II)I" } : Jvm.MethodName)) ∈ gws := gws_mem (kt_1 _ (List.mem_of_getElem? (i := 230) rfl)) rfl
theorem kw_231 : (Jvm.Cond.instanceMethod ({ cls := "java/lang/String", name := "indexOf", desc := "(II)I" } : Jvm.MethodName)) ∈ gws := gws_mem (kt_1 _ (List.mem_of_getElem? (i := 231) rfl)) rfl
theorem kw_232 : (Jvm.Cond.selects "java/lang/String" ({ cls := "java/lang/String", name := "indexOf", desc := "(II)I" } : Jvm.MethodName) ({ cls := "java/lang/String", name := "indexOf", desc := "(II)I" } : Jvm.MethodName)) ∈ gws := gws_mem (kt_1 _ (List.mem_of_getElem? (i := 232) rfl)) rfl
theorem kw_233 : (Jvm.Cond.code ({ cls := "java/lang/String", name := "indexOf", desc := "(II)I" } : Jvm.MethodName) prog_12_method_80_code (3 : Nat) (Option.some Jvm.ClassFile.FieldType.int)) ∈ gws := gws_mem (kt_1 _ (List.mem_of_getElem? (i := 233) rfl)) rfl
theorem kw_234 : (Jvm.Cond.methodLink "java/lang/String" (492 : Nat) ({ cls := "java/lang/String", name := "isLatin1", desc := "()Z" } : Jvm.MethodName)) ∈ gws := gws_mem (kt_1 _ (List.mem_of_getElem? (i := 234) rfl)) rfl
theorem kw_235 : (Jvm.Cond.instanceMethod ({ cls := "java/lang/String", name := "isLatin1", desc := "()Z" } : Jvm.MethodName)) ∈ gws := gws_mem (kt_1 _ (List.mem_of_getElem? (i := 235) rfl)) rfl
theorem kw_236 : (Jvm.Cond.selects "java/lang/String" ({ cls := "java/lang/String", name := "isLatin1", desc := "()Z" } : Jvm.MethodName) ({ cls := "java/lang/String", name := "isLatin1", desc := "()Z" } : Jvm.MethodName)) ∈ gws := gws_mem (kt_1 _ (List.mem_of_getElem? (i := 236) rfl)) rfl
theorem kw_237 : (Jvm.Cond.code ({ cls := "java/lang/String", name := "isLatin1", desc := "()Z" } : Jvm.MethodName) prog_12_method_154_code (1 : Nat) (Option.some Jvm.ClassFile.FieldType.boolean)) ∈ gws := gws_mem (kt_1 _ (List.mem_of_getElem? (i := 237) rfl)) rfl
theorem kw_238 : (Jvm.Cond.fieldLink "java/lang/String" (38 : Nat) "java/lang/String" "COMPACT_STRINGS" "Z") ∈ gws := gws_mem (kt_1 _ (List.mem_of_getElem? (i := 238) rfl)) rfl
theorem kw_239 : (Jvm.Cond.laysStatic "java/lang/String" "COMPACT_STRINGS" "Z") ∈ lw_tbl := kt_1 _ (List.mem_of_getElem? (i := 239) rfl)
theorem kw_240 : (Jvm.Cond.methodLink "java/lang/String" (505 : Nat) ({ cls := "java/lang/String", name := "length", desc := "()I" } : Jvm.MethodName)) ∈ gws := gws_mem (kt_2 _ (List.mem_of_getElem? (i := 0) rfl)) rfl
theorem kw_241 : (Jvm.Cond.instanceMethod ({ cls := "java/lang/String", name := "length", desc := "()I" } : Jvm.MethodName)) ∈ gws := gws_mem (kt_2 _ (List.mem_of_getElem? (i := 1) rfl)) rfl
theorem kw_242 : (Jvm.Cond.selects "java/lang/String" ({ cls := "java/lang/String", name := "length", desc := "()I" } : Jvm.MethodName) ({ cls := "java/lang/String", name := "length", desc := "()I" } : Jvm.MethodName)) ∈ gws := gws_mem (kt_2 _ (List.mem_of_getElem? (i := 2) rfl)) rfl
theorem kw_243 : (Jvm.Cond.code ({ cls := "java/lang/String", name := "length", desc := "()I" } : Jvm.MethodName) prog_12_method_54_code (1 : Nat) (Option.some Jvm.ClassFile.FieldType.int)) ∈ gws := gws_mem (kt_2 _ (List.mem_of_getElem? (i := 3) rfl)) rfl
theorem kw_244 : (Jvm.Cond.methodLink "java/lang/String" (335 : Nat) ({ cls := "java/lang/String", name := "coder", desc := "()B" } : Jvm.MethodName)) ∈ gws := gws_mem (kt_2 _ (List.mem_of_getElem? (i := 4) rfl)) rfl
theorem kw_245 : (Jvm.Cond.instanceMethod ({ cls := "java/lang/String", name := "coder", desc := "()B" } : Jvm.MethodName)) ∈ gws := gws_mem (kt_2 _ (List.mem_of_getElem? (i := 5) rfl)) rfl
theorem kw_246 : (Jvm.Cond.selects "java/lang/String" ({ cls := "java/lang/String", name := "coder", desc := "()B" } : Jvm.MethodName) ({ cls := "java/lang/String", name := "coder", desc := "()B" } : Jvm.MethodName)) ∈ gws := gws_mem (kt_2 _ (List.mem_of_getElem? (i := 6) rfl)) rfl
theorem kw_247 : (Jvm.Cond.code ({ cls := "java/lang/String", name := "coder", desc := "()B" } : Jvm.MethodName) prog_12_method_152_code (1 : Nat) (Option.some Jvm.ClassFile.FieldType.byte)) ∈ gws := gws_mem (kt_2 _ (List.mem_of_getElem? (i := 7) rfl)) rfl
theorem kw_248 : (Jvm.Cond.methodLink "java/lang/String" (637 : Nat) ({ cls := "java/lang/StringLatin1", name := "indexOf", desc := "([BIII)I" } : Jvm.MethodName)) ∈ gws := gws_mem (kt_2 _ (List.mem_of_getElem? (i := 8) rfl)) rfl
theorem kw_249 : (Jvm.Cond.static ({ cls := "java/lang/StringLatin1", name := "indexOf", desc := "([BIII)I" } : Jvm.MethodName)) ∈ gws := gws_mem (kt_2 _ (List.mem_of_getElem? (i := 9) rfl)) rfl
theorem kw_250 : (Jvm.Cond.code ({ cls := "java/lang/StringLatin1", name := "indexOf", desc := "([BIII)I" } : Jvm.MethodName) prog_13_method_22_code (4 : Nat) (Option.some Jvm.ClassFile.FieldType.int)) ∈ gws := gws_mem (kt_2 _ (List.mem_of_getElem? (i := 10) rfl)) rfl
theorem kw_251 : (Jvm.Cond.methodLink "java/lang/StringLatin1" (88 : Nat) ({ cls := "java/lang/StringLatin1", name := "canEncode", desc := "(I)Z" } : Jvm.MethodName)) ∈ gws := gws_mem (kt_2 _ (List.mem_of_getElem? (i := 11) rfl)) rfl
theorem kw_252 : (Jvm.Cond.static ({ cls := "java/lang/StringLatin1", name := "canEncode", desc := "(I)Z" } : Jvm.MethodName)) ∈ gws := gws_mem (kt_2 _ (List.mem_of_getElem? (i := 12) rfl)) rfl
theorem kw_253 : (Jvm.Cond.code ({ cls := "java/lang/StringLatin1", name := "canEncode", desc := "(I)Z" } : Jvm.MethodName) prog_13_method_4_code (1 : Nat) (Option.some Jvm.ClassFile.FieldType.boolean)) ∈ gws := gws_mem (kt_2 _ (List.mem_of_getElem? (i := 13) rfl)) rfl
theorem kw_254 : (Jvm.Cond.methodLink "java/lang/StringLatin1" (92 : Nat) ({ cls := "java/lang/Math", name := "max", desc := "(II)I" } : Jvm.MethodName)) ∈ gws := gws_mem (kt_2 _ (List.mem_of_getElem? (i := 14) rfl)) rfl
theorem kw_255 : (Jvm.Cond.static ({ cls := "java/lang/Math", name := "max", desc := "(II)I" } : Jvm.MethodName)) ∈ gws := gws_mem (kt_2 _ (List.mem_of_getElem? (i := 15) rfl)) rfl
theorem kw_256 : (Jvm.Cond.code ({ cls := "java/lang/Math", name := "max", desc := "(II)I" } : Jvm.MethodName) prog_11_method_65_code (2 : Nat) (Option.some Jvm.ClassFile.FieldType.int)) ∈ gws := gws_mem (kt_2 _ (List.mem_of_getElem? (i := 16) rfl)) rfl
theorem kw_257 : (Jvm.Cond.methodLink "java/lang/StringLatin1" (38 : Nat) ({ cls := "java/lang/Math", name := "min", desc := "(II)I" } : Jvm.MethodName)) ∈ gws := gws_mem (kt_2 _ (List.mem_of_getElem? (i := 17) rfl)) rfl
theorem kw_258 : (Jvm.Cond.static ({ cls := "java/lang/Math", name := "min", desc := "(II)I" } : Jvm.MethodName)) ∈ gws := gws_mem (kt_2 _ (List.mem_of_getElem? (i := 18) rfl)) rfl
theorem kw_259 : (Jvm.Cond.code ({ cls := "java/lang/Math", name := "min", desc := "(II)I" } : Jvm.MethodName) prog_11_method_69_code (2 : Nat) (Option.some Jvm.ClassFile.FieldType.int)) ∈ gws := gws_mem (kt_2 _ (List.mem_of_getElem? (i := 19) rfl)) rfl
theorem kw_260 : (Jvm.Cond.methodLink "java/lang/StringLatin1" (95 : Nat) ({ cls := "java/lang/StringLatin1", name := "indexOfChar", desc := "([BIII)I" } : Jvm.MethodName)) ∈ gws := gws_mem (kt_2 _ (List.mem_of_getElem? (i := 20) rfl)) rfl
theorem kw_261 : (Jvm.Cond.static ({ cls := "java/lang/StringLatin1", name := "indexOfChar", desc := "([BIII)I" } : Jvm.MethodName)) ∈ gws := gws_mem (kt_2 _ (List.mem_of_getElem? (i := 21) rfl)) rfl
theorem kw_262 : (Jvm.Cond.code ({ cls := "java/lang/StringLatin1", name := "indexOfChar", desc := "([BIII)I" } : Jvm.MethodName) prog_13_method_23_code (6 : Nat) (Option.some Jvm.ClassFile.FieldType.int)) ∈ gws := gws_mem (kt_2 _ (List.mem_of_getElem? (i := 22) rfl)) rfl
theorem kw_263 : (Jvm.Cond.methodLink "java/lang/String" (640 : Nat) ({ cls := "java/lang/StringUTF16", name := "indexOf", desc := "([BIII)I" } : Jvm.MethodName)) ∈ gws := gws_mem (kt_2 _ (List.mem_of_getElem? (i := 23) rfl)) rfl
theorem kw_264 : (Jvm.Cond.static ({ cls := "java/lang/StringUTF16", name := "indexOf", desc := "([BIII)I" } : Jvm.MethodName)) ∈ gws := gws_mem (kt_2 _ (List.mem_of_getElem? (i := 24) rfl)) rfl
theorem kw_265 : (Jvm.Cond.code ({ cls := "java/lang/StringUTF16", name := "indexOf", desc := "([BIII)I" } : Jvm.MethodName) prog_14_method_40_code (4 : Nat) (Option.some Jvm.ClassFile.FieldType.int)) ∈ gws := gws_mem (kt_2 _ (List.mem_of_getElem? (i := 25) rfl)) rfl
theorem kw_266 : (Jvm.Cond.methodLink "java/lang/StringUTF16" (224 : Nat) ({ cls := "java/lang/Math", name := "max", desc := "(II)I" } : Jvm.MethodName)) ∈ gws := gws_mem (kt_2 _ (List.mem_of_getElem? (i := 26) rfl)) rfl
theorem kw_267 : (Jvm.Cond.methodLink "java/lang/StringUTF16" (183 : Nat) ({ cls := "java/lang/Math", name := "min", desc := "(II)I" } : Jvm.MethodName)) ∈ gws := gws_mem (kt_2 _ (List.mem_of_getElem? (i := 27) rfl)) rfl
theorem kw_268 : (Jvm.Cond.constant "java/lang/StringUTF16" (227 : Nat) (65536 : Int32)) ∈ gws := gws_mem (kt_2 _ (List.mem_of_getElem? (i := 28) rfl)) rfl
theorem kw_269 : (Jvm.Cond.methodLink "java/lang/StringUTF16" (228 : Nat) ({ cls := "java/lang/StringUTF16", name := "indexOfChar", desc := "([BIII)I" } : Jvm.MethodName)) ∈ gws := gws_mem (kt_2 _ (List.mem_of_getElem? (i := 29) rfl)) rfl
theorem kw_270 : (Jvm.Cond.static ({ cls := "java/lang/StringUTF16", name := "indexOfChar", desc := "([BIII)I" } : Jvm.MethodName)) ∈ gws := gws_mem (kt_2 _ (List.mem_of_getElem? (i := 30) rfl)) rfl
theorem kw_271 : (Jvm.Cond.code ({ cls := "java/lang/StringUTF16", name := "indexOfChar", desc := "([BIII)I" } : Jvm.MethodName) prog_14_method_47_code (4 : Nat) (Option.some Jvm.ClassFile.FieldType.int)) ∈ gws := gws_mem (kt_2 _ (List.mem_of_getElem? (i := 31) rfl)) rfl
theorem kw_272 : (Jvm.Cond.methodLink "java/lang/StringUTF16" (96 : Nat) ({ cls := "java/lang/StringUTF16", name := "checkBoundsBeginEnd", desc := "(II[B)V" } : Jvm.MethodName)) ∈ gws := gws_mem (kt_2 _ (List.mem_of_getElem? (i := 32) rfl)) rfl
theorem kw_273 : (Jvm.Cond.static ({ cls := "java/lang/StringUTF16", name := "checkBoundsBeginEnd", desc := "(II[B)V" } : Jvm.MethodName)) ∈ gws := gws_mem (kt_2 _ (List.mem_of_getElem? (i := 33) rfl)) rfl
theorem kw_274 : (Jvm.Cond.code ({ cls := "java/lang/StringUTF16", name := "checkBoundsBeginEnd", desc := "(II[B)V" } : Jvm.MethodName) prog_14_method_93_code (3 : Nat) (Option.none : Option Jvm.ClassFile.FieldType)) ∈ gws := gws_mem (kt_2 _ (List.mem_of_getElem? (i := 34) rfl)) rfl
theorem kw_275 : (Jvm.Cond.methodLink "java/lang/StringUTF16" (48 : Nat) ({ cls := "java/lang/StringUTF16", name := "length", desc := "([B)I" } : Jvm.MethodName)) ∈ gws := gws_mem (kt_2 _ (List.mem_of_getElem? (i := 35) rfl)) rfl
theorem kw_276 : (Jvm.Cond.static ({ cls := "java/lang/StringUTF16", name := "length", desc := "([B)I" } : Jvm.MethodName)) ∈ gws := gws_mem (kt_2 _ (List.mem_of_getElem? (i := 36) rfl)) rfl
theorem kw_277 : (Jvm.Cond.code ({ cls := "java/lang/StringUTF16", name := "length", desc := "([B)I" } : Jvm.MethodName) prog_14_method_6_code (1 : Nat) (Option.some Jvm.ClassFile.FieldType.int)) ∈ gws := gws_mem (kt_2 _ (List.mem_of_getElem? (i := 37) rfl)) rfl
theorem kw_278 : (Jvm.Cond.methodLink "java/lang/StringUTF16" (241 : Nat) ({ cls := "java/lang/String", name := "checkBoundsBeginEnd", desc := "(III)V" } : Jvm.MethodName)) ∈ gws := gws_mem (kt_2 _ (List.mem_of_getElem? (i := 38) rfl)) rfl
theorem kw_279 : (Jvm.Cond.static ({ cls := "java/lang/String", name := "checkBoundsBeginEnd", desc := "(III)V" } : Jvm.MethodName)) ∈ gws := gws_mem (kt_2 _ (List.mem_of_getElem? (i := 39) rfl)) rfl
theorem kw_280 : (Jvm.Cond.code ({ cls := "java/lang/String", name := "checkBoundsBeginEnd", desc := "(III)V" } : Jvm.MethodName) prog_12_method_158_code (3 : Nat) (Option.none : Option Jvm.ClassFile.FieldType)) ∈ gws := gws_mem (kt_2 _ (List.mem_of_getElem? (i := 40) rfl)) rfl
theorem kw_281 : (Jvm.Cond.fieldLink "java/lang/String" (1053 : Nat) "jdk/internal/util/Preconditions" "SIOOBE_FORMATTER" "Ljava/util/function/BiFunction;") ∈ gws := gws_mem (kt_2 _ (List.mem_of_getElem? (i := 41) rfl)) rfl
theorem kw_282 : (Jvm.Cond.laysStatic "jdk/internal/util/Preconditions" "SIOOBE_FORMATTER" "Ljava/util/function/BiFunction;") ∈ lw_tbl := kt_2 _ (List.mem_of_getElem? (i := 42) rfl)
theorem kw_283 : (Jvm.Cond.methodLink "java/lang/String" (1062 : Nat) ({ cls := "jdk/internal/util/Preconditions", name := "checkFromToIndex", desc := "(IIILjava/util/function/BiFunction;)I" } : Jvm.MethodName)) ∈ gws := gws_mem (kt_2 _ (List.mem_of_getElem? (i := 43) rfl)) rfl
theorem kw_284 : (Jvm.Cond.static ({ cls := "jdk/internal/util/Preconditions", name := "checkFromToIndex", desc := "(IIILjava/util/function/BiFunction;)I" } : Jvm.MethodName)) ∈ gws := gws_mem (kt_2 _ (List.mem_of_getElem? (i := 44) rfl)) rfl
theorem kw_285 : (Jvm.Cond.code ({ cls := "jdk/internal/util/Preconditions", name := "checkFromToIndex", desc := "(IIILjava/util/function/BiFunction;)I" } : Jvm.MethodName) prog_17_method_12_code (4 : Nat) (Option.some Jvm.ClassFile.FieldType.int)) ∈ gws := gws_mem (kt_2 _ (List.mem_of_getElem? (i := 45) rfl)) rfl
theorem kw_286 : (Jvm.Cond.methodLink "java/lang/StringUTF16" (244 : Nat) ({ cls := "java/lang/StringUTF16", name := "indexOfCharUnsafe", desc := "([BIII)I" } : Jvm.MethodName)) ∈ gws := gws_mem (kt_2 _ (List.mem_of_getElem? (i := 46) rfl)) rfl
theorem kw_287 : (Jvm.Cond.static ({ cls := "java/lang/StringUTF16", name := "indexOfCharUnsafe", desc := "([BIII)I" } : Jvm.MethodName)) ∈ gws := gws_mem (kt_2 _ (List.mem_of_getElem? (i := 47) rfl)) rfl
theorem kw_288 : (Jvm.Cond.code ({ cls := "java/lang/StringUTF16", name := "indexOfCharUnsafe", desc := "([BIII)I" } : Jvm.MethodName) prog_14_method_48_code (5 : Nat) (Option.some Jvm.ClassFile.FieldType.int)) ∈ gws := gws_mem (kt_2 _ (List.mem_of_getElem? (i := 48) rfl)) rfl
theorem kw_289 : (Jvm.Cond.methodLink "java/lang/StringUTF16" (71 : Nat) ({ cls := "java/lang/StringUTF16", name := "getChar", desc := "([BI)C" } : Jvm.MethodName)) ∈ gws := gws_mem (kt_2 _ (List.mem_of_getElem? (i := 49) rfl)) rfl
theorem kw_290 : (Jvm.Cond.static ({ cls := "java/lang/StringUTF16", name := "getChar", desc := "([BI)C" } : Jvm.MethodName)) ∈ gws := gws_mem (kt_2 _ (List.mem_of_getElem? (i := 50) rfl)) rfl
theorem kw_291 : (Jvm.Cond.code ({ cls := "java/lang/StringUTF16", name := "getChar", desc := "([BI)C" } : Jvm.MethodName) prog_14_method_5_code (2 : Nat) (Option.some Jvm.ClassFile.FieldType.char)) ∈ gws := gws_mem (kt_2 _ (List.mem_of_getElem? (i := 51) rfl)) rfl
theorem kw_292 : (Jvm.Cond.fieldLink "java/lang/StringUTF16" (44 : Nat) "java/lang/StringUTF16" "$assertionsDisabled" "Z") ∈ gws := gws_mem (kt_2 _ (List.mem_of_getElem? (i := 52) rfl)) rfl
theorem kw_293 : (Jvm.Cond.laysStatic "java/lang/StringUTF16" "$assertionsDisabled" "Z") ∈ lw_tbl := kt_2 _ (List.mem_of_getElem? (i := 53) rfl)
theorem kw_294 : (Jvm.Cond.fieldLink "java/lang/StringUTF16" (59 : Nat) "java/lang/StringUTF16" "HI_BYTE_SHIFT" "I") ∈ gws := gws_mem (kt_2 _ (List.mem_of_getElem? (i := 54) rfl)) rfl
theorem kw_295 : (Jvm.Cond.laysStatic "java/lang/StringUTF16" "HI_BYTE_SHIFT" "I") ∈ lw_tbl := kt_2 _ (List.mem_of_getElem? (i := 55) rfl)
theorem kw_296 : (Jvm.Cond.fieldLink "java/lang/StringUTF16" (63 : Nat) "java/lang/StringUTF16" "LO_BYTE_SHIFT" "I") ∈ gws := gws_mem (kt_2 _ (List.mem_of_getElem? (i := 56) rfl)) rfl
theorem kw_297 : (Jvm.Cond.laysStatic "java/lang/StringUTF16" "LO_BYTE_SHIFT" "I") ∈ lw_tbl := kt_2 _ (List.mem_of_getElem? (i := 57) rfl)
theorem kw_298 : (Jvm.Cond.methodLink "java/lang/StringUTF16" (232 : Nat) ({ cls := "java/lang/StringUTF16", name := "indexOfSupplementary", desc := "([BIII)I" } : Jvm.MethodName)) ∈ gws := gws_mem (kt_2 _ (List.mem_of_getElem? (i := 58) rfl)) rfl
theorem kw_299 : (Jvm.Cond.static ({ cls := "java/lang/StringUTF16", name := "indexOfSupplementary", desc := "([BIII)I" } : Jvm.MethodName)) ∈ gws := gws_mem (kt_2 _ (List.mem_of_getElem? (i := 59) rfl)) rfl
theorem kw_300 : (Jvm.Cond.code ({ cls := "java/lang/StringUTF16", name := "indexOfSupplementary", desc := "([BIII)I" } : Jvm.MethodName) prog_14_method_49_code (7 : Nat) (Option.some Jvm.ClassFile.FieldType.int)) ∈ gws := gws_mem (kt_2 _ (List.mem_of_getElem? (i := 60) rfl)) rfl
theorem kw_301 : (Jvm.Cond.methodLink "java/lang/StringUTF16" (164 : Nat) ({ cls := "java/lang/Character", name := "isValidCodePoint", desc := "(I)Z" } : Jvm.MethodName)) ∈ gws := gws_mem (kt_2 _ (List.mem_of_getElem? (i := 61) rfl)) rfl
theorem kw_302 : (Jvm.Cond.static ({ cls := "java/lang/Character", name := "isValidCodePoint", desc := "(I)Z" } : Jvm.MethodName)) ∈ gws := gws_mem (kt_2 _ (List.mem_of_getElem? (i := 62) rfl)) rfl
theorem kw_303 : (Jvm.Cond.code ({ cls := "java/lang/Character", name := "isValidCodePoint", desc := "(I)Z" } : Jvm.MethodName) prog_9_method_11_code (2 : Nat) (Option.some Jvm.ClassFile.FieldType.boolean)) ∈ gws := gws_mem (kt_2 _ (List.mem_of_getElem? (i := 63) rfl)) rfl
theorem kw_304 : (Jvm.Cond.methodLink "java/lang/StringUTF16" (157 : Nat) ({ cls := "java/lang/Character", name := "highSurrogate", desc := "(I)C" } : Jvm.MethodName)) ∈ gws := gws_mem (kt_2 _ (List.mem_of_getElem? (i := 64) rfl)) rfl
theorem kw_305 : (Jvm.Cond.static ({ cls := "java/lang/Character", name := "highSurrogate", desc := "(I)C" } : Jvm.MethodName)) ∈ gws := gws_mem (kt_2 _ (List.mem_of_getElem? (i := 65) rfl)) rfl
theorem kw_306 : (Jvm.Cond.code ({ cls := "java/lang/Character", name := "highSurrogate", desc := "(I)C" } : Jvm.MethodName) prog_9_method_28_code (1 : Nat) (Option.some Jvm.ClassFile.FieldType.char)) ∈ gws := gws_mem (kt_2 _ (List.mem_of_getElem? (i := 66) rfl)) rfl
theorem kw_307 : (Jvm.Cond.constant "java/lang/Character" (110 : Nat) (55232 : Int32)) ∈ gws := gws_mem (kt_2 _ (List.mem_of_getElem? (i := 67) rfl)) rfl
theorem kw_308 : (Jvm.Cond.methodLink "java/lang/StringUTF16" (161 : Nat) ({ cls := "java/lang/Character", name := "lowSurrogate", desc := "(I)C" } : Jvm.MethodName)) ∈ gws := gws_mem (kt_2 _ (List.mem_of_getElem? (i := 68) rfl)) rfl
theorem kw_309 : (Jvm.Cond.static ({ cls := "java/lang/Character", name := "lowSurrogate", desc := "(I)C" } : Jvm.MethodName)) ∈ gws := gws_mem (kt_2 _ (List.mem_of_getElem? (i := 69) rfl)) rfl
theorem kw_310 : (Jvm.Cond.code ({ cls := "java/lang/Character", name := "lowSurrogate", desc := "(I)C" } : Jvm.MethodName) prog_9_method_29_code (1 : Nat) (Option.some Jvm.ClassFile.FieldType.char)) ∈ gws := gws_mem (kt_2 _ (List.mem_of_getElem? (i := 70) rfl)) rfl
theorem kw_311 : (Jvm.Cond.constant "java/lang/Character" (76 : Nat) (56320 : Int32)) ∈ gws := gws_mem (kt_2 _ (List.mem_of_getElem? (i := 71) rfl)) rfl
theorem kw_312 : (Jvm.Cond.methodLink "ClockedFlows$Text" (45 : Nat) ({ cls := "ClockedFlows$Flow", name := "equate", desc := "(IIIII)V" } : Jvm.MethodName)) ∈ gws := gws_mem (kt_2 _ (List.mem_of_getElem? (i := 72) rfl)) rfl
theorem kw_313 : (Jvm.Cond.instanceMethod ({ cls := "ClockedFlows$Flow", name := "equate", desc := "(IIIII)V" } : Jvm.MethodName)) ∈ gws := gws_mem (kt_2 _ (List.mem_of_getElem? (i := 73) rfl)) rfl
theorem kw_314 : (Jvm.Cond.selects "ClockedFlows$Flow" ({ cls := "ClockedFlows$Flow", name := "equate", desc := "(IIIII)V" } : Jvm.MethodName) ({ cls := "ClockedFlows$Flow", name := "equate", desc := "(IIIII)V" } : Jvm.MethodName)) ∈ gws := gws_mem (kt_2 _ (List.mem_of_getElem? (i := 74) rfl)) rfl
theorem kw_315 : (Jvm.Cond.code ({ cls := "ClockedFlows$Flow", name := "equate", desc := "(IIIII)V" } : Jvm.MethodName) prog_3_method_3_code (6 : Nat) (Option.none : Option Jvm.ClassFile.FieldType)) ∈ gws := gws_mem (kt_2 _ (List.mem_of_getElem? (i := 75) rfl)) rfl
theorem kw_316 : (Jvm.Cond.methodLink "ClockedFlows$Flow" (43 : Nat) ({ cls := "ClockedFlows$Flow", name := "setPart", desc := "(III)V" } : Jvm.MethodName)) ∈ gws := gws_mem (kt_2 _ (List.mem_of_getElem? (i := 76) rfl)) rfl
theorem kw_317 : (Jvm.Cond.instanceMethod ({ cls := "ClockedFlows$Flow", name := "setPart", desc := "(III)V" } : Jvm.MethodName)) ∈ gws := gws_mem (kt_2 _ (List.mem_of_getElem? (i := 77) rfl)) rfl
theorem kw_318 : (Jvm.Cond.selects "ClockedFlows$Flow" ({ cls := "ClockedFlows$Flow", name := "setPart", desc := "(III)V" } : Jvm.MethodName) ({ cls := "ClockedFlows$Flow", name := "setPart", desc := "(III)V" } : Jvm.MethodName)) ∈ gws := gws_mem (kt_2 _ (List.mem_of_getElem? (i := 78) rfl)) rfl
theorem kw_319 : (Jvm.Cond.code ({ cls := "ClockedFlows$Flow", name := "setPart", desc := "(III)V" } : Jvm.MethodName) prog_3_method_4_code (4 : Nat) (Option.none : Option Jvm.ClassFile.FieldType)) ∈ gws := gws_mem (kt_2 _ (List.mem_of_getElem? (i := 79) rfl)) rfl
theorem kw_320 : (Jvm.Cond.methodLinkNest "ClockedFlows$Text" (35 : Nat) ({ cls := "ClockedFlows", name := "figuresOf", desc := "(I)I" } : Jvm.MethodName) "ClockedFlows") ∈ lw_tbl := kt_2 _ (List.mem_of_getElem? (i := 80) rfl)
theorem kw_321 : (Jvm.Cond.static ({ cls := "ClockedFlows", name := "figuresOf", desc := "(I)I" } : Jvm.MethodName)) ∈ gws := gws_mem (kt_2 _ (List.mem_of_getElem? (i := 81) rfl)) rfl
theorem kw_322 : (Jvm.Cond.code ({ cls := "ClockedFlows", name := "figuresOf", desc := "(I)I" } : Jvm.MethodName) prog_1_method_38_code (1 : Nat) (Option.some Jvm.ClassFile.FieldType.int)) ∈ gws := gws_mem (kt_2 _ (List.mem_of_getElem? (i := 82) rfl)) rfl
theorem kw_323 : (Jvm.Cond.fieldLink "ClockedFlows" (235 : Nat) "ClockedFlows" "FIGURES_OF_KIND" "[I") ∈ gws := gws_mem (kt_2 _ (List.mem_of_getElem? (i := 83) rfl)) rfl
theorem kw_324 : (Jvm.Cond.laysStatic "ClockedFlows" "FIGURES_OF_KIND" "[I") ∈ lw_tbl := kt_2 _ (List.mem_of_getElem? (i := 84) rfl)
theorem kw_325 : (Jvm.Cond.methodLinkNest "ClockedFlows$Text" (49 : Nat) ({ cls := "ClockedFlows", name := "isFigure", desc := "(IIII)Z" } : Jvm.MethodName) "ClockedFlows") ∈ lw_tbl := kt_2 _ (List.mem_of_getElem? (i := 85) rfl)
theorem kw_326 : (Jvm.Cond.static ({ cls := "ClockedFlows", name := "isFigure", desc := "(IIII)Z" } : Jvm.MethodName)) ∈ gws := gws_mem (kt_2 _ (List.mem_of_getElem? (i := 86) rfl)) rfl
theorem kw_327 : (Jvm.Cond.code ({ cls := "ClockedFlows", name := "isFigure", desc := "(IIII)Z" } : Jvm.MethodName) prog_1_method_40_code (5 : Nat) (Option.some Jvm.ClassFile.FieldType.boolean)) ∈ gws := gws_mem (kt_2 _ (List.mem_of_getElem? (i := 87) rfl)) rfl
theorem kw_328 : (Jvm.Cond.methodLink "ClockedFlows" (131 : Nat) ({ cls := "ClockedFlows", name := "figuresOf", desc := "(I)I" } : Jvm.MethodName)) ∈ gws := gws_mem (kt_2 _ (List.mem_of_getElem? (i := 88) rfl)) rfl
theorem kw_329 : (Jvm.Cond.methodLink "ClockedFlows" (238 : Nat) ({ cls := "ClockedFlows", name := "namesStream", desc := "(II)Z" } : Jvm.MethodName)) ∈ gws := gws_mem (kt_2 _ (List.mem_of_getElem? (i := 89) rfl)) rfl
theorem kw_330 : (Jvm.Cond.static ({ cls := "ClockedFlows", name := "namesStream", desc := "(II)Z" } : Jvm.MethodName)) ∈ gws := gws_mem (kt_2 _ (List.mem_of_getElem? (i := 90) rfl)) rfl
theorem kw_331 : (Jvm.Cond.code ({ cls := "ClockedFlows", name := "namesStream", desc := "(II)Z" } : Jvm.MethodName) prog_1_method_39_code (2 : Nat) (Option.some Jvm.ClassFile.FieldType.boolean)) ∈ gws := gws_mem (kt_2 _ (List.mem_of_getElem? (i := 91) rfl)) rfl
theorem kw_332 : (Jvm.Cond.methodLink "ClockedFlows$Text" (53 : Nat) ({ cls := "ClockedFlows$Flow", name := "setPart", desc := "(III)V" } : Jvm.MethodName)) ∈ gws := gws_mem (kt_2 _ (List.mem_of_getElem? (i := 92) rfl)) rfl
theorem kw_333 : (Jvm.Cond.methodLink "ClockedFlows$Text" (32 : Nat) ({ cls := "ClockedFlows$Flow", name := "kindOf", desc := "(I)I" } : Jvm.MethodName)) ∈ gws := gws_mem (kt_2 _ (List.mem_of_getElem? (i := 93) rfl)) rfl
theorem kw_334 : (Jvm.Cond.instanceMethod ({ cls := "ClockedFlows$Flow", name := "kindOf", desc := "(I)I" } : Jvm.MethodName)) ∈ gws := gws_mem (kt_2 _ (List.mem_of_getElem? (i := 94) rfl)) rfl
theorem kw_335 : (Jvm.Cond.selects "ClockedFlows$Flow" ({ cls := "ClockedFlows$Flow", name := "kindOf", desc := "(I)I" } : Jvm.MethodName) ({ cls := "ClockedFlows$Flow", name := "kindOf", desc := "(I)I" } : Jvm.MethodName)) ∈ gws := gws_mem (kt_2 _ (List.mem_of_getElem? (i := 95) rfl)) rfl
theorem kw_336 : (Jvm.Cond.code ({ cls := "ClockedFlows$Flow", name := "kindOf", desc := "(I)I" } : Jvm.MethodName) prog_3_method_6_code (2 : Nat) (Option.some Jvm.ClassFile.FieldType.int)) ∈ gws := gws_mem (kt_2 _ (List.mem_of_getElem? (i := 96) rfl)) rfl
theorem kw_337 : (Jvm.Cond.arrayClass Jvm.ClassFile.FieldType.byte) ∈ gws := gws_mem (kt_2 _ (List.mem_of_getElem? (i := 97) rfl)) rfl
theorem kw_338 : (Jvm.Cond.methodLink "ClockedFlowsLaw" (27 : Nat) ({ cls := "ClockedFlows", name := "program", desc := "()I" } : Jvm.MethodName)) ∈ gws := gws_mem (kt_2 _ (List.mem_of_getElem? (i := 98) rfl)) rfl
theorem kw_339 : (Jvm.Cond.instanceMethod ({ cls := "ClockedFlows", name := "program", desc := "()I" } : Jvm.MethodName)) ∈ gws := gws_mem (kt_2 _ (List.mem_of_getElem? (i := 99) rfl)) rfl
theorem kw_340 : (Jvm.Cond.selects "ClockedFlows" ({ cls := "ClockedFlows", name := "program", desc := "()I" } : Jvm.MethodName) ({ cls := "ClockedFlows", name := "program", desc := "()I" } : Jvm.MethodName)) ∈ gws := gws_mem (kt_2 _ (List.mem_of_getElem? (i := 100) rfl)) rfl
theorem kw_341 : (Jvm.Cond.code ({ cls := "ClockedFlows", name := "program", desc := "()I" } : Jvm.MethodName) prog_1_method_5_code (2 : Nat) (Option.some Jvm.ClassFile.FieldType.int)) ∈ gws := gws_mem (kt_2 _ (List.mem_of_getElem? (i := 101) rfl)) rfl
theorem kw_342 : (Jvm.Cond.methodLink "ClockedFlows" (75 : Nat) ({ cls := "ClockedFlows$Flow", name := "become", desc := "(LClockedFlows$Flow;)V" } : Jvm.MethodName)) ∈ gws := gws_mem (kt_2 _ (List.mem_of_getElem? (i := 102) rfl)) rfl
theorem kw_343 : (Jvm.Cond.instanceMethod ({ cls := "ClockedFlows$Flow", name := "become", desc := "(LClockedFlows$Flow;)V" } : Jvm.MethodName)) ∈ gws := gws_mem (kt_2 _ (List.mem_of_getElem? (i := 103) rfl)) rfl
theorem kw_344 : (Jvm.Cond.selects "ClockedFlows$Flow" ({ cls := "ClockedFlows$Flow", name := "become", desc := "(LClockedFlows$Flow;)V" } : Jvm.MethodName) ({ cls := "ClockedFlows$Flow", name := "become", desc := "(LClockedFlows$Flow;)V" } : Jvm.MethodName)) ∈ gws := gws_mem (kt_2 _ (List.mem_of_getElem? (i := 104) rfl)) rfl
theorem kw_345 : (Jvm.Cond.code ({ cls := "ClockedFlows$Flow", name := "become", desc := "(LClockedFlows$Flow;)V" } : Jvm.MethodName) prog_3_method_2_code (2 : Nat) (Option.none : Option Jvm.ClassFile.FieldType)) ∈ gws := gws_mem (kt_2 _ (List.mem_of_getElem? (i := 105) rfl)) rfl
theorem kw_346 : (Jvm.Cond.methodLink "ClockedFlows$Flow" (37 : Nat) ({ cls := "java/lang/System", name := "arraycopy", desc := "(Ljava/lang/Object;ILjava/lang/Object;II)V" } : Jvm.MethodName)) ∈ gws := gws_mem (kt_2 _ (List.mem_of_getElem? (i := 106) rfl)) rfl
theorem kw_347 : (Jvm.Cond.static ({ cls := "java/lang/System", name := "arraycopy", desc := "(Ljava/lang/Object;ILjava/lang/Object;II)V" } : Jvm.MethodName)) ∈ gws := gws_mem (kt_2 _ (List.mem_of_getElem? (i := 107) rfl)) rfl
theorem kw_348 : (Jvm.Cond.native ({ cls := "java/lang/System", name := "arraycopy", desc := "(Ljava/lang/Object;ILjava/lang/Object;II)V" } : Jvm.MethodName)) ∈ gws := gws_mem (kt_2 _ (List.mem_of_getElem? (i := 108) rfl)) rfl
theorem kw_349 : (Jvm.Cond.methodLink "ClockedFlows" (79 : Nat) ({ cls := "ClockedFlows$Flow", name := "restart", desc := "()V" } : Jvm.MethodName)) ∈ gws := gws_mem (kt_2 _ (List.mem_of_getElem? (i := 109) rfl)) rfl
theorem kw_350 : (Jvm.Cond.instanceMethod ({ cls := "ClockedFlows$Flow", name := "restart", desc := "()V" } : Jvm.MethodName)) ∈ gws := gws_mem (kt_2 _ (List.mem_of_getElem? (i := 110) rfl)) rfl
theorem kw_351 : (Jvm.Cond.selects "ClockedFlows$Flow" ({ cls := "ClockedFlows$Flow", name := "restart", desc := "()V" } : Jvm.MethodName) ({ cls := "ClockedFlows$Flow", name := "restart", desc := "()V" } : Jvm.MethodName)) ∈ gws := gws_mem (kt_2 _ (List.mem_of_getElem? (i := 111) rfl)) rfl
theorem kw_352 : (Jvm.Cond.code ({ cls := "ClockedFlows$Flow", name := "restart", desc := "()V" } : Jvm.MethodName) prog_3_method_8_code (2 : Nat) (Option.none : Option Jvm.ClassFile.FieldType)) ∈ gws := gws_mem (kt_2 _ (List.mem_of_getElem? (i := 112) rfl)) rfl
theorem kw_353 : (Jvm.Cond.methodLink "ClockedFlows$Flow" (47 : Nat) ({ cls := "ClockedFlows$Flow", name := "heldAtFirst", desc := "(I)I" } : Jvm.MethodName)) ∈ gws := gws_mem (kt_2 _ (List.mem_of_getElem? (i := 113) rfl)) rfl
theorem kw_355 : (Jvm.Cond.instanceMethod ({ cls := "ClockedFlows$Flow", name := "heldAtFirst", desc := "(I)I" } : Jvm.MethodName)) ∈ gws := gws_mem (kt_2 _ (List.mem_of_getElem? (i := 115) rfl)) rfl
theorem kw_356 : (Jvm.Cond.code ({ cls := "ClockedFlows$Flow", name := "heldAtFirst", desc := "(I)I" } : Jvm.MethodName) prog_3_method_9_code (2 : Nat) (Option.some Jvm.ClassFile.FieldType.int)) ∈ gws := gws_mem (kt_2 _ (List.mem_of_getElem? (i := 116) rfl)) rfl
theorem kw_357 : (Jvm.Cond.methodLink "ClockedFlows$Flow" (51 : Nat) ({ cls := "ClockedFlows$Flow", name := "kindOf", desc := "(I)I" } : Jvm.MethodName)) ∈ gws := gws_mem (kt_2 _ (List.mem_of_getElem? (i := 117) rfl)) rfl
theorem kw_358 : (Jvm.Cond.methodLink "ClockedFlows$Flow" (54 : Nat) ({ cls := "ClockedFlows$Flow", name := "part", desc := "(II)I" } : Jvm.MethodName)) ∈ gws := gws_mem (kt_2 _ (List.mem_of_getElem? (i := 118) rfl)) rfl
theorem kw_359 : (Jvm.Cond.instanceMethod ({ cls := "ClockedFlows$Flow", name := "part", desc := "(II)I" } : Jvm.MethodName)) ∈ gws := gws_mem (kt_2 _ (List.mem_of_getElem? (i := 119) rfl)) rfl
theorem kw_360 : (Jvm.Cond.selects "ClockedFlows$Flow" ({ cls := "ClockedFlows$Flow", name := "part", desc := "(II)I" } : Jvm.MethodName) ({ cls := "ClockedFlows$Flow", name := "part", desc := "(II)I" } : Jvm.MethodName)) ∈ gws := gws_mem (kt_2 _ (List.mem_of_getElem? (i := 120) rfl)) rfl
theorem kw_361 : (Jvm.Cond.code ({ cls := "ClockedFlows$Flow", name := "part", desc := "(II)I" } : Jvm.MethodName) prog_3_method_5_code (3 : Nat) (Option.some Jvm.ClassFile.FieldType.int)) ∈ gws := gws_mem (kt_2 _ (List.mem_of_getElem? (i := 121) rfl)) rfl
theorem kw_362 : (Jvm.Cond.methodLink "ClockedFlows" (82 : Nat) ({ cls := "ClockedFlows$Doings", name := "forget", desc := "()V" } : Jvm.MethodName)) ∈ gws := gws_mem (kt_2 _ (List.mem_of_getElem? (i := 122) rfl)) rfl
theorem kw_363 : (Jvm.Cond.instanceMethod ({ cls := "ClockedFlows$Doings", name := "forget", desc := "()V" } : Jvm.MethodName)) ∈ gws := gws_mem (kt_2 _ (List.mem_of_getElem? (i := 123) rfl)) rfl
theorem kw_364 : (Jvm.Cond.selects "ClockedFlows$Doings" ({ cls := "ClockedFlows$Doings", name := "forget", desc := "()V" } : Jvm.MethodName) ({ cls := "ClockedFlows$Doings", name := "forget", desc := "()V" } : Jvm.MethodName)) ∈ gws := gws_mem (kt_2 _ (List.mem_of_getElem? (i := 124) rfl)) rfl
theorem kw_365 : (Jvm.Cond.code ({ cls := "ClockedFlows$Doings", name := "forget", desc := "()V" } : Jvm.MethodName) prog_2_method_2_code (1 : Nat) (Option.none : Option Jvm.ClassFile.FieldType)) ∈ gws := gws_mem (kt_2 _ (List.mem_of_getElem? (i := 125) rfl)) rfl
theorem kw_366 : (Jvm.Cond.methodLink "ClockedFlows" (85 : Nat) ({ cls := "ClockedFlows$Sense", name := "study", desc := "(LClockedFlows$Flow;)V" } : Jvm.MethodName)) ∈ gws := gws_mem (kt_2 _ (List.mem_of_getElem? (i := 126) rfl)) rfl
theorem kw_367 : (Jvm.Cond.instanceMethod ({ cls := "ClockedFlows$Sense", name := "study", desc := "(LClockedFlows$Flow;)V" } : Jvm.MethodName)) ∈ gws := gws_mem (kt_2 _ (List.mem_of_getElem? (i := 127) rfl)) rfl
theorem kw_368 : (Jvm.Cond.selects "ClockedFlows$Sense" ({ cls := "ClockedFlows$Sense", name := "study", desc := "(LClockedFlows$Flow;)V" } : Jvm.MethodName) ({ cls := "ClockedFlows$Sense", name := "study", desc := "(LClockedFlows$Flow;)V" } : Jvm.MethodName)) ∈ gws := gws_mem (kt_2 _ (List.mem_of_getElem? (i := 128) rfl)) rfl
theorem kw_369 : (Jvm.Cond.code ({ cls := "ClockedFlows$Sense", name := "study", desc := "(LClockedFlows$Flow;)V" } : Jvm.MethodName) prog_4_method_3_code (2 : Nat) (Option.none : Option Jvm.ClassFile.FieldType)) ∈ gws := gws_mem (kt_2 _ (List.mem_of_getElem? (i := 129) rfl)) rfl
theorem kw_370 : (Jvm.Cond.methodLink "ClockedFlows$Sense" (49 : Nat) ({ cls := "java/lang/Math", name := "min", desc := "(II)I" } : Jvm.MethodName)) ∈ gws := gws_mem (kt_2 _ (List.mem_of_getElem? (i := 130) rfl)) rfl
theorem kw_371 : (Jvm.Cond.methodLink "ClockedFlows$Sense" (55 : Nat) ({ cls := "ClockedFlows$Sense", name := "findClash", desc := "(LClockedFlows$Flow;)I" } : Jvm.MethodName)) ∈ gws := gws_mem (kt_2 _ (List.mem_of_getElem? (i := 131) rfl)) rfl
theorem kw_373 : (Jvm.Cond.instanceMethod ({ cls := "ClockedFlows$Sense", name := "findClash", desc := "(LClockedFlows$Flow;)I" } : Jvm.MethodName)) ∈ gws := gws_mem (kt_2 _ (List.mem_of_getElem? (i := 133) rfl)) rfl
theorem kw_374 : (Jvm.Cond.code ({ cls := "ClockedFlows$Sense", name := "findClash", desc := "(LClockedFlows$Flow;)I" } : Jvm.MethodName) prog_4_method_5_code (3 : Nat) (Option.some Jvm.ClassFile.FieldType.int)) ∈ gws := gws_mem (kt_2 _ (List.mem_of_getElem? (i := 134) rfl)) rfl
theorem kw_375 : (Jvm.Cond.methodLink "ClockedFlows$Sense" (72 : Nat) ({ cls := "ClockedFlows$Sense", name := "meet", desc := "(LClockedFlows$Flow;I)Z" } : Jvm.MethodName)) ∈ gws := gws_mem (kt_2 _ (List.mem_of_getElem? (i := 135) rfl)) rfl
theorem kw_377 : (Jvm.Cond.instanceMethod ({ cls := "ClockedFlows$Sense", name := "meet", desc := "(LClockedFlows$Flow;I)Z" } : Jvm.MethodName)) ∈ gws := gws_mem (kt_2 _ (List.mem_of_getElem? (i := 137) rfl)) rfl
theorem kw_378 : (Jvm.Cond.code ({ cls := "ClockedFlows$Sense", name := "meet", desc := "(LClockedFlows$Flow;I)Z" } : Jvm.MethodName) prog_4_method_6_code (5 : Nat) (Option.some Jvm.ClassFile.FieldType.boolean)) ∈ gws := gws_mem (kt_2 _ (List.mem_of_getElem? (i := 138) rfl)) rfl
theorem kw_379 : (Jvm.Cond.methodLink "ClockedFlows$Sense" (80 : Nat) ({ cls := "ClockedFlows$Flow", name := "part", desc := "(II)I" } : Jvm.MethodName)) ∈ gws := gws_mem (kt_2 _ (List.mem_of_getElem? (i := 139) rfl)) rfl
theorem kw_380 : (Jvm.Cond.methodLink "ClockedFlows$Sense" (83 : Nat) ({ cls := "ClockedFlows$Flow", name := "kindOf", desc := "(I)I" } : Jvm.MethodName)) ∈ gws := gws_mem (kt_2 _ (List.mem_of_getElem? (i := 140) rfl)) rfl
theorem kw_381 : (Jvm.Cond.methodLink "ClockedFlows$Sense" (87 : Nat) ({ cls := "ClockedFlows$Sense", name := "bind", desc := "(II)Z" } : Jvm.MethodName)) ∈ gws := gws_mem (kt_2 _ (List.mem_of_getElem? (i := 141) rfl)) rfl
theorem kw_383 : (Jvm.Cond.instanceMethod ({ cls := "ClockedFlows$Sense", name := "bind", desc := "(II)Z" } : Jvm.MethodName)) ∈ gws := gws_mem (kt_2 _ (List.mem_of_getElem? (i := 143) rfl)) rfl
theorem kw_384 : (Jvm.Cond.code ({ cls := "ClockedFlows$Sense", name := "bind", desc := "(II)Z" } : Jvm.MethodName) prog_4_method_9_code (4 : Nat) (Option.some Jvm.ClassFile.FieldType.boolean)) ∈ gws := gws_mem (kt_2 _ (List.mem_of_getElem? (i := 144) rfl)) rfl
theorem kw_385 : (Jvm.Cond.methodLink "ClockedFlows$Sense" (91 : Nat) ({ cls := "ClockedFlows$Sense", name := "liken", desc := "(II)Z" } : Jvm.MethodName)) ∈ gws := gws_mem (kt_2 _ (List.mem_of_getElem? (i := 145) rfl)) rfl
theorem kw_387 : (Jvm.Cond.instanceMethod ({ cls := "ClockedFlows$Sense", name := "liken", desc := "(II)Z" } : Jvm.MethodName)) ∈ gws := gws_mem (kt_2 _ (List.mem_of_getElem? (i := 147) rfl)) rfl
theorem kw_388 : (Jvm.Cond.code ({ cls := "ClockedFlows$Sense", name := "liken", desc := "(II)Z" } : Jvm.MethodName) prog_4_method_8_code (6 : Nat) (Option.some Jvm.ClassFile.FieldType.boolean)) ∈ gws := gws_mem (kt_2 _ (List.mem_of_getElem? (i := 148) rfl)) rfl
theorem kw_389 : (Jvm.Cond.methodLink "ClockedFlows$Sense" (94 : Nat) ({ cls := "ClockedFlows$Sense", name := "likenAll", desc := "(LClockedFlows$Flow;I)Z" } : Jvm.MethodName)) ∈ gws := gws_mem (kt_2 _ (List.mem_of_getElem? (i := 149) rfl)) rfl
theorem kw_391 : (Jvm.Cond.instanceMethod ({ cls := "ClockedFlows$Sense", name := "likenAll", desc := "(LClockedFlows$Flow;I)Z" } : Jvm.MethodName)) ∈ gws := gws_mem (kt_2 _ (List.mem_of_getElem? (i := 151) rfl)) rfl
theorem kw_392 : (Jvm.Cond.code ({ cls := "ClockedFlows$Sense", name := "likenAll", desc := "(LClockedFlows$Flow;I)Z" } : Jvm.MethodName) prog_4_method_7_code (4 : Nat) (Option.some Jvm.ClassFile.FieldType.boolean)) ∈ gws := gws_mem (kt_2 _ (List.mem_of_getElem? (i := 152) rfl)) rfl
theorem kw_393 : (Jvm.Cond.methodLinkNest "ClockedFlows$Sense" (97 : Nat) ({ cls := "ClockedFlows", name := "namesStream", desc := "(II)Z" } : Jvm.MethodName) "ClockedFlows") ∈ lw_tbl := kt_2 _ (List.mem_of_getElem? (i := 153) rfl)
theorem kw_394 : (Jvm.Cond.methodLink "ClockedFlows$Sense" (76 : Nat) ({ cls := "ClockedFlows$Sense", name := "haveEnds", desc := "()Z" } : Jvm.MethodName)) ∈ gws := gws_mem (kt_2 _ (List.mem_of_getElem? (i := 154) rfl)) rfl
theorem kw_396 : (Jvm.Cond.instanceMethod ({ cls := "ClockedFlows$Sense", name := "haveEnds", desc := "()Z" } : Jvm.MethodName)) ∈ gws := gws_mem (kt_2 _ (List.mem_of_getElem? (i := 156) rfl)) rfl
theorem kw_397 : (Jvm.Cond.code ({ cls := "ClockedFlows$Sense", name := "haveEnds", desc := "()Z" } : Jvm.MethodName) prog_4_method_10_code (4 : Nat) (Option.some Jvm.ClassFile.FieldType.boolean)) ∈ gws := gws_mem (kt_2 _ (List.mem_of_getElem? (i := 157) rfl)) rfl
theorem kw_398 : (Jvm.Cond.methodLink "ClockedFlows$Sense" (59 : Nat) ({ cls := "ClockedFlows$Sense", name := "settle", desc := "()V" } : Jvm.MethodName)) ∈ gws := gws_mem (kt_2 _ (List.mem_of_getElem? (i := 158) rfl)) rfl
theorem kw_400 : (Jvm.Cond.instanceMethod ({ cls := "ClockedFlows$Sense", name := "settle", desc := "()V" } : Jvm.MethodName)) ∈ gws := gws_mem (kt_2 _ (List.mem_of_getElem? (i := 160) rfl)) rfl
theorem kw_401 : (Jvm.Cond.code ({ cls := "ClockedFlows$Sense", name := "settle", desc := "()V" } : Jvm.MethodName) prog_4_method_11_code (4 : Nat) (Option.none : Option Jvm.ClassFile.FieldType)) ∈ gws := gws_mem (kt_2 _ (List.mem_of_getElem? (i := 161) rfl)) rfl
theorem kw_402 : (Jvm.Cond.methodLink "ClockedFlows$Sense" (62 : Nat) ({ cls := "ClockedFlows$Sense", name := "putInOrder", desc := "(LClockedFlows$Flow;)V" } : Jvm.MethodName)) ∈ gws := gws_mem (kt_2 _ (List.mem_of_getElem? (i := 162) rfl)) rfl
theorem kw_404 : (Jvm.Cond.instanceMethod ({ cls := "ClockedFlows$Sense", name := "putInOrder", desc := "(LClockedFlows$Flow;)V" } : Jvm.MethodName)) ∈ gws := gws_mem (kt_2 _ (List.mem_of_getElem? (i := 164) rfl)) rfl
theorem kw_405 : (Jvm.Cond.code ({ cls := "ClockedFlows$Sense", name := "putInOrder", desc := "(LClockedFlows$Flow;)V" } : Jvm.MethodName) prog_4_method_12_code (5 : Nat) (Option.none : Option Jvm.ClassFile.FieldType)) ∈ gws := gws_mem (kt_2 _ (List.mem_of_getElem? (i := 165) rfl)) rfl
theorem kw_406 : (Jvm.Cond.methodLink "ClockedFlows$Sense" (100 : Nat) ({ cls := "java/util/Arrays", name := "fill", desc := "([II)V" } : Jvm.MethodName)) ∈ gws := gws_mem (kt_2 _ (List.mem_of_getElem? (i := 166) rfl)) rfl
theorem kw_407 : (Jvm.Cond.methodLink "ClockedFlows$Sense" (106 : Nat) ({ cls := "ClockedFlows$Sense", name := "leastReady", desc := "(LClockedFlows$Flow;I)I" } : Jvm.MethodName)) ∈ gws := gws_mem (kt_2 _ (List.mem_of_getElem? (i := 167) rfl)) rfl
theorem kw_409 : (Jvm.Cond.instanceMethod ({ cls := "ClockedFlows$Sense", name := "leastReady", desc := "(LClockedFlows$Flow;I)I" } : Jvm.MethodName)) ∈ gws := gws_mem (kt_2 _ (List.mem_of_getElem? (i := 169) rfl)) rfl
theorem kw_410 : (Jvm.Cond.code ({ cls := "ClockedFlows$Sense", name := "leastReady", desc := "(LClockedFlows$Flow;I)I" } : Jvm.MethodName) prog_4_method_13_code (4 : Nat) (Option.some Jvm.ClassFile.FieldType.int)) ∈ gws := gws_mem (kt_2 _ (List.mem_of_getElem? (i := 170) rfl)) rfl
theorem kw_411 : (Jvm.Cond.methodLink "ClockedFlows$Sense" (110 : Nat) ({ cls := "ClockedFlows$Sense", name := "waits", desc := "(LClockedFlows$Flow;I)I" } : Jvm.MethodName)) ∈ gws := gws_mem (kt_2 _ (List.mem_of_getElem? (i := 171) rfl)) rfl
theorem kw_413 : (Jvm.Cond.instanceMethod ({ cls := "ClockedFlows$Sense", name := "waits", desc := "(LClockedFlows$Flow;I)I" } : Jvm.MethodName)) ∈ gws := gws_mem (kt_2 _ (List.mem_of_getElem? (i := 173) rfl)) rfl
theorem kw_414 : (Jvm.Cond.code ({ cls := "ClockedFlows$Sense", name := "waits", desc := "(LClockedFlows$Flow;I)I" } : Jvm.MethodName) prog_4_method_14_code (6 : Nat) (Option.some Jvm.ClassFile.FieldType.int)) ∈ gws := gws_mem (kt_2 _ (List.mem_of_getElem? (i := 174) rfl)) rfl
theorem kw_415 : (Jvm.Cond.methodLink "ClockedFlows$Sense" (66 : Nat) ({ cls := "ClockedFlows$Sense", name := "findLevels", desc := "(LClockedFlows$Flow;)V" } : Jvm.MethodName)) ∈ gws := gws_mem (kt_2 _ (List.mem_of_getElem? (i := 175) rfl)) rfl
theorem kw_417 : (Jvm.Cond.instanceMethod ({ cls := "ClockedFlows$Sense", name := "findLevels", desc := "(LClockedFlows$Flow;)V" } : Jvm.MethodName)) ∈ gws := gws_mem (kt_2 _ (List.mem_of_getElem? (i := 177) rfl)) rfl
theorem kw_418 : (Jvm.Cond.code ({ cls := "ClockedFlows$Sense", name := "findLevels", desc := "(LClockedFlows$Flow;)V" } : Jvm.MethodName) prog_4_method_15_code (4 : Nat) (Option.none : Option Jvm.ClassFile.FieldType)) ∈ gws := gws_mem (kt_2 _ (List.mem_of_getElem? (i := 178) rfl)) rfl
theorem kw_419 : (Jvm.Cond.methodLink "ClockedFlows$Sense" (113 : Nat) ({ cls := "ClockedFlows$Sense", name := "levelByParts", desc := "(LClockedFlows$Flow;I)I" } : Jvm.MethodName)) ∈ gws := gws_mem (kt_2 _ (List.mem_of_getElem? (i := 179) rfl)) rfl
theorem kw_421 : (Jvm.Cond.instanceMethod ({ cls := "ClockedFlows$Sense", name := "levelByParts", desc := "(LClockedFlows$Flow;I)I" } : Jvm.MethodName)) ∈ gws := gws_mem (kt_2 _ (List.mem_of_getElem? (i := 181) rfl)) rfl
theorem kw_422 : (Jvm.Cond.code ({ cls := "ClockedFlows$Sense", name := "levelByParts", desc := "(LClockedFlows$Flow;I)I" } : Jvm.MethodName) prog_4_method_16_code (3 : Nat) (Option.some Jvm.ClassFile.FieldType.int)) ∈ gws := gws_mem (kt_2 _ (List.mem_of_getElem? (i := 182) rfl)) rfl
theorem kw_423 : (Jvm.Cond.methodLink "ClockedFlows$Sense" (116 : Nat) ({ cls := "ClockedFlows$Sense", name := "highest", desc := "(LClockedFlows$Flow;I)I" } : Jvm.MethodName)) ∈ gws := gws_mem (kt_2 _ (List.mem_of_getElem? (i := 183) rfl)) rfl
theorem kw_425 : (Jvm.Cond.instanceMethod ({ cls := "ClockedFlows$Sense", name := "highest", desc := "(LClockedFlows$Flow;I)I" } : Jvm.MethodName)) ∈ gws := gws_mem (kt_2 _ (List.mem_of_getElem? (i := 185) rfl)) rfl
theorem kw_426 : (Jvm.Cond.code ({ cls := "ClockedFlows$Sense", name := "highest", desc := "(LClockedFlows$Flow;I)I" } : Jvm.MethodName) prog_4_method_17_code (5 : Nat) (Option.some Jvm.ClassFile.FieldType.int)) ∈ gws := gws_mem (kt_2 _ (List.mem_of_getElem? (i := 186) rfl)) rfl
theorem kw_427 : (Jvm.Cond.methodLink "ClockedFlows$Sense" (119 : Nat) ({ cls := "java/lang/Math", name := "max", desc := "(II)I" } : Jvm.MethodName)) ∈ gws := gws_mem (kt_2 _ (List.mem_of_getElem? (i := 187) rfl)) rfl
theorem kw_428 : (Jvm.Cond.methodLink "ClockedFlows$Sense" (69 : Nat) ({ cls := "ClockedFlows$Sense", name := "findRaw", desc := "(LClockedFlows$Flow;)I" } : Jvm.MethodName)) ∈ gws := gws_mem (kt_2 _ (List.mem_of_getElem? (i := 188) rfl)) rfl
theorem kw_430 : (Jvm.Cond.instanceMethod ({ cls := "ClockedFlows$Sense", name := "findRaw", desc := "(LClockedFlows$Flow;)I" } : Jvm.MethodName)) ∈ gws := gws_mem (kt_2 _ (List.mem_of_getElem? (i := 190) rfl)) rfl
theorem kw_431 : (Jvm.Cond.code ({ cls := "ClockedFlows$Sense", name := "findRaw", desc := "(LClockedFlows$Flow;)I" } : Jvm.MethodName) prog_4_method_18_code (3 : Nat) (Option.some Jvm.ClassFile.FieldType.int)) ∈ gws := gws_mem (kt_2 _ (List.mem_of_getElem? (i := 191) rfl)) rfl
theorem kw_432 : (Jvm.Cond.methodLink "ClockedFlows$Sense" (122 : Nat) ({ cls := "ClockedFlows$Sense", name := "isRaw", desc := "(LClockedFlows$Flow;I)Z" } : Jvm.MethodName)) ∈ gws := gws_mem (kt_2 _ (List.mem_of_getElem? (i := 192) rfl)) rfl
theorem kw_434 : (Jvm.Cond.instanceMethod ({ cls := "ClockedFlows$Sense", name := "isRaw", desc := "(LClockedFlows$Flow;I)Z" } : Jvm.MethodName)) ∈ gws := gws_mem (kt_2 _ (List.mem_of_getElem? (i := 194) rfl)) rfl
theorem kw_435 : (Jvm.Cond.code ({ cls := "ClockedFlows$Sense", name := "isRaw", desc := "(LClockedFlows$Flow;I)Z" } : Jvm.MethodName) prog_4_method_19_code (3 : Nat) (Option.some Jvm.ClassFile.FieldType.boolean)) ∈ gws := gws_mem (kt_2 _ (List.mem_of_getElem? (i := 195) rfl)) rfl
theorem kw_436 : (Jvm.Cond.methodLink "ClockedFlows" (88 : Nat) ({ cls := "ClockedFlows", name := "soundness", desc := "()I" } : Jvm.MethodName)) ∈ gws := gws_mem (kt_2 _ (List.mem_of_getElem? (i := 196) rfl)) rfl
theorem kw_438 : (Jvm.Cond.instanceMethod ({ cls := "ClockedFlows", name := "soundness", desc := "()I" } : Jvm.MethodName)) ∈ gws := gws_mem (kt_2 _ (List.mem_of_getElem? (i := 198) rfl)) rfl
theorem kw_439 : (Jvm.Cond.code ({ cls := "ClockedFlows", name := "soundness", desc := "()I" } : Jvm.MethodName) prog_1_method_27_code (1 : Nat) (Option.some Jvm.ClassFile.FieldType.int)) ∈ gws := gws_mem (kt_2 _ (List.mem_of_getElem? (i := 199) rfl)) rfl
theorem kw_440 : (Jvm.Cond.methodLink "ClockedFlows" (144 : Nat) ({ cls := "ClockedFlows$Sense", name := "isSound", desc := "()Z" } : Jvm.MethodName)) ∈ gws := gws_mem (kt_2 _ (List.mem_of_getElem? (i := 200) rfl)) rfl
theorem kw_441 : (Jvm.Cond.instanceMethod ({ cls := "ClockedFlows$Sense", name := "isSound", desc := "()Z" } : Jvm.MethodName)) ∈ gws := gws_mem (kt_2 _ (List.mem_of_getElem? (i := 201) rfl)) rfl
theorem kw_442 : (Jvm.Cond.selects "ClockedFlows$Sense" ({ cls := "ClockedFlows$Sense", name := "isSound", desc := "()Z" } : Jvm.MethodName) ({ cls := "ClockedFlows$Sense", name := "isSound", desc := "()Z" } : Jvm.MethodName)) ∈ gws := gws_mem (kt_2 _ (List.mem_of_getElem? (i := 202) rfl)) rfl
theorem kw_443 : (Jvm.Cond.code ({ cls := "ClockedFlows$Sense", name := "isSound", desc := "()Z" } : Jvm.MethodName) prog_4_method_2_code (1 : Nat) (Option.some Jvm.ClassFile.FieldType.boolean)) ∈ gws := gws_mem (kt_2 _ (List.mem_of_getElem? (i := 203) rfl)) rfl
theorem kw_444 : (Jvm.Cond.methodLink "ClockedFlowsLaw" (31 : Nat) ({ cls := "ClockedFlows", name := "about", desc := "(I)I" } : Jvm.MethodName)) ∈ gws := gws_mem (kt_2 _ (List.mem_of_getElem? (i := 204) rfl)) rfl
theorem kw_445 : (Jvm.Cond.instanceMethod ({ cls := "ClockedFlows", name := "about", desc := "(I)I" } : Jvm.MethodName)) ∈ gws := gws_mem (kt_2 _ (List.mem_of_getElem? (i := 205) rfl)) rfl
theorem kw_446 : (Jvm.Cond.selects "ClockedFlows" ({ cls := "ClockedFlows", name := "about", desc := "(I)I" } : Jvm.MethodName) ({ cls := "ClockedFlows", name := "about", desc := "(I)I" } : Jvm.MethodName)) ∈ gws := gws_mem (kt_2 _ (List.mem_of_getElem? (i := 206) rfl)) rfl
theorem kw_447 : (Jvm.Cond.code ({ cls := "ClockedFlows", name := "about", desc := "(I)I" } : Jvm.MethodName) prog_1_method_6_code (2 : Nat) (Option.some Jvm.ClassFile.FieldType.int)) ∈ gws := gws_mem (kt_2 _ (List.mem_of_getElem? (i := 207) rfl)) rfl
theorem kw_448 : (Jvm.Cond.methodLink "ClockedFlows" (107 : Nat) ({ cls := "ClockedFlows$Flow", name := "thereBits", desc := "()I" } : Jvm.MethodName)) ∈ gws := gws_mem (kt_2 _ (List.mem_of_getElem? (i := 208) rfl)) rfl
theorem kw_449 : (Jvm.Cond.instanceMethod ({ cls := "ClockedFlows$Flow", name := "thereBits", desc := "()I" } : Jvm.MethodName)) ∈ gws := gws_mem (kt_2 _ (List.mem_of_getElem? (i := 209) rfl)) rfl
theorem kw_450 : (Jvm.Cond.selects "ClockedFlows$Flow" ({ cls := "ClockedFlows$Flow", name := "thereBits", desc := "()I" } : Jvm.MethodName) ({ cls := "ClockedFlows$Flow", name := "thereBits", desc := "()I" } : Jvm.MethodName)) ∈ gws := gws_mem (kt_2 _ (List.mem_of_getElem? (i := 210) rfl)) rfl
theorem kw_451 : (Jvm.Cond.code ({ cls := "ClockedFlows$Flow", name := "thereBits", desc := "()I" } : Jvm.MethodName) prog_3_method_10_code (3 : Nat) (Option.some Jvm.ClassFile.FieldType.int)) ∈ gws := gws_mem (kt_2 _ (List.mem_of_getElem? (i := 211) rfl)) rfl
theorem kw_452 : (Jvm.Cond.methodLink "ClockedFlowsLaw" (35 : Nat) ({ cls := "ClockedFlows", name := "stream", desc := "(II)I" } : Jvm.MethodName)) ∈ gws := gws_mem (kt_2 _ (List.mem_of_getElem? (i := 212) rfl)) rfl
theorem kw_453 : (Jvm.Cond.instanceMethod ({ cls := "ClockedFlows", name := "stream", desc := "(II)I" } : Jvm.MethodName)) ∈ gws := gws_mem (kt_2 _ (List.mem_of_getElem? (i := 213) rfl)) rfl
theorem kw_454 : (Jvm.Cond.selects "ClockedFlows" ({ cls := "ClockedFlows", name := "stream", desc := "(II)I" } : Jvm.MethodName) ({ cls := "ClockedFlows", name := "stream", desc := "(II)I" } : Jvm.MethodName)) ∈ gws := gws_mem (kt_2 _ (List.mem_of_getElem? (i := 214) rfl)) rfl
theorem kw_455 : (Jvm.Cond.code ({ cls := "ClockedFlows", name := "stream", desc := "(II)I" } : Jvm.MethodName) prog_1_method_7_code (3 : Nat) (Option.some Jvm.ClassFile.FieldType.int)) ∈ gws := gws_mem (kt_2 _ (List.mem_of_getElem? (i := 215) rfl)) rfl
theorem kw_456 : (Jvm.Cond.methodLink "ClockedFlows" (112 : Nat) ({ cls := "ClockedFlows", name := "isStream", desc := "(I)Z" } : Jvm.MethodName)) ∈ gws := gws_mem (kt_2 _ (List.mem_of_getElem? (i := 216) rfl)) rfl
theorem kw_458 : (Jvm.Cond.instanceMethod ({ cls := "ClockedFlows", name := "isStream", desc := "(I)Z" } : Jvm.MethodName)) ∈ gws := gws_mem (kt_2 _ (List.mem_of_getElem? (i := 218) rfl)) rfl
theorem kw_459 : (Jvm.Cond.code ({ cls := "ClockedFlows", name := "isStream", desc := "(I)Z" } : Jvm.MethodName) prog_1_method_26_code (2 : Nat) (Option.some Jvm.ClassFile.FieldType.boolean)) ∈ gws := gws_mem (kt_2 _ (List.mem_of_getElem? (i := 219) rfl)) rfl
theorem kw_460 : (Jvm.Cond.methodLink "ClockedFlows" (115 : Nat) ({ cls := "ClockedFlows$Flow", name := "kindOf", desc := "(I)I" } : Jvm.MethodName)) ∈ gws := gws_mem (kt_2 _ (List.mem_of_getElem? (i := 220) rfl)) rfl
theorem kw_461 : (Jvm.Cond.methodLink "ClockedFlows" (128 : Nat) ({ cls := "ClockedFlows$Flow", name := "valueOf", desc := "(I)I" } : Jvm.MethodName)) ∈ gws := gws_mem (kt_2 _ (List.mem_of_getElem? (i := 221) rfl)) rfl
theorem kw_462 : (Jvm.Cond.instanceMethod ({ cls := "ClockedFlows$Flow", name := "valueOf", desc := "(I)I" } : Jvm.MethodName)) ∈ gws := gws_mem (kt_2 _ (List.mem_of_getElem? (i := 222) rfl)) rfl
theorem kw_463 : (Jvm.Cond.selects "ClockedFlows$Flow" ({ cls := "ClockedFlows$Flow", name := "valueOf", desc := "(I)I" } : Jvm.MethodName) ({ cls := "ClockedFlows$Flow", name := "valueOf", desc := "(I)I" } : Jvm.MethodName)) ∈ gws := gws_mem (kt_2 _ (List.mem_of_getElem? (i := 223) rfl)) rfl
theorem kw_464 : (Jvm.Cond.code ({ cls := "ClockedFlows$Flow", name := "valueOf", desc := "(I)I" } : Jvm.MethodName) prog_3_method_7_code (2 : Nat) (Option.some Jvm.ClassFile.FieldType.int)) ∈ gws := gws_mem (kt_2 _ (List.mem_of_getElem? (i := 224) rfl)) rfl
theorem kw_465 : (Jvm.Cond.methodLink "ClockedFlowsLaw" (40 : Nat) ({ cls := "ClockedFlows", name := "figure", desc := "(II)I" } : Jvm.MethodName)) ∈ gws := gws_mem (kt_2 _ (List.mem_of_getElem? (i := 225) rfl)) rfl
theorem kw_466 : (Jvm.Cond.instanceMethod ({ cls := "ClockedFlows", name := "figure", desc := "(II)I" } : Jvm.MethodName)) ∈ gws := gws_mem (kt_2 _ (List.mem_of_getElem? (i := 226) rfl)) rfl
theorem kw_467 : (Jvm.Cond.selects "ClockedFlows" ({ cls := "ClockedFlows", name := "figure", desc := "(II)I" } : Jvm.MethodName) ({ cls := "ClockedFlows", name := "figure", desc := "(II)I" } : Jvm.MethodName)) ∈ gws := gws_mem (kt_2 _ (List.mem_of_getElem? (i := 227) rfl)) rfl
theorem kw_468 : (Jvm.Cond.code ({ cls := "ClockedFlows", name := "figure", desc := "(II)I" } : Jvm.MethodName) prog_1_method_8_code (3 : Nat) (Option.some Jvm.ClassFile.FieldType.int)) ∈ gws := gws_mem (kt_2 _ (List.mem_of_getElem? (i := 228) rfl)) rfl
theorem kw_469 : (Jvm.Cond.methodLink "ClockedFlows" (134 : Nat) ({ cls := "ClockedFlows$Flow", name := "part", desc := "(II)I" } : Jvm.MethodName)) ∈ gws := gws_mem (kt_2 _ (List.mem_of_getElem? (i := 229) rfl)) rfl
theorem kw_470 : (Jvm.Cond.methodLink "ClockedFlowsLaw" (44 : Nat) ({ cls := "ClockedFlows", name := "clock", desc := "(II)I" } : Jvm.MethodName)) ∈ gws := gws_mem (kt_2 _ (List.mem_of_getElem? (i := 230) rfl)) rfl
theorem kw_471 : (Jvm.Cond.instanceMethod ({ cls := "ClockedFlows", name := "clock", desc := "(II)I" } : Jvm.MethodName)) ∈ gws := gws_mem (kt_2 _ (List.mem_of_getElem? (i := 231) rfl)) rfl
theorem kw_472 : (Jvm.Cond.selects "ClockedFlows" ({ cls := "ClockedFlows", name := "clock", desc := "(II)I" } : Jvm.MethodName) ({ cls := "ClockedFlows", name := "clock", desc := "(II)I" } : Jvm.MethodName)) ∈ gws := gws_mem (kt_2 _ (List.mem_of_getElem? (i := 232) rfl)) rfl
theorem kw_473 : (Jvm.Cond.code ({ cls := "ClockedFlows", name := "clock", desc := "(II)I" } : Jvm.MethodName) prog_1_method_9_code (3 : Nat) (Option.some Jvm.ClassFile.FieldType.int)) ∈ gws := gws_mem (kt_2 _ (List.mem_of_getElem? (i := 233) rfl)) rfl
theorem kw_474 : (Jvm.Cond.methodLink "ClockedFlows" (138 : Nat) ({ cls := "ClockedFlows$Sense", name := "clockAt", desc := "(II)I" } : Jvm.MethodName)) ∈ gws := gws_mem (kt_2 _ (List.mem_of_getElem? (i := 234) rfl)) rfl
theorem kw_475 : (Jvm.Cond.instanceMethod ({ cls := "ClockedFlows$Sense", name := "clockAt", desc := "(II)I" } : Jvm.MethodName)) ∈ gws := gws_mem (kt_2 _ (List.mem_of_getElem? (i := 235) rfl)) rfl
theorem kw_476 : (Jvm.Cond.selects "ClockedFlows$Sense" ({ cls := "ClockedFlows$Sense", name := "clockAt", desc := "(II)I" } : Jvm.MethodName) ({ cls := "ClockedFlows$Sense", name := "clockAt", desc := "(II)I" } : Jvm.MethodName)) ∈ gws := gws_mem (kt_2 _ (List.mem_of_getElem? (i := 236) rfl)) rfl
theorem kw_477 : (Jvm.Cond.code ({ cls := "ClockedFlows$Sense", name := "clockAt", desc := "(II)I" } : Jvm.MethodName) prog_4_method_4_code (5 : Nat) (Option.some Jvm.ClassFile.FieldType.int)) ∈ gws := gws_mem (kt_2 _ (List.mem_of_getElem? (i := 237) rfl)) rfl
theorem kw_478 : (Jvm.Cond.methodLink "ClockedFlowsLaw" (48 : Nat) ({ cls := "ClockedFlows", name := "tick", desc := "(II)I" } : Jvm.MethodName)) ∈ gws := gws_mem (kt_2 _ (List.mem_of_getElem? (i := 238) rfl)) rfl
theorem kw_479 : (Jvm.Cond.instanceMethod ({ cls := "ClockedFlows", name := "tick", desc := "(II)I" } : Jvm.MethodName)) ∈ gws := gws_mem (kt_2 _ (List.mem_of_getElem? (i := 239) rfl)) rfl
theorem kw_480 : (Jvm.Cond.selects "ClockedFlows" ({ cls := "ClockedFlows", name := "tick", desc := "(II)I" } : Jvm.MethodName) ({ cls := "ClockedFlows", name := "tick", desc := "(II)I" } : Jvm.MethodName)) ∈ gws := gws_mem (kt_3 _ (List.mem_of_getElem? (i := 0) rfl)) rfl
theorem kw_481 : (Jvm.Cond.code ({ cls := "ClockedFlows", name := "tick", desc := "(II)I" } : Jvm.MethodName) prog_1_method_10_code (3 : Nat) (Option.some Jvm.ClassFile.FieldType.int)) ∈ gws := gws_mem (kt_3 _ (List.mem_of_getElem? (i := 1) rfl)) rfl
theorem kw_482 : (Jvm.Cond.methodLink "ClockedFlows" (141 : Nat) ({ cls := "ClockedFlows", name := "isValue", desc := "(I)Z" } : Jvm.MethodName)) ∈ gws := gws_mem (kt_3 _ (List.mem_of_getElem? (i := 2) rfl)) rfl
theorem kw_483 : (Jvm.Cond.static ({ cls := "ClockedFlows", name := "isValue", desc := "(I)Z" } : Jvm.MethodName)) ∈ gws := gws_mem (kt_3 _ (List.mem_of_getElem? (i := 3) rfl)) rfl
theorem kw_484 : (Jvm.Cond.code ({ cls := "ClockedFlows", name := "isValue", desc := "(I)Z" } : Jvm.MethodName) prog_1_method_37_code (1 : Nat) (Option.some Jvm.ClassFile.FieldType.boolean)) ∈ gws := gws_mem (kt_3 _ (List.mem_of_getElem? (i := 4) rfl)) rfl
theorem kw_485 : (Jvm.Cond.methodLink "ClockedFlows" (148 : Nat) ({ cls := "ClockedFlows$Doings", name := "remember", desc := "(LClockedFlows$Flow;)V" } : Jvm.MethodName)) ∈ gws := gws_mem (kt_3 _ (List.mem_of_getElem? (i := 5) rfl)) rfl
theorem kw_486 : (Jvm.Cond.instanceMethod ({ cls := "ClockedFlows$Doings", name := "remember", desc := "(LClockedFlows$Flow;)V" } : Jvm.MethodName)) ∈ gws := gws_mem (kt_3 _ (List.mem_of_getElem? (i := 6) rfl)) rfl
theorem kw_487 : (Jvm.Cond.selects "ClockedFlows$Doings" ({ cls := "ClockedFlows$Doings", name := "remember", desc := "(LClockedFlows$Flow;)V" } : Jvm.MethodName) ({ cls := "ClockedFlows$Doings", name := "remember", desc := "(LClockedFlows$Flow;)V" } : Jvm.MethodName)) ∈ gws := gws_mem (kt_3 _ (List.mem_of_getElem? (i := 7) rfl)) rfl
theorem kw_488 : (Jvm.Cond.code ({ cls := "ClockedFlows$Doings", name := "remember", desc := "(LClockedFlows$Flow;)V" } : Jvm.MethodName) prog_2_method_3_code (2 : Nat) (Option.none : Option Jvm.ClassFile.FieldType)) ∈ gws := gws_mem (kt_3 _ (List.mem_of_getElem? (i := 8) rfl)) rfl
theorem kw_489 : (Jvm.Cond.methodLink "ClockedFlows$Doings" (25 : Nat) ({ cls := "ClockedFlows$Flow", name := "become", desc := "(LClockedFlows$Flow;)V" } : Jvm.MethodName)) ∈ gws := gws_mem (kt_3 _ (List.mem_of_getElem? (i := 9) rfl)) rfl
theorem kw_490 : (Jvm.Cond.methodLink "ClockedFlows" (151 : Nat) ({ cls := "ClockedFlows$Flow", name := "work", desc := "(LClockedFlows$Sense;II)V" } : Jvm.MethodName)) ∈ gws := gws_mem (kt_3 _ (List.mem_of_getElem? (i := 10) rfl)) rfl
theorem kw_491 : (Jvm.Cond.instanceMethod ({ cls := "ClockedFlows$Flow", name := "work", desc := "(LClockedFlows$Sense;II)V" } : Jvm.MethodName)) ∈ gws := gws_mem (kt_3 _ (List.mem_of_getElem? (i := 11) rfl)) rfl
theorem kw_492 : (Jvm.Cond.selects "ClockedFlows$Flow" ({ cls := "ClockedFlows$Flow", name := "work", desc := "(LClockedFlows$Sense;II)V" } : Jvm.MethodName) ({ cls := "ClockedFlows$Flow", name := "work", desc := "(LClockedFlows$Sense;II)V" } : Jvm.MethodName)) ∈ gws := gws_mem (kt_3 _ (List.mem_of_getElem? (i := 12) rfl)) rfl
theorem kw_493 : (Jvm.Cond.code ({ cls := "ClockedFlows$Flow", name := "work", desc := "(LClockedFlows$Sense;II)V" } : Jvm.MethodName) prog_3_method_12_code (6 : Nat) (Option.none : Option Jvm.ClassFile.FieldType)) ∈ gws := gws_mem (kt_3 _ (List.mem_of_getElem? (i := 13) rfl)) rfl
theorem kw_494 : (Jvm.Cond.methodLink "ClockedFlows$Flow" (66 : Nat) ({ cls := "ClockedFlows$Flow", name := "isThere", desc := "(I)Z" } : Jvm.MethodName)) ∈ gws := gws_mem (kt_3 _ (List.mem_of_getElem? (i := 14) rfl)) rfl
theorem kw_496 : (Jvm.Cond.instanceMethod ({ cls := "ClockedFlows$Flow", name := "isThere", desc := "(I)Z" } : Jvm.MethodName)) ∈ gws := gws_mem (kt_3 _ (List.mem_of_getElem? (i := 16) rfl)) rfl
theorem kw_497 : (Jvm.Cond.code ({ cls := "ClockedFlows$Flow", name := "isThere", desc := "(I)Z" } : Jvm.MethodName) prog_3_method_13_code (3 : Nat) (Option.some Jvm.ClassFile.FieldType.boolean)) ∈ gws := gws_mem (kt_3 _ (List.mem_of_getElem? (i := 17) rfl)) rfl
theorem kw_498 : (Jvm.Cond.methodLink "ClockedFlows$Flow" (77 : Nat) ({ cls := "ClockedFlows$Flow", name := "valueOf", desc := "(I)I" } : Jvm.MethodName)) ∈ gws := gws_mem (kt_3 _ (List.mem_of_getElem? (i := 18) rfl)) rfl
theorem kw_499 : (Jvm.Cond.methodLink "ClockedFlows$Flow" (70 : Nat) ({ cls := "ClockedFlows$Flow", name := "reckon", desc := "(III)I" } : Jvm.MethodName)) ∈ gws := gws_mem (kt_3 _ (List.mem_of_getElem? (i := 19) rfl)) rfl
theorem kw_501 : (Jvm.Cond.instanceMethod ({ cls := "ClockedFlows$Flow", name := "reckon", desc := "(III)I" } : Jvm.MethodName)) ∈ gws := gws_mem (kt_3 _ (List.mem_of_getElem? (i := 21) rfl)) rfl
theorem kw_502 : (Jvm.Cond.code ({ cls := "ClockedFlows$Flow", name := "reckon", desc := "(III)I" } : Jvm.MethodName) prog_3_method_15_code (6 : Nat) (Option.some Jvm.ClassFile.FieldType.int)) ∈ gws := gws_mem (kt_3 _ (List.mem_of_getElem? (i := 22) rfl)) rfl
theorem kw_503 : (Jvm.Cond.methodLink "ClockedFlows$Flow" (80 : Nat) ({ cls := "ClockedFlows$Flow", name := "combine", desc := "(III)I" } : Jvm.MethodName)) ∈ gws := gws_mem (kt_3 _ (List.mem_of_getElem? (i := 23) rfl)) rfl
theorem kw_505 : (Jvm.Cond.instanceMethod ({ cls := "ClockedFlows$Flow", name := "combine", desc := "(III)I" } : Jvm.MethodName)) ∈ gws := gws_mem (kt_3 _ (List.mem_of_getElem? (i := 25) rfl)) rfl
theorem kw_506 : (Jvm.Cond.code ({ cls := "ClockedFlows$Flow", name := "combine", desc := "(III)I" } : Jvm.MethodName) prog_3_method_16_code (4 : Nat) (Option.some Jvm.ClassFile.FieldType.int)) ∈ gws := gws_mem (kt_3 _ (List.mem_of_getElem? (i := 26) rfl)) rfl
theorem kw_507 : (Jvm.Cond.methodLink "ClockedFlows$Flow" (83 : Nat) ({ cls := "ClockedFlows$Flow", name := "choose", desc := "(III)I" } : Jvm.MethodName)) ∈ gws := gws_mem (kt_3 _ (List.mem_of_getElem? (i := 27) rfl)) rfl
theorem kw_509 : (Jvm.Cond.instanceMethod ({ cls := "ClockedFlows$Flow", name := "choose", desc := "(III)I" } : Jvm.MethodName)) ∈ gws := gws_mem (kt_3 _ (List.mem_of_getElem? (i := 29) rfl)) rfl
theorem kw_510 : (Jvm.Cond.code ({ cls := "ClockedFlows$Flow", name := "choose", desc := "(III)I" } : Jvm.MethodName) prog_3_method_17_code (4 : Nat) (Option.some Jvm.ClassFile.FieldType.int)) ∈ gws := gws_mem (kt_3 _ (List.mem_of_getElem? (i := 30) rfl)) rfl
theorem kw_511 : (Jvm.Cond.methodLink "ClockedFlows$Flow" (74 : Nat) ({ cls := "ClockedFlows$Flow", name := "heldNext", desc := "(I)I" } : Jvm.MethodName)) ∈ gws := gws_mem (kt_3 _ (List.mem_of_getElem? (i := 31) rfl)) rfl
theorem kw_513 : (Jvm.Cond.instanceMethod ({ cls := "ClockedFlows$Flow", name := "heldNext", desc := "(I)I" } : Jvm.MethodName)) ∈ gws := gws_mem (kt_3 _ (List.mem_of_getElem? (i := 33) rfl)) rfl
theorem kw_514 : (Jvm.Cond.code ({ cls := "ClockedFlows$Flow", name := "heldNext", desc := "(I)I" } : Jvm.MethodName) prog_3_method_14_code (2 : Nat) (Option.some Jvm.ClassFile.FieldType.int)) ∈ gws := gws_mem (kt_3 _ (List.mem_of_getElem? (i := 34) rfl)) rfl
theorem kw_515 : (Jvm.Cond.methodLink "ClockedFlows" (155 : Nat) ({ cls := "java/lang/Integer", name := "bitCount", desc := "(I)I" } : Jvm.MethodName)) ∈ gws := gws_mem (kt_3 _ (List.mem_of_getElem? (i := 35) rfl)) rfl
theorem kw_516 : (Jvm.Cond.static ({ cls := "java/lang/Integer", name := "bitCount", desc := "(I)I" } : Jvm.MethodName)) ∈ gws := gws_mem (kt_3 _ (List.mem_of_getElem? (i := 36) rfl)) rfl
theorem kw_517 : (Jvm.Cond.code ({ cls := "java/lang/Integer", name := "bitCount", desc := "(I)I" } : Jvm.MethodName) prog_10_method_49_code (1 : Nat) (Option.some Jvm.ClassFile.FieldType.int)) ∈ gws := gws_mem (kt_3 _ (List.mem_of_getElem? (i := 37) rfl)) rfl
theorem kw_518 : (Jvm.Cond.constant "java/lang/Integer" (265 : Nat) (1431655765 : Int32)) ∈ gws := gws_mem (kt_3 _ (List.mem_of_getElem? (i := 38) rfl)) rfl
theorem kw_519 : (Jvm.Cond.constant "java/lang/Integer" (266 : Nat) (858993459 : Int32)) ∈ gws := gws_mem (kt_3 _ (List.mem_of_getElem? (i := 39) rfl)) rfl
theorem kw_520 : (Jvm.Cond.constant "java/lang/Integer" (267 : Nat) (252645135 : Int32)) ∈ gws := gws_mem (kt_3 _ (List.mem_of_getElem? (i := 40) rfl)) rfl
theorem kw_521 : (Jvm.Cond.methodLink "ClockedFlowsLaw" (52 : Nat) ({ cls := "ClockedFlows", name := "afresh", desc := "()I" } : Jvm.MethodName)) ∈ gws := gws_mem (kt_3 _ (List.mem_of_getElem? (i := 41) rfl)) rfl
theorem kw_522 : (Jvm.Cond.instanceMethod ({ cls := "ClockedFlows", name := "afresh", desc := "()I" } : Jvm.MethodName)) ∈ gws := gws_mem (kt_3 _ (List.mem_of_getElem? (i := 42) rfl)) rfl
theorem kw_523 : (Jvm.Cond.selects "ClockedFlows" ({ cls := "ClockedFlows", name := "afresh", desc := "()I" } : Jvm.MethodName) ({ cls := "ClockedFlows", name := "afresh", desc := "()I" } : Jvm.MethodName)) ∈ gws := gws_mem (kt_3 _ (List.mem_of_getElem? (i := 43) rfl)) rfl
theorem kw_524 : (Jvm.Cond.code ({ cls := "ClockedFlows", name := "afresh", desc := "()I" } : Jvm.MethodName) prog_1_method_11_code (2 : Nat) (Option.some Jvm.ClassFile.FieldType.int)) ∈ gws := gws_mem (kt_3 _ (List.mem_of_getElem? (i := 44) rfl)) rfl
theorem kw_525 : (Jvm.Cond.methodLink "ClockedFlowsLaw" (56 : Nat) ({ cls := "ClockedFlows", name := "tell", desc := "(IIIII)I" } : Jvm.MethodName)) ∈ gws := gws_mem (kt_3 _ (List.mem_of_getElem? (i := 45) rfl)) rfl
theorem kw_526 : (Jvm.Cond.instanceMethod ({ cls := "ClockedFlows", name := "tell", desc := "(IIIII)I" } : Jvm.MethodName)) ∈ gws := gws_mem (kt_3 _ (List.mem_of_getElem? (i := 46) rfl)) rfl
theorem kw_527 : (Jvm.Cond.selects "ClockedFlows" ({ cls := "ClockedFlows", name := "tell", desc := "(IIIII)I" } : Jvm.MethodName) ({ cls := "ClockedFlows", name := "tell", desc := "(IIIII)I" } : Jvm.MethodName)) ∈ gws := gws_mem (kt_3 _ (List.mem_of_getElem? (i := 47) rfl)) rfl
theorem kw_528 : (Jvm.Cond.code ({ cls := "ClockedFlows", name := "tell", desc := "(IIIII)I" } : Jvm.MethodName) prog_1_method_12_code (6 : Nat) (Option.some Jvm.ClassFile.FieldType.int)) ∈ gws := gws_mem (kt_3 _ (List.mem_of_getElem? (i := 48) rfl)) rfl
theorem kw_529 : (Jvm.Cond.methodLink "ClockedFlows" (160 : Nat) ({ cls := "ClockedFlows", name := "isEquation", desc := "(IIII)Z" } : Jvm.MethodName)) ∈ gws := gws_mem (kt_3 _ (List.mem_of_getElem? (i := 49) rfl)) rfl
theorem kw_531 : (Jvm.Cond.instanceMethod ({ cls := "ClockedFlows", name := "isEquation", desc := "(IIII)Z" } : Jvm.MethodName)) ∈ gws := gws_mem (kt_3 _ (List.mem_of_getElem? (i := 51) rfl)) rfl
theorem kw_532 : (Jvm.Cond.code ({ cls := "ClockedFlows", name := "isEquation", desc := "(IIII)Z" } : Jvm.MethodName) prog_1_method_28_code (5 : Nat) (Option.some Jvm.ClassFile.FieldType.boolean)) ∈ gws := gws_mem (kt_3 _ (List.mem_of_getElem? (i := 52) rfl)) rfl
theorem kw_533 : (Jvm.Cond.methodLink "ClockedFlows" (213 : Nat) ({ cls := "ClockedFlows", name := "isFigure", desc := "(IIII)Z" } : Jvm.MethodName)) ∈ gws := gws_mem (kt_3 _ (List.mem_of_getElem? (i := 53) rfl)) rfl
theorem kw_534 : (Jvm.Cond.methodLink "ClockedFlows" (164 : Nat) ({ cls := "ClockedFlows$Flow", name := "equate", desc := "(IIIII)V" } : Jvm.MethodName)) ∈ gws := gws_mem (kt_3 _ (List.mem_of_getElem? (i := 54) rfl)) rfl
theorem kw_535 : (Jvm.Cond.methodLink "ClockedFlowsLaw" (61 : Nat) ({ cls := "ClockedFlows", name := "undo", desc := "()I" } : Jvm.MethodName)) ∈ gws := gws_mem (kt_3 _ (List.mem_of_getElem? (i := 55) rfl)) rfl
theorem kw_536 : (Jvm.Cond.instanceMethod ({ cls := "ClockedFlows", name := "undo", desc := "()I" } : Jvm.MethodName)) ∈ gws := gws_mem (kt_3 _ (List.mem_of_getElem? (i := 56) rfl)) rfl
theorem kw_537 : (Jvm.Cond.selects "ClockedFlows" ({ cls := "ClockedFlows", name := "undo", desc := "()I" } : Jvm.MethodName) ({ cls := "ClockedFlows", name := "undo", desc := "()I" } : Jvm.MethodName)) ∈ gws := gws_mem (kt_3 _ (List.mem_of_getElem? (i := 57) rfl)) rfl
theorem kw_538 : (Jvm.Cond.code ({ cls := "ClockedFlows", name := "undo", desc := "()I" } : Jvm.MethodName) prog_1_method_13_code (1 : Nat) (Option.some Jvm.ClassFile.FieldType.int)) ∈ gws := gws_mem (kt_3 _ (List.mem_of_getElem? (i := 58) rfl)) rfl
theorem kw_539 : (Jvm.Cond.methodLink "ClockedFlows" (168 : Nat) ({ cls := "ClockedFlows$Doings", name := "takeBack", desc := "(LClockedFlows$Flow;)V" } : Jvm.MethodName)) ∈ gws := gws_mem (kt_3 _ (List.mem_of_getElem? (i := 59) rfl)) rfl
theorem kw_540 : (Jvm.Cond.instanceMethod ({ cls := "ClockedFlows$Doings", name := "takeBack", desc := "(LClockedFlows$Flow;)V" } : Jvm.MethodName)) ∈ gws := gws_mem (kt_3 _ (List.mem_of_getElem? (i := 60) rfl)) rfl
theorem kw_541 : (Jvm.Cond.selects "ClockedFlows$Doings" ({ cls := "ClockedFlows$Doings", name := "takeBack", desc := "(LClockedFlows$Flow;)V" } : Jvm.MethodName) ({ cls := "ClockedFlows$Doings", name := "takeBack", desc := "(LClockedFlows$Flow;)V" } : Jvm.MethodName)) ∈ gws := gws_mem (kt_3 _ (List.mem_of_getElem? (i := 61) rfl)) rfl
theorem kw_542 : (Jvm.Cond.code ({ cls := "ClockedFlows$Doings", name := "takeBack", desc := "(LClockedFlows$Flow;)V" } : Jvm.MethodName) prog_2_method_4_code (2 : Nat) (Option.none : Option Jvm.ClassFile.FieldType)) ∈ gws := gws_mem (kt_3 _ (List.mem_of_getElem? (i := 62) rfl)) rfl
theorem kw_543 : (Jvm.Cond.methodLink "ClockedFlowsLaw" (65 : Nat) ({ cls := "ClockedFlows", name := "later", desc := "(IIII)I" } : Jvm.MethodName)) ∈ gws := gws_mem (kt_3 _ (List.mem_of_getElem? (i := 63) rfl)) rfl
theorem kw_544 : (Jvm.Cond.instanceMethod ({ cls := "ClockedFlows", name := "later", desc := "(IIII)I" } : Jvm.MethodName)) ∈ gws := gws_mem (kt_3 _ (List.mem_of_getElem? (i := 64) rfl)) rfl
theorem kw_545 : (Jvm.Cond.selects "ClockedFlows" ({ cls := "ClockedFlows", name := "later", desc := "(IIII)I" } : Jvm.MethodName) ({ cls := "ClockedFlows", name := "later", desc := "(IIII)I" } : Jvm.MethodName)) ∈ gws := gws_mem (kt_3 _ (List.mem_of_getElem? (i := 65) rfl)) rfl
theorem kw_546 : (Jvm.Cond.code ({ cls := "ClockedFlows", name := "later", desc := "(IIII)I" } : Jvm.MethodName) prog_1_method_14_code (6 : Nat) (Option.some Jvm.ClassFile.FieldType.int)) ∈ gws := gws_mem (kt_3 _ (List.mem_of_getElem? (i := 66) rfl)) rfl
theorem kw_547 : (Jvm.Cond.methodLink "ClockedFlowsLaw" (70 : Nat) ({ cls := "ClockedFlows", name := "first", desc := "(IIII)I" } : Jvm.MethodName)) ∈ gws := gws_mem (kt_3 _ (List.mem_of_getElem? (i := 67) rfl)) rfl
theorem kw_548 : (Jvm.Cond.instanceMethod ({ cls := "ClockedFlows", name := "first", desc := "(IIII)I" } : Jvm.MethodName)) ∈ gws := gws_mem (kt_3 _ (List.mem_of_getElem? (i := 68) rfl)) rfl
theorem kw_549 : (Jvm.Cond.selects "ClockedFlows" ({ cls := "ClockedFlows", name := "first", desc := "(IIII)I" } : Jvm.MethodName) ({ cls := "ClockedFlows", name := "first", desc := "(IIII)I" } : Jvm.MethodName)) ∈ gws := gws_mem (kt_3 _ (List.mem_of_getElem? (i := 69) rfl)) rfl
theorem kw_550 : (Jvm.Cond.code ({ cls := "ClockedFlows", name := "first", desc := "(IIII)I" } : Jvm.MethodName) prog_1_method_15_code (6 : Nat) (Option.some Jvm.ClassFile.FieldType.int)) ∈ gws := gws_mem (kt_3 _ (List.mem_of_getElem? (i := 70) rfl)) rfl
theorem kw_551 : (Jvm.Cond.methodLink "ClockedFlowsLaw" (74 : Nat) ({ cls := "ClockedFlows", name := "round", desc := "(III)I" } : Jvm.MethodName)) ∈ gws := gws_mem (kt_3 _ (List.mem_of_getElem? (i := 71) rfl)) rfl
theorem kw_552 : (Jvm.Cond.instanceMethod ({ cls := "ClockedFlows", name := "round", desc := "(III)I" } : Jvm.MethodName)) ∈ gws := gws_mem (kt_3 _ (List.mem_of_getElem? (i := 72) rfl)) rfl
theorem kw_553 : (Jvm.Cond.selects "ClockedFlows" ({ cls := "ClockedFlows", name := "round", desc := "(III)I" } : Jvm.MethodName) ({ cls := "ClockedFlows", name := "round", desc := "(III)I" } : Jvm.MethodName)) ∈ gws := gws_mem (kt_3 _ (List.mem_of_getElem? (i := 73) rfl)) rfl
theorem kw_554 : (Jvm.Cond.code ({ cls := "ClockedFlows", name := "round", desc := "(III)I" } : Jvm.MethodName) prog_1_method_16_code (6 : Nat) (Option.some Jvm.ClassFile.FieldType.int)) ∈ gws := gws_mem (kt_3 _ (List.mem_of_getElem? (i := 74) rfl)) rfl
theorem kw_555 : (Jvm.Cond.methodLink "ClockedFlows" (171 : Nat) ({ cls := "ClockedFlows", name := "layTrail", desc := "(II)V" } : Jvm.MethodName)) ∈ gws := gws_mem (kt_3 _ (List.mem_of_getElem? (i := 75) rfl)) rfl
theorem kw_557 : (Jvm.Cond.instanceMethod ({ cls := "ClockedFlows", name := "layTrail", desc := "(II)V" } : Jvm.MethodName)) ∈ gws := gws_mem (kt_3 _ (List.mem_of_getElem? (i := 77) rfl)) rfl
theorem kw_558 : (Jvm.Cond.code ({ cls := "ClockedFlows", name := "layTrail", desc := "(II)V" } : Jvm.MethodName) prog_1_method_29_code (4 : Nat) (Option.none : Option Jvm.ClassFile.FieldType)) ∈ gws := gws_mem (kt_3 _ (List.mem_of_getElem? (i := 78) rfl)) rfl
theorem kw_559 : (Jvm.Cond.methodLink "ClockedFlows" (219 : Nat) ({ cls := "java/lang/System", name := "arraycopy", desc := "(Ljava/lang/Object;ILjava/lang/Object;II)V" } : Jvm.MethodName)) ∈ gws := gws_mem (kt_3 _ (List.mem_of_getElem? (i := 79) rfl)) rfl
theorem kw_560 : (Jvm.Cond.methodLink "ClockedFlows" (175 : Nat) ({ cls := "ClockedFlows", name := "sameOnTrail", desc := "(II)Z" } : Jvm.MethodName)) ∈ gws := gws_mem (kt_3 _ (List.mem_of_getElem? (i := 80) rfl)) rfl
theorem kw_562 : (Jvm.Cond.instanceMethod ({ cls := "ClockedFlows", name := "sameOnTrail", desc := "(II)Z" } : Jvm.MethodName)) ∈ gws := gws_mem (kt_3 _ (List.mem_of_getElem? (i := 82) rfl)) rfl
theorem kw_563 : (Jvm.Cond.code ({ cls := "ClockedFlows", name := "sameOnTrail", desc := "(II)Z" } : Jvm.MethodName) prog_1_method_30_code (4 : Nat) (Option.some Jvm.ClassFile.FieldType.boolean)) ∈ gws := gws_mem (kt_3 _ (List.mem_of_getElem? (i := 83) rfl)) rfl
theorem kw_564 : (Jvm.Cond.methodLink "ClockedFlowsLaw" (81 : Nat) ({ cls := "ClockedFlows", name := "judge", desc := "(IJ)I" } : Jvm.MethodName)) ∈ gws := gws_mem (kt_3 _ (List.mem_of_getElem? (i := 84) rfl)) rfl
theorem kw_565 : (Jvm.Cond.instanceMethod ({ cls := "ClockedFlows", name := "judge", desc := "(IJ)I" } : Jvm.MethodName)) ∈ gws := gws_mem (kt_3 _ (List.mem_of_getElem? (i := 85) rfl)) rfl
theorem kw_566 : (Jvm.Cond.selects "ClockedFlows" ({ cls := "ClockedFlows", name := "judge", desc := "(IJ)I" } : Jvm.MethodName) ({ cls := "ClockedFlows", name := "judge", desc := "(IJ)I" } : Jvm.MethodName)) ∈ gws := gws_mem (kt_3 _ (List.mem_of_getElem? (i := 86) rfl)) rfl
theorem kw_567 : (Jvm.Cond.code ({ cls := "ClockedFlows", name := "judge", desc := "(IJ)I" } : Jvm.MethodName) prog_1_method_17_code (8 : Nat) (Option.some Jvm.ClassFile.FieldType.int)) ∈ gws := gws_mem (kt_3 _ (List.mem_of_getElem? (i := 87) rfl)) rfl
theorem kw_568 : (Jvm.Cond.constantLong "ClockedFlows" (179 : Nat) (100000 : Int64)) ∈ gws := gws_mem (kt_3 _ (List.mem_of_getElem? (i := 88) rfl)) rfl
theorem kw_569 : (Jvm.Cond.methodLink "ClockedFlows" (181 : Nat) ({ cls := "ClockedFlows", name := "power", desc := "(JI)J" } : Jvm.MethodName)) ∈ gws := gws_mem (kt_3 _ (List.mem_of_getElem? (i := 89) rfl)) rfl
theorem kw_570 : (Jvm.Cond.static ({ cls := "ClockedFlows", name := "power", desc := "(JI)J" } : Jvm.MethodName)) ∈ gws := gws_mem (kt_3 _ (List.mem_of_getElem? (i := 90) rfl)) rfl
theorem kw_571 : (Jvm.Cond.code ({ cls := "ClockedFlows", name := "power", desc := "(JI)J" } : Jvm.MethodName) prog_1_method_36_code (6 : Nat) (Option.some Jvm.ClassFile.FieldType.long)) ∈ gws := gws_mem (kt_3 _ (List.mem_of_getElem? (i := 91) rfl)) rfl
theorem kw_572 : (Jvm.Cond.methodLink "ClockedFlows" (185 : Nat) ({ cls := "ClockedFlows", name := "holds", desc := "(I)Z" } : Jvm.MethodName)) ∈ gws := gws_mem (kt_3 _ (List.mem_of_getElem? (i := 92) rfl)) rfl
theorem kw_574 : (Jvm.Cond.instanceMethod ({ cls := "ClockedFlows", name := "holds", desc := "(I)Z" } : Jvm.MethodName)) ∈ gws := gws_mem (kt_3 _ (List.mem_of_getElem? (i := 94) rfl)) rfl
theorem kw_575 : (Jvm.Cond.code ({ cls := "ClockedFlows", name := "holds", desc := "(I)Z" } : Jvm.MethodName) prog_1_method_31_code (5 : Nat) (Option.some Jvm.ClassFile.FieldType.boolean)) ∈ gws := gws_mem (kt_3 _ (List.mem_of_getElem? (i := 95) rfl)) rfl
theorem kw_576 : (Jvm.Cond.methodLink "ClockedFlowsLaw" (86 : Nat) ({ cls := "ClockedFlows", name := "see", desc := "(IIII)I" } : Jvm.MethodName)) ∈ gws := gws_mem (kt_3 _ (List.mem_of_getElem? (i := 96) rfl)) rfl
theorem kw_577 : (Jvm.Cond.instanceMethod ({ cls := "ClockedFlows", name := "see", desc := "(IIII)I" } : Jvm.MethodName)) ∈ gws := gws_mem (kt_3 _ (List.mem_of_getElem? (i := 97) rfl)) rfl
theorem kw_578 : (Jvm.Cond.selects "ClockedFlows" ({ cls := "ClockedFlows", name := "see", desc := "(IIII)I" } : Jvm.MethodName) ({ cls := "ClockedFlows", name := "see", desc := "(IIII)I" } : Jvm.MethodName)) ∈ gws := gws_mem (kt_3 _ (List.mem_of_getElem? (i := 98) rfl)) rfl
theorem kw_579 : (Jvm.Cond.code ({ cls := "ClockedFlows", name := "see", desc := "(IIII)I" } : Jvm.MethodName) prog_1_method_18_code (5 : Nat) (Option.some Jvm.ClassFile.FieldType.int)) ∈ gws := gws_mem (kt_3 _ (List.mem_of_getElem? (i := 99) rfl)) rfl
theorem kw_580 : (Jvm.Cond.methodLink "ClockedFlows" (188 : Nat) ({ cls := "ClockedFlows$Sights", name := "add", desc := "(IIII)Z" } : Jvm.MethodName)) ∈ gws := gws_mem (kt_3 _ (List.mem_of_getElem? (i := 100) rfl)) rfl
theorem kw_581 : (Jvm.Cond.instanceMethod ({ cls := "ClockedFlows$Sights", name := "add", desc := "(IIII)Z" } : Jvm.MethodName)) ∈ gws := gws_mem (kt_3 _ (List.mem_of_getElem? (i := 101) rfl)) rfl
theorem kw_582 : (Jvm.Cond.selects "ClockedFlows$Sights" ({ cls := "ClockedFlows$Sights", name := "add", desc := "(IIII)Z" } : Jvm.MethodName) ({ cls := "ClockedFlows$Sights", name := "add", desc := "(IIII)Z" } : Jvm.MethodName)) ∈ gws := gws_mem (kt_3 _ (List.mem_of_getElem? (i := 102) rfl)) rfl
theorem kw_583 : (Jvm.Cond.code ({ cls := "ClockedFlows$Sights", name := "add", desc := "(IIII)Z" } : Jvm.MethodName) prog_5_method_2_code (5 : Nat) (Option.some Jvm.ClassFile.FieldType.boolean)) ∈ gws := gws_mem (kt_3 _ (List.mem_of_getElem? (i := 103) rfl)) rfl
theorem kw_584 : (Jvm.Cond.methodLink "ClockedFlowsLaw" (90 : Nat) ({ cls := "ClockedFlows", name := "unsee", desc := "()I" } : Jvm.MethodName)) ∈ gws := gws_mem (kt_3 _ (List.mem_of_getElem? (i := 104) rfl)) rfl
theorem kw_585 : (Jvm.Cond.instanceMethod ({ cls := "ClockedFlows", name := "unsee", desc := "()I" } : Jvm.MethodName)) ∈ gws := gws_mem (kt_3 _ (List.mem_of_getElem? (i := 105) rfl)) rfl
theorem kw_586 : (Jvm.Cond.selects "ClockedFlows" ({ cls := "ClockedFlows", name := "unsee", desc := "()I" } : Jvm.MethodName) ({ cls := "ClockedFlows", name := "unsee", desc := "()I" } : Jvm.MethodName)) ∈ gws := gws_mem (kt_3 _ (List.mem_of_getElem? (i := 106) rfl)) rfl
theorem kw_587 : (Jvm.Cond.code ({ cls := "ClockedFlows", name := "unsee", desc := "()I" } : Jvm.MethodName) prog_1_method_19_code (2 : Nat) (Option.some Jvm.ClassFile.FieldType.int)) ∈ gws := gws_mem (kt_3 _ (List.mem_of_getElem? (i := 107) rfl)) rfl
theorem kw_588 : (Jvm.Cond.methodLink "ClockedFlowsLaw" (94 : Nat) ({ cls := "ClockedFlows", name := "inputs", desc := "(I)I" } : Jvm.MethodName)) ∈ gws := gws_mem (kt_3 _ (List.mem_of_getElem? (i := 108) rfl)) rfl
theorem kw_589 : (Jvm.Cond.instanceMethod ({ cls := "ClockedFlows", name := "inputs", desc := "(I)I" } : Jvm.MethodName)) ∈ gws := gws_mem (kt_3 _ (List.mem_of_getElem? (i := 109) rfl)) rfl
theorem kw_590 : (Jvm.Cond.selects "ClockedFlows" ({ cls := "ClockedFlows", name := "inputs", desc := "(I)I" } : Jvm.MethodName) ({ cls := "ClockedFlows", name := "inputs", desc := "(I)I" } : Jvm.MethodName)) ∈ gws := gws_mem (kt_3 _ (List.mem_of_getElem? (i := 110) rfl)) rfl
theorem kw_591 : (Jvm.Cond.code ({ cls := "ClockedFlows", name := "inputs", desc := "(I)I" } : Jvm.MethodName) prog_1_method_20_code (5 : Nat) (Option.some Jvm.ClassFile.FieldType.int)) ∈ gws := gws_mem (kt_3 _ (List.mem_of_getElem? (i := 111) rfl)) rfl
theorem kw_592 : (Jvm.Cond.methodLink "ClockedFlows" (191 : Nat) ({ cls := "ClockedFlows", name := "explains", desc := "(II)Z" } : Jvm.MethodName)) ∈ gws := gws_mem (kt_3 _ (List.mem_of_getElem? (i := 112) rfl)) rfl
theorem kw_594 : (Jvm.Cond.instanceMethod ({ cls := "ClockedFlows", name := "explains", desc := "(II)Z" } : Jvm.MethodName)) ∈ gws := gws_mem (kt_3 _ (List.mem_of_getElem? (i := 114) rfl)) rfl
theorem kw_595 : (Jvm.Cond.code ({ cls := "ClockedFlows", name := "explains", desc := "(II)Z" } : Jvm.MethodName) prog_1_method_32_code (5 : Nat) (Option.some Jvm.ClassFile.FieldType.boolean)) ∈ gws := gws_mem (kt_3 _ (List.mem_of_getElem? (i := 115) rfl)) rfl
theorem kw_596 : (Jvm.Cond.methodLink "ClockedFlows" (228 : Nat) ({ cls := "ClockedFlows$Sights", name := "lastTick", desc := "()I" } : Jvm.MethodName)) ∈ gws := gws_mem (kt_3 _ (List.mem_of_getElem? (i := 116) rfl)) rfl
theorem kw_597 : (Jvm.Cond.instanceMethod ({ cls := "ClockedFlows$Sights", name := "lastTick", desc := "()I" } : Jvm.MethodName)) ∈ gws := gws_mem (kt_3 _ (List.mem_of_getElem? (i := 117) rfl)) rfl
theorem kw_598 : (Jvm.Cond.selects "ClockedFlows$Sights" ({ cls := "ClockedFlows$Sights", name := "lastTick", desc := "()I" } : Jvm.MethodName) ({ cls := "ClockedFlows$Sights", name := "lastTick", desc := "()I" } : Jvm.MethodName)) ∈ gws := gws_mem (kt_3 _ (List.mem_of_getElem? (i := 118) rfl)) rfl
theorem kw_599 : (Jvm.Cond.code ({ cls := "ClockedFlows$Sights", name := "lastTick", desc := "()I" } : Jvm.MethodName) prog_5_method_3_code (3 : Nat) (Option.some Jvm.ClassFile.FieldType.int)) ∈ gws := gws_mem (kt_3 _ (List.mem_of_getElem? (i := 119) rfl)) rfl
theorem kw_600 : (Jvm.Cond.methodLink "ClockedFlows$Sights" (29 : Nat) ({ cls := "java/lang/Math", name := "max", desc := "(II)I" } : Jvm.MethodName)) ∈ gws := gws_mem (kt_3 _ (List.mem_of_getElem? (i := 120) rfl)) rfl
theorem kw_601 : (Jvm.Cond.methodLink "ClockedFlows" (231 : Nat) ({ cls := "ClockedFlows$Sights", name := "fit", desc := "(ILClockedFlows$Flow;)Z" } : Jvm.MethodName)) ∈ gws := gws_mem (kt_3 _ (List.mem_of_getElem? (i := 121) rfl)) rfl
theorem kw_602 : (Jvm.Cond.instanceMethod ({ cls := "ClockedFlows$Sights", name := "fit", desc := "(ILClockedFlows$Flow;)Z" } : Jvm.MethodName)) ∈ gws := gws_mem (kt_3 _ (List.mem_of_getElem? (i := 122) rfl)) rfl
theorem kw_603 : (Jvm.Cond.selects "ClockedFlows$Sights" ({ cls := "ClockedFlows$Sights", name := "fit", desc := "(ILClockedFlows$Flow;)Z" } : Jvm.MethodName) ({ cls := "ClockedFlows$Sights", name := "fit", desc := "(ILClockedFlows$Flow;)Z" } : Jvm.MethodName)) ∈ gws := gws_mem (kt_3 _ (List.mem_of_getElem? (i := 123) rfl)) rfl
theorem kw_604 : (Jvm.Cond.code ({ cls := "ClockedFlows$Sights", name := "fit", desc := "(ILClockedFlows$Flow;)Z" } : Jvm.MethodName) prog_5_method_4_code (4 : Nat) (Option.some Jvm.ClassFile.FieldType.boolean)) ∈ gws := gws_mem (kt_3 _ (List.mem_of_getElem? (i := 124) rfl)) rfl
theorem kw_605 : (Jvm.Cond.methodLink "ClockedFlows$Sights" (35 : Nat) ({ cls := "ClockedFlows$Flow", name := "valueOf", desc := "(I)I" } : Jvm.MethodName)) ∈ gws := gws_mem (kt_3 _ (List.mem_of_getElem? (i := 125) rfl)) rfl
theorem kw_606 : (Jvm.Cond.methodLink "ClockedFlowsLaw" (98 : Nat) ({ cls := "ClockedFlows", name := "odds", desc := "(IIIIZ)I" } : Jvm.MethodName)) ∈ gws := gws_mem (kt_3 _ (List.mem_of_getElem? (i := 126) rfl)) rfl
theorem kw_607 : (Jvm.Cond.instanceMethod ({ cls := "ClockedFlows", name := "odds", desc := "(IIIIZ)I" } : Jvm.MethodName)) ∈ gws := gws_mem (kt_3 _ (List.mem_of_getElem? (i := 127) rfl)) rfl
theorem kw_608 : (Jvm.Cond.selects "ClockedFlows" ({ cls := "ClockedFlows", name := "odds", desc := "(IIIIZ)I" } : Jvm.MethodName) ({ cls := "ClockedFlows", name := "odds", desc := "(IIIIZ)I" } : Jvm.MethodName)) ∈ gws := gws_mem (kt_3 _ (List.mem_of_getElem? (i := 128) rfl)) rfl
theorem kw_609 : (Jvm.Cond.code ({ cls := "ClockedFlows", name := "odds", desc := "(IIIIZ)I" } : Jvm.MethodName) prog_1_method_21_code (9 : Nat) (Option.some Jvm.ClassFile.FieldType.int)) ∈ gws := gws_mem (kt_3 _ (List.mem_of_getElem? (i := 129) rfl)) rfl
theorem kw_610 : (Jvm.Cond.methodLink "ClockedFlows" (194 : Nat) ({ cls := "ClockedFlows", name := "timesThere", desc := "(III)I" } : Jvm.MethodName)) ∈ gws := gws_mem (kt_3 _ (List.mem_of_getElem? (i := 130) rfl)) rfl
theorem kw_612 : (Jvm.Cond.instanceMethod ({ cls := "ClockedFlows", name := "timesThere", desc := "(III)I" } : Jvm.MethodName)) ∈ gws := gws_mem (kt_3 _ (List.mem_of_getElem? (i := 132) rfl)) rfl
theorem kw_613 : (Jvm.Cond.code ({ cls := "ClockedFlows", name := "timesThere", desc := "(III)I" } : Jvm.MethodName) prog_1_method_33_code (6 : Nat) (Option.some Jvm.ClassFile.FieldType.int)) ∈ gws := gws_mem (kt_3 _ (List.mem_of_getElem? (i := 133) rfl)) rfl
theorem kw_614 : (Jvm.Cond.methodLink "ClockedFlows" (198 : Nat) ({ cls := "ClockedFlows", name := "weight", desc := "(III)I" } : Jvm.MethodName)) ∈ gws := gws_mem (kt_3 _ (List.mem_of_getElem? (i := 134) rfl)) rfl
theorem kw_615 : (Jvm.Cond.static ({ cls := "ClockedFlows", name := "weight", desc := "(III)I" } : Jvm.MethodName)) ∈ gws := gws_mem (kt_3 _ (List.mem_of_getElem? (i := 135) rfl)) rfl
theorem kw_616 : (Jvm.Cond.code ({ cls := "ClockedFlows", name := "weight", desc := "(III)I" } : Jvm.MethodName) prog_1_method_34_code (5 : Nat) (Option.some Jvm.ClassFile.FieldType.int)) ∈ gws := gws_mem (kt_3 _ (List.mem_of_getElem? (i := 136) rfl)) rfl
theorem kw_617 : (Jvm.Cond.constantLong "ClockedFlows" (201 : Nat) (10 : Int64)) ∈ gws := gws_mem (kt_3 _ (List.mem_of_getElem? (i := 137) rfl)) rfl
theorem kw_618 : (Jvm.Cond.methodLink "ClockedFlows" (203 : Nat) ({ cls := "ClockedFlows", name := "commonDivisor", desc := "(II)I" } : Jvm.MethodName)) ∈ gws := gws_mem (kt_3 _ (List.mem_of_getElem? (i := 138) rfl)) rfl
theorem kw_619 : (Jvm.Cond.static ({ cls := "ClockedFlows", name := "commonDivisor", desc := "(II)I" } : Jvm.MethodName)) ∈ gws := gws_mem (kt_3 _ (List.mem_of_getElem? (i := 139) rfl)) rfl
theorem kw_620 : (Jvm.Cond.code ({ cls := "ClockedFlows", name := "commonDivisor", desc := "(II)I" } : Jvm.MethodName) prog_1_method_35_code (6 : Nat) (Option.some Jvm.ClassFile.FieldType.int)) ∈ gws := gws_mem (kt_3 _ (List.mem_of_getElem? (i := 140) rfl)) rfl
theorem kw_621 : (Jvm.Cond.methodLink "ClockedFlowsLaw" (103 : Nat) ({ cls := "ClockedFlows", name := "seed", desc := "(J)J" } : Jvm.MethodName)) ∈ gws := gws_mem (kt_3 _ (List.mem_of_getElem? (i := 141) rfl)) rfl
theorem kw_622 : (Jvm.Cond.instanceMethod ({ cls := "ClockedFlows", name := "seed", desc := "(J)J" } : Jvm.MethodName)) ∈ gws := gws_mem (kt_3 _ (List.mem_of_getElem? (i := 142) rfl)) rfl
theorem kw_623 : (Jvm.Cond.selects "ClockedFlows" ({ cls := "ClockedFlows", name := "seed", desc := "(J)J" } : Jvm.MethodName) ({ cls := "ClockedFlows", name := "seed", desc := "(J)J" } : Jvm.MethodName)) ∈ gws := gws_mem (kt_3 _ (List.mem_of_getElem? (i := 143) rfl)) rfl
theorem kw_624 : (Jvm.Cond.code ({ cls := "ClockedFlows", name := "seed", desc := "(J)J" } : Jvm.MethodName) prog_1_method_22_code (5 : Nat) (Option.some Jvm.ClassFile.FieldType.long)) ∈ gws := gws_mem (kt_3 _ (List.mem_of_getElem? (i := 144) rfl)) rfl
theorem kw_625 : (Jvm.Cond.methodLink "ClockedFlowsLaw" (108 : Nat) ({ cls := "ClockedFlows", name := "runs", desc := "(I)I" } : Jvm.MethodName)) ∈ gws := gws_mem (kt_3 _ (List.mem_of_getElem? (i := 145) rfl)) rfl
theorem kw_626 : (Jvm.Cond.instanceMethod ({ cls := "ClockedFlows", name := "runs", desc := "(I)I" } : Jvm.MethodName)) ∈ gws := gws_mem (kt_3 _ (List.mem_of_getElem? (i := 146) rfl)) rfl
theorem kw_627 : (Jvm.Cond.selects "ClockedFlows" ({ cls := "ClockedFlows", name := "runs", desc := "(I)I" } : Jvm.MethodName) ({ cls := "ClockedFlows", name := "runs", desc := "(I)I" } : Jvm.MethodName)) ∈ gws := gws_mem (kt_3 _ (List.mem_of_getElem? (i := 147) rfl)) rfl
theorem kw_628 : (Jvm.Cond.code ({ cls := "ClockedFlows", name := "runs", desc := "(I)I" } : Jvm.MethodName) prog_1_method_23_code (5 : Nat) (Option.some Jvm.ClassFile.FieldType.int)) ∈ gws := gws_mem (kt_3 _ (List.mem_of_getElem? (i := 148) rfl)) rfl
theorem kw_629 : (Jvm.Cond.constantLong "ClockedFlows" (206 : Nat) (6364136223846793005 : Int64)) ∈ gws := gws_mem (kt_3 _ (List.mem_of_getElem? (i := 149) rfl)) rfl
theorem kw_630 : (Jvm.Cond.constantLong "ClockedFlows" (208 : Nat) (1442695040888963407 : Int64)) ∈ gws := gws_mem (kt_3 _ (List.mem_of_getElem? (i := 150) rfl)) rfl
theorem kw_631 : (Jvm.Cond.methodLink "ClockedFlows" (210 : Nat) ({ cls := "ClockedFlows$Flow", name := "sumOfThere", desc := "()I" } : Jvm.MethodName)) ∈ gws := gws_mem (kt_3 _ (List.mem_of_getElem? (i := 151) rfl)) rfl
theorem kw_632 : (Jvm.Cond.instanceMethod ({ cls := "ClockedFlows$Flow", name := "sumOfThere", desc := "()I" } : Jvm.MethodName)) ∈ gws := gws_mem (kt_3 _ (List.mem_of_getElem? (i := 152) rfl)) rfl
theorem kw_633 : (Jvm.Cond.selects "ClockedFlows$Flow" ({ cls := "ClockedFlows$Flow", name := "sumOfThere", desc := "()I" } : Jvm.MethodName) ({ cls := "ClockedFlows$Flow", name := "sumOfThere", desc := "()I" } : Jvm.MethodName)) ∈ gws := gws_mem (kt_3 _ (List.mem_of_getElem? (i := 153) rfl)) rfl
theorem kw_634 : (Jvm.Cond.code ({ cls := "ClockedFlows$Flow", name := "sumOfThere", desc := "()I" } : Jvm.MethodName) prog_3_method_11_code (3 : Nat) (Option.some Jvm.ClassFile.FieldType.int)) ∈ gws := gws_mem (kt_3 _ (List.mem_of_getElem? (i := 154) rfl)) rfl
theorem kw_635 : (Jvm.Cond.methodLink "ClockedFlowsLaw" (112 : Nat) ({ cls := "ClockedFlows", name := "keep", desc := "(I)I" } : Jvm.MethodName)) ∈ gws := gws_mem (kt_3 _ (List.mem_of_getElem? (i := 155) rfl)) rfl
theorem kw_636 : (Jvm.Cond.instanceMethod ({ cls := "ClockedFlows", name := "keep", desc := "(I)I" } : Jvm.MethodName)) ∈ gws := gws_mem (kt_3 _ (List.mem_of_getElem? (i := 156) rfl)) rfl
theorem kw_637 : (Jvm.Cond.selects "ClockedFlows" ({ cls := "ClockedFlows", name := "keep", desc := "(I)I" } : Jvm.MethodName) ({ cls := "ClockedFlows", name := "keep", desc := "(I)I" } : Jvm.MethodName)) ∈ gws := gws_mem (kt_3 _ (List.mem_of_getElem? (i := 157) rfl)) rfl
theorem kw_638 : (Jvm.Cond.code ({ cls := "ClockedFlows", name := "keep", desc := "(I)I" } : Jvm.MethodName) prog_1_method_24_code (2 : Nat) (Option.some Jvm.ClassFile.FieldType.int)) ∈ gws := gws_mem (kt_3 _ (List.mem_of_getElem? (i := 158) rfl)) rfl
theorem kw_639 : (Jvm.Cond.methodLink "ClockedFlowsLaw" (116 : Nat) ({ cls := "ClockedFlows", name := "again", desc := "(I)I" } : Jvm.MethodName)) ∈ gws := gws_mem (kt_3 _ (List.mem_of_getElem? (i := 159) rfl)) rfl
theorem kw_640 : (Jvm.Cond.instanceMethod ({ cls := "ClockedFlows", name := "again", desc := "(I)I" } : Jvm.MethodName)) ∈ gws := gws_mem (kt_3 _ (List.mem_of_getElem? (i := 160) rfl)) rfl
theorem kw_641 : (Jvm.Cond.selects "ClockedFlows" ({ cls := "ClockedFlows", name := "again", desc := "(I)I" } : Jvm.MethodName) ({ cls := "ClockedFlows", name := "again", desc := "(I)I" } : Jvm.MethodName)) ∈ gws := gws_mem (kt_3 _ (List.mem_of_getElem? (i := 161) rfl)) rfl
theorem kw_642 : (Jvm.Cond.code ({ cls := "ClockedFlows", name := "again", desc := "(I)I" } : Jvm.MethodName) prog_1_method_25_code (2 : Nat) (Option.some Jvm.ClassFile.FieldType.int)) ∈ gws := gws_mem (kt_3 _ (List.mem_of_getElem? (i := 162) rfl)) rfl
theorem kw_643 : (Jvm.Cond.classLink "ClockedFlowsLaw" (10 : Nat) "ClockedFlowsModel") ∈ gws := gws_mem (kt_3 _ (List.mem_of_getElem? (i := 163) rfl)) rfl
theorem kw_644 : (Jvm.Cond.instantiable "ClockedFlowsModel" (28 : Nat)) ∈ gws := gws_mem (kt_3 _ (List.mem_of_getElem? (i := 164) rfl)) rfl
theorem kw_645 : (Jvm.Cond.methodLink "ClockedFlowsLaw" (12 : Nat) ({ cls := "ClockedFlowsModel", name := "<init>", desc := "()V" } : Jvm.MethodName)) ∈ gws := gws_mem (kt_3 _ (List.mem_of_getElem? (i := 165) rfl)) rfl
theorem kw_646 : (Jvm.Cond.instanceMethod ({ cls := "ClockedFlowsModel", name := "<init>", desc := "()V" } : Jvm.MethodName)) ∈ gws := gws_mem (kt_3 _ (List.mem_of_getElem? (i := 166) rfl)) rfl
theorem kw_647 : (Jvm.Cond.code ({ cls := "ClockedFlowsModel", name := "<init>", desc := "()V" } : Jvm.MethodName) prog_8_method_1_code (1 : Nat) (Option.none : Option Jvm.ClassFile.FieldType)) ∈ gws := gws_mem (kt_3 _ (List.mem_of_getElem? (i := 167) rfl)) rfl
theorem kw_648 : (Jvm.Cond.methodLink "ClockedFlowsModel" (1 : Nat) ({ cls := "java/lang/Object", name := "<init>", desc := "()V" } : Jvm.MethodName)) ∈ gws := gws_mem (kt_3 _ (List.mem_of_getElem? (i := 168) rfl)) rfl
theorem kw_649 : (Jvm.Cond.fieldLink "ClockedFlowsModel" (62 : Nat) "ClockedFlowsModel" "thrown" "I") ∈ gws := gws_mem (kt_3 _ (List.mem_of_getElem? (i := 169) rfl)) rfl
theorem kw_650 : (Jvm.Cond.fieldLink "ClockedFlowsModel" (7 : Nat) "ClockedFlowsModel" "text" "[I") ∈ gws := gws_mem (kt_3 _ (List.mem_of_getElem? (i := 170) rfl)) rfl
theorem kw_651 : (Jvm.Cond.fieldLink "ClockedFlowsModel" (76 : Nat) "ClockedFlowsModel" "textSize" "I") ∈ gws := gws_mem (kt_3 _ (List.mem_of_getElem? (i := 171) rfl)) rfl
theorem kw_652 : (Jvm.Cond.fieldLink "ClockedFlowsModel" (79 : Nat) "ClockedFlowsModel" "place" "I") ∈ gws := gws_mem (kt_3 _ (List.mem_of_getElem? (i := 172) rfl)) rfl
theorem kw_653 : (Jvm.Cond.fieldLink "ClockedFlowsModel" (13 : Nat) "ClockedFlowsModel" "readPage" "[I") ∈ gws := gws_mem (kt_3 _ (List.mem_of_getElem? (i := 173) rfl)) rfl
theorem kw_654 : (Jvm.Cond.fieldLink "ClockedFlowsModel" (16 : Nat) "ClockedFlowsModel" "page" "[I") ∈ gws := gws_mem (kt_3 _ (List.mem_of_getElem? (i := 174) rfl)) rfl
theorem kw_655 : (Jvm.Cond.fieldLink "ClockedFlowsModel" (19 : Nat) "ClockedFlowsModel" "trial" "[I") ∈ gws := gws_mem (kt_3 _ (List.mem_of_getElem? (i := 175) rfl)) rfl
theorem kw_656 : (Jvm.Cond.fieldLink "ClockedFlowsModel" (22 : Nat) "ClockedFlowsModel" "book" "[I") ∈ gws := gws_mem (kt_3 _ (List.mem_of_getElem? (i := 176) rfl)) rfl
theorem kw_657 : (Jvm.Cond.fieldLink "ClockedFlowsModel" (184 : Nat) "ClockedFlowsModel" "doings" "I") ∈ gws := gws_mem (kt_3 _ (List.mem_of_getElem? (i := 177) rfl)) rfl
theorem kw_658 : (Jvm.Cond.fieldLink "ClockedFlowsModel" (25 : Nat) "ClockedFlowsModel" "slots" "[I") ∈ gws := gws_mem (kt_3 _ (List.mem_of_getElem? (i := 178) rfl)) rfl
theorem kw_659 : (Jvm.Cond.fieldLink "ClockedFlowsModel" (28 : Nat) "ClockedFlowsModel" "isKept" "[Z") ∈ gws := gws_mem (kt_3 _ (List.mem_of_getElem? (i := 179) rfl)) rfl
theorem kw_660 : (Jvm.Cond.fieldLink "ClockedFlowsModel" (193 : Nat) "ClockedFlowsModel" "seen" "I") ∈ gws := gws_mem (kt_3 _ (List.mem_of_getElem? (i := 180) rfl)) rfl
theorem kw_661 : (Jvm.Cond.fieldLink "ClockedFlowsModel" (32 : Nat) "ClockedFlowsModel" "seenWhen" "[I") ∈ gws := gws_mem (kt_3 _ (List.mem_of_getElem? (i := 181) rfl)) rfl
theorem kw_662 : (Jvm.Cond.fieldLink "ClockedFlowsModel" (35 : Nat) "ClockedFlowsModel" "seenWho" "[I") ∈ gws := gws_mem (kt_3 _ (List.mem_of_getElem? (i := 182) rfl)) rfl
theorem kw_663 : (Jvm.Cond.fieldLink "ClockedFlowsModel" (38 : Nat) "ClockedFlowsModel" "seenWhat" "[I") ∈ gws := gws_mem (kt_3 _ (List.mem_of_getElem? (i := 183) rfl)) rfl
theorem kw_664 : (Jvm.Cond.fieldLink "ClockedFlowsModel" (41 : Nat) "ClockedFlowsModel" "seenIs" "[I") ∈ gws := gws_mem (kt_3 _ (List.mem_of_getElem? (i := 184) rfl)) rfl
theorem kw_665 : (Jvm.Cond.fieldLink "ClockedFlowsModel" (281 : Nat) "ClockedFlowsModel" "seed" "J") ∈ gws := gws_mem (kt_3 _ (List.mem_of_getElem? (i := 185) rfl)) rfl
theorem kw_666 : (Jvm.Cond.fieldLink "ClockedFlowsModel" (44 : Nat) "ClockedFlowsModel" "up" "[I") ∈ gws := gws_mem (kt_3 _ (List.mem_of_getElem? (i := 186) rfl)) rfl
theorem kw_667 : (Jvm.Cond.fieldLink "ClockedFlowsModel" (47 : Nat) "ClockedFlowsModel" "term" "[I") ∈ gws := gws_mem (kt_3 _ (List.mem_of_getElem? (i := 187) rfl)) rfl
theorem kw_668 : (Jvm.Cond.fieldLink "ClockedFlowsModel" (114 : Nat) "ClockedFlowsModel" "clash" "I") ∈ gws := gws_mem (kt_3 _ (List.mem_of_getElem? (i := 188) rfl)) rfl
theorem kw_669 : (Jvm.Cond.fieldLink "ClockedFlowsModel" (135 : Nat) "ClockedFlowsModel" "knot" "I") ∈ gws := gws_mem (kt_3 _ (List.mem_of_getElem? (i := 189) rfl)) rfl
theorem kw_670 : (Jvm.Cond.fieldLink "ClockedFlowsModel" (149 : Nat) "ClockedFlowsModel" "raw" "I") ∈ gws := gws_mem (kt_3 _ (List.mem_of_getElem? (i := 190) rfl)) rfl
theorem kw_671 : (Jvm.Cond.fieldLink "ClockedFlowsModel" (50 : Nat) "ClockedFlowsModel" "order" "[I") ∈ gws := gws_mem (kt_3 _ (List.mem_of_getElem? (i := 191) rfl)) rfl
theorem kw_672 : (Jvm.Cond.fieldLink "ClockedFlowsModel" (53 : Nat) "ClockedFlowsModel" "level" "[I") ∈ gws := gws_mem (kt_3 _ (List.mem_of_getElem? (i := 192) rfl)) rfl
theorem kw_673 : (Jvm.Cond.fieldLink "ClockedFlowsModel" (56 : Nat) "ClockedFlowsModel" "chain" "[I") ∈ gws := gws_mem (kt_3 _ (List.mem_of_getElem? (i := 193) rfl)) rfl
theorem kw_674 : (Jvm.Cond.fieldLink "ClockedFlowsModel" (59 : Nat) "ClockedFlowsModel" "states" "[I") ∈ gws := gws_mem (kt_3 _ (List.mem_of_getElem? (i := 194) rfl)) rfl
theorem kw_675 : (Jvm.Cond.fieldLink "ClockedFlowsModel" (256 : Nat) "ClockedFlowsModel" "inputMany" "I") ∈ gws := gws_mem (kt_3 _ (List.mem_of_getElem? (i := 195) rfl)) rfl
theorem kw_676 : (Jvm.Cond.fieldLink "ClockedFlowsModel" (259 : Nat) "ClockedFlowsModel" "inputFirst" "I") ∈ gws := gws_mem (kt_3 _ (List.mem_of_getElem? (i := 196) rfl)) rfl
theorem kw_677 : (Jvm.Cond.lays "ClockedFlowsModel" "ClockedFlowsModel" "thrown" "I") ∈ gws := gws_mem (kt_3 _ (List.mem_of_getElem? (i := 197) rfl)) rfl
theorem kw_679 : (Jvm.Cond.laysFinal "ClockedFlowsModel" "ClockedFlowsModel" "text" "[I") ∈ gws := gws_mem (kt_3 _ (List.mem_of_getElem? (i := 199) rfl)) rfl
theorem kw_681 : (Jvm.Cond.lays "ClockedFlowsModel" "ClockedFlowsModel" "textSize" "I") ∈ gws := gws_mem (kt_3 _ (List.mem_of_getElem? (i := 201) rfl)) rfl
theorem kw_683 : (Jvm.Cond.lays "ClockedFlowsModel" "ClockedFlowsModel" "place" "I") ∈ gws := gws_mem (kt_3 _ (List.mem_of_getElem? (i := 203) rfl)) rfl
theorem kw_685 : (Jvm.Cond.laysFinal "ClockedFlowsModel" "ClockedFlowsModel" "readPage" "[I") ∈ gws := gws_mem (kt_3 _ (List.mem_of_getElem? (i := 205) rfl)) rfl
theorem kw_687 : (Jvm.Cond.laysFinal "ClockedFlowsModel" "ClockedFlowsModel" "page" "[I") ∈ gws := gws_mem (kt_3 _ (List.mem_of_getElem? (i := 207) rfl)) rfl
theorem kw_689 : (Jvm.Cond.laysFinal "ClockedFlowsModel" "ClockedFlowsModel" "trial" "[I") ∈ gws := gws_mem (kt_3 _ (List.mem_of_getElem? (i := 209) rfl)) rfl
theorem kw_691 : (Jvm.Cond.laysFinal "ClockedFlowsModel" "ClockedFlowsModel" "book" "[I") ∈ gws := gws_mem (kt_3 _ (List.mem_of_getElem? (i := 211) rfl)) rfl
theorem kw_693 : (Jvm.Cond.lays "ClockedFlowsModel" "ClockedFlowsModel" "doings" "I") ∈ gws := gws_mem (kt_3 _ (List.mem_of_getElem? (i := 213) rfl)) rfl
theorem kw_695 : (Jvm.Cond.laysFinal "ClockedFlowsModel" "ClockedFlowsModel" "slots" "[I") ∈ gws := gws_mem (kt_3 _ (List.mem_of_getElem? (i := 215) rfl)) rfl
theorem kw_697 : (Jvm.Cond.laysFinal "ClockedFlowsModel" "ClockedFlowsModel" "isKept" "[Z") ∈ gws := gws_mem (kt_3 _ (List.mem_of_getElem? (i := 217) rfl)) rfl
theorem kw_699 : (Jvm.Cond.lays "ClockedFlowsModel" "ClockedFlowsModel" "seen" "I") ∈ gws := gws_mem (kt_3 _ (List.mem_of_getElem? (i := 219) rfl)) rfl
theorem kw_701 : (Jvm.Cond.laysFinal "ClockedFlowsModel" "ClockedFlowsModel" "seenWhen" "[I") ∈ gws := gws_mem (kt_3 _ (List.mem_of_getElem? (i := 221) rfl)) rfl
theorem kw_703 : (Jvm.Cond.laysFinal "ClockedFlowsModel" "ClockedFlowsModel" "seenWho" "[I") ∈ gws := gws_mem (kt_3 _ (List.mem_of_getElem? (i := 223) rfl)) rfl
theorem kw_705 : (Jvm.Cond.laysFinal "ClockedFlowsModel" "ClockedFlowsModel" "seenWhat" "[I") ∈ gws := gws_mem (kt_3 _ (List.mem_of_getElem? (i := 225) rfl)) rfl
theorem kw_707 : (Jvm.Cond.laysFinal "ClockedFlowsModel" "ClockedFlowsModel" "seenIs" "[I") ∈ gws := gws_mem (kt_3 _ (List.mem_of_getElem? (i := 227) rfl)) rfl
theorem kw_709 : (Jvm.Cond.lays "ClockedFlowsModel" "ClockedFlowsModel" "seed" "J") ∈ gws := gws_mem (kt_3 _ (List.mem_of_getElem? (i := 229) rfl)) rfl
theorem kw_711 : (Jvm.Cond.laysFinal "ClockedFlowsModel" "ClockedFlowsModel" "up" "[I") ∈ gws := gws_mem (kt_3 _ (List.mem_of_getElem? (i := 231) rfl)) rfl
theorem kw_713 : (Jvm.Cond.laysFinal "ClockedFlowsModel" "ClockedFlowsModel" "term" "[I") ∈ gws := gws_mem (kt_3 _ (List.mem_of_getElem? (i := 233) rfl)) rfl
theorem kw_715 : (Jvm.Cond.lays "ClockedFlowsModel" "ClockedFlowsModel" "clash" "I") ∈ gws := gws_mem (kt_3 _ (List.mem_of_getElem? (i := 235) rfl)) rfl
theorem kw_717 : (Jvm.Cond.lays "ClockedFlowsModel" "ClockedFlowsModel" "knot" "I") ∈ gws := gws_mem (kt_3 _ (List.mem_of_getElem? (i := 237) rfl)) rfl
theorem kw_719 : (Jvm.Cond.lays "ClockedFlowsModel" "ClockedFlowsModel" "raw" "I") ∈ gws := gws_mem (kt_3 _ (List.mem_of_getElem? (i := 239) rfl)) rfl
theorem kw_721 : (Jvm.Cond.laysFinal "ClockedFlowsModel" "ClockedFlowsModel" "order" "[I") ∈ gws := gws_mem (kt_4 _ (List.mem_of_getElem? (i := 1) rfl)) rfl
theorem kw_723 : (Jvm.Cond.laysFinal "ClockedFlowsModel" "ClockedFlowsModel" "level" "[I") ∈ gws := gws_mem (kt_4 _ (List.mem_of_getElem? (i := 3) rfl)) rfl
theorem kw_725 : (Jvm.Cond.laysFinal "ClockedFlowsModel" "ClockedFlowsModel" "chain" "[I") ∈ gws := gws_mem (kt_4 _ (List.mem_of_getElem? (i := 5) rfl)) rfl
theorem kw_727 : (Jvm.Cond.laysFinal "ClockedFlowsModel" "ClockedFlowsModel" "states" "[I") ∈ gws := gws_mem (kt_4 _ (List.mem_of_getElem? (i := 7) rfl)) rfl
theorem kw_729 : (Jvm.Cond.lays "ClockedFlowsModel" "ClockedFlowsModel" "inputMany" "I") ∈ gws := gws_mem (kt_4 _ (List.mem_of_getElem? (i := 9) rfl)) rfl
theorem kw_731 : (Jvm.Cond.lays "ClockedFlowsModel" "ClockedFlowsModel" "inputFirst" "I") ∈ gws := gws_mem (kt_4 _ (List.mem_of_getElem? (i := 11) rfl)) rfl
theorem kw_734 : (Jvm.Cond.methodLink "ClockedFlowsLaw" (17 : Nat) ({ cls := "ClockedFlowsModel", name := "write", desc := "(I)I" } : Jvm.MethodName)) ∈ gws := gws_mem (kt_4 _ (List.mem_of_getElem? (i := 14) rfl)) rfl
theorem kw_735 : (Jvm.Cond.instanceMethod ({ cls := "ClockedFlowsModel", name := "write", desc := "(I)I" } : Jvm.MethodName)) ∈ gws := gws_mem (kt_4 _ (List.mem_of_getElem? (i := 15) rfl)) rfl
theorem kw_736 : (Jvm.Cond.selects "ClockedFlowsModel" ({ cls := "ClockedFlowsModel", name := "write", desc := "(I)I" } : Jvm.MethodName) ({ cls := "ClockedFlowsModel", name := "write", desc := "(I)I" } : Jvm.MethodName)) ∈ gws := gws_mem (kt_4 _ (List.mem_of_getElem? (i := 16) rfl)) rfl
theorem kw_737 : (Jvm.Cond.code ({ cls := "ClockedFlowsModel", name := "write", desc := "(I)I" } : Jvm.MethodName) prog_8_method_11_code (2 : Nat) (Option.some Jvm.ClassFile.FieldType.int)) ∈ gws := gws_mem (kt_4 _ (List.mem_of_getElem? (i := 17) rfl)) rfl
theorem kw_738 : (Jvm.Cond.constantLong "ClockedFlowsModel" (74 : Nat) (255 : Int64)) ∈ gws := gws_mem (kt_4 _ (List.mem_of_getElem? (i := 18) rfl)) rfl
theorem kw_739 : (Jvm.Cond.methodLink "ClockedFlowsModel" (66 : Nat) ({ cls := "ClockedFlowsModel", name := "in", desc := "(JJJ)Z" } : Jvm.MethodName)) ∈ gws := gws_mem (kt_4 _ (List.mem_of_getElem? (i := 19) rfl)) rfl
theorem kw_740 : (Jvm.Cond.static ({ cls := "ClockedFlowsModel", name := "in", desc := "(JJJ)Z" } : Jvm.MethodName)) ∈ gws := gws_mem (kt_4 _ (List.mem_of_getElem? (i := 20) rfl)) rfl
theorem kw_741 : (Jvm.Cond.code ({ cls := "ClockedFlowsModel", name := "in", desc := "(JJJ)Z" } : Jvm.MethodName) prog_8_method_3_code (6 : Nat) (Option.some Jvm.ClassFile.FieldType.boolean)) ∈ gws := gws_mem (kt_4 _ (List.mem_of_getElem? (i := 21) rfl)) rfl
theorem kw_742 : (Jvm.Cond.methodLink "ClockedFlowsLaw" (22 : Nat) ({ cls := "ClockedFlowsModel", name := "wipe", desc := "()I" } : Jvm.MethodName)) ∈ gws := gws_mem (kt_4 _ (List.mem_of_getElem? (i := 22) rfl)) rfl
theorem kw_743 : (Jvm.Cond.instanceMethod ({ cls := "ClockedFlowsModel", name := "wipe", desc := "()I" } : Jvm.MethodName)) ∈ gws := gws_mem (kt_4 _ (List.mem_of_getElem? (i := 23) rfl)) rfl
theorem kw_744 : (Jvm.Cond.selects "ClockedFlowsModel" ({ cls := "ClockedFlowsModel", name := "wipe", desc := "()I" } : Jvm.MethodName) ({ cls := "ClockedFlowsModel", name := "wipe", desc := "()I" } : Jvm.MethodName)) ∈ gws := gws_mem (kt_4 _ (List.mem_of_getElem? (i := 24) rfl)) rfl
theorem kw_745 : (Jvm.Cond.code ({ cls := "ClockedFlowsModel", name := "wipe", desc := "()I" } : Jvm.MethodName) prog_8_method_12_code (2 : Nat) (Option.some Jvm.ClassFile.FieldType.int)) ∈ gws := gws_mem (kt_4 _ (List.mem_of_getElem? (i := 25) rfl)) rfl
theorem kw_746 : (Jvm.Cond.methodLink "ClockedFlowsLaw" (26 : Nat) ({ cls := "ClockedFlowsModel", name := "fault", desc := "()I" } : Jvm.MethodName)) ∈ gws := gws_mem (kt_4 _ (List.mem_of_getElem? (i := 26) rfl)) rfl
theorem kw_747 : (Jvm.Cond.instanceMethod ({ cls := "ClockedFlowsModel", name := "fault", desc := "()I" } : Jvm.MethodName)) ∈ gws := gws_mem (kt_4 _ (List.mem_of_getElem? (i := 27) rfl)) rfl
theorem kw_748 : (Jvm.Cond.selects "ClockedFlowsModel" ({ cls := "ClockedFlowsModel", name := "fault", desc := "()I" } : Jvm.MethodName) ({ cls := "ClockedFlowsModel", name := "fault", desc := "()I" } : Jvm.MethodName)) ∈ gws := gws_mem (kt_4 _ (List.mem_of_getElem? (i := 28) rfl)) rfl
theorem kw_749 : (Jvm.Cond.code ({ cls := "ClockedFlowsModel", name := "fault", desc := "()I" } : Jvm.MethodName) prog_8_method_16_code (1 : Nat) (Option.some Jvm.ClassFile.FieldType.int)) ∈ gws := gws_mem (kt_4 _ (List.mem_of_getElem? (i := 29) rfl)) rfl
theorem kw_750 : (Jvm.Cond.methodLink "ClockedFlowsModel" (98 : Nat) ({ cls := "ClockedFlowsModel", name := "readProgram", desc := "()I" } : Jvm.MethodName)) ∈ gws := gws_mem (kt_4 _ (List.mem_of_getElem? (i := 30) rfl)) rfl
theorem kw_752 : (Jvm.Cond.instanceMethod ({ cls := "ClockedFlowsModel", name := "readProgram", desc := "()I" } : Jvm.MethodName)) ∈ gws := gws_mem (kt_4 _ (List.mem_of_getElem? (i := 32) rfl)) rfl
theorem kw_753 : (Jvm.Cond.code ({ cls := "ClockedFlowsModel", name := "readProgram", desc := "()I" } : Jvm.MethodName) prog_8_method_15_code (3 : Nat) (Option.some Jvm.ClassFile.FieldType.int)) ∈ gws := gws_mem (kt_4 _ (List.mem_of_getElem? (i := 33) rfl)) rfl
theorem kw_754 : (Jvm.Cond.methodLink "ClockedFlowsModel" (82 : Nat) ({ cls := "ClockedFlowsModel", name := "letterAt", desc := "(I)I" } : Jvm.MethodName)) ∈ gws := gws_mem (kt_4 _ (List.mem_of_getElem? (i := 34) rfl)) rfl
theorem kw_756 : (Jvm.Cond.instanceMethod ({ cls := "ClockedFlowsModel", name := "letterAt", desc := "(I)I" } : Jvm.MethodName)) ∈ gws := gws_mem (kt_4 _ (List.mem_of_getElem? (i := 36) rfl)) rfl
theorem kw_757 : (Jvm.Cond.code ({ cls := "ClockedFlowsModel", name := "letterAt", desc := "(I)I" } : Jvm.MethodName) prog_8_method_13_code (2 : Nat) (Option.some Jvm.ClassFile.FieldType.int)) ∈ gws := gws_mem (kt_4 _ (List.mem_of_getElem? (i := 37) rfl)) rfl
theorem kw_758 : (Jvm.Cond.constantLong "ClockedFlowsModel" (92 : Nat) (8 : Int64)) ∈ gws := gws_mem (kt_4 _ (List.mem_of_getElem? (i := 38) rfl)) rfl
theorem kw_759 : (Jvm.Cond.methodLink "ClockedFlowsModel" (94 : Nat) ({ cls := "ClockedFlowsModel", name := "readEquation", desc := "(II)Z" } : Jvm.MethodName)) ∈ gws := gws_mem (kt_4 _ (List.mem_of_getElem? (i := 39) rfl)) rfl
theorem kw_761 : (Jvm.Cond.instanceMethod ({ cls := "ClockedFlowsModel", name := "readEquation", desc := "(II)Z" } : Jvm.MethodName)) ∈ gws := gws_mem (kt_4 _ (List.mem_of_getElem? (i := 41) rfl)) rfl
theorem kw_762 : (Jvm.Cond.code ({ cls := "ClockedFlowsModel", name := "readEquation", desc := "(II)Z" } : Jvm.MethodName) prog_8_method_14_code (6 : Nat) (Option.some Jvm.ClassFile.FieldType.boolean)) ∈ gws := gws_mem (kt_4 _ (List.mem_of_getElem? (i := 42) rfl)) rfl
theorem kw_763 : (Jvm.Cond.methodLink "ClockedFlowsModel" (85 : Nat) ({ cls := "ClockedFlowsModel", name := "kindOf", desc := "(I)I" } : Jvm.MethodName)) ∈ gws := gws_mem (kt_4 _ (List.mem_of_getElem? (i := 43) rfl)) rfl
theorem kw_764 : (Jvm.Cond.static ({ cls := "ClockedFlowsModel", name := "kindOf", desc := "(I)I" } : Jvm.MethodName)) ∈ gws := gws_mem (kt_4 _ (List.mem_of_getElem? (i := 44) rfl)) rfl
theorem kw_765 : (Jvm.Cond.code ({ cls := "ClockedFlowsModel", name := "kindOf", desc := "(I)I" } : Jvm.MethodName) prog_8_method_8_code (1 : Nat) (Option.some Jvm.ClassFile.FieldType.int)) ∈ gws := gws_mem (kt_4 _ (List.mem_of_getElem? (i := 45) rfl)) rfl
theorem kw_766 : (Jvm.Cond.methodLink "ClockedFlowsModel" (70 : Nat) ({ cls := "ClockedFlowsModel", name := "figures", desc := "(I)I" } : Jvm.MethodName)) ∈ gws := gws_mem (kt_4 _ (List.mem_of_getElem? (i := 46) rfl)) rfl
theorem kw_767 : (Jvm.Cond.static ({ cls := "ClockedFlowsModel", name := "figures", desc := "(I)I" } : Jvm.MethodName)) ∈ gws := gws_mem (kt_4 _ (List.mem_of_getElem? (i := 47) rfl)) rfl
theorem kw_768 : (Jvm.Cond.code ({ cls := "ClockedFlowsModel", name := "figures", desc := "(I)I" } : Jvm.MethodName) prog_8_method_7_code (1 : Nat) (Option.some Jvm.ClassFile.FieldType.int)) ∈ gws := gws_mem (kt_4 _ (List.mem_of_getElem? (i := 48) rfl)) rfl
theorem kw_769 : (Jvm.Cond.methodLink "ClockedFlowsModel" (88 : Nat) ({ cls := "ClockedFlowsModel", name := "most", desc := "(III)I" } : Jvm.MethodName)) ∈ gws := gws_mem (kt_4 _ (List.mem_of_getElem? (i := 49) rfl)) rfl
theorem kw_770 : (Jvm.Cond.static ({ cls := "ClockedFlowsModel", name := "most", desc := "(III)I" } : Jvm.MethodName)) ∈ gws := gws_mem (kt_4 _ (List.mem_of_getElem? (i := 50) rfl)) rfl
theorem kw_771 : (Jvm.Cond.code ({ cls := "ClockedFlowsModel", name := "most", desc := "(III)I" } : Jvm.MethodName) prog_8_method_9_code (3 : Nat) (Option.some Jvm.ClassFile.FieldType.int)) ∈ gws := gws_mem (kt_4 _ (List.mem_of_getElem? (i := 51) rfl)) rfl
theorem kw_772 : (Jvm.Cond.methodLink "ClockedFlowsLaw" (30 : Nat) ({ cls := "ClockedFlowsModel", name := "program", desc := "()I" } : Jvm.MethodName)) ∈ gws := gws_mem (kt_4 _ (List.mem_of_getElem? (i := 52) rfl)) rfl
theorem kw_773 : (Jvm.Cond.instanceMethod ({ cls := "ClockedFlowsModel", name := "program", desc := "()I" } : Jvm.MethodName)) ∈ gws := gws_mem (kt_4 _ (List.mem_of_getElem? (i := 53) rfl)) rfl
theorem kw_774 : (Jvm.Cond.selects "ClockedFlowsModel" ({ cls := "ClockedFlowsModel", name := "program", desc := "()I" } : Jvm.MethodName) ({ cls := "ClockedFlowsModel", name := "program", desc := "()I" } : Jvm.MethodName)) ∈ gws := gws_mem (kt_4 _ (List.mem_of_getElem? (i := 54) rfl)) rfl
theorem kw_775 : (Jvm.Cond.code ({ cls := "ClockedFlowsModel", name := "program", desc := "()I" } : Jvm.MethodName) prog_8_method_38_code (2 : Nat) (Option.some Jvm.ClassFile.FieldType.int)) ∈ gws := gws_mem (kt_4 _ (List.mem_of_getElem? (i := 55) rfl)) rfl
theorem kw_776 : (Jvm.Cond.methodLink "ClockedFlowsModel" (181 : Nat) ({ cls := "ClockedFlowsModel", name := "goAfresh", desc := "([I)V" } : Jvm.MethodName)) ∈ gws := gws_mem (kt_4 _ (List.mem_of_getElem? (i := 56) rfl)) rfl
theorem kw_777 : (Jvm.Cond.static ({ cls := "ClockedFlowsModel", name := "goAfresh", desc := "([I)V" } : Jvm.MethodName)) ∈ gws := gws_mem (kt_4 _ (List.mem_of_getElem? (i := 57) rfl)) rfl
theorem kw_778 : (Jvm.Cond.code ({ cls := "ClockedFlowsModel", name := "goAfresh", desc := "([I)V" } : Jvm.MethodName) prog_8_method_32_code (3 : Nat) (Option.none : Option Jvm.ClassFile.FieldType)) ∈ gws := gws_mem (kt_4 _ (List.mem_of_getElem? (i := 58) rfl)) rfl
theorem kw_779 : (Jvm.Cond.methodLink "ClockedFlowsModel" (187 : Nat) ({ cls := "ClockedFlowsModel", name := "soundNow", desc := "()Z" } : Jvm.MethodName)) ∈ gws := gws_mem (kt_4 _ (List.mem_of_getElem? (i := 59) rfl)) rfl
theorem kw_781 : (Jvm.Cond.instanceMethod ({ cls := "ClockedFlowsModel", name := "soundNow", desc := "()Z" } : Jvm.MethodName)) ∈ gws := gws_mem (kt_4 _ (List.mem_of_getElem? (i := 61) rfl)) rfl
theorem kw_782 : (Jvm.Cond.code ({ cls := "ClockedFlowsModel", name := "soundNow", desc := "()Z" } : Jvm.MethodName) prog_8_method_31_code (1 : Nat) (Option.some Jvm.ClassFile.FieldType.boolean)) ∈ gws := gws_mem (kt_4 _ (List.mem_of_getElem? (i := 62) rfl)) rfl
theorem kw_783 : (Jvm.Cond.methodLink "ClockedFlowsModel" (161 : Nat) ({ cls := "ClockedFlowsModel", name := "find", desc := "([I)V" } : Jvm.MethodName)) ∈ gws := gws_mem (kt_4 _ (List.mem_of_getElem? (i := 63) rfl)) rfl
theorem kw_785 : (Jvm.Cond.instanceMethod ({ cls := "ClockedFlowsModel", name := "find", desc := "([I)V" } : Jvm.MethodName)) ∈ gws := gws_mem (kt_4 _ (List.mem_of_getElem? (i := 65) rfl)) rfl
theorem kw_786 : (Jvm.Cond.code ({ cls := "ClockedFlowsModel", name := "find", desc := "([I)V" } : Jvm.MethodName) prog_8_method_29_code (3 : Nat) (Option.none : Option Jvm.ClassFile.FieldType)) ∈ gws := gws_mem (kt_4 _ (List.mem_of_getElem? (i := 66) rfl)) rfl
theorem kw_787 : (Jvm.Cond.methodLink "ClockedFlowsModel" (145 : Nat) ({ cls := "ClockedFlowsModel", name := "findClocks", desc := "([I)V" } : Jvm.MethodName)) ∈ gws := gws_mem (kt_4 _ (List.mem_of_getElem? (i := 67) rfl)) rfl
theorem kw_789 : (Jvm.Cond.instanceMethod ({ cls := "ClockedFlowsModel", name := "findClocks", desc := "([I)V" } : Jvm.MethodName)) ∈ gws := gws_mem (kt_4 _ (List.mem_of_getElem? (i := 69) rfl)) rfl
theorem kw_790 : (Jvm.Cond.code ({ cls := "ClockedFlowsModel", name := "findClocks", desc := "([I)V" } : Jvm.MethodName) prog_8_method_22_code (3 : Nat) (Option.none : Option Jvm.ClassFile.FieldType)) ∈ gws := gws_mem (kt_4 _ (List.mem_of_getElem? (i := 70) rfl)) rfl
theorem kw_791 : (Jvm.Cond.methodLink "ClockedFlowsModel" (117 : Nat) ({ cls := "ClockedFlowsModel", name := "asks", desc := "([II)Z" } : Jvm.MethodName)) ∈ gws := gws_mem (kt_4 _ (List.mem_of_getElem? (i := 71) rfl)) rfl
theorem kw_793 : (Jvm.Cond.instanceMethod ({ cls := "ClockedFlowsModel", name := "asks", desc := "([II)Z" } : Jvm.MethodName)) ∈ gws := gws_mem (kt_4 _ (List.mem_of_getElem? (i := 73) rfl)) rfl
theorem kw_794 : (Jvm.Cond.code ({ cls := "ClockedFlowsModel", name := "asks", desc := "([II)Z" } : Jvm.MethodName) prog_8_method_21_code (7 : Nat) (Option.some Jvm.ClassFile.FieldType.boolean)) ∈ gws := gws_mem (kt_4 _ (List.mem_of_getElem? (i := 74) rfl)) rfl
theorem kw_795 : (Jvm.Cond.methodLink "ClockedFlowsModel" (108 : Nat) ({ cls := "ClockedFlowsModel", name := "settle", desc := "(II)Z" } : Jvm.MethodName)) ∈ gws := gws_mem (kt_4 _ (List.mem_of_getElem? (i := 75) rfl)) rfl
theorem kw_797 : (Jvm.Cond.instanceMethod ({ cls := "ClockedFlowsModel", name := "settle", desc := "(II)Z" } : Jvm.MethodName)) ∈ gws := gws_mem (kt_4 _ (List.mem_of_getElem? (i := 77) rfl)) rfl
theorem kw_798 : (Jvm.Cond.code ({ cls := "ClockedFlowsModel", name := "settle", desc := "(II)Z" } : Jvm.MethodName) prog_8_method_19_code (4 : Nat) (Option.some Jvm.ClassFile.FieldType.boolean)) ∈ gws := gws_mem (kt_4 _ (List.mem_of_getElem? (i := 78) rfl)) rfl
theorem kw_799 : (Jvm.Cond.methodLink "ClockedFlowsModel" (102 : Nat) ({ cls := "ClockedFlowsModel", name := "root", desc := "(I)I" } : Jvm.MethodName)) ∈ gws := gws_mem (kt_4 _ (List.mem_of_getElem? (i := 79) rfl)) rfl
theorem kw_801 : (Jvm.Cond.instanceMethod ({ cls := "ClockedFlowsModel", name := "root", desc := "(I)I" } : Jvm.MethodName)) ∈ gws := gws_mem (kt_4 _ (List.mem_of_getElem? (i := 81) rfl)) rfl
theorem kw_802 : (Jvm.Cond.code ({ cls := "ClockedFlowsModel", name := "root", desc := "(I)I" } : Jvm.MethodName) prog_8_method_17_code (3 : Nat) (Option.some Jvm.ClassFile.FieldType.int)) ∈ gws := gws_mem (kt_4 _ (List.mem_of_getElem? (i := 82) rfl)) rfl
theorem kw_803 : (Jvm.Cond.methodLink "ClockedFlowsModel" (105 : Nat) ({ cls := "ClockedFlowsModel", name := "isMet", desc := "(II)Z" } : Jvm.MethodName)) ∈ gws := gws_mem (kt_4 _ (List.mem_of_getElem? (i := 83) rfl)) rfl
theorem kw_805 : (Jvm.Cond.instanceMethod ({ cls := "ClockedFlowsModel", name := "isMet", desc := "(II)Z" } : Jvm.MethodName)) ∈ gws := gws_mem (kt_4 _ (List.mem_of_getElem? (i := 85) rfl)) rfl
theorem kw_806 : (Jvm.Cond.code ({ cls := "ClockedFlowsModel", name := "isMet", desc := "(II)Z" } : Jvm.MethodName) prog_8_method_18_code (4 : Nat) (Option.some Jvm.ClassFile.FieldType.boolean)) ∈ gws := gws_mem (kt_4 _ (List.mem_of_getElem? (i := 86) rfl)) rfl
theorem kw_807 : (Jvm.Cond.methodLink "ClockedFlowsModel" (111 : Nat) ({ cls := "ClockedFlowsModel", name := "like", desc := "(II)Z" } : Jvm.MethodName)) ∈ gws := gws_mem (kt_4 _ (List.mem_of_getElem? (i := 87) rfl)) rfl
theorem kw_809 : (Jvm.Cond.instanceMethod ({ cls := "ClockedFlowsModel", name := "like", desc := "(II)Z" } : Jvm.MethodName)) ∈ gws := gws_mem (kt_4 _ (List.mem_of_getElem? (i := 89) rfl)) rfl
theorem kw_810 : (Jvm.Cond.code ({ cls := "ClockedFlowsModel", name := "like", desc := "(II)Z" } : Jvm.MethodName) prog_8_method_20_code (7 : Nat) (Option.some Jvm.ClassFile.FieldType.boolean)) ∈ gws := gws_mem (kt_4 _ (List.mem_of_getElem? (i := 90) rfl)) rfl
theorem kw_811 : (Jvm.Cond.methodLink "ClockedFlowsModel" (152 : Nat) ({ cls := "ClockedFlowsModel", name := "findOrder", desc := "([I)V" } : Jvm.MethodName)) ∈ gws := gws_mem (kt_4 _ (List.mem_of_getElem? (i := 91) rfl)) rfl
theorem kw_813 : (Jvm.Cond.instanceMethod ({ cls := "ClockedFlowsModel", name := "findOrder", desc := "([I)V" } : Jvm.MethodName)) ∈ gws := gws_mem (kt_4 _ (List.mem_of_getElem? (i := 93) rfl)) rfl
theorem kw_814 : (Jvm.Cond.code ({ cls := "ClockedFlowsModel", name := "findOrder", desc := "([I)V" } : Jvm.MethodName) prog_8_method_25_code (7 : Nat) (Option.none : Option Jvm.ClassFile.FieldType)) ∈ gws := gws_mem (kt_4 _ (List.mem_of_getElem? (i := 94) rfl)) rfl
theorem kw_815 : (Jvm.Cond.methodLink "ClockedFlowsModel" (128 : Nat) ({ cls := "ClockedFlowsModel", name := "has", desc := "(II)Z" } : Jvm.MethodName)) ∈ gws := gws_mem (kt_4 _ (List.mem_of_getElem? (i := 95) rfl)) rfl
theorem kw_816 : (Jvm.Cond.static ({ cls := "ClockedFlowsModel", name := "has", desc := "(II)Z" } : Jvm.MethodName)) ∈ gws := gws_mem (kt_4 _ (List.mem_of_getElem? (i := 96) rfl)) rfl
theorem kw_817 : (Jvm.Cond.code ({ cls := "ClockedFlowsModel", name := "has", desc := "(II)Z" } : Jvm.MethodName) prog_8_method_4_code (2 : Nat) (Option.some Jvm.ClassFile.FieldType.boolean)) ∈ gws := gws_mem (kt_4 _ (List.mem_of_getElem? (i := 97) rfl)) rfl
theorem kw_818 : (Jvm.Cond.methodLink "ClockedFlowsModel" (131 : Nat) ({ cls := "ClockedFlowsModel", name := "waits", desc := "([II)I" } : Jvm.MethodName)) ∈ gws := gws_mem (kt_4 _ (List.mem_of_getElem? (i := 98) rfl)) rfl
theorem kw_820 : (Jvm.Cond.instanceMethod ({ cls := "ClockedFlowsModel", name := "waits", desc := "([II)I" } : Jvm.MethodName)) ∈ gws := gws_mem (kt_4 _ (List.mem_of_getElem? (i := 100) rfl)) rfl
theorem kw_821 : (Jvm.Cond.code ({ cls := "ClockedFlowsModel", name := "waits", desc := "([II)I" } : Jvm.MethodName) prog_8_method_24_code (7 : Nat) (Option.some Jvm.ClassFile.FieldType.int)) ∈ gws := gws_mem (kt_4 _ (List.mem_of_getElem? (i := 101) rfl)) rfl
theorem kw_822 : (Jvm.Cond.methodLink "ClockedFlowsModel" (121 : Nat) ({ cls := "ClockedFlowsModel", name := "streamOf", desc := "([III)I" } : Jvm.MethodName)) ∈ gws := gws_mem (kt_4 _ (List.mem_of_getElem? (i := 102) rfl)) rfl
theorem kw_823 : (Jvm.Cond.static ({ cls := "ClockedFlowsModel", name := "streamOf", desc := "([III)I" } : Jvm.MethodName)) ∈ gws := gws_mem (kt_4 _ (List.mem_of_getElem? (i := 103) rfl)) rfl
theorem kw_824 : (Jvm.Cond.code ({ cls := "ClockedFlowsModel", name := "streamOf", desc := "([III)I" } : Jvm.MethodName) prog_8_method_10_code (5 : Nat) (Option.some Jvm.ClassFile.FieldType.int)) ∈ gws := gws_mem (kt_4 _ (List.mem_of_getElem? (i := 104) rfl)) rfl
theorem kw_825 : (Jvm.Cond.methodLink "ClockedFlowsModel" (125 : Nat) ({ cls := "ClockedFlowsModel", name := "clocks", desc := "(I)I" } : Jvm.MethodName)) ∈ gws := gws_mem (kt_4 _ (List.mem_of_getElem? (i := 105) rfl)) rfl
theorem kw_827 : (Jvm.Cond.instanceMethod ({ cls := "ClockedFlowsModel", name := "clocks", desc := "(I)I" } : Jvm.MethodName)) ∈ gws := gws_mem (kt_4 _ (List.mem_of_getElem? (i := 107) rfl)) rfl
theorem kw_828 : (Jvm.Cond.code ({ cls := "ClockedFlowsModel", name := "clocks", desc := "(I)I" } : Jvm.MethodName) prog_8_method_23_code (4 : Nat) (Option.some Jvm.ClassFile.FieldType.int)) ∈ gws := gws_mem (kt_4 _ (List.mem_of_getElem? (i := 108) rfl)) rfl
theorem kw_829 : (Jvm.Cond.methodLink "ClockedFlowsModel" (155 : Nat) ({ cls := "ClockedFlowsModel", name := "findLevels", desc := "([I)V" } : Jvm.MethodName)) ∈ gws := gws_mem (kt_4 _ (List.mem_of_getElem? (i := 109) rfl)) rfl
theorem kw_831 : (Jvm.Cond.instanceMethod ({ cls := "ClockedFlowsModel", name := "findLevels", desc := "([I)V" } : Jvm.MethodName)) ∈ gws := gws_mem (kt_4 _ (List.mem_of_getElem? (i := 111) rfl)) rfl
theorem kw_832 : (Jvm.Cond.code ({ cls := "ClockedFlowsModel", name := "findLevels", desc := "([I)V" } : Jvm.MethodName) prog_8_method_27_code (4 : Nat) (Option.none : Option Jvm.ClassFile.FieldType)) ∈ gws := gws_mem (kt_4 _ (List.mem_of_getElem? (i := 112) rfl)) rfl
theorem kw_833 : (Jvm.Cond.methodLink "ClockedFlowsModel" (142 : Nat) ({ cls := "ClockedFlowsModel", name := "isOne", desc := "([II)Z" } : Jvm.MethodName)) ∈ gws := gws_mem (kt_4 _ (List.mem_of_getElem? (i := 113) rfl)) rfl
theorem kw_835 : (Jvm.Cond.instanceMethod ({ cls := "ClockedFlowsModel", name := "isOne", desc := "([II)Z" } : Jvm.MethodName)) ∈ gws := gws_mem (kt_4 _ (List.mem_of_getElem? (i := 115) rfl)) rfl
theorem kw_836 : (Jvm.Cond.code ({ cls := "ClockedFlowsModel", name := "isOne", desc := "([II)Z" } : Jvm.MethodName) prog_8_method_26_code (8 : Nat) (Option.some Jvm.ClassFile.FieldType.boolean)) ∈ gws := gws_mem (kt_4 _ (List.mem_of_getElem? (i := 116) rfl)) rfl
theorem kw_837 : (Jvm.Cond.constantLong "ClockedFlowsModel" (138 : Nat) (2 : Int64)) ∈ gws := gws_mem (kt_4 _ (List.mem_of_getElem? (i := 117) rfl)) rfl
theorem kw_838 : (Jvm.Cond.constantLong "ClockedFlowsModel" (140 : Nat) (5 : Int64)) ∈ gws := gws_mem (kt_4 _ (List.mem_of_getElem? (i := 118) rfl)) rfl
theorem kw_839 : (Jvm.Cond.methodLink "ClockedFlowsModel" (158 : Nat) ({ cls := "ClockedFlowsModel", name := "isRaw", desc := "([II)Z" } : Jvm.MethodName)) ∈ gws := gws_mem (kt_4 _ (List.mem_of_getElem? (i := 119) rfl)) rfl
theorem kw_841 : (Jvm.Cond.instanceMethod ({ cls := "ClockedFlowsModel", name := "isRaw", desc := "([II)Z" } : Jvm.MethodName)) ∈ gws := gws_mem (kt_4 _ (List.mem_of_getElem? (i := 121) rfl)) rfl
theorem kw_842 : (Jvm.Cond.code ({ cls := "ClockedFlowsModel", name := "isRaw", desc := "([II)Z" } : Jvm.MethodName) prog_8_method_28_code (8 : Nat) (Option.some Jvm.ClassFile.FieldType.boolean)) ∈ gws := gws_mem (kt_4 _ (List.mem_of_getElem? (i := 122) rfl)) rfl
theorem kw_843 : (Jvm.Cond.methodLink "ClockedFlowsModel" (164 : Nat) ({ cls := "ClockedFlowsModel", name := "isSound", desc := "()Z" } : Jvm.MethodName)) ∈ gws := gws_mem (kt_4 _ (List.mem_of_getElem? (i := 123) rfl)) rfl
theorem kw_845 : (Jvm.Cond.instanceMethod ({ cls := "ClockedFlowsModel", name := "isSound", desc := "()Z" } : Jvm.MethodName)) ∈ gws := gws_mem (kt_4 _ (List.mem_of_getElem? (i := 125) rfl)) rfl
theorem kw_846 : (Jvm.Cond.code ({ cls := "ClockedFlowsModel", name := "isSound", desc := "()Z" } : Jvm.MethodName) prog_8_method_30_code (1 : Nat) (Option.some Jvm.ClassFile.FieldType.boolean)) ∈ gws := gws_mem (kt_4 _ (List.mem_of_getElem? (i := 126) rfl)) rfl
theorem kw_847 : (Jvm.Cond.methodLink "ClockedFlowsLaw" (34 : Nat) ({ cls := "ClockedFlowsModel", name := "about", desc := "(I)I" } : Jvm.MethodName)) ∈ gws := gws_mem (kt_4 _ (List.mem_of_getElem? (i := 127) rfl)) rfl
theorem kw_848 : (Jvm.Cond.instanceMethod ({ cls := "ClockedFlowsModel", name := "about", desc := "(I)I" } : Jvm.MethodName)) ∈ gws := gws_mem (kt_4 _ (List.mem_of_getElem? (i := 128) rfl)) rfl
theorem kw_849 : (Jvm.Cond.selects "ClockedFlowsModel" ({ cls := "ClockedFlowsModel", name := "about", desc := "(I)I" } : Jvm.MethodName) ({ cls := "ClockedFlowsModel", name := "about", desc := "(I)I" } : Jvm.MethodName)) ∈ gws := gws_mem (kt_4 _ (List.mem_of_getElem? (i := 129) rfl)) rfl
theorem kw_850 : (Jvm.Cond.code ({ cls := "ClockedFlowsModel", name := "about", desc := "(I)I" } : Jvm.MethodName) prog_8_method_40_code (2 : Nat) (Option.some Jvm.ClassFile.FieldType.int)) ∈ gws := gws_mem (kt_4 _ (List.mem_of_getElem? (i := 130) rfl)) rfl
theorem kw_851 : (Jvm.Cond.methodLink "ClockedFlowsModel" (190 : Nat) ({ cls := "ClockedFlowsModel", name := "there", desc := "()I" } : Jvm.MethodName)) ∈ gws := gws_mem (kt_4 _ (List.mem_of_getElem? (i := 131) rfl)) rfl
theorem kw_853 : (Jvm.Cond.instanceMethod ({ cls := "ClockedFlowsModel", name := "there", desc := "()I" } : Jvm.MethodName)) ∈ gws := gws_mem (kt_4 _ (List.mem_of_getElem? (i := 133) rfl)) rfl
theorem kw_854 : (Jvm.Cond.code ({ cls := "ClockedFlowsModel", name := "there", desc := "()I" } : Jvm.MethodName) prog_8_method_39_code (3 : Nat) (Option.some Jvm.ClassFile.FieldType.int)) ∈ gws := gws_mem (kt_4 _ (List.mem_of_getElem? (i := 134) rfl)) rfl
theorem kw_855 : (Jvm.Cond.methodLink "ClockedFlowsLaw" (39 : Nat) ({ cls := "ClockedFlowsModel", name := "stream", desc := "(II)I" } : Jvm.MethodName)) ∈ gws := gws_mem (kt_4 _ (List.mem_of_getElem? (i := 135) rfl)) rfl
theorem kw_856 : (Jvm.Cond.instanceMethod ({ cls := "ClockedFlowsModel", name := "stream", desc := "(II)I" } : Jvm.MethodName)) ∈ gws := gws_mem (kt_4 _ (List.mem_of_getElem? (i := 136) rfl)) rfl
theorem kw_857 : (Jvm.Cond.selects "ClockedFlowsModel" ({ cls := "ClockedFlowsModel", name := "stream", desc := "(II)I" } : Jvm.MethodName) ({ cls := "ClockedFlowsModel", name := "stream", desc := "(II)I" } : Jvm.MethodName)) ∈ gws := gws_mem (kt_4 _ (List.mem_of_getElem? (i := 137) rfl)) rfl
theorem kw_858 : (Jvm.Cond.code ({ cls := "ClockedFlowsModel", name := "stream", desc := "(II)I" } : Jvm.MethodName) prog_8_method_41_code (3 : Nat) (Option.some Jvm.ClassFile.FieldType.int)) ∈ gws := gws_mem (kt_4 _ (List.mem_of_getElem? (i := 138) rfl)) rfl
theorem kw_859 : (Jvm.Cond.methodLink "ClockedFlowsModel" (196 : Nat) ({ cls := "ClockedFlowsModel", name := "noStream", desc := "(I)Z" } : Jvm.MethodName)) ∈ gws := gws_mem (kt_4 _ (List.mem_of_getElem? (i := 139) rfl)) rfl
theorem kw_861 : (Jvm.Cond.instanceMethod ({ cls := "ClockedFlowsModel", name := "noStream", desc := "(I)Z" } : Jvm.MethodName)) ∈ gws := gws_mem (kt_4 _ (List.mem_of_getElem? (i := 141) rfl)) rfl
theorem kw_862 : (Jvm.Cond.code ({ cls := "ClockedFlowsModel", name := "noStream", desc := "(I)Z" } : Jvm.MethodName) prog_8_method_6_code (2 : Nat) (Option.some Jvm.ClassFile.FieldType.boolean)) ∈ gws := gws_mem (kt_4 _ (List.mem_of_getElem? (i := 142) rfl)) rfl
theorem kw_863 : (Jvm.Cond.methodLink "ClockedFlowsLaw" (43 : Nat) ({ cls := "ClockedFlowsModel", name := "figure", desc := "(II)I" } : Jvm.MethodName)) ∈ gws := gws_mem (kt_4 _ (List.mem_of_getElem? (i := 143) rfl)) rfl
theorem kw_864 : (Jvm.Cond.instanceMethod ({ cls := "ClockedFlowsModel", name := "figure", desc := "(II)I" } : Jvm.MethodName)) ∈ gws := gws_mem (kt_4 _ (List.mem_of_getElem? (i := 144) rfl)) rfl
theorem kw_865 : (Jvm.Cond.selects "ClockedFlowsModel" ({ cls := "ClockedFlowsModel", name := "figure", desc := "(II)I" } : Jvm.MethodName) ({ cls := "ClockedFlowsModel", name := "figure", desc := "(II)I" } : Jvm.MethodName)) ∈ gws := gws_mem (kt_4 _ (List.mem_of_getElem? (i := 145) rfl)) rfl
theorem kw_866 : (Jvm.Cond.code ({ cls := "ClockedFlowsModel", name := "figure", desc := "(II)I" } : Jvm.MethodName) prog_8_method_42_code (3 : Nat) (Option.some Jvm.ClassFile.FieldType.int)) ∈ gws := gws_mem (kt_4 _ (List.mem_of_getElem? (i := 146) rfl)) rfl
theorem kw_867 : (Jvm.Cond.methodLink "ClockedFlowsLaw" (47 : Nat) ({ cls := "ClockedFlowsModel", name := "clock", desc := "(II)I" } : Jvm.MethodName)) ∈ gws := gws_mem (kt_4 _ (List.mem_of_getElem? (i := 147) rfl)) rfl
theorem kw_868 : (Jvm.Cond.instanceMethod ({ cls := "ClockedFlowsModel", name := "clock", desc := "(II)I" } : Jvm.MethodName)) ∈ gws := gws_mem (kt_4 _ (List.mem_of_getElem? (i := 148) rfl)) rfl
theorem kw_869 : (Jvm.Cond.selects "ClockedFlowsModel" ({ cls := "ClockedFlowsModel", name := "clock", desc := "(II)I" } : Jvm.MethodName) ({ cls := "ClockedFlowsModel", name := "clock", desc := "(II)I" } : Jvm.MethodName)) ∈ gws := gws_mem (kt_4 _ (List.mem_of_getElem? (i := 149) rfl)) rfl
theorem kw_870 : (Jvm.Cond.code ({ cls := "ClockedFlowsModel", name := "clock", desc := "(II)I" } : Jvm.MethodName) prog_8_method_43_code (4 : Nat) (Option.some Jvm.ClassFile.FieldType.int)) ∈ gws := gws_mem (kt_4 _ (List.mem_of_getElem? (i := 150) rfl)) rfl
theorem kw_871 : (Jvm.Cond.methodLink "ClockedFlowsLaw" (51 : Nat) ({ cls := "ClockedFlowsModel", name := "tick", desc := "(II)I" } : Jvm.MethodName)) ∈ gws := gws_mem (kt_4 _ (List.mem_of_getElem? (i := 151) rfl)) rfl
theorem kw_872 : (Jvm.Cond.instanceMethod ({ cls := "ClockedFlowsModel", name := "tick", desc := "(II)I" } : Jvm.MethodName)) ∈ gws := gws_mem (kt_4 _ (List.mem_of_getElem? (i := 152) rfl)) rfl
theorem kw_873 : (Jvm.Cond.selects "ClockedFlowsModel" ({ cls := "ClockedFlowsModel", name := "tick", desc := "(II)I" } : Jvm.MethodName) ({ cls := "ClockedFlowsModel", name := "tick", desc := "(II)I" } : Jvm.MethodName)) ∈ gws := gws_mem (kt_4 _ (List.mem_of_getElem? (i := 153) rfl)) rfl
theorem kw_874 : (Jvm.Cond.code ({ cls := "ClockedFlowsModel", name := "tick", desc := "(II)I" } : Jvm.MethodName) prog_8_method_46_code (3 : Nat) (Option.some Jvm.ClassFile.FieldType.int)) ∈ gws := gws_mem (kt_4 _ (List.mem_of_getElem? (i := 154) rfl)) rfl
theorem kw_875 : (Jvm.Cond.methodLink "ClockedFlowsModel" (202 : Nat) ({ cls := "ClockedFlowsModel", name := "areInputs", desc := "(II)Z" } : Jvm.MethodName)) ∈ gws := gws_mem (kt_4 _ (List.mem_of_getElem? (i := 155) rfl)) rfl
theorem kw_876 : (Jvm.Cond.static ({ cls := "ClockedFlowsModel", name := "areInputs", desc := "(II)Z" } : Jvm.MethodName)) ∈ gws := gws_mem (kt_4 _ (List.mem_of_getElem? (i := 156) rfl)) rfl
theorem kw_877 : (Jvm.Cond.code ({ cls := "ClockedFlowsModel", name := "areInputs", desc := "(II)Z" } : Jvm.MethodName) prog_8_method_45_code (2 : Nat) (Option.some Jvm.ClassFile.FieldType.boolean)) ∈ gws := gws_mem (kt_4 _ (List.mem_of_getElem? (i := 157) rfl)) rfl
theorem kw_878 : (Jvm.Cond.constantLong "ClockedFlowsModel" (200 : Nat) (99 : Int64)) ∈ gws := gws_mem (kt_4 _ (List.mem_of_getElem? (i := 158) rfl)) rfl
theorem kw_879 : (Jvm.Cond.methodLink "ClockedFlowsModel" (205 : Nat) ({ cls := "ClockedFlowsModel", name := "note", desc := "()V" } : Jvm.MethodName)) ∈ gws := gws_mem (kt_4 _ (List.mem_of_getElem? (i := 159) rfl)) rfl
theorem kw_881 : (Jvm.Cond.instanceMethod ({ cls := "ClockedFlowsModel", name := "note", desc := "()V" } : Jvm.MethodName)) ∈ gws := gws_mem (kt_4 _ (List.mem_of_getElem? (i := 161) rfl)) rfl
theorem kw_882 : (Jvm.Cond.code ({ cls := "ClockedFlowsModel", name := "note", desc := "()V" } : Jvm.MethodName) prog_8_method_44_code (2 : Nat) (Option.none : Option Jvm.ClassFile.FieldType)) ∈ gws := gws_mem (kt_4 _ (List.mem_of_getElem? (i := 162) rfl)) rfl
theorem kw_883 : (Jvm.Cond.methodLink "ClockedFlowsModel" (208 : Nat) ({ cls := "ClockedFlowsModel", name := "goTick", desc := "([III)I" } : Jvm.MethodName)) ∈ gws := gws_mem (kt_4 _ (List.mem_of_getElem? (i := 163) rfl)) rfl
theorem kw_885 : (Jvm.Cond.instanceMethod ({ cls := "ClockedFlowsModel", name := "goTick", desc := "([III)I" } : Jvm.MethodName)) ∈ gws := gws_mem (kt_4 _ (List.mem_of_getElem? (i := 165) rfl)) rfl
theorem kw_886 : (Jvm.Cond.code ({ cls := "ClockedFlowsModel", name := "goTick", desc := "([III)I" } : Jvm.MethodName) prog_8_method_37_code (8 : Nat) (Option.some Jvm.ClassFile.FieldType.int)) ∈ gws := gws_mem (kt_4 _ (List.mem_of_getElem? (i := 166) rfl)) rfl
theorem kw_887 : (Jvm.Cond.methodLink "ClockedFlowsModel" (171 : Nat) ({ cls := "ClockedFlowsModel", name := "isThere", desc := "([II)Z" } : Jvm.MethodName)) ∈ gws := gws_mem (kt_4 _ (List.mem_of_getElem? (i := 167) rfl)) rfl
theorem kw_889 : (Jvm.Cond.instanceMethod ({ cls := "ClockedFlowsModel", name := "isThere", desc := "([II)Z" } : Jvm.MethodName)) ∈ gws := gws_mem (kt_4 _ (List.mem_of_getElem? (i := 169) rfl)) rfl
theorem kw_890 : (Jvm.Cond.code ({ cls := "ClockedFlowsModel", name := "isThere", desc := "([II)Z" } : Jvm.MethodName) prog_8_method_33_code (6 : Nat) (Option.some Jvm.ClassFile.FieldType.boolean)) ∈ gws := gws_mem (kt_4 _ (List.mem_of_getElem? (i := 170) rfl)) rfl
theorem kw_891 : (Jvm.Cond.methodLink "ClockedFlowsModel" (174 : Nat) ({ cls := "ClockedFlowsModel", name := "valueOf", desc := "([IIII)I" } : Jvm.MethodName)) ∈ gws := gws_mem (kt_4 _ (List.mem_of_getElem? (i := 171) rfl)) rfl
theorem kw_893 : (Jvm.Cond.instanceMethod ({ cls := "ClockedFlowsModel", name := "valueOf", desc := "([IIII)I" } : Jvm.MethodName)) ∈ gws := gws_mem (kt_4 _ (List.mem_of_getElem? (i := 173) rfl)) rfl
theorem kw_894 : (Jvm.Cond.code ({ cls := "ClockedFlowsModel", name := "valueOf", desc := "([IIII)I" } : Jvm.MethodName) prog_8_method_35_code (10 : Nat) (Option.some Jvm.ClassFile.FieldType.int)) ∈ gws := gws_mem (kt_4 _ (List.mem_of_getElem? (i := 174) rfl)) rfl
theorem kw_895 : (Jvm.Cond.methodLink "ClockedFlowsModel" (168 : Nat) ({ cls := "ClockedFlowsModel", name := "made", desc := "(III)I" } : Jvm.MethodName)) ∈ gws := gws_mem (kt_4 _ (List.mem_of_getElem? (i := 175) rfl)) rfl
theorem kw_896 : (Jvm.Cond.static ({ cls := "ClockedFlowsModel", name := "made", desc := "(III)I" } : Jvm.MethodName)) ∈ gws := gws_mem (kt_4 _ (List.mem_of_getElem? (i := 176) rfl)) rfl
theorem kw_897 : (Jvm.Cond.code ({ cls := "ClockedFlowsModel", name := "made", desc := "(III)I" } : Jvm.MethodName) prog_8_method_34_code (3 : Nat) (Option.some Jvm.ClassFile.FieldType.int)) ∈ gws := gws_mem (kt_4 _ (List.mem_of_getElem? (i := 177) rfl)) rfl
theorem kw_898 : (Jvm.Cond.methodLink "ClockedFlowsModel" (178 : Nat) ({ cls := "ClockedFlowsModel", name := "keepOn", desc := "([I)V" } : Jvm.MethodName)) ∈ gws := gws_mem (kt_4 _ (List.mem_of_getElem? (i := 178) rfl)) rfl
theorem kw_900 : (Jvm.Cond.instanceMethod ({ cls := "ClockedFlowsModel", name := "keepOn", desc := "([I)V" } : Jvm.MethodName)) ∈ gws := gws_mem (kt_4 _ (List.mem_of_getElem? (i := 180) rfl)) rfl
theorem kw_901 : (Jvm.Cond.code ({ cls := "ClockedFlowsModel", name := "keepOn", desc := "([I)V" } : Jvm.MethodName) prog_8_method_36_code (4 : Nat) (Option.none : Option Jvm.ClassFile.FieldType)) ∈ gws := gws_mem (kt_4 _ (List.mem_of_getElem? (i := 181) rfl)) rfl
theorem kw_902 : (Jvm.Cond.methodLink "ClockedFlowsLaw" (55 : Nat) ({ cls := "ClockedFlowsModel", name := "afresh", desc := "()I" } : Jvm.MethodName)) ∈ gws := gws_mem (kt_4 _ (List.mem_of_getElem? (i := 182) rfl)) rfl
theorem kw_903 : (Jvm.Cond.instanceMethod ({ cls := "ClockedFlowsModel", name := "afresh", desc := "()I" } : Jvm.MethodName)) ∈ gws := gws_mem (kt_4 _ (List.mem_of_getElem? (i := 183) rfl)) rfl
theorem kw_904 : (Jvm.Cond.selects "ClockedFlowsModel" ({ cls := "ClockedFlowsModel", name := "afresh", desc := "()I" } : Jvm.MethodName) ({ cls := "ClockedFlowsModel", name := "afresh", desc := "()I" } : Jvm.MethodName)) ∈ gws := gws_mem (kt_4 _ (List.mem_of_getElem? (i := 184) rfl)) rfl
theorem kw_905 : (Jvm.Cond.code ({ cls := "ClockedFlowsModel", name := "afresh", desc := "()I" } : Jvm.MethodName) prog_8_method_47_code (2 : Nat) (Option.some Jvm.ClassFile.FieldType.int)) ∈ gws := gws_mem (kt_4 _ (List.mem_of_getElem? (i := 185) rfl)) rfl
theorem kw_906 : (Jvm.Cond.methodLink "ClockedFlowsLaw" (60 : Nat) ({ cls := "ClockedFlowsModel", name := "tell", desc := "(IIIII)I" } : Jvm.MethodName)) ∈ gws := gws_mem (kt_4 _ (List.mem_of_getElem? (i := 186) rfl)) rfl
theorem kw_907 : (Jvm.Cond.instanceMethod ({ cls := "ClockedFlowsModel", name := "tell", desc := "(IIIII)I" } : Jvm.MethodName)) ∈ gws := gws_mem (kt_4 _ (List.mem_of_getElem? (i := 187) rfl)) rfl
theorem kw_908 : (Jvm.Cond.selects "ClockedFlowsModel" ({ cls := "ClockedFlowsModel", name := "tell", desc := "(IIIII)I" } : Jvm.MethodName) ({ cls := "ClockedFlowsModel", name := "tell", desc := "(IIIII)I" } : Jvm.MethodName)) ∈ gws := gws_mem (kt_4 _ (List.mem_of_getElem? (i := 188) rfl)) rfl
theorem kw_909 : (Jvm.Cond.code ({ cls := "ClockedFlowsModel", name := "tell", desc := "(IIIII)I" } : Jvm.MethodName) prog_8_method_49_code (6 : Nat) (Option.some Jvm.ClassFile.FieldType.int)) ∈ gws := gws_mem (kt_4 _ (List.mem_of_getElem? (i := 189) rfl)) rfl
theorem kw_910 : (Jvm.Cond.constantLong "ClockedFlowsModel" (211 : Nat) (11 : Int64)) ∈ gws := gws_mem (kt_4 _ (List.mem_of_getElem? (i := 190) rfl)) rfl
theorem kw_911 : (Jvm.Cond.methodLink "ClockedFlowsModel" (213 : Nat) ({ cls := "ClockedFlowsModel", name := "areFigures", desc := "(IIII)Z" } : Jvm.MethodName)) ∈ gws := gws_mem (kt_4 _ (List.mem_of_getElem? (i := 191) rfl)) rfl
theorem kw_913 : (Jvm.Cond.instanceMethod ({ cls := "ClockedFlowsModel", name := "areFigures", desc := "(IIII)Z" } : Jvm.MethodName)) ∈ gws := gws_mem (kt_4 _ (List.mem_of_getElem? (i := 193) rfl)) rfl
theorem kw_914 : (Jvm.Cond.code ({ cls := "ClockedFlowsModel", name := "areFigures", desc := "(IIII)Z" } : Jvm.MethodName) prog_8_method_48_code (7 : Nat) (Option.some Jvm.ClassFile.FieldType.boolean)) ∈ gws := gws_mem (kt_4 _ (List.mem_of_getElem? (i := 194) rfl)) rfl
theorem kw_915 : (Jvm.Cond.methodLink "ClockedFlowsLaw" (64 : Nat) ({ cls := "ClockedFlowsModel", name := "undo", desc := "()I" } : Jvm.MethodName)) ∈ gws := gws_mem (kt_4 _ (List.mem_of_getElem? (i := 195) rfl)) rfl
theorem kw_916 : (Jvm.Cond.instanceMethod ({ cls := "ClockedFlowsModel", name := "undo", desc := "()I" } : Jvm.MethodName)) ∈ gws := gws_mem (kt_4 _ (List.mem_of_getElem? (i := 196) rfl)) rfl
theorem kw_917 : (Jvm.Cond.selects "ClockedFlowsModel" ({ cls := "ClockedFlowsModel", name := "undo", desc := "()I" } : Jvm.MethodName) ({ cls := "ClockedFlowsModel", name := "undo", desc := "()I" } : Jvm.MethodName)) ∈ gws := gws_mem (kt_4 _ (List.mem_of_getElem? (i := 197) rfl)) rfl
theorem kw_918 : (Jvm.Cond.code ({ cls := "ClockedFlowsModel", name := "undo", desc := "()I" } : Jvm.MethodName) prog_8_method_50_code (2 : Nat) (Option.some Jvm.ClassFile.FieldType.int)) ∈ gws := gws_mem (kt_4 _ (List.mem_of_getElem? (i := 198) rfl)) rfl
theorem kw_919 : (Jvm.Cond.methodLink "ClockedFlowsLaw" (69 : Nat) ({ cls := "ClockedFlowsModel", name := "later", desc := "(IIII)I" } : Jvm.MethodName)) ∈ gws := gws_mem (kt_4 _ (List.mem_of_getElem? (i := 199) rfl)) rfl
theorem kw_920 : (Jvm.Cond.instanceMethod ({ cls := "ClockedFlowsModel", name := "later", desc := "(IIII)I" } : Jvm.MethodName)) ∈ gws := gws_mem (kt_4 _ (List.mem_of_getElem? (i := 200) rfl)) rfl
theorem kw_921 : (Jvm.Cond.selects "ClockedFlowsModel" ({ cls := "ClockedFlowsModel", name := "later", desc := "(IIII)I" } : Jvm.MethodName) ({ cls := "ClockedFlowsModel", name := "later", desc := "(IIII)I" } : Jvm.MethodName)) ∈ gws := gws_mem (kt_4 _ (List.mem_of_getElem? (i := 201) rfl)) rfl
theorem kw_922 : (Jvm.Cond.code ({ cls := "ClockedFlowsModel", name := "later", desc := "(IIII)I" } : Jvm.MethodName) prog_8_method_53_code (5 : Nat) (Option.some Jvm.ClassFile.FieldType.int)) ∈ gws := gws_mem (kt_4 _ (List.mem_of_getElem? (i := 202) rfl)) rfl
theorem kw_923 : (Jvm.Cond.constantLong "ClockedFlowsModel" (217 : Nat) (40 : Int64)) ∈ gws := gws_mem (kt_4 _ (List.mem_of_getElem? (i := 203) rfl)) rfl
theorem kw_924 : (Jvm.Cond.methodLink "ClockedFlowsModel" (219 : Nat) ({ cls := "ClockedFlowsModel", name := "begin", desc := "()V" } : Jvm.MethodName)) ∈ gws := gws_mem (kt_4 _ (List.mem_of_getElem? (i := 204) rfl)) rfl
theorem kw_926 : (Jvm.Cond.instanceMethod ({ cls := "ClockedFlowsModel", name := "begin", desc := "()V" } : Jvm.MethodName)) ∈ gws := gws_mem (kt_4 _ (List.mem_of_getElem? (i := 206) rfl)) rfl
theorem kw_927 : (Jvm.Cond.code ({ cls := "ClockedFlowsModel", name := "begin", desc := "()V" } : Jvm.MethodName) prog_8_method_51_code (2 : Nat) (Option.none : Option Jvm.ClassFile.FieldType)) ∈ gws := gws_mem (kt_4 _ (List.mem_of_getElem? (i := 207) rfl)) rfl
theorem kw_928 : (Jvm.Cond.methodLink "ClockedFlowsModel" (222 : Nat) ({ cls := "ClockedFlowsModel", name := "goTicks", desc := "(III)V" } : Jvm.MethodName)) ∈ gws := gws_mem (kt_4 _ (List.mem_of_getElem? (i := 208) rfl)) rfl
theorem kw_930 : (Jvm.Cond.instanceMethod ({ cls := "ClockedFlowsModel", name := "goTicks", desc := "(III)V" } : Jvm.MethodName)) ∈ gws := gws_mem (kt_4 _ (List.mem_of_getElem? (i := 210) rfl)) rfl
theorem kw_931 : (Jvm.Cond.code ({ cls := "ClockedFlowsModel", name := "goTicks", desc := "(III)V" } : Jvm.MethodName) prog_8_method_52_code (5 : Nat) (Option.none : Option Jvm.ClassFile.FieldType)) ∈ gws := gws_mem (kt_4 _ (List.mem_of_getElem? (i := 211) rfl)) rfl
theorem kw_932 : (Jvm.Cond.methodLink "ClockedFlowsLaw" (73 : Nat) ({ cls := "ClockedFlowsModel", name := "first", desc := "(IIII)I" } : Jvm.MethodName)) ∈ gws := gws_mem (kt_4 _ (List.mem_of_getElem? (i := 212) rfl)) rfl
theorem kw_933 : (Jvm.Cond.instanceMethod ({ cls := "ClockedFlowsModel", name := "first", desc := "(IIII)I" } : Jvm.MethodName)) ∈ gws := gws_mem (kt_4 _ (List.mem_of_getElem? (i := 213) rfl)) rfl
theorem kw_934 : (Jvm.Cond.selects "ClockedFlowsModel" ({ cls := "ClockedFlowsModel", name := "first", desc := "(IIII)I" } : Jvm.MethodName) ({ cls := "ClockedFlowsModel", name := "first", desc := "(IIII)I" } : Jvm.MethodName)) ∈ gws := gws_mem (kt_4 _ (List.mem_of_getElem? (i := 214) rfl)) rfl
theorem kw_935 : (Jvm.Cond.code ({ cls := "ClockedFlowsModel", name := "first", desc := "(IIII)I" } : Jvm.MethodName) prog_8_method_54_code (6 : Nat) (Option.some Jvm.ClassFile.FieldType.int)) ∈ gws := gws_mem (kt_4 _ (List.mem_of_getElem? (i := 215) rfl)) rfl
theorem kw_936 : (Jvm.Cond.methodLink "ClockedFlowsLaw" (78 : Nat) ({ cls := "ClockedFlowsModel", name := "round", desc := "(III)I" } : Jvm.MethodName)) ∈ gws := gws_mem (kt_4 _ (List.mem_of_getElem? (i := 216) rfl)) rfl
theorem kw_937 : (Jvm.Cond.instanceMethod ({ cls := "ClockedFlowsModel", name := "round", desc := "(III)I" } : Jvm.MethodName)) ∈ gws := gws_mem (kt_4 _ (List.mem_of_getElem? (i := 217) rfl)) rfl
theorem kw_938 : (Jvm.Cond.selects "ClockedFlowsModel" ({ cls := "ClockedFlowsModel", name := "round", desc := "(III)I" } : Jvm.MethodName) ({ cls := "ClockedFlowsModel", name := "round", desc := "(III)I" } : Jvm.MethodName)) ∈ gws := gws_mem (kt_4 _ (List.mem_of_getElem? (i := 218) rfl)) rfl
theorem kw_939 : (Jvm.Cond.code ({ cls := "ClockedFlowsModel", name := "round", desc := "(III)I" } : Jvm.MethodName) prog_8_method_57_code (6 : Nat) (Option.some Jvm.ClassFile.FieldType.int)) ∈ gws := gws_mem (kt_4 _ (List.mem_of_getElem? (i := 219) rfl)) rfl
theorem kw_940 : (Jvm.Cond.methodLink "ClockedFlowsModel" (228 : Nat) ({ cls := "ClockedFlowsModel", name := "layStates", desc := "(II)V" } : Jvm.MethodName)) ∈ gws := gws_mem (kt_4 _ (List.mem_of_getElem? (i := 220) rfl)) rfl
theorem kw_942 : (Jvm.Cond.instanceMethod ({ cls := "ClockedFlowsModel", name := "layStates", desc := "(II)V" } : Jvm.MethodName)) ∈ gws := gws_mem (kt_4 _ (List.mem_of_getElem? (i := 222) rfl)) rfl
theorem kw_943 : (Jvm.Cond.code ({ cls := "ClockedFlowsModel", name := "layStates", desc := "(II)V" } : Jvm.MethodName) prog_8_method_56_code (6 : Nat) (Option.none : Option Jvm.ClassFile.FieldType)) ∈ gws := gws_mem (kt_4 _ (List.mem_of_getElem? (i := 223) rfl)) rfl
theorem kw_944 : (Jvm.Cond.constantLong "ClockedFlowsModel" (226 : Nat) (6 : Int64)) ∈ gws := gws_mem (kt_4 _ (List.mem_of_getElem? (i := 224) rfl)) rfl
theorem kw_945 : (Jvm.Cond.methodLink "ClockedFlowsModel" (232 : Nat) ({ cls := "ClockedFlowsModel", name := "areAlike", desc := "(II)Z" } : Jvm.MethodName)) ∈ gws := gws_mem (kt_4 _ (List.mem_of_getElem? (i := 225) rfl)) rfl
theorem kw_947 : (Jvm.Cond.instanceMethod ({ cls := "ClockedFlowsModel", name := "areAlike", desc := "(II)Z" } : Jvm.MethodName)) ∈ gws := gws_mem (kt_4 _ (List.mem_of_getElem? (i := 227) rfl)) rfl
theorem kw_948 : (Jvm.Cond.code ({ cls := "ClockedFlowsModel", name := "areAlike", desc := "(II)Z" } : Jvm.MethodName) prog_8_method_55_code (5 : Nat) (Option.some Jvm.ClassFile.FieldType.boolean)) ∈ gws := gws_mem (kt_4 _ (List.mem_of_getElem? (i := 228) rfl)) rfl
theorem kw_949 : (Jvm.Cond.methodLink "ClockedFlowsLaw" (85 : Nat) ({ cls := "ClockedFlowsModel", name := "judge", desc := "(IJ)I" } : Jvm.MethodName)) ∈ gws := gws_mem (kt_4 _ (List.mem_of_getElem? (i := 229) rfl)) rfl
theorem kw_950 : (Jvm.Cond.instanceMethod ({ cls := "ClockedFlowsModel", name := "judge", desc := "(IJ)I" } : Jvm.MethodName)) ∈ gws := gws_mem (kt_4 _ (List.mem_of_getElem? (i := 230) rfl)) rfl
theorem kw_951 : (Jvm.Cond.selects "ClockedFlowsModel" ({ cls := "ClockedFlowsModel", name := "judge", desc := "(IJ)I" } : Jvm.MethodName) ({ cls := "ClockedFlowsModel", name := "judge", desc := "(IJ)I" } : Jvm.MethodName)) ∈ gws := gws_mem (kt_4 _ (List.mem_of_getElem? (i := 231) rfl)) rfl
theorem kw_952 : (Jvm.Cond.code ({ cls := "ClockedFlowsModel", name := "judge", desc := "(IJ)I" } : Jvm.MethodName) prog_8_method_62_code (5 : Nat) (Option.some Jvm.ClassFile.FieldType.int)) ∈ gws := gws_mem (kt_4 _ (List.mem_of_getElem? (i := 232) rfl)) rfl
theorem kw_953 : (Jvm.Cond.constantLong "ClockedFlowsModel" (241 : Nat) (3 : Int64)) ∈ gws := gws_mem (kt_4 _ (List.mem_of_getElem? (i := 233) rfl)) rfl
theorem kw_954 : (Jvm.Cond.constantLong "ClockedFlowsModel" (243 : Nat) (100000 : Int64)) ∈ gws := gws_mem (kt_4 _ (List.mem_of_getElem? (i := 234) rfl)) rfl
theorem kw_955 : (Jvm.Cond.methodLink "ClockedFlowsModel" (245 : Nat) ({ cls := "ClockedFlowsModel", name := "longPower", desc := "(JI)J" } : Jvm.MethodName)) ∈ gws := gws_mem (kt_4 _ (List.mem_of_getElem? (i := 235) rfl)) rfl
theorem kw_956 : (Jvm.Cond.static ({ cls := "ClockedFlowsModel", name := "longPower", desc := "(JI)J" } : Jvm.MethodName)) ∈ gws := gws_mem (kt_4 _ (List.mem_of_getElem? (i := 236) rfl)) rfl
theorem kw_957 : (Jvm.Cond.code ({ cls := "ClockedFlowsModel", name := "longPower", desc := "(JI)J" } : Jvm.MethodName) prog_8_method_58_code (6 : Nat) (Option.some Jvm.ClassFile.FieldType.long)) ∈ gws := gws_mem (kt_4 _ (List.mem_of_getElem? (i := 237) rfl)) rfl
theorem kw_958 : (Jvm.Cond.methodLink "ClockedFlowsModel" (249 : Nat) ({ cls := "ClockedFlowsModel", name := "does", desc := "(I)Z" } : Jvm.MethodName)) ∈ gws := gws_mem (kt_4 _ (List.mem_of_getElem? (i := 238) rfl)) rfl
theorem kw_960 : (Jvm.Cond.instanceMethod ({ cls := "ClockedFlowsModel", name := "does", desc := "(I)Z" } : Jvm.MethodName)) ∈ gws := gws_mem (kt_5 _ (List.mem_of_getElem? (i := 0) rfl)) rfl
theorem kw_961 : (Jvm.Cond.code ({ cls := "ClockedFlowsModel", name := "does", desc := "(I)Z" } : Jvm.MethodName) prog_8_method_61_code (2 : Nat) (Option.some Jvm.ClassFile.FieldType.boolean)) ∈ gws := gws_mem (kt_5 _ (List.mem_of_getElem? (i := 1) rfl)) rfl
theorem kw_962 : (Jvm.Cond.methodLink "ClockedFlowsModel" (238 : Nat) ({ cls := "ClockedFlowsModel", name := "isSo", desc := "(IIII)Z" } : Jvm.MethodName)) ∈ gws := gws_mem (kt_5 _ (List.mem_of_getElem? (i := 2) rfl)) rfl
theorem kw_964 : (Jvm.Cond.instanceMethod ({ cls := "ClockedFlowsModel", name := "isSo", desc := "(IIII)Z" } : Jvm.MethodName)) ∈ gws := gws_mem (kt_5 _ (List.mem_of_getElem? (i := 4) rfl)) rfl
theorem kw_965 : (Jvm.Cond.code ({ cls := "ClockedFlowsModel", name := "isSo", desc := "(IIII)Z" } : Jvm.MethodName) prog_8_method_60_code (5 : Nat) (Option.some Jvm.ClassFile.FieldType.boolean)) ∈ gws := gws_mem (kt_5 _ (List.mem_of_getElem? (i := 5) rfl)) rfl
theorem kw_966 : (Jvm.Cond.methodLink "ClockedFlowsModel" (235 : Nat) ({ cls := "ClockedFlowsModel", name := "areLike", desc := "(II)Z" } : Jvm.MethodName)) ∈ gws := gws_mem (kt_5 _ (List.mem_of_getElem? (i := 6) rfl)) rfl
theorem kw_968 : (Jvm.Cond.instanceMethod ({ cls := "ClockedFlowsModel", name := "areLike", desc := "(II)Z" } : Jvm.MethodName)) ∈ gws := gws_mem (kt_5 _ (List.mem_of_getElem? (i := 8) rfl)) rfl
theorem kw_969 : (Jvm.Cond.code ({ cls := "ClockedFlowsModel", name := "areLike", desc := "(II)Z" } : Jvm.MethodName) prog_8_method_59_code (6 : Nat) (Option.some Jvm.ClassFile.FieldType.boolean)) ∈ gws := gws_mem (kt_5 _ (List.mem_of_getElem? (i := 9) rfl)) rfl
theorem kw_970 : (Jvm.Cond.methodLink "ClockedFlowsLaw" (89 : Nat) ({ cls := "ClockedFlowsModel", name := "see", desc := "(IIII)I" } : Jvm.MethodName)) ∈ gws := gws_mem (kt_5 _ (List.mem_of_getElem? (i := 10) rfl)) rfl
theorem kw_971 : (Jvm.Cond.instanceMethod ({ cls := "ClockedFlowsModel", name := "see", desc := "(IIII)I" } : Jvm.MethodName)) ∈ gws := gws_mem (kt_5 _ (List.mem_of_getElem? (i := 11) rfl)) rfl
theorem kw_972 : (Jvm.Cond.selects "ClockedFlowsModel" ({ cls := "ClockedFlowsModel", name := "see", desc := "(IIII)I" } : Jvm.MethodName) ({ cls := "ClockedFlowsModel", name := "see", desc := "(IIII)I" } : Jvm.MethodName)) ∈ gws := gws_mem (kt_5 _ (List.mem_of_getElem? (i := 12) rfl)) rfl
theorem kw_973 : (Jvm.Cond.code ({ cls := "ClockedFlowsModel", name := "see", desc := "(IIII)I" } : Jvm.MethodName) prog_8_method_63_code (5 : Nat) (Option.some Jvm.ClassFile.FieldType.int)) ∈ gws := gws_mem (kt_5 _ (List.mem_of_getElem? (i := 13) rfl)) rfl
theorem kw_974 : (Jvm.Cond.constantLong "ClockedFlowsModel" (252 : Nat) (12 : Int64)) ∈ gws := gws_mem (kt_5 _ (List.mem_of_getElem? (i := 14) rfl)) rfl
theorem kw_975 : (Jvm.Cond.constantLong "ClockedFlowsModel" (254 : Nat) (7 : Int64)) ∈ gws := gws_mem (kt_5 _ (List.mem_of_getElem? (i := 15) rfl)) rfl
theorem kw_976 : (Jvm.Cond.methodLink "ClockedFlowsLaw" (93 : Nat) ({ cls := "ClockedFlowsModel", name := "unsee", desc := "()I" } : Jvm.MethodName)) ∈ gws := gws_mem (kt_5 _ (List.mem_of_getElem? (i := 16) rfl)) rfl
theorem kw_977 : (Jvm.Cond.instanceMethod ({ cls := "ClockedFlowsModel", name := "unsee", desc := "()I" } : Jvm.MethodName)) ∈ gws := gws_mem (kt_5 _ (List.mem_of_getElem? (i := 17) rfl)) rfl
theorem kw_978 : (Jvm.Cond.selects "ClockedFlowsModel" ({ cls := "ClockedFlowsModel", name := "unsee", desc := "()I" } : Jvm.MethodName) ({ cls := "ClockedFlowsModel", name := "unsee", desc := "()I" } : Jvm.MethodName)) ∈ gws := gws_mem (kt_5 _ (List.mem_of_getElem? (i := 18) rfl)) rfl
theorem kw_979 : (Jvm.Cond.code ({ cls := "ClockedFlowsModel", name := "unsee", desc := "()I" } : Jvm.MethodName) prog_8_method_64_code (2 : Nat) (Option.some Jvm.ClassFile.FieldType.int)) ∈ gws := gws_mem (kt_5 _ (List.mem_of_getElem? (i := 19) rfl)) rfl
theorem kw_980 : (Jvm.Cond.methodLink "ClockedFlowsLaw" (97 : Nat) ({ cls := "ClockedFlowsModel", name := "inputs", desc := "(I)I" } : Jvm.MethodName)) ∈ gws := gws_mem (kt_5 _ (List.mem_of_getElem? (i := 20) rfl)) rfl
theorem kw_981 : (Jvm.Cond.instanceMethod ({ cls := "ClockedFlowsModel", name := "inputs", desc := "(I)I" } : Jvm.MethodName)) ∈ gws := gws_mem (kt_5 _ (List.mem_of_getElem? (i := 21) rfl)) rfl
theorem kw_982 : (Jvm.Cond.selects "ClockedFlowsModel" ({ cls := "ClockedFlowsModel", name := "inputs", desc := "(I)I" } : Jvm.MethodName) ({ cls := "ClockedFlowsModel", name := "inputs", desc := "(I)I" } : Jvm.MethodName)) ∈ gws := gws_mem (kt_5 _ (List.mem_of_getElem? (i := 22) rfl)) rfl
theorem kw_983 : (Jvm.Cond.code ({ cls := "ClockedFlowsModel", name := "inputs", desc := "(I)I" } : Jvm.MethodName) prog_8_method_66_code (4 : Nat) (Option.some Jvm.ClassFile.FieldType.int)) ∈ gws := gws_mem (kt_5 _ (List.mem_of_getElem? (i := 23) rfl)) rfl
theorem kw_984 : (Jvm.Cond.methodLink "ClockedFlowsModel" (262 : Nat) ({ cls := "ClockedFlowsModel", name := "explains", desc := "(II)Z" } : Jvm.MethodName)) ∈ gws := gws_mem (kt_5 _ (List.mem_of_getElem? (i := 24) rfl)) rfl
theorem kw_986 : (Jvm.Cond.instanceMethod ({ cls := "ClockedFlowsModel", name := "explains", desc := "(II)Z" } : Jvm.MethodName)) ∈ gws := gws_mem (kt_5 _ (List.mem_of_getElem? (i := 26) rfl)) rfl
theorem kw_987 : (Jvm.Cond.code ({ cls := "ClockedFlowsModel", name := "explains", desc := "(II)Z" } : Jvm.MethodName) prog_8_method_65_code (6 : Nat) (Option.some Jvm.ClassFile.FieldType.boolean)) ∈ gws := gws_mem (kt_5 _ (List.mem_of_getElem? (i := 27) rfl)) rfl
theorem kw_988 : (Jvm.Cond.methodLink "ClockedFlowsLaw" (102 : Nat) ({ cls := "ClockedFlowsModel", name := "odds", desc := "(IIIIZ)I" } : Jvm.MethodName)) ∈ gws := gws_mem (kt_5 _ (List.mem_of_getElem? (i := 28) rfl)) rfl
theorem kw_989 : (Jvm.Cond.instanceMethod ({ cls := "ClockedFlowsModel", name := "odds", desc := "(IIIIZ)I" } : Jvm.MethodName)) ∈ gws := gws_mem (kt_5 _ (List.mem_of_getElem? (i := 29) rfl)) rfl
theorem kw_990 : (Jvm.Cond.selects "ClockedFlowsModel" ({ cls := "ClockedFlowsModel", name := "odds", desc := "(IIIIZ)I" } : Jvm.MethodName) ({ cls := "ClockedFlowsModel", name := "odds", desc := "(IIIIZ)I" } : Jvm.MethodName)) ∈ gws := gws_mem (kt_5 _ (List.mem_of_getElem? (i := 30) rfl)) rfl
theorem kw_991 : (Jvm.Cond.code ({ cls := "ClockedFlowsModel", name := "odds", desc := "(IIIIZ)I" } : Jvm.MethodName) prog_8_method_70_code (10 : Nat) (Option.some Jvm.ClassFile.FieldType.int)) ∈ gws := gws_mem (kt_5 _ (List.mem_of_getElem? (i := 31) rfl)) rfl
theorem kw_992 : (Jvm.Cond.constantLong "ClockedFlowsModel" (269 : Nat) (10 : Int64)) ∈ gws := gws_mem (kt_5 _ (List.mem_of_getElem? (i := 32) rfl)) rfl
theorem kw_993 : (Jvm.Cond.methodLink "ClockedFlowsModel" (271 : Nat) ({ cls := "ClockedFlowsModel", name := "timesThere", desc := "(III)I" } : Jvm.MethodName)) ∈ gws := gws_mem (kt_5 _ (List.mem_of_getElem? (i := 33) rfl)) rfl
theorem kw_995 : (Jvm.Cond.instanceMethod ({ cls := "ClockedFlowsModel", name := "timesThere", desc := "(III)I" } : Jvm.MethodName)) ∈ gws := gws_mem (kt_5 _ (List.mem_of_getElem? (i := 35) rfl)) rfl
theorem kw_996 : (Jvm.Cond.code ({ cls := "ClockedFlowsModel", name := "timesThere", desc := "(III)I" } : Jvm.MethodName) prog_8_method_69_code (6 : Nat) (Option.some Jvm.ClassFile.FieldType.int)) ∈ gws := gws_mem (kt_5 _ (List.mem_of_getElem? (i := 36) rfl)) rfl
theorem kw_997 : (Jvm.Cond.methodLink "ClockedFlowsModel" (274 : Nat) ({ cls := "ClockedFlowsModel", name := "power", desc := "(II)I" } : Jvm.MethodName)) ∈ gws := gws_mem (kt_5 _ (List.mem_of_getElem? (i := 37) rfl)) rfl
theorem kw_998 : (Jvm.Cond.static ({ cls := "ClockedFlowsModel", name := "power", desc := "(II)I" } : Jvm.MethodName)) ∈ gws := gws_mem (kt_5 _ (List.mem_of_getElem? (i := 38) rfl)) rfl
theorem kw_999 : (Jvm.Cond.code ({ cls := "ClockedFlowsModel", name := "power", desc := "(II)I" } : Jvm.MethodName) prog_8_method_5_code (4 : Nat) (Option.some Jvm.ClassFile.FieldType.int)) ∈ gws := gws_mem (kt_5 _ (List.mem_of_getElem? (i := 39) rfl)) rfl
theorem kw_1000 : (Jvm.Cond.methodLink "ClockedFlowsModel" (277 : Nat) ({ cls := "ClockedFlowsModel", name := "fraction", desc := "(IIZ)I" } : Jvm.MethodName)) ∈ gws := gws_mem (kt_5 _ (List.mem_of_getElem? (i := 40) rfl)) rfl
theorem kw_1001 : (Jvm.Cond.static ({ cls := "ClockedFlowsModel", name := "fraction", desc := "(IIZ)I" } : Jvm.MethodName)) ∈ gws := gws_mem (kt_5 _ (List.mem_of_getElem? (i := 41) rfl)) rfl
theorem kw_1002 : (Jvm.Cond.code ({ cls := "ClockedFlowsModel", name := "fraction", desc := "(IIZ)I" } : Jvm.MethodName) prog_8_method_68_code (4 : Nat) (Option.some Jvm.ClassFile.FieldType.int)) ∈ gws := gws_mem (kt_5 _ (List.mem_of_getElem? (i := 42) rfl)) rfl
theorem kw_1003 : (Jvm.Cond.methodLink "ClockedFlowsModel" (265 : Nat) ({ cls := "ClockedFlowsModel", name := "divisor", desc := "(II)I" } : Jvm.MethodName)) ∈ gws := gws_mem (kt_5 _ (List.mem_of_getElem? (i := 43) rfl)) rfl
theorem kw_1004 : (Jvm.Cond.static ({ cls := "ClockedFlowsModel", name := "divisor", desc := "(II)I" } : Jvm.MethodName)) ∈ gws := gws_mem (kt_5 _ (List.mem_of_getElem? (i := 44) rfl)) rfl
theorem kw_1005 : (Jvm.Cond.code ({ cls := "ClockedFlowsModel", name := "divisor", desc := "(II)I" } : Jvm.MethodName) prog_8_method_67_code (5 : Nat) (Option.some Jvm.ClassFile.FieldType.int)) ∈ gws := gws_mem (kt_5 _ (List.mem_of_getElem? (i := 45) rfl)) rfl
theorem kw_1006 : (Jvm.Cond.methodLink "ClockedFlowsLaw" (107 : Nat) ({ cls := "ClockedFlowsModel", name := "seed", desc := "(J)J" } : Jvm.MethodName)) ∈ gws := gws_mem (kt_5 _ (List.mem_of_getElem? (i := 46) rfl)) rfl
theorem kw_1007 : (Jvm.Cond.instanceMethod ({ cls := "ClockedFlowsModel", name := "seed", desc := "(J)J" } : Jvm.MethodName)) ∈ gws := gws_mem (kt_5 _ (List.mem_of_getElem? (i := 47) rfl)) rfl
theorem kw_1008 : (Jvm.Cond.selects "ClockedFlowsModel" ({ cls := "ClockedFlowsModel", name := "seed", desc := "(J)J" } : Jvm.MethodName) ({ cls := "ClockedFlowsModel", name := "seed", desc := "(J)J" } : Jvm.MethodName)) ∈ gws := gws_mem (kt_5 _ (List.mem_of_getElem? (i := 48) rfl)) rfl
theorem kw_1009 : (Jvm.Cond.code ({ cls := "ClockedFlowsModel", name := "seed", desc := "(J)J" } : Jvm.MethodName) prog_8_method_71_code (5 : Nat) (Option.some Jvm.ClassFile.FieldType.long)) ∈ gws := gws_mem (kt_5 _ (List.mem_of_getElem? (i := 49) rfl)) rfl
theorem kw_1010 : (Jvm.Cond.methodLink "ClockedFlowsLaw" (111 : Nat) ({ cls := "ClockedFlowsModel", name := "runs", desc := "(I)I" } : Jvm.MethodName)) ∈ gws := gws_mem (kt_5 _ (List.mem_of_getElem? (i := 50) rfl)) rfl
theorem kw_1011 : (Jvm.Cond.instanceMethod ({ cls := "ClockedFlowsModel", name := "runs", desc := "(I)I" } : Jvm.MethodName)) ∈ gws := gws_mem (kt_5 _ (List.mem_of_getElem? (i := 51) rfl)) rfl
theorem kw_1012 : (Jvm.Cond.selects "ClockedFlowsModel" ({ cls := "ClockedFlowsModel", name := "runs", desc := "(I)I" } : Jvm.MethodName) ({ cls := "ClockedFlowsModel", name := "runs", desc := "(I)I" } : Jvm.MethodName)) ∈ gws := gws_mem (kt_5 _ (List.mem_of_getElem? (i := 52) rfl)) rfl
theorem kw_1013 : (Jvm.Cond.code ({ cls := "ClockedFlowsModel", name := "runs", desc := "(I)I" } : Jvm.MethodName) prog_8_method_73_code (5 : Nat) (Option.some Jvm.ClassFile.FieldType.int)) ∈ gws := gws_mem (kt_5 _ (List.mem_of_getElem? (i := 53) rfl)) rfl
theorem kw_1014 : (Jvm.Cond.constantLong "ClockedFlowsModel" (285 : Nat) (30 : Int64)) ∈ gws := gws_mem (kt_5 _ (List.mem_of_getElem? (i := 54) rfl)) rfl
theorem kw_1015 : (Jvm.Cond.constantLong "ClockedFlowsModel" (287 : Nat) (6364136223846793005 : Int64)) ∈ gws := gws_mem (kt_5 _ (List.mem_of_getElem? (i := 55) rfl)) rfl
theorem kw_1016 : (Jvm.Cond.constantLong "ClockedFlowsModel" (289 : Nat) (1442695040888963407 : Int64)) ∈ gws := gws_mem (kt_5 _ (List.mem_of_getElem? (i := 56) rfl)) rfl
theorem kw_1017 : (Jvm.Cond.methodLink "ClockedFlowsModel" (291 : Nat) ({ cls := "ClockedFlowsModel", name := "sumOf", desc := "(I)I" } : Jvm.MethodName)) ∈ gws := gws_mem (kt_5 _ (List.mem_of_getElem? (i := 57) rfl)) rfl
theorem kw_1019 : (Jvm.Cond.instanceMethod ({ cls := "ClockedFlowsModel", name := "sumOf", desc := "(I)I" } : Jvm.MethodName)) ∈ gws := gws_mem (kt_5 _ (List.mem_of_getElem? (i := 59) rfl)) rfl
theorem kw_1020 : (Jvm.Cond.code ({ cls := "ClockedFlowsModel", name := "sumOf", desc := "(I)I" } : Jvm.MethodName) prog_8_method_72_code (4 : Nat) (Option.some Jvm.ClassFile.FieldType.int)) ∈ gws := gws_mem (kt_5 _ (List.mem_of_getElem? (i := 60) rfl)) rfl
theorem kw_1021 : (Jvm.Cond.methodLink "ClockedFlowsLaw" (115 : Nat) ({ cls := "ClockedFlowsModel", name := "keep", desc := "(I)I" } : Jvm.MethodName)) ∈ gws := gws_mem (kt_5 _ (List.mem_of_getElem? (i := 61) rfl)) rfl
theorem kw_1022 : (Jvm.Cond.instanceMethod ({ cls := "ClockedFlowsModel", name := "keep", desc := "(I)I" } : Jvm.MethodName)) ∈ gws := gws_mem (kt_5 _ (List.mem_of_getElem? (i := 62) rfl)) rfl
theorem kw_1023 : (Jvm.Cond.selects "ClockedFlowsModel" ({ cls := "ClockedFlowsModel", name := "keep", desc := "(I)I" } : Jvm.MethodName) ({ cls := "ClockedFlowsModel", name := "keep", desc := "(I)I" } : Jvm.MethodName)) ∈ gws := gws_mem (kt_5 _ (List.mem_of_getElem? (i := 63) rfl)) rfl
theorem kw_1024 : (Jvm.Cond.code ({ cls := "ClockedFlowsModel", name := "keep", desc := "(I)I" } : Jvm.MethodName) prog_8_method_74_code (3 : Nat) (Option.some Jvm.ClassFile.FieldType.int)) ∈ gws := gws_mem (kt_5 _ (List.mem_of_getElem? (i := 64) rfl)) rfl
theorem kw_1025 : (Jvm.Cond.methodLink "ClockedFlowsLaw" (119 : Nat) ({ cls := "ClockedFlowsModel", name := "again", desc := "(I)I" } : Jvm.MethodName)) ∈ gws := gws_mem (kt_5 _ (List.mem_of_getElem? (i := 65) rfl)) rfl
theorem kw_1026 : (Jvm.Cond.instanceMethod ({ cls := "ClockedFlowsModel", name := "again", desc := "(I)I" } : Jvm.MethodName)) ∈ gws := gws_mem (kt_5 _ (List.mem_of_getElem? (i := 66) rfl)) rfl
theorem kw_1027 : (Jvm.Cond.selects "ClockedFlowsModel" ({ cls := "ClockedFlowsModel", name := "again", desc := "(I)I" } : Jvm.MethodName) ({ cls := "ClockedFlowsModel", name := "again", desc := "(I)I" } : Jvm.MethodName)) ∈ gws := gws_mem (kt_5 _ (List.mem_of_getElem? (i := 67) rfl)) rfl
theorem kw_1028 : (Jvm.Cond.code ({ cls := "ClockedFlowsModel", name := "again", desc := "(I)I" } : Jvm.MethodName) prog_8_method_75_code (3 : Nat) (Option.some Jvm.ClassFile.FieldType.int)) ∈ gws := gws_mem (kt_5 _ (List.mem_of_getElem? (i := 68) rfl)) rfl
theorem kw_1029 : (Jvm.Cond.constantLong "ClockedFlowsLaw" (79 : Nat) (4294967295 : Int64)) ∈ gws := gws_mem (kt_5 _ (List.mem_of_getElem? (i := 69) rfl)) rfl
theorem kw_1030 : (Jvm.Cond.fieldLink "java/lang/String" (15 : Nat) "java/lang/String" "coder" "B") ∈ gws := gws_mem (kt_5 _ (List.mem_of_getElem? (i := 70) rfl)) rfl
theorem kw_1031 : (Jvm.Cond.fieldLink "java/lang/String" (9 : Nat) "java/lang/String" "value" "[B") ∈ gws := gws_mem (kt_5 _ (List.mem_of_getElem? (i := 71) rfl)) rfl
theorem kw_1032 : Cond.selects "ClockedFlows$Text" ⟨"ClockedFlows$Text", "letterAt", "(I)I"⟩ ⟨"ClockedFlows$Text", "letterAt", "(I)I"⟩ ∈ gws := gws_mem (kp_1 (List.mem_of_getElem? (i := 0) rfl)) rfl
theorem kw_1033 : Cond.selects "ClockedFlows$Text" ⟨"ClockedFlows$Text", "readEquation", "(LClockedFlows$Flow;II)I"⟩ ⟨"ClockedFlows$Text", "readEquation", "(LClockedFlows$Flow;II)I"⟩ ∈ gws := gws_mem (kp_1 (List.mem_of_getElem? (i := 1) rfl)) rfl
theorem kw_1034 : Cond.selects "ClockedFlows$Flow" ⟨"ClockedFlows$Flow", "heldAtFirst", "(I)I"⟩ ⟨"ClockedFlows$Flow", "heldAtFirst", "(I)I"⟩ ∈ gws := gws_mem (kp_1 (List.mem_of_getElem? (i := 2) rfl)) rfl
theorem kw_1035 : Cond.selects "ClockedFlows$Sense" ⟨"ClockedFlows$Sense", "findClash", "(LClockedFlows$Flow;)I"⟩ ⟨"ClockedFlows$Sense", "findClash", "(LClockedFlows$Flow;)I"⟩ ∈ gws := gws_mem (kp_1 (List.mem_of_getElem? (i := 3) rfl)) rfl
theorem kw_1036 : Cond.selects "ClockedFlows$Sense" ⟨"ClockedFlows$Sense", "meet", "(LClockedFlows$Flow;I)Z"⟩ ⟨"ClockedFlows$Sense", "meet", "(LClockedFlows$Flow;I)Z"⟩ ∈ gws := gws_mem (kp_1 (List.mem_of_getElem? (i := 4) rfl)) rfl
theorem kw_1037 : Cond.selects "ClockedFlows$Sense" ⟨"ClockedFlows$Sense", "bind", "(II)Z"⟩ ⟨"ClockedFlows$Sense", "bind", "(II)Z"⟩ ∈ gws := gws_mem (kp_1 (List.mem_of_getElem? (i := 5) rfl)) rfl
theorem kw_1038 : Cond.selects "ClockedFlows$Sense" ⟨"ClockedFlows$Sense", "liken", "(II)Z"⟩ ⟨"ClockedFlows$Sense", "liken", "(II)Z"⟩ ∈ gws := gws_mem (kp_1 (List.mem_of_getElem? (i := 6) rfl)) rfl
theorem kw_1039 : Cond.selects "ClockedFlows$Sense" ⟨"ClockedFlows$Sense", "likenAll", "(LClockedFlows$Flow;I)Z"⟩ ⟨"ClockedFlows$Sense", "likenAll", "(LClockedFlows$Flow;I)Z"⟩ ∈ gws := gws_mem (kp_1 (List.mem_of_getElem? (i := 7) rfl)) rfl
theorem kw_1040 : Cond.selects "ClockedFlows$Sense" ⟨"ClockedFlows$Sense", "haveEnds", "()Z"⟩ ⟨"ClockedFlows$Sense", "haveEnds", "()Z"⟩ ∈ gws := gws_mem (kp_1 (List.mem_of_getElem? (i := 8) rfl)) rfl
theorem kw_1041 : Cond.selects "ClockedFlows$Sense" ⟨"ClockedFlows$Sense", "settle", "()V"⟩ ⟨"ClockedFlows$Sense", "settle", "()V"⟩ ∈ gws := gws_mem (kp_1 (List.mem_of_getElem? (i := 9) rfl)) rfl
theorem kw_1042 : Cond.selects "ClockedFlows$Sense" ⟨"ClockedFlows$Sense", "putInOrder", "(LClockedFlows$Flow;)V"⟩ ⟨"ClockedFlows$Sense", "putInOrder", "(LClockedFlows$Flow;)V"⟩ ∈ gws := gws_mem (kp_1 (List.mem_of_getElem? (i := 10) rfl)) rfl
theorem kw_1043 : Cond.selects "ClockedFlows$Sense" ⟨"ClockedFlows$Sense", "leastReady", "(LClockedFlows$Flow;I)I"⟩ ⟨"ClockedFlows$Sense", "leastReady", "(LClockedFlows$Flow;I)I"⟩ ∈ gws := gws_mem (kp_1 (List.mem_of_getElem? (i := 11) rfl)) rfl
theorem kw_1044 : Cond.selects "ClockedFlows$Sense" ⟨"ClockedFlows$Sense", "waits", "(LClockedFlows$Flow;I)I"⟩ ⟨"ClockedFlows$Sense", "waits", "(LClockedFlows$Flow;I)I"⟩ ∈ gws := gws_mem (kp_1 (List.mem_of_getElem? (i := 12) rfl)) rfl
theorem kw_1045 : Cond.selects "ClockedFlows$Sense" ⟨"ClockedFlows$Sense", "findLevels", "(LClockedFlows$Flow;)V"⟩ ⟨"ClockedFlows$Sense", "findLevels", "(LClockedFlows$Flow;)V"⟩ ∈ gws := gws_mem (kp_1 (List.mem_of_getElem? (i := 13) rfl)) rfl
theorem kw_1046 : Cond.selects "ClockedFlows$Sense" ⟨"ClockedFlows$Sense", "levelByParts", "(LClockedFlows$Flow;I)I"⟩ ⟨"ClockedFlows$Sense", "levelByParts", "(LClockedFlows$Flow;I)I"⟩ ∈ gws := gws_mem (kp_1 (List.mem_of_getElem? (i := 14) rfl)) rfl
theorem kw_1047 : Cond.selects "ClockedFlows$Sense" ⟨"ClockedFlows$Sense", "highest", "(LClockedFlows$Flow;I)I"⟩ ⟨"ClockedFlows$Sense", "highest", "(LClockedFlows$Flow;I)I"⟩ ∈ gws := gws_mem (kp_1 (List.mem_of_getElem? (i := 15) rfl)) rfl
theorem kw_1048 : Cond.selects "ClockedFlows$Sense" ⟨"ClockedFlows$Sense", "findRaw", "(LClockedFlows$Flow;)I"⟩ ⟨"ClockedFlows$Sense", "findRaw", "(LClockedFlows$Flow;)I"⟩ ∈ gws := gws_mem (kp_2 (List.mem_of_getElem? (i := 0) rfl)) rfl
theorem kw_1049 : Cond.selects "ClockedFlows$Sense" ⟨"ClockedFlows$Sense", "isRaw", "(LClockedFlows$Flow;I)Z"⟩ ⟨"ClockedFlows$Sense", "isRaw", "(LClockedFlows$Flow;I)Z"⟩ ∈ gws := gws_mem (kp_2 (List.mem_of_getElem? (i := 1) rfl)) rfl
theorem kw_1050 : Cond.selects "ClockedFlows" ⟨"ClockedFlows", "soundness", "()I"⟩ ⟨"ClockedFlows", "soundness", "()I"⟩ ∈ gws := gws_mem (kp_2 (List.mem_of_getElem? (i := 2) rfl)) rfl
theorem kw_1051 : Cond.selects "ClockedFlows" ⟨"ClockedFlows", "isStream", "(I)Z"⟩ ⟨"ClockedFlows", "isStream", "(I)Z"⟩ ∈ gws := gws_mem (kp_2 (List.mem_of_getElem? (i := 3) rfl)) rfl
theorem kw_1052 : Cond.selects "ClockedFlows$Flow" ⟨"ClockedFlows$Flow", "isThere", "(I)Z"⟩ ⟨"ClockedFlows$Flow", "isThere", "(I)Z"⟩ ∈ gws := gws_mem (kp_2 (List.mem_of_getElem? (i := 4) rfl)) rfl
theorem kw_1053 : Cond.selects "ClockedFlows$Flow" ⟨"ClockedFlows$Flow", "reckon", "(III)I"⟩ ⟨"ClockedFlows$Flow", "reckon", "(III)I"⟩ ∈ gws := gws_mem (kp_2 (List.mem_of_getElem? (i := 5) rfl)) rfl
theorem kw_1054 : Cond.selects "ClockedFlows$Flow" ⟨"ClockedFlows$Flow", "combine", "(III)I"⟩ ⟨"ClockedFlows$Flow", "combine", "(III)I"⟩ ∈ gws := gws_mem (kp_2 (List.mem_of_getElem? (i := 6) rfl)) rfl
theorem kw_1055 : Cond.selects "ClockedFlows$Flow" ⟨"ClockedFlows$Flow", "choose", "(III)I"⟩ ⟨"ClockedFlows$Flow", "choose", "(III)I"⟩ ∈ gws := gws_mem (kp_2 (List.mem_of_getElem? (i := 7) rfl)) rfl
theorem kw_1056 : Cond.selects "ClockedFlows$Flow" ⟨"ClockedFlows$Flow", "heldNext", "(I)I"⟩ ⟨"ClockedFlows$Flow", "heldNext", "(I)I"⟩ ∈ gws := gws_mem (kp_2 (List.mem_of_getElem? (i := 8) rfl)) rfl
theorem kw_1057 : Cond.selects "ClockedFlows" ⟨"ClockedFlows", "isEquation", "(IIII)Z"⟩ ⟨"ClockedFlows", "isEquation", "(IIII)Z"⟩ ∈ gws := gws_mem (kp_2 (List.mem_of_getElem? (i := 9) rfl)) rfl
theorem kw_1058 : Cond.selects "ClockedFlows" ⟨"ClockedFlows", "layTrail", "(II)V"⟩ ⟨"ClockedFlows", "layTrail", "(II)V"⟩ ∈ gws := gws_mem (kp_2 (List.mem_of_getElem? (i := 10) rfl)) rfl
theorem kw_1059 : Cond.selects "ClockedFlows" ⟨"ClockedFlows", "sameOnTrail", "(II)Z"⟩ ⟨"ClockedFlows", "sameOnTrail", "(II)Z"⟩ ∈ gws := gws_mem (kp_2 (List.mem_of_getElem? (i := 11) rfl)) rfl
theorem kw_1060 : Cond.selects "ClockedFlows" ⟨"ClockedFlows", "holds", "(I)Z"⟩ ⟨"ClockedFlows", "holds", "(I)Z"⟩ ∈ gws := gws_mem (kp_2 (List.mem_of_getElem? (i := 12) rfl)) rfl
theorem kw_1061 : Cond.selects "ClockedFlows" ⟨"ClockedFlows", "explains", "(II)Z"⟩ ⟨"ClockedFlows", "explains", "(II)Z"⟩ ∈ gws := gws_mem (kp_2 (List.mem_of_getElem? (i := 13) rfl)) rfl
theorem kw_1062 : Cond.selects "ClockedFlows" ⟨"ClockedFlows", "timesThere", "(III)I"⟩ ⟨"ClockedFlows", "timesThere", "(III)I"⟩ ∈ gws := gws_mem (kp_2 (List.mem_of_getElem? (i := 14) rfl)) rfl
theorem kw_1063 : Cond.selects "ClockedFlowsModel" ⟨"ClockedFlowsModel", "readProgram", "()I"⟩ ⟨"ClockedFlowsModel", "readProgram", "()I"⟩ ∈ gws := gws_mem (kp_2 (List.mem_of_getElem? (i := 15) rfl)) rfl
theorem kw_1064 : Cond.selects "ClockedFlowsModel" ⟨"ClockedFlowsModel", "letterAt", "(I)I"⟩ ⟨"ClockedFlowsModel", "letterAt", "(I)I"⟩ ∈ gws := gws_mem (kp_3 (List.mem_of_getElem? (i := 0) rfl)) rfl
theorem kw_1065 : Cond.selects "ClockedFlowsModel" ⟨"ClockedFlowsModel", "readEquation", "(II)Z"⟩ ⟨"ClockedFlowsModel", "readEquation", "(II)Z"⟩ ∈ gws := gws_mem (kp_3 (List.mem_of_getElem? (i := 1) rfl)) rfl
theorem kw_1066 : Cond.selects "ClockedFlowsModel" ⟨"ClockedFlowsModel", "soundNow", "()Z"⟩ ⟨"ClockedFlowsModel", "soundNow", "()Z"⟩ ∈ gws := gws_mem (kp_3 (List.mem_of_getElem? (i := 2) rfl)) rfl
theorem kw_1067 : Cond.selects "ClockedFlowsModel" ⟨"ClockedFlowsModel", "find", "([I)V"⟩ ⟨"ClockedFlowsModel", "find", "([I)V"⟩ ∈ gws := gws_mem (kp_3 (List.mem_of_getElem? (i := 3) rfl)) rfl
theorem kw_1068 : Cond.selects "ClockedFlowsModel" ⟨"ClockedFlowsModel", "findClocks", "([I)V"⟩ ⟨"ClockedFlowsModel", "findClocks", "([I)V"⟩ ∈ gws := gws_mem (kp_3 (List.mem_of_getElem? (i := 4) rfl)) rfl
theorem kw_1069 : Cond.selects "ClockedFlowsModel" ⟨"ClockedFlowsModel", "asks", "([II)Z"⟩ ⟨"ClockedFlowsModel", "asks", "([II)Z"⟩ ∈ gws := gws_mem (kp_3 (List.mem_of_getElem? (i := 5) rfl)) rfl
theorem kw_1070 : Cond.selects "ClockedFlowsModel" ⟨"ClockedFlowsModel", "settle", "(II)Z"⟩ ⟨"ClockedFlowsModel", "settle", "(II)Z"⟩ ∈ gws := gws_mem (kp_3 (List.mem_of_getElem? (i := 6) rfl)) rfl
theorem kw_1071 : Cond.selects "ClockedFlowsModel" ⟨"ClockedFlowsModel", "root", "(I)I"⟩ ⟨"ClockedFlowsModel", "root", "(I)I"⟩ ∈ gws := gws_mem (kp_3 (List.mem_of_getElem? (i := 7) rfl)) rfl
theorem kw_1072 : Cond.selects "ClockedFlowsModel" ⟨"ClockedFlowsModel", "isMet", "(II)Z"⟩ ⟨"ClockedFlowsModel", "isMet", "(II)Z"⟩ ∈ gws := gws_mem (kp_3 (List.mem_of_getElem? (i := 8) rfl)) rfl
theorem kw_1073 : Cond.selects "ClockedFlowsModel" ⟨"ClockedFlowsModel", "like", "(II)Z"⟩ ⟨"ClockedFlowsModel", "like", "(II)Z"⟩ ∈ gws := gws_mem (kp_3 (List.mem_of_getElem? (i := 9) rfl)) rfl
theorem kw_1074 : Cond.selects "ClockedFlowsModel" ⟨"ClockedFlowsModel", "findOrder", "([I)V"⟩ ⟨"ClockedFlowsModel", "findOrder", "([I)V"⟩ ∈ gws := gws_mem (kp_3 (List.mem_of_getElem? (i := 10) rfl)) rfl
theorem kw_1075 : Cond.selects "ClockedFlowsModel" ⟨"ClockedFlowsModel", "waits", "([II)I"⟩ ⟨"ClockedFlowsModel", "waits", "([II)I"⟩ ∈ gws := gws_mem (kp_3 (List.mem_of_getElem? (i := 11) rfl)) rfl
theorem kw_1076 : Cond.selects "ClockedFlowsModel" ⟨"ClockedFlowsModel", "clocks", "(I)I"⟩ ⟨"ClockedFlowsModel", "clocks", "(I)I"⟩ ∈ gws := gws_mem (kp_3 (List.mem_of_getElem? (i := 12) rfl)) rfl
theorem kw_1077 : Cond.selects "ClockedFlowsModel" ⟨"ClockedFlowsModel", "findLevels", "([I)V"⟩ ⟨"ClockedFlowsModel", "findLevels", "([I)V"⟩ ∈ gws := gws_mem (kp_3 (List.mem_of_getElem? (i := 13) rfl)) rfl
theorem kw_1078 : Cond.selects "ClockedFlowsModel" ⟨"ClockedFlowsModel", "isOne", "([II)Z"⟩ ⟨"ClockedFlowsModel", "isOne", "([II)Z"⟩ ∈ gws := gws_mem (kp_3 (List.mem_of_getElem? (i := 14) rfl)) rfl
theorem kw_1079 : Cond.selects "ClockedFlowsModel" ⟨"ClockedFlowsModel", "isRaw", "([II)Z"⟩ ⟨"ClockedFlowsModel", "isRaw", "([II)Z"⟩ ∈ gws := gws_mem (kp_3 (List.mem_of_getElem? (i := 15) rfl)) rfl
theorem kw_1080 : Cond.selects "ClockedFlowsModel" ⟨"ClockedFlowsModel", "isSound", "()Z"⟩ ⟨"ClockedFlowsModel", "isSound", "()Z"⟩ ∈ gws := gws_mem (kp_4 (List.mem_of_getElem? (i := 0) rfl)) rfl
theorem kw_1081 : Cond.selects "ClockedFlowsModel" ⟨"ClockedFlowsModel", "there", "()I"⟩ ⟨"ClockedFlowsModel", "there", "()I"⟩ ∈ gws := gws_mem (kp_4 (List.mem_of_getElem? (i := 1) rfl)) rfl
theorem kw_1082 : Cond.selects "ClockedFlowsModel" ⟨"ClockedFlowsModel", "noStream", "(I)Z"⟩ ⟨"ClockedFlowsModel", "noStream", "(I)Z"⟩ ∈ gws := gws_mem (kp_4 (List.mem_of_getElem? (i := 2) rfl)) rfl
theorem kw_1083 : Cond.selects "ClockedFlowsModel" ⟨"ClockedFlowsModel", "note", "()V"⟩ ⟨"ClockedFlowsModel", "note", "()V"⟩ ∈ gws := gws_mem (kp_4 (List.mem_of_getElem? (i := 3) rfl)) rfl
theorem kw_1084 : Cond.selects "ClockedFlowsModel" ⟨"ClockedFlowsModel", "goTick", "([III)I"⟩ ⟨"ClockedFlowsModel", "goTick", "([III)I"⟩ ∈ gws := gws_mem (kp_4 (List.mem_of_getElem? (i := 4) rfl)) rfl
theorem kw_1085 : Cond.selects "ClockedFlowsModel" ⟨"ClockedFlowsModel", "isThere", "([II)Z"⟩ ⟨"ClockedFlowsModel", "isThere", "([II)Z"⟩ ∈ gws := gws_mem (kp_4 (List.mem_of_getElem? (i := 5) rfl)) rfl
theorem kw_1086 : Cond.selects "ClockedFlowsModel" ⟨"ClockedFlowsModel", "valueOf", "([IIII)I"⟩ ⟨"ClockedFlowsModel", "valueOf", "([IIII)I"⟩ ∈ gws := gws_mem (kp_4 (List.mem_of_getElem? (i := 6) rfl)) rfl
theorem kw_1087 : Cond.selects "ClockedFlowsModel" ⟨"ClockedFlowsModel", "keepOn", "([I)V"⟩ ⟨"ClockedFlowsModel", "keepOn", "([I)V"⟩ ∈ gws := gws_mem (kp_4 (List.mem_of_getElem? (i := 7) rfl)) rfl
theorem kw_1088 : Cond.selects "ClockedFlowsModel" ⟨"ClockedFlowsModel", "areFigures", "(IIII)Z"⟩ ⟨"ClockedFlowsModel", "areFigures", "(IIII)Z"⟩ ∈ gws := gws_mem (kp_4 (List.mem_of_getElem? (i := 8) rfl)) rfl
theorem kw_1089 : Cond.selects "ClockedFlowsModel" ⟨"ClockedFlowsModel", "begin", "()V"⟩ ⟨"ClockedFlowsModel", "begin", "()V"⟩ ∈ gws := gws_mem (kp_4 (List.mem_of_getElem? (i := 9) rfl)) rfl
theorem kw_1090 : Cond.selects "ClockedFlowsModel" ⟨"ClockedFlowsModel", "goTicks", "(III)V"⟩ ⟨"ClockedFlowsModel", "goTicks", "(III)V"⟩ ∈ gws := gws_mem (kp_4 (List.mem_of_getElem? (i := 10) rfl)) rfl
theorem kw_1091 : Cond.selects "ClockedFlowsModel" ⟨"ClockedFlowsModel", "layStates", "(II)V"⟩ ⟨"ClockedFlowsModel", "layStates", "(II)V"⟩ ∈ gws := gws_mem (kp_4 (List.mem_of_getElem? (i := 11) rfl)) rfl
theorem kw_1092 : Cond.selects "ClockedFlowsModel" ⟨"ClockedFlowsModel", "areAlike", "(II)Z"⟩ ⟨"ClockedFlowsModel", "areAlike", "(II)Z"⟩ ∈ gws := gws_mem (kp_4 (List.mem_of_getElem? (i := 12) rfl)) rfl
theorem kw_1093 : Cond.selects "ClockedFlowsModel" ⟨"ClockedFlowsModel", "does", "(I)Z"⟩ ⟨"ClockedFlowsModel", "does", "(I)Z"⟩ ∈ gws := gws_mem (kp_4 (List.mem_of_getElem? (i := 13) rfl)) rfl
theorem kw_1094 : Cond.selects "ClockedFlowsModel" ⟨"ClockedFlowsModel", "isSo", "(IIII)Z"⟩ ⟨"ClockedFlowsModel", "isSo", "(IIII)Z"⟩ ∈ gws := gws_mem (kp_4 (List.mem_of_getElem? (i := 14) rfl)) rfl
theorem kw_1095 : Cond.selects "ClockedFlowsModel" ⟨"ClockedFlowsModel", "areLike", "(II)Z"⟩ ⟨"ClockedFlowsModel", "areLike", "(II)Z"⟩ ∈ gws := gws_mem (kp_4 (List.mem_of_getElem? (i := 15) rfl)) rfl
theorem kw_1096 : Cond.selects "ClockedFlowsModel" ⟨"ClockedFlowsModel", "explains", "(II)Z"⟩ ⟨"ClockedFlowsModel", "explains", "(II)Z"⟩ ∈ gws := gws_mem (kp_5 (List.mem_of_getElem? (i := 0) rfl)) rfl
theorem kw_1097 : Cond.selects "ClockedFlowsModel" ⟨"ClockedFlowsModel", "timesThere", "(III)I"⟩ ⟨"ClockedFlowsModel", "timesThere", "(III)I"⟩ ∈ gws := gws_mem (kp_5 (List.mem_of_getElem? (i := 1) rfl)) rfl
theorem kw_1098 : Cond.selects "ClockedFlowsModel" ⟨"ClockedFlowsModel", "sumOf", "(I)I"⟩ ⟨"ClockedFlowsModel", "sumOf", "(I)I"⟩ ∈ gws := gws_mem (kp_5 (List.mem_of_getElem? (i := 2) rfl)) rfl
theorem inX0 : ∀ w ∈ u_ws RX0 TX0 3, w ∈ gws := by
  intro w hw
  obtain ⟨k, hk, rfl⟩ := List.mem_map.mp hw
  have hk := List.mem_range.mp hk
  match k, hk with
  | 0, _ => exact kw_135
  | 1, _ => exact kw_137
  | 2, _ => exact kw_139
  | k + 3, hk => exact absurd hk (by omega)
theorem inX1 : ∀ w ∈ u_ws RX1 TX1 6, w ∈ gws := by
  intro w hw
  obtain ⟨k, hk, rfl⟩ := List.mem_map.mp hw
  have hk := List.mem_range.mp hk
  match k, hk with
  | 0, _ => exact kw_60
  | 1, _ => exact kw_62
  | 2, _ => exact kw_64
  | 3, _ => exact kw_66
  | 4, _ => exact kw_68
  | 5, _ => exact kw_70
  | k + 6, hk => exact absurd hk (by omega)
theorem inX2 : ∀ w ∈ u_ws RX2 TX2 11, w ∈ gws := by
  intro w hw
  obtain ⟨k, hk, rfl⟩ := List.mem_map.mp hw
  have hk := List.mem_range.mp hk
  match k, hk with
  | 0, _ => exact kw_99
  | 1, _ => exact kw_101
  | 2, _ => exact kw_103
  | 3, _ => exact kw_105
  | 4, _ => exact kw_107
  | 5, _ => exact kw_109
  | 6, _ => exact kw_111
  | 7, _ => exact kw_113
  | 8, _ => exact kw_115
  | 9, _ => exact kw_117
  | 10, _ => exact kw_119
  | k + 11, hk => exact absurd hk (by omega)
theorem inX3 : ∀ w ∈ u_ws RX3 TX3 5, w ∈ gws := by
  intro w hw
  obtain ⟨k, hk, rfl⟩ := List.mem_map.mp hw
  have hk := List.mem_range.mp hk
  match k, hk with
  | 0, _ => exact kw_154
  | 1, _ => exact kw_156
  | 2, _ => exact kw_158
  | 3, _ => exact kw_160
  | 4, _ => exact kw_162
  | k + 5, hk => exact absurd hk (by omega)
theorem inX4 : ∀ w ∈ u_ws RX4 TX4 2, w ∈ gws := by
  intro w hw
  obtain ⟨k, hk, rfl⟩ := List.mem_map.mp hw
  have hk := List.mem_range.mp hk
  match k, hk with
  | 0, _ => exact kw_34
  | 1, _ => exact kw_36
  | k + 2, hk => exact absurd hk (by omega)
theorem inX5 : ∀ w ∈ u_ws RX5 TX5 10, w ∈ gws := by
  intro w hw
  obtain ⟨k, hk, rfl⟩ := List.mem_map.mp hw
  have hk := List.mem_range.mp hk
  match k, hk with
  | 0, _ => exact kw_176
  | 1, _ => exact kw_178
  | 2, _ => exact kw_180
  | 3, _ => exact kw_182
  | 4, _ => exact kw_184
  | 5, _ => exact kw_186
  | 6, _ => exact kw_188
  | 7, _ => exact kw_190
  | 8, _ => exact kw_192
  | 9, _ => exact kw_194
  | k + 10, hk => exact absurd hk (by omega)
theorem inX6 : ∀ w ∈ u_ws RX6 TX6 28, w ∈ gws := by
  intro w hw
  obtain ⟨k, hk, rfl⟩ := List.mem_map.mp hw
  have hk := List.mem_range.mp hk
  match k, hk with
  | 0, _ => exact kw_677
  | 1, _ => exact kw_679
  | 2, _ => exact kw_681
  | 3, _ => exact kw_683
  | 4, _ => exact kw_685
  | 5, _ => exact kw_687
  | 6, _ => exact kw_689
  | 7, _ => exact kw_691
  | 8, _ => exact kw_693
  | 9, _ => exact kw_695
  | 10, _ => exact kw_697
  | 11, _ => exact kw_699
  | 12, _ => exact kw_701
  | 13, _ => exact kw_703
  | 14, _ => exact kw_705
  | 15, _ => exact kw_707
  | 16, _ => exact kw_709
  | 17, _ => exact kw_711
  | 18, _ => exact kw_713
  | 19, _ => exact kw_715
  | 20, _ => exact kw_717
  | 21, _ => exact kw_719
  | 22, _ => exact kw_721
  | 23, _ => exact kw_723
  | 24, _ => exact kw_725
  | 25, _ => exact kw_727
  | 26, _ => exact kw_729
  | 27, _ => exact kw_731
  | k + 28, hk => exact absurd hk (by omega)
end
section
/-! whole numbers as the machine's ints: iZ -/
def iZ (z : Int) : Int32 := Int32.ofInt z
abbrev rg (z : Int) : Prop := -2147483648 ≤ z ∧ z < 2147483648
theorem iZ_toInt {z : Int} (h : rg z) : (iZ z).toInt = z := Int32.toInt_ofInt_of_le (by have := h.1; omega) (by have := h.2; omega)
theorem iZ_of (x : Int32) : iZ x.toInt = x := Int32.ofInt_toInt x
theorem rg_of (x : Int32) : rg x.toInt := ⟨by have := Int32.le_toInt x; omega, by have := Int32.toInt_lt x; omega⟩
theorem iZ_add (a b : Int) : iZ a + iZ b = iZ (a + b) := (Int32.ofInt_add a b).symm
theorem iZ_sub (a b : Int) : iZ a - iZ b = iZ (a - b) := (Int32.ofInt_sub a b).symm
theorem iZ_mul (a b : Int) : iZ a * iZ b = iZ (a * b) := (Int32.ofInt_mul a b).symm
theorem iZ_neg (a : Int) : - iZ a = iZ (-a) := (Int32.ofInt_neg a).symm
theorem iZ_lt {a b : Int} (ha : rg a) (hb : rg b) : iZ a < iZ b ↔ a < b := by rw [Int32.lt_iff_toInt_lt, iZ_toInt ha, iZ_toInt hb]
theorem iZ_le {a b : Int} (ha : rg a) (hb : rg b) : iZ a ≤ iZ b ↔ a ≤ b := by rw [Int32.le_iff_toInt_le, iZ_toInt ha, iZ_toInt hb]
theorem iZ_eq {a b : Int} (ha : rg a) (hb : rg b) : iZ a = iZ b ↔ a = b := by rw [← Int32.toInt_inj, iZ_toInt ha, iZ_toInt hb]
theorem iZ_0 : iZ 0 = 0 := rfl
theorem rg_0 : rg 0 := ⟨by omega, by omega⟩
theorem iZ_nat (n : Nat) : iZ (n : Int) = nI n := Int32.ofInt_eq_ofNat
theorem iZ_clamp {z : Int} (h : rg z) : (iZ z).toNatClampNeg = z.toNat := by
  show (iZ z).toInt.toNat = _
  rw [iZ_toInt h]
theorem iZ_clampN {k : Nat} (h : k < 2147483648) : (iZ (k : Int)).toNatClampNeg = k := by
  rw [iZ_clamp ⟨by omega, by omega⟩]; omega
theorem iZ_in {k n : Nat} (h : k < n) (hn : n < 2147483648) : vp_in (iZ (k : Int)) n := by
  rw [vp_in_iff, iZ_toInt ⟨by omega, by omega⟩]; omega
theorem iZ_div {a b : Int} (ha : rg a) (h0 : 0 ≤ a) (hb : rg b) (h1 : 0 < b) : iZ a / iZ b = iZ (a / b) := by
  apply Int32.toInt_inj.mp
  have hd : a.tdiv b = a / b := Int.tdiv_eq_ediv_of_nonneg h0
  have hne : iZ b ≠ -1 := fun h => by
    have h2 := congrArg Int32.toInt h
    rw [iZ_toInt hb] at h2
    have : (-1 : Int32).toInt = -1 := by decide
    omega
  have hq : 0 ≤ a / b := Int.ediv_nonneg h0 (by omega)
  have hq2 : a / b ≤ a := Int.ediv_le_self b h0
  rw [Int32.toInt_div_of_ne_right _ _ hne, iZ_toInt ha, iZ_toInt hb, hd, iZ_toInt ⟨by omega, by omega⟩]
theorem iZ_rem {a b : Int} (ha : rg a) (h0 : 0 ≤ a) (hb : rg b) (h1 : 0 < b) : iZ a - iZ a / iZ b * iZ b = iZ (a % b) := by
  rw [iZ_div ha h0 hb h1, iZ_mul, iZ_sub]
  congr 1
  rw [Int.emod_def, Int.mul_comm b]
theorem iZ_ne0 {b : Int} (hb : rg b) (h1 : b ≠ 0) : ¬ iZ b = 0 := fun h => h1 ((iZ_eq hb rg_0).mp h)
theorem nI_or (a b : Nat) : nI a ||| nI b = nI (a ||| b) := by
  apply Int32.toBitVec.inj
  simp [nI]
theorem nI_and (a b : Nat) : nI a &&& nI b = nI (a &&& b) := by
  apply Int32.toBitVec.inj
  simp [nI]
theorem iZ_or (a b : Nat) : iZ (a : Int) ||| iZ (b : Int) = iZ ((a ||| b : Nat) : Int) := by rw [iZ_nat, iZ_nat, iZ_nat, nI_or]
theorem iZ_and (a b : Nat) : iZ (a : Int) &&& iZ (b : Int) = iZ ((a &&& b : Nat) : Int) := by rw [iZ_nat, iZ_nat, iZ_nat, nI_and]
theorem iZ_shl1 : ∀ k, k < 9 → iZ 1 <<< (iZ ((k : Nat) : Int) &&& 31) = iZ ((2 ^ k : Nat) : Int) := by decide +kernel
theorem iZ_shr {a k : Nat} (ha : a < 2147483648) (hk : k < 31) : iZ (a : Int) >>> (iZ (k : Int) &&& 31) = iZ ((a / 2 ^ k : Nat) : Int) := by
  rw [iZ_nat, iZ_nat, iZ_nat]
  refine pk_shrN ha _ k ?_
  revert k
  decide +kernel
/-- not x, and another: what of the other is not in x -/
theorem iZ_andnot {a b : Nat} (ha : a < 256) : iZ (a : Int) &&& (iZ (b : Int) ^^^ iZ (-1)) = iZ ((a &&& (b ^^^ 255) : Nat) : Int) := by
  rw [iZ_nat, iZ_nat, iZ_nat]
  apply Int32.toBitVec.inj
  have h1 : (iZ (-1)).toBitVec = BitVec.allOnes 32 := by decide
  apply BitVec.eq_of_getLsbD_eq
  intro i hi
  have e1 : (nI a).toBitVec = BitVec.ofNat 32 a := rfl
  have e2 : (nI b).toBitVec = BitVec.ofNat 32 b := rfl
  have e3 : (nI (a &&& (b ^^^ 255))).toBitVec = BitVec.ofNat 32 (a &&& (b ^^^ 255)) := rfl
  rw [Int32.toBitVec_and, Int32.toBitVec_xor, e1, e2, e3, h1]
  simp only [BitVec.getLsbD_and, BitVec.getLsbD_xor, BitVec.getLsbD_ofNat, BitVec.getLsbD_allOnes, hi, decide_true, Bool.true_and, Nat.testBit_and, Nat.testBit_xor]
  by_cases h8 : i < 8
  · have : Nat.testBit 255 i = true := by
      have : ∀ j, j < 8 → Nat.testBit 255 j = true := by decide
      exact this i h8
    rw [this]
  · have : Nat.testBit a i = false := Nat.testBit_lt_two_pow (Nat.lt_of_lt_of_le ha (Nat.pow_le_pow_right (n := 2) (i := 8) (by omega) (by omega)))
    rw [this, Bool.false_and, Bool.false_and]
/-- longs -/
def lZ (z : Int) : Int64 := Int64.ofInt z
abbrev rgL (z : Int) : Prop := -9223372036854775808 ≤ z ∧ z < 9223372036854775808
theorem lZ_toInt {z : Int} (h : rgL z) : (lZ z).toInt = z := Int64.toInt_ofInt_of_le (by have := h.1; omega) (by have := h.2; omega)
theorem lZ_of (x : Int64) : lZ x.toInt = x := Int64.ofInt_toInt x
theorem rgL_of (x : Int64) : rgL x.toInt := ⟨by have := Int64.le_toInt x; omega, by have := Int64.toInt_lt x; omega⟩
theorem iZ_l {z : Int} (h : rg z) : (iZ z).toInt64 = lZ z := by
  apply Int64.toInt_inj.mp
  rw [Int32.toInt_toInt64, iZ_toInt h, lZ_toInt ⟨by omega, by omega⟩]
theorem lZ_i (z : Int) : (lZ z).toInt32 = iZ z := Int64.toInt32_ofInt
theorem lZ_lt {a b : Int} (ha : rgL a) (hb : rgL b) : lZ a < lZ b ↔ a < b := by rw [Int64.lt_iff_toInt_lt, lZ_toInt ha, lZ_toInt hb]
theorem lZ_eq {a b : Int} (ha : rgL a) (hb : rgL b) : lZ a = lZ b ↔ a = b := by rw [← Int64.toInt_inj, lZ_toInt ha, lZ_toInt hb]
end
section
/-! THE WORLD: one list of cells for the class and the reference together, in the order in which they are made.
σ: the ints (cell, place), z: the longs (cell), ρ: the references (cell, place) -/
abbrev gS : Type := Nat → Nat → Int
abbrev gZ : Type := Nat → Int64
abbrev gQ : Type := Nat → Nat → Option Nat
/-- kinds of cells: 0 .. 6 objects (their class's number in vwCl), 7 int[], 8 boolean[], 9 Flow[] -/
def ckL : List Nat := [5, 4, 7, 1, 7, 7, 7, 7, 1, 7, 7, 7, 7, 2, 7, 7, 7, 7, 7, 7, 7, 0, 9,
  1, 7, 7, 7, 7, 1, 7, 7, 7, 7, 1, 7, 7, 7, 7, 1, 7, 7, 7, 7, 1, 7, 7, 7, 7, 1, 7, 7, 7, 7, 1, 7, 7, 7, 7,
  1, 7, 7, 7, 7, 1, 7, 7, 7, 7, 1, 7, 7, 7, 7, 1, 7, 7, 7, 7, 1, 7, 7, 7, 7, 1, 7, 7, 7, 7, 1, 7, 7, 7, 7,
  3, 7, 7, 7, 8, 9, 8, 7, 1, 7, 7, 7, 7, 1, 7, 7, 7, 7,
  6, 7, 7, 7, 7, 7, 7, 8, 7, 7, 7, 7, 7, 7, 7, 7, 7, 7]
def cnL : List Nat := [0, 0, 40, 0, 8, 24, 8, 8, 0, 8, 24, 8, 8, 0, 8, 8, 8, 8, 8, 8, 8, 0, 14,
  0, 8, 24, 8, 8, 0, 8, 24, 8, 8, 0, 8, 24, 8, 8, 0, 8, 24, 8, 8, 0, 8, 24, 8, 8, 0, 8, 24, 8, 8, 0, 8, 24, 8, 8,
  0, 8, 24, 8, 8, 0, 8, 24, 8, 8, 0, 8, 24, 8, 8, 0, 8, 24, 8, 8, 0, 8, 24, 8, 8, 0, 8, 24, 8, 8, 0, 8, 24, 8, 8,
  0, 6, 6, 6, 6, 2, 2, 328, 0, 8, 24, 8, 8, 0, 8, 24, 8, 8,
  0, 40, 50, 50, 50, 700, 100, 2, 6, 6, 6, 6, 8, 8, 8, 8, 8, 328]
def ck (i : Nat) : Nat := ckL.getD i 10
def cn (i : Nat) : Nat := cnL.getD i 0
/-- the fields of a class: 0 int, 1 a reference, 2 long -/
def ftL : List (List Nat) := [[0, 0, 1], [0, 0, 1, 1, 1, 1], [0, 0, 0, 0, 1, 1, 1, 1, 1, 1, 1], [0, 1, 1, 1, 1], [1, 0], [1, 1, 1, 1, 1, 1, 1, 1, 1, 2], [0, 1, 0, 0, 1, 1, 1, 1, 0, 1, 1, 0, 1, 1, 1, 1, 2, 1, 1, 0, 0, 0, 1, 1, 1, 1, 0, 0]]
def ft (c k : Nat) : Nat := (ftL.getD c []).getD k 3
def nf (c : Nat) : Nat := (ftL.getD c []).length
/-- where a reference leads: cell, place -/
def tgL (i : Nat) : List Nat := match i with
  | 0 => [1, 3, 8, 13, 21, 93, 98, 99, 100]
  | 1 => [2]
  | 13 => [0, 0, 0, 0, 14, 15, 16, 17, 18, 19, 20]
  | 21 => [0, 0, 22]
  | 93 => [0, 94, 95, 96, 97]
  | 111 => [0, 112, 0, 0, 113, 114, 115, 116, 0, 117, 118, 0, 119, 120, 121, 122, 0, 123, 124, 0, 0, 0, 125, 126, 127, 128]
  | _ => []
def tg (i k : Nat) : Nat := if ck i = 1 then i + k - 1 else if i = 22 then 23 + 5 * k else if i = 98 then 101 + 5 * k else (tgL i).getD k 0
/-- a place that holds a reference -/
def isr (i k : Nat) : Bool := (ck i == 9 && decide (k < cn i)) || (decide (ck i < 7) && ft (ck i) k == 1)
def gv (ρ : gQ) (σ : gS) (z : gZ) (i k : Nat) : Value := if ft (ck i) k = 0 then .int (iZ (σ i k)) else if ft (ck i) k = 1 then va_rf (ρ i k) else .long (z i)
def gE (cs : ClassId × ClassId × ClassId) (ρ : gQ) (σ : gS) (z : gZ) (i : Nat) : va_E :=
  if ck i = 7 then .inl (cs.1, cn i, .inl (fun k => iZ (σ i k)))
  else if ck i = 8 then .inl (cs.2.1, cn i, .inl (fun k => iZ (σ i k)))
  else if ck i = 9 then .inl (cs.2.2, cn i, .inr (.inr (.inr (.inr (ρ i)))))
  else .inr (ck i, (List.range (nf (ck i))).map (gv ρ σ z i))
def gWn (cs : ClassId × ClassId × ClassId) (N : Nat) (ad : Nat → Nat) (ρ : gQ) (σ : gS) (z : gZ) : va_W := (List.range N).map (fun i => (ad i, gE cs ρ σ z i))
theorem gWn_at {cs : ClassId × ClassId × ClassId} {N : Nat} {ad : Nat → Nat} {ρ : gQ} {σ : gS} {z : gZ} {i : Nat} (h : i < N) : (gWn cs N ad ρ σ z)[i]? = some (ad i, gE cs ρ σ z i) := by
  rw [gWn, List.getElem?_map, List.getElem?_range h]; rfl
theorem gWn_set {cs : ClassId × ClassId × ClassId} {N : Nat} {ad : Nat → Nat} {ρ ρ' : gQ} {σ σ' : gS} {z z' : gZ} {i : Nat} {e : va_E} (h : i < N) (he : e = gE cs ρ' σ' z' i) (ho : ∀ k, k ≠ i → gE cs ρ' σ' z' k = gE cs ρ σ z k) : (gWn cs N ad ρ σ z).set i (ad i, e) = gWn cs N ad ρ' σ' z' := by
  apply List.ext_getElem?
  intro k
  rw [List.getElem?_set]
  have hl : (gWn cs N ad ρ σ z).length = N := by rw [gWn, List.length_map, List.length_range]
  have hl' : (gWn cs N ad ρ' σ' z').length = N := by rw [gWn, List.length_map, List.length_range]
  by_cases hk : i = k
  · subst hk
    rw [if_pos rfl, if_pos (by rw [hl]; exact h), gWn_at h, he]
  · rw [if_neg hk]
    by_cases hkN : k < N
    · rw [gWn_at hkN, gWn_at hkN, ho k (fun q => hk q.symm)]
    · rw [List.getElem?_eq_none (by omega), List.getElem?_eq_none (by omega)]
theorem gE_congr {cs : ClassId × ClassId × ClassId} {ρ ρ' : gQ} {σ σ' : gS} {z z' : gZ} {i : Nat} (h1 : ρ' i = ρ i) (h2 : σ' i = σ i) (h3 : z' i = z i) : gE cs ρ' σ' z' i = gE cs ρ σ z i := by
  have : gv ρ' σ' z' i = gv ρ σ z i := by funext k; unfold gv; rw [h1, h2, h3]
  unfold gE; rw [h1, h2, this]
theorem gE_int {cs : ClassId × ClassId × ClassId} {ρ : gQ} {σ : gS} {z : gZ} {i : Nat} (h : ck i = 7) : gE cs ρ σ z i = .inl (cs.1, cn i, .inl (fun k => iZ (σ i k))) := by rw [gE, if_pos h]
theorem gE_bool {cs : ClassId × ClassId × ClassId} {ρ : gQ} {σ : gS} {z : gZ} {i : Nat} (h : ck i = 8) : gE cs ρ σ z i = .inl (cs.2.1, cn i, .inl (fun k => iZ (σ i k))) := by rw [gE, if_neg (by omega), if_pos h]
theorem gE_ref {cs : ClassId × ClassId × ClassId} {ρ : gQ} {σ : gS} {z : gZ} {i : Nat} (h : ck i = 9) : gE cs ρ σ z i = .inl (cs.2.2, cn i, .inr (.inr (.inr (.inr (ρ i))))) := by rw [gE, if_neg (by omega), if_neg (by omega), if_pos h]
theorem gE_obj {cs : ClassId × ClassId × ClassId} {ρ : gQ} {σ : gS} {z : gZ} {i ci : Nat} (h : ck i = ci) (hc : ci < 7) : gE cs ρ σ z i = .inr (ci, (List.range (nf ci)).map (gv ρ σ z i)) := by
  subst h; rw [gE, if_neg (by omega), if_neg (by omega), if_neg (by omega)]
theorem gf_at {ρ : gQ} {σ : gS} {z : gZ} {i n k : Nat} (h : k < n) : ((List.range n).map (gv ρ σ z i))[k]? = some (gv ρ σ z i k) := by
  rw [List.getElem?_map, List.getElem?_range h]; rfl
theorem gf_set {ρ ρ' : gQ} {σ σ' : gS} {z z' : gZ} {i n k : Nat} {v : Value} (hv : v = gv ρ' σ' z' i k) (ho : ∀ j, j ≠ k → j < n → gv ρ' σ' z' i j = gv ρ σ z i j) : ((List.range n).map (gv ρ σ z i)).set k v = (List.range n).map (gv ρ' σ' z' i) := by
  apply List.ext_getElem?
  intro j
  rw [List.getElem?_set]
  by_cases hk : k = j
  · subst hk
    rw [if_pos rfl]
    by_cases hn : k < n
    · rw [if_pos (by rw [List.length_map, List.length_range]; exact hn), gf_at hn, hv]
    · rw [if_neg (by rw [List.length_map, List.length_range]; exact hn), List.getElem?_eq_none (by rw [List.length_map, List.length_range]; omega)]
  · rw [if_neg hk]
    by_cases hn : j < n
    · rw [gf_at hn, gf_at hn, ho j (fun q => hk q.symm) hn]
    · rw [List.getElem?_eq_none (by rw [List.length_map, List.length_range]; omega), List.getElem?_eq_none (by rw [List.length_map, List.length_range]; omega)]
/-- one place anew -/
def up2 {α : Type} (σ : Nat → Nat → α) (i k : Nat) (v : α) : Nat → Nat → α := fun a b => if a = i ∧ b = k then v else σ a b
theorem up2_eq {α : Type} (σ : Nat → Nat → α) (i k : Nat) (v : α) : up2 σ i k v i k = v := if_pos ⟨rfl, rfl⟩
theorem up2_c {α : Type} (σ : Nat → Nat → α) {i k a b : Nat} (v : α) (h : a ≠ i) : up2 σ i k v a b = σ a b := if_neg (fun q => h q.1)
theorem up2_k {α : Type} (σ : Nat → Nat → α) {i k a b : Nat} (v : α) (h : b ≠ k) : up2 σ i k v a b = σ a b := if_neg (fun q => h q.2)
theorem up2_row {α : Type} (σ : Nat → Nat → α) {i k a : Nat} (v : α) (h : a ≠ i) : up2 σ i k v a = σ a := funext fun _ => up2_c σ v h
/-- a whole row anew -/
def upr {α : Type} (σ : Nat → α) (i : Nat) (f : α) : Nat → α := fun a => if a = i then f else σ a
theorem upr_eq {α : Type} (σ : Nat → α) (i : Nat) (f : α) : upr σ i f i = f := if_pos rfl
theorem upr_c {α : Type} (σ : Nat → α) {i a : Nat} (f : α) (h : a ≠ i) : upr σ i f a = σ a := if_neg h
/-- class numbers, addresses, references, the cells of the system, the constants' addresses -/
abbrev gT : Type := va_G × (ClassId × ClassId × ClassId) × (Nat → Prop) × (Nat → Nat) × gQ × Nat × (Nat → Nat) × (Nat → Nat)
abbrev tD (θ : gT) : va_G := θ.1
abbrev tC (θ : gT) : ClassId × ClassId × ClassId := θ.2.1
abbrev tA (θ : gT) : Nat → Prop := θ.2.2.1
abbrev tad (θ : gT) : Nat → Nat := θ.2.2.2.1
abbrev tq (θ : gT) : gQ := θ.2.2.2.2.1
abbrev tF (θ : gT) : Nat := θ.2.2.2.2.2.1
abbrev tK (θ : gT) : Nat → Nat := θ.2.2.2.2.2.2.1
abbrev tV (θ : gT) : Nat → Nat := θ.2.2.2.2.2.2.2
abbrev gW (θ : gT) (σ : gS) (z : gZ) : va_W := gWn (tC θ) 129 (tad θ) (tq θ) σ z
def gty (cs : ClassId × ClassId × ClassId) : List (ClassId × FieldType) := [(cs.1, .int), (cs.2.1, .boolean), (cs.2.2, .object RX1)]
def gR (σ : gS) : Prop := ∀ i k, rg (σ i k)
def gHp (θ : gT) (σ : gS) (z : gZ) (H : Heap) : Prop := va_P (tD θ) vwCl (gW θ σ z) H ∧ gR σ
def gFg (j : Nat) : Int := ([1, 1, 2, 2, 2, 3, 2, 1, 2, 2, 2, 3] : List Int).getD j 0
def gBy : List Int32 := [73, 75, 43, 45, 60, 63, 70, 80, 65, 87, 78, 77]
/-- what never changes: constants, links among the nest -/
def gSt (θ : gT) (U : State) : Prop :=
  (va_Z RX5 "FIGURES_OF_KIND" "[I" (.ref (tF θ)) (tA θ) U U.heap ∧ va_T .int (tF θ) 12 (fun j => .int (iZ (gFg j))) (tA θ) U U.heap) ∧
  (vk_R RX4 38 "IK+-<?FPAWNM" (tK θ 0) U ∧ vk_S 1 [12] [gBy] (tK θ) (tV θ) (tA θ) U U.heap ∧ va_Z "java/lang/String" "COMPACT_STRINGS" "Z" (.int 1) (tA θ) U U.heap) ∧
  va_Nw (.methodLinkNest RX4 35 yX5_figuresOf RX5) U ∧ va_Nw (.methodLinkNest RX4 49 yX5_isFigure RX5) U ∧ va_Nw (.methodLinkNest RX2 97 yX5_namesStream RX5) U
theorem gSt.to {θ : gT} {s U : State} (h : gSt θ s) (hW : s.WarmedH U.vm) (hk : ∀ a : Nat, a < s.heap.size → ¬ tA θ a → U.heap[a]? = s.heap[a]?) : gSt θ U :=
  ⟨⟨(h.1.1.moved hW.alike).kept hk, (h.1.2.moved hW.alike).kept hk⟩, ⟨h.2.1.1.warm hW, (h.2.1.2.1.moved hW.alike).kept hk, (h.2.1.2.2.moved hW.alike).kept hk⟩, h.2.2.1.warmM hW, h.2.2.2.1.warmM hW, h.2.2.2.2.warmM hW⟩
theorem gSt.call {θ : gT} {U : State} {g : JFrame} {mk : MethodId} {a : Array Value} (h : gSt θ U) : gSt θ (U.calling g mk a) :=
  ⟨⟨h.1.1.moved (U := U.calling g mk a) (Vm.Alike.refl U.vm), h.1.2.moved (U := U.calling g mk a) (Vm.Alike.refl U.vm)⟩, ⟨vk_R.same (U := U.calling g mk a) rfl h.2.1.1, vk_S.moved (U := U.calling g mk a) (Vm.Alike.refl U.vm) h.2.1.2.1, h.2.1.2.2.moved (U := U.calling g mk a) (Vm.Alike.refl U.vm)⟩, va_Nw.same rfl (U := U.calling g mk a) rfl h.2.2.1, va_Nw.same rfl (U := U.calling g mk a) rfl h.2.2.2.1, va_Nw.same rfl (U := U.calling g mk a) rfl h.2.2.2.2⟩
def gPre (θ : gT) (σ : gS) (z : gZ) (U : State) : Prop := gHp θ σ z U.heap ∧ va_K (tD θ) vwCl (gty (tC θ)) U ∧ gSt θ U
/-- the addresses are apart and of the system, the references lead where they must -/
def gOK (θ : gT) : Prop := (∀ i j, i < 129 → j < 129 → tad θ i = tad θ j → i = j) ∧ (∀ i, i < 129 → tA θ (tad θ i)) ∧ ∀ i k, i < 129 → isr i k = true → tq θ i k = some (tad θ (tg i k))
theorem gOK.D {θ : gT} (h : gOK θ) (σ : gS) (z : gZ) : va_D (tA θ) (gW θ σ z) := by
  have at' : ∀ (k : Nat) (q : Nat × va_E), (gW θ σ z)[k]? = some q → k < 129 ∧ q.1 = tad θ k := fun k q hq => by
    have hl : (gW θ σ z).length = 129 := by show (gWn _ _ _ _ _ _).length = _; rw [gWn, List.length_map, List.length_range]
    have hk : k < 129 := by
      have := (List.getElem?_eq_some_iff.mp hq).1
      omega
    rw [show (gW θ σ z)[k]? = _ from gWn_at hk] at hq
    exact ⟨hk, by cases hq; rfl⟩
  refine ⟨fun i j p q hp hq e => ?_, fun k q hq => ?_⟩
  · obtain ⟨h1, e1⟩ := at' i p hp
    obtain ⟨h2, e2⟩ := at' j q hq
    exact h.1 i j h1 h2 (by rw [← e1, ← e2]; exact e)
  · obtain ⟨h1, e1⟩ := at' k q hq
    rw [e1]
    exact h.2.1 k h1
/-- the walk's own: heap and what was written -/
def gB (θ : gT) (σ : gS) (z : gZ) (H0 H : Heap) (locs : List Loc) : Prop := gHp θ σ z H ∧ va_S (tA θ) H0 H locs
end
section
/-! CONTRACTS: of a method of the system, over the world -/
abbrev gRm (f n : Nat) : Room := { frames := f, cells := 0, slots := 0, locals := n }
def gPi (post : Int → gS → gZ → Prop) : Int32 → gS × gZ → Prop := fun r u => ∃ q : Int, r = iZ q ∧ rg q ∧ post q u.1 u.2
def gQi (θ : gT) (post : Int → gS → gZ → Prop) : Array Value → State → Outcome → State → Prop := va_Qi (S := gS × gZ) (gPi post) (fun u t => gHp θ u.1 u.2 t.heap) (tA θ)
def gQl (θ : gT) (post : Int64 → gS → gZ → Prop) : Array Value → State → Outcome → State → Prop := va_Ql (S := gS × gZ) (fun r u => post r u.1 u.2) (fun u t => gHp θ u.1 u.2 t.heap) (tA θ)
def gQv (θ : gT) (post : gS → gZ → Prop) : Array Value → State → Outcome → State → Prop := va_Qv (S := gS × gZ) (fun u => post u.1 u.2) (fun u t => gHp θ u.1 u.2 t.heap) (tA θ)
/-- y answers an int (a boolean), the world is as 'post' says -/
def GI (l : Launch) (θ : gT) (y : MethodName) (cc : ByteArray) (maxL : Nat) (ret : Option FieldType) (f n : Nat) (As : List Value) (σ : gS) (z : gZ) (post : Int → gS → gZ → Prop) : Prop :=
  Met l y (.code y cc maxL ret :: gws) (gRm f n) (va_Pc As (gPre θ σ z)) (gQi θ post) 0 0 (tA θ)
def GL (l : Launch) (θ : gT) (y : MethodName) (cc : ByteArray) (maxL : Nat) (f n : Nat) (As : List Value) (σ : gS) (z : gZ) (post : Int64 → gS → gZ → Prop) : Prop :=
  Met l y (.code y cc maxL (some .long) :: gws) (gRm f n) (va_Pc As (gPre θ σ z)) (gQl θ post) 0 0 (tA θ)
def GV (l : Launch) (θ : gT) (y : MethodName) (cc : ByteArray) (maxL : Nat) (f n : Nat) (As : List Value) (σ : gS) (z : gZ) (post : gS → gZ → Prop) : Prop :=
  Met l y (.code y cc maxL none :: gws) (gRm f n) (va_Pc As (gPre θ σ z)) (gQv θ post) 0 0 (tA θ)
/-- what holds all along the walk of a method: the machine, the code, the tables' words, what never changes -/
def gF (θ : gT) (own : String) (cc : ByteArray) (nL : Nat) (ret : Option FieldType) (p : Program) (s : State) (m : MethodId) (args : Array Value) (meth : Method) (c : Code) : Prop :=
  p.tables.exec = Jvm.exec ∧ c.code = cc ∧ meth.sig.returnType = ret ∧ c.maxLocals = nL ∧ s.vm.findClass own = some m.cls ∧ (∀ w ∈ gws, w.before args s = true) ∧ meth.locks = false ∧ va_K (tD θ) vwCl (gty (tC θ)) s ∧ gSt θ s
theorem g_enter {l : Launch} {θ : gT} {y : MethodName} {cc : ByteArray} {nL : Nat} {ret : Option FieldType} {f n : Nat} {As : List Value} {σ : gS} {z : gZ} {Qc : Array Value → State → Outcome → State → Prop} (hy : plainName y.cls = true) (hn : (lg_sl As).length ≤ nL)
    (body : ∀ (p : Program) (e : Env) (s : State) (m : MethodId) (args : Array Value) (below : List Frame) (meth : Method) (c : Code) (ls : Array Slot), gF θ y.cls cc nL ret p s m args meth c → gB θ σ z s.heap s.heap [] → lv_has ls nL (lv_args 0 As) → W p l e (gRm f n) s m args below meth c s.heap [] 0 0 (MQ below Qc args s 0 0 (tA θ)) (F0 m 0 ls [])) :
    Met l y (.code y cc nL ret :: gws) (gRm f n) (va_Pc As (gPre θ σ z)) Qc 0 0 (tA θ) := by
  refine Met.ofW (cc := cc) (maxL := nL) (ret := ret) hy rfl ?_
  intro p e s m args below meth c s₁ B hml hv
  obtain ⟨rfl, hH, hK, hst⟩ := hv
  have hts := atoms_spec (ws := .code y cc nL ret :: gws) B.pre
  have hl := lv_entry As (n := nL) hn
  rw [lg_entry_eq]
  exact body p e s m _ below meth c _ ⟨B.exec, B.bytes, B.returns, hml, findClass_of_methodNamed B.named, fun w h => hts w (List.mem_cons_of_mem _ h), B.notSynchronized, hK, hst⟩ ⟨hH, va_S.rf⟩ hl
/-- a class of the world: its number, its fields -/
def gCl (ci : Nat) (C : String) (T : u_T) (N : Nat) : Prop := vwCl[ci]? = some (C, T, N) ∧ (∀ w ∈ u_ws C T N, w ∈ gws) ∧ nf ci = N ∧ ci < 7 ∧ (∀ k, k < N → (T k).1 = C) ∧ (∀ a, a < N → ∀ b, b < N → a ≠ b → (T a).2.1 ≠ (T b).2.1)
theorem cf0 : gCl 0 RX0 TX0 3 := ⟨rfl, inX0, rfl, by decide, by decide +kernel, nmX0⟩
theorem cf1 : gCl 1 RX1 TX1 6 := ⟨rfl, inX1, rfl, by decide, by decide +kernel, nmX1⟩
theorem cf2 : gCl 2 RX2 TX2 11 := ⟨rfl, inX2, rfl, by decide, by decide +kernel, nmX2⟩
theorem cf3 : gCl 3 RX3 TX3 5 := ⟨rfl, inX3, rfl, by decide, by decide +kernel, nmX3⟩
theorem cf4 : gCl 4 RX4 TX4 2 := ⟨rfl, inX4, rfl, by decide, by decide +kernel, nmX4⟩
theorem cf5 : gCl 5 RX5 TX5 10 := ⟨rfl, inX5, rfl, by decide, by decide +kernel, nmX5⟩
theorem cf6 : gCl 6 RX6 TX6 28 := ⟨rfl, inX6, rfl, by decide, by decide +kernel, nmX6⟩
section GR
variable {p : Program} {l : Launch} {e : Env} {R : Room} {s : State} {m : MethodId} {args : Array Value} {below : List Frame} {meth : Method} {c : Code} {H : Heap} {locs : List Loc} {cells slots : Nat} {Q : State → Prop}
variable {cc : ByteArray} {pc : Nat} {ls : Array Slot} {rest : List Value}
theorem z_iadd (hx : p.tables.exec = Jvm.exec) (hb : c.code = cc) {a b : Int} (d : decode cc pc = .ok (.iadd, 1)) (k : W p l e R s m args below meth c H locs cells slots Q (F0 m (pc + 1) ls (.int (iZ (a + b)) :: rest))) : W p l e R s m args below meth c H locs cells slots Q (F0 m pc ls (.int (iZ b) :: .int (iZ a) :: rest)) :=
  lv_iadd hx hb d (by rw [iZ_add]; exact k)
theorem z_isub (hx : p.tables.exec = Jvm.exec) (hb : c.code = cc) {a b : Int} (d : decode cc pc = .ok (.isub, 1)) (k : W p l e R s m args below meth c H locs cells slots Q (F0 m (pc + 1) ls (.int (iZ (a - b)) :: rest))) : W p l e R s m args below meth c H locs cells slots Q (F0 m pc ls (.int (iZ b) :: .int (iZ a) :: rest)) :=
  lv_isub hx hb d (by rw [iZ_sub]; exact k)
theorem z_imul (hx : p.tables.exec = Jvm.exec) (hb : c.code = cc) {a b : Int} (d : decode cc pc = .ok (.imul, 1)) (k : W p l e R s m args below meth c H locs cells slots Q (F0 m (pc + 1) ls (.int (iZ (a * b)) :: rest))) : W p l e R s m args below meth c H locs cells slots Q (F0 m pc ls (.int (iZ b) :: .int (iZ a) :: rest)) :=
  lv_imul hx hb d (by rw [iZ_mul]; exact k)
theorem z_ineg (hx : p.tables.exec = Jvm.exec) (hb : c.code = cc) {a : Int} (d : decode cc pc = .ok (.ineg, 1)) (k : W p l e R s m args below meth c H locs cells slots Q (F0 m (pc + 1) ls (.int (iZ (-a)) :: rest))) : W p l e R s m args below meth c H locs cells slots Q (F0 m pc ls (.int (iZ a) :: rest)) :=
  lv_ineg hx hb d (by rw [iZ_neg]; exact k)
theorem z_idiv (hx : p.tables.exec = Jvm.exec) (hb : c.code = cc) {a b : Int} (d : decode cc pc = .ok (.idiv, 1)) (ha : rg a) (h0 : 0 ≤ a) (hb2 : rg b) (h1 : 0 < b) (k : W p l e R s m args below meth c H locs cells slots Q (F0 m (pc + 1) ls (.int (iZ (a / b)) :: rest))) : W p l e R s m args below meth c H locs cells slots Q (F0 m pc ls (.int (iZ b) :: .int (iZ a) :: rest)) :=
  lv_idiv hx hb d (iZ_ne0 hb2 (by omega)) (by rw [iZ_div ha h0 hb2 h1]; exact k)
theorem z_irem (hx : p.tables.exec = Jvm.exec) (hb : c.code = cc) {a b : Int} (d : decode cc pc = .ok (.irem, 1)) (ha : rg a) (h0 : 0 ≤ a) (hb2 : rg b) (h1 : 0 < b) (k : W p l e R s m args below meth c H locs cells slots Q (F0 m (pc + 1) ls (.int (iZ (a % b)) :: rest))) : W p l e R s m args below meth c H locs cells slots Q (F0 m pc ls (.int (iZ b) :: .int (iZ a) :: rest)) :=
  lv_irem hx hb d (iZ_ne0 hb2 (by omega)) (by rw [iZ_rem ha h0 hb2 h1]; exact k)
theorem z_ior (hx : p.tables.exec = Jvm.exec) (hb : c.code = cc) {a b : Nat} (d : decode cc pc = .ok (.ior, 1)) (k : W p l e R s m args below meth c H locs cells slots Q (F0 m (pc + 1) ls (.int (iZ ((a ||| b : Nat) : Int)) :: rest))) : W p l e R s m args below meth c H locs cells slots Q (F0 m pc ls (.int (iZ (b : Int)) :: .int (iZ (a : Int)) :: rest)) :=
  lv_ior hx hb d (by rw [iZ_or]; exact k)
theorem z_iand (hx : p.tables.exec = Jvm.exec) (hb : c.code = cc) {a b : Nat} (d : decode cc pc = .ok (.iand, 1)) (k : W p l e R s m args below meth c H locs cells slots Q (F0 m (pc + 1) ls (.int (iZ ((a &&& b : Nat) : Int)) :: rest))) : W p l e R s m args below meth c H locs cells slots Q (F0 m pc ls (.int (iZ (b : Int)) :: .int (iZ (a : Int)) :: rest)) :=
  lv_iand hx hb d (by rw [iZ_and]; exact k)
theorem z_iandnot (hx : p.tables.exec = Jvm.exec) (hb : c.code = cc) {a b : Nat} (ha : a < 256) (d : decode cc pc = .ok (.iand, 1)) (k : W p l e R s m args below meth c H locs cells slots Q (F0 m (pc + 1) ls (.int (iZ ((a &&& (b ^^^ 255) : Nat) : Int)) :: rest))) : W p l e R s m args below meth c H locs cells slots Q (F0 m pc ls (.int (iZ (b : Int) ^^^ iZ (-1)) :: .int (iZ (a : Int)) :: rest)) :=
  lv_iand hx hb d (by rw [iZ_andnot ha]; exact k)
theorem z_ishl1 (hx : p.tables.exec = Jvm.exec) (hb : c.code = cc) {j : Nat} (hj : j < 9) (d : decode cc pc = .ok (.ishl, 1)) (k : W p l e R s m args below meth c H locs cells slots Q (F0 m (pc + 1) ls (.int (iZ ((2 ^ j : Nat) : Int)) :: rest))) : W p l e R s m args below meth c H locs cells slots Q (F0 m pc ls (.int (iZ (j : Int)) :: .int (iZ 1) :: rest)) :=
  lv_ishl hx hb d (by rw [iZ_shl1 j hj]; exact k)
theorem z_ishr (hx : p.tables.exec = Jvm.exec) (hb : c.code = cc) {a j : Nat} (ha : a < 2147483648) (hj : j < 31) (d : decode cc pc = .ok (.ishr, 1)) (k : W p l e R s m args below meth c H locs cells slots Q (F0 m (pc + 1) ls (.int (iZ ((a / 2 ^ j : Nat) : Int)) :: rest))) : W p l e R s m args below meth c H locs cells slots Q (F0 m pc ls (.int (iZ (j : Int)) :: .int (iZ (a : Int)) :: rest)) :=
  lv_ishr hx hb d (by rw [iZ_shr ha hj]; exact k)
theorem z_i2l (hx : p.tables.exec = Jvm.exec) (hb : c.code = cc) {a : Int} (ha : rg a) (d : decode cc pc = .ok (.i2l, 1)) (k : W p l e R s m args below meth c H locs cells slots Q (F0 m (pc + 1) ls (.long (lZ a) :: rest))) : W p l e R s m args below meth c H locs cells slots Q (F0 m pc ls (.int (iZ a) :: rest)) :=
  lv_i2l hx hb d (iZ_l ha) k
theorem z_l2i (hx : p.tables.exec = Jvm.exec) (hb : c.code = cc) {a : Int} (d : decode cc pc = .ok (.l2i, 1)) (k : W p l e R s m args below meth c H locs cells slots Q (F0 m (pc + 1) ls (.int (iZ a) :: rest))) : W p l e R s m args below meth c H locs cells slots Q (F0 m pc ls (.long (lZ a) :: rest)) :=
  lv_l2i hx hb d (lZ_i a) k
/-- a number on top under another name -/
theorem z_top {a b : Int} (h : a = b) (k : W p l e R s m args below meth c H locs cells slots Q (F0 m pc ls (.int (iZ b) :: rest))) : W p l e R s m args below meth c H locs cells slots Q (F0 m pc ls (.int (iZ a) :: rest)) := by rw [h]; exact k
/-- a number brought into the range of ints -/
def wr (a : Int) : Int := (iZ a).toInt
theorem rg_wr (a : Int) : rg (wr a) := rg_of _
theorem wr_eq {a : Int} (h : rg a) : wr a = a := iZ_toInt h
theorem z_wr {a : Int} (k : W p l e R s m args below meth c H locs cells slots Q (F0 m pc ls (.int (iZ (wr a)) :: rest))) : W p l e R s m args below meth c H locs cells slots Q (F0 m pc ls (.int (iZ a) :: rest)) := by rw [wr, iZ_of] at k; exact k
def cmpZ (a b : Int) : Int := if a < b then -1 else if a = b then 0 else 1
theorem cmpZ_sp (a b : Int) : (a < b ∧ cmpZ a b = -1) ∨ (a = b ∧ cmpZ a b = 0) ∨ (b < a ∧ cmpZ a b = 1) := by
  unfold cmpZ
  rcases Int.lt_trichotomy a b with h | h | h
  · exact Or.inl ⟨h, if_pos h⟩
  · exact Or.inr (Or.inl ⟨h, by rw [if_neg (by omega), if_pos h]⟩)
  · exact Or.inr (Or.inr ⟨h, by rw [if_neg (by omega), if_neg (by omega)]⟩)
theorem lg_cmpZ {a b : Int} (ha : rgL a) (hb : rgL b) : lg_cmp (lZ a) (lZ b) = iZ (cmpZ a b) := by
  unfold lg_cmp
  have h1 := lZ_lt ha hb
  have h2 := lZ_lt hb ha
  have h3 := lZ_eq ha hb
  rcases cmpZ_sp a b with ⟨h, q⟩ | ⟨h, q⟩ | ⟨h, q⟩ <;> rw [q] <;> simp [h1, h2, h3] <;> first | omega | (intros; omega) | (split <;> first | rfl | omega | (split <;> first | rfl | omega))
theorem z_lcmp (hx : p.tables.exec = Jvm.exec) (hb : c.code = cc) {a b : Int} (d : decode cc pc = .ok (.lcmp, 1)) (ha : rgL a) (hb2 : rgL b) (k : W p l e R s m args below meth c H locs cells slots Q (F0 m (pc + 1) ls (.int (iZ (cmpZ a b)) :: rest))) : W p l e R s m args below meth c H locs cells slots Q (F0 m pc ls (.long (lZ b) :: .long (lZ a) :: rest)) :=
  W.lcmp hx hb d (by rw [lg_cmpZ ha hb2]; exact k)
theorem z_if_eq (hx : p.tables.exec = Jvm.exec) (hb : c.code = cc) {a : Int} {off : Int} {tgt : Nat} (d : decode cc pc = .ok (.ifCond .eq off, 3)) (ht : (pc : Int) + off = (tgt : Int)) (ha : rg a) (kt : a = 0 → W p l e R s m args below meth c H locs cells slots Q (F0 m tgt ls rest)) (kf : ¬ a = 0 → W p l e R s m args below meth c H locs cells slots Q (F0 m (pc + 3) ls rest)) : W p l e R s m args below meth c H locs cells slots Q (F0 m pc ls (.int (iZ a) :: rest)) :=
  lv_if_eq hx hb d ht (fun h => kt ((iZ_eq ha rg_0).mp h)) (fun h => kf (fun q => h ((iZ_eq ha rg_0).mpr q)))
theorem z_if_ne (hx : p.tables.exec = Jvm.exec) (hb : c.code = cc) {a : Int} {off : Int} {tgt : Nat} (d : decode cc pc = .ok (.ifCond .ne off, 3)) (ht : (pc : Int) + off = (tgt : Int)) (ha : rg a) (kt : ¬ a = 0 → W p l e R s m args below meth c H locs cells slots Q (F0 m tgt ls rest)) (kf : a = 0 → W p l e R s m args below meth c H locs cells slots Q (F0 m (pc + 3) ls rest)) : W p l e R s m args below meth c H locs cells slots Q (F0 m pc ls (.int (iZ a) :: rest)) :=
  lv_if_ne hx hb d ht (fun h => kt (fun q => h ((iZ_eq ha rg_0).mpr q))) (fun h => kf ((iZ_eq ha rg_0).mp h))
theorem z_if_lt (hx : p.tables.exec = Jvm.exec) (hb : c.code = cc) {a : Int} {off : Int} {tgt : Nat} (d : decode cc pc = .ok (.ifCond .lt off, 3)) (ht : (pc : Int) + off = (tgt : Int)) (ha : rg a) (kt : a < 0 → W p l e R s m args below meth c H locs cells slots Q (F0 m tgt ls rest)) (kf : ¬ a < 0 → W p l e R s m args below meth c H locs cells slots Q (F0 m (pc + 3) ls rest)) : W p l e R s m args below meth c H locs cells slots Q (F0 m pc ls (.int (iZ a) :: rest)) :=
  lv_if_lt hx hb d ht (fun h => kt ((iZ_lt ha rg_0).mp h)) (fun h => kf (fun q => h ((iZ_lt ha rg_0).mpr q)))
theorem z_if_ge (hx : p.tables.exec = Jvm.exec) (hb : c.code = cc) {a : Int} {off : Int} {tgt : Nat} (d : decode cc pc = .ok (.ifCond .ge off, 3)) (ht : (pc : Int) + off = (tgt : Int)) (ha : rg a) (kt : 0 ≤ a → W p l e R s m args below meth c H locs cells slots Q (F0 m tgt ls rest)) (kf : ¬ 0 ≤ a → W p l e R s m args below meth c H locs cells slots Q (F0 m (pc + 3) ls rest)) : W p l e R s m args below meth c H locs cells slots Q (F0 m pc ls (.int (iZ a) :: rest)) :=
  lv_if_ge hx hb d ht (fun h => kt ((iZ_le rg_0 ha).mp h)) (fun h => kf (fun q => h ((iZ_le rg_0 ha).mpr q)))
theorem z_if_gt (hx : p.tables.exec = Jvm.exec) (hb : c.code = cc) {a : Int} {off : Int} {tgt : Nat} (d : decode cc pc = .ok (.ifCond .gt off, 3)) (ht : (pc : Int) + off = (tgt : Int)) (ha : rg a) (kt : 0 < a → W p l e R s m args below meth c H locs cells slots Q (F0 m tgt ls rest)) (kf : ¬ 0 < a → W p l e R s m args below meth c H locs cells slots Q (F0 m (pc + 3) ls rest)) : W p l e R s m args below meth c H locs cells slots Q (F0 m pc ls (.int (iZ a) :: rest)) :=
  lv_if_gt hx hb d ht (fun h => kt ((iZ_lt rg_0 ha).mp h)) (fun h => kf (fun q => h ((iZ_lt rg_0 ha).mpr q)))
theorem z_if_le (hx : p.tables.exec = Jvm.exec) (hb : c.code = cc) {a : Int} {off : Int} {tgt : Nat} (d : decode cc pc = .ok (.ifCond .le off, 3)) (ht : (pc : Int) + off = (tgt : Int)) (ha : rg a) (kt : a ≤ 0 → W p l e R s m args below meth c H locs cells slots Q (F0 m tgt ls rest)) (kf : ¬ a ≤ 0 → W p l e R s m args below meth c H locs cells slots Q (F0 m (pc + 3) ls rest)) : W p l e R s m args below meth c H locs cells slots Q (F0 m pc ls (.int (iZ a) :: rest)) :=
  lv_if_le hx hb d ht (fun h => kt ((iZ_le ha rg_0).mp h)) (fun h => kf (fun q => h ((iZ_le ha rg_0).mpr q)))
theorem z_icmp_eq (hx : p.tables.exec = Jvm.exec) (hb : c.code = cc) {a b : Int} {off : Int} {tgt : Nat} (d : decode cc pc = .ok (.if_icmp .eq off, 3)) (ht : (pc : Int) + off = (tgt : Int)) (ha : rg a) (hb2 : rg b) (kt : a = b → W p l e R s m args below meth c H locs cells slots Q (F0 m tgt ls rest)) (kf : ¬ a = b → W p l e R s m args below meth c H locs cells slots Q (F0 m (pc + 3) ls rest)) : W p l e R s m args below meth c H locs cells slots Q (F0 m pc ls (.int (iZ b) :: .int (iZ a) :: rest)) :=
  lv_icmp_eq hx hb d ht (fun h => kt ((iZ_eq ha hb2).mp h)) (fun h => kf (fun q => h ((iZ_eq ha hb2).mpr q)))
theorem z_icmp_ne (hx : p.tables.exec = Jvm.exec) (hb : c.code = cc) {a b : Int} {off : Int} {tgt : Nat} (d : decode cc pc = .ok (.if_icmp .ne off, 3)) (ht : (pc : Int) + off = (tgt : Int)) (ha : rg a) (hb2 : rg b) (kt : ¬ a = b → W p l e R s m args below meth c H locs cells slots Q (F0 m tgt ls rest)) (kf : a = b → W p l e R s m args below meth c H locs cells slots Q (F0 m (pc + 3) ls rest)) : W p l e R s m args below meth c H locs cells slots Q (F0 m pc ls (.int (iZ b) :: .int (iZ a) :: rest)) :=
  lv_icmp_ne hx hb d ht (fun h => kt (fun q => h ((iZ_eq ha hb2).mpr q))) (fun h => kf ((iZ_eq ha hb2).mp h))
theorem z_icmp_lt (hx : p.tables.exec = Jvm.exec) (hb : c.code = cc) {a b : Int} {off : Int} {tgt : Nat} (d : decode cc pc = .ok (.if_icmp .lt off, 3)) (ht : (pc : Int) + off = (tgt : Int)) (ha : rg a) (hb2 : rg b) (kt : a < b → W p l e R s m args below meth c H locs cells slots Q (F0 m tgt ls rest)) (kf : ¬ a < b → W p l e R s m args below meth c H locs cells slots Q (F0 m (pc + 3) ls rest)) : W p l e R s m args below meth c H locs cells slots Q (F0 m pc ls (.int (iZ b) :: .int (iZ a) :: rest)) :=
  lv_icmp_lt hx hb d ht (fun h => kt ((iZ_lt ha hb2).mp h)) (fun h => kf (fun q => h ((iZ_lt ha hb2).mpr q)))
theorem z_icmp_ge (hx : p.tables.exec = Jvm.exec) (hb : c.code = cc) {a b : Int} {off : Int} {tgt : Nat} (d : decode cc pc = .ok (.if_icmp .ge off, 3)) (ht : (pc : Int) + off = (tgt : Int)) (ha : rg a) (hb2 : rg b) (kt : b ≤ a → W p l e R s m args below meth c H locs cells slots Q (F0 m tgt ls rest)) (kf : ¬ b ≤ a → W p l e R s m args below meth c H locs cells slots Q (F0 m (pc + 3) ls rest)) : W p l e R s m args below meth c H locs cells slots Q (F0 m pc ls (.int (iZ b) :: .int (iZ a) :: rest)) :=
  lv_icmp_ge hx hb d ht (fun h => kt ((iZ_le hb2 ha).mp h)) (fun h => kf (fun q => h ((iZ_le hb2 ha).mpr q)))
theorem z_icmp_gt (hx : p.tables.exec = Jvm.exec) (hb : c.code = cc) {a b : Int} {off : Int} {tgt : Nat} (d : decode cc pc = .ok (.if_icmp .gt off, 3)) (ht : (pc : Int) + off = (tgt : Int)) (ha : rg a) (hb2 : rg b) (kt : b < a → W p l e R s m args below meth c H locs cells slots Q (F0 m tgt ls rest)) (kf : ¬ b < a → W p l e R s m args below meth c H locs cells slots Q (F0 m (pc + 3) ls rest)) : W p l e R s m args below meth c H locs cells slots Q (F0 m pc ls (.int (iZ b) :: .int (iZ a) :: rest)) :=
  lv_icmp_gt hx hb d ht (fun h => kt ((iZ_lt hb2 ha).mp h)) (fun h => kf (fun q => h ((iZ_lt hb2 ha).mpr q)))
theorem z_icmp_le (hx : p.tables.exec = Jvm.exec) (hb : c.code = cc) {a b : Int} {off : Int} {tgt : Nat} (d : decode cc pc = .ok (.if_icmp .le off, 3)) (ht : (pc : Int) + off = (tgt : Int)) (ha : rg a) (hb2 : rg b) (kt : a ≤ b → W p l e R s m args below meth c H locs cells slots Q (F0 m tgt ls rest)) (kf : ¬ a ≤ b → W p l e R s m args below meth c H locs cells slots Q (F0 m (pc + 3) ls rest)) : W p l e R s m args below meth c H locs cells slots Q (F0 m pc ls (.int (iZ b) :: .int (iZ a) :: rest)) :=
  lv_icmp_le hx hb d ht (fun h => kt ((iZ_le ha hb2).mp h)) (fun h => kf (fun q => h ((iZ_le ha hb2).mpr q)))
theorem z_tabIn (hx : p.tables.exec = Jvm.exec) (hb : c.code = cc) {a v : Int} {dflt lo hi : Int} {offs : Array Int} {len : Nat} {off : Int} {tgt : Nat} (d : decode cc pc = .ok (.tableswitch dflt lo hi offs, len)) (h : a = v) (hv : rg v) (h1 : ¬ v < lo) (h2 : ¬ hi < v) (ho : offs[(v - lo).toNat]? = some off) (ht : (pc : Int) + off = (tgt : Int)) (k : W p l e R s m args below meth c H locs cells slots Q (F0 m tgt ls rest)) : W p l e R s m args below meth c H locs cells slots Q (F0 m pc ls (.int (iZ a) :: rest)) := by
  subst h
  exact lv_tableIn hx hb d (by rw [iZ_toInt hv]; exact h1) (by rw [iZ_toInt hv]; exact h2) (by rw [iZ_toInt hv]; exact ho) ht k
theorem z_tabOut (hx : p.tables.exec = Jvm.exec) (hb : c.code = cc) {a : Int} {dflt lo hi : Int} {offs : Array Int} {len : Nat} {tgt : Nat} (d : decode cc pc = .ok (.tableswitch dflt lo hi offs, len)) (ha : rg a) (h : a < lo ∨ hi < a) (ht : (pc : Int) + dflt = (tgt : Int)) (k : W p l e R s m args below meth c H locs cells slots Q (F0 m tgt ls rest)) : W p l e R s m args below meth c H locs cells slots Q (F0 m pc ls (.int (iZ a) :: rest)) :=
  lv_tableOut hx hb d (by rw [iZ_toInt ha]; exact h) ht k
theorem z_look (hx : p.tables.exec = Jvm.exec) (hb : c.code = cc) {a : Int} {dflt : Int} {ps : Array (Int × Int)} {len : Nat} {off : Int} {tgt : Nat} (d : decode cc pc = .ok (.lookupswitch dflt ps, len)) (hp : (ps.toList.zip (ps.toList.drop 1)).all (fun (a, next) => a.1 < next.1) = true) (ha : rg a) (ho : Op.lookupswitch.offset ps.toList dflt a = off) (ht : (pc : Int) + off = (tgt : Int)) (k : W p l e R s m args below meth c H locs cells slots Q (F0 m tgt ls rest)) : W p l e R s m args below meth c H locs cells slots Q (F0 m pc ls (.int (iZ a) :: rest)) :=
  lv_lookup hx hb d hp (by rw [iZ_toInt ha]; exact ho) ht k
theorem z_iinc (hx : p.tables.exec = Jvm.exec) (hb : c.code = cc) {i nL k : Nat} {n a : Int} {lv lv' : List (Nat × Value)} (d : decode cc pc = .ok (.iinc i n, 3)) (h : lv_has ls nL lv) (hk : lv[k]? = some (i, .int (iZ a))) (hn : i < nL) (hl : (i, Value.int (iZ (a + n))) :: lv.filter (fun q => !(q.1 == i) && !(q.1 + 1 == i && q.2.category == 2)) = lv')
    (kk : ∀ ls' : Array Slot, lv_has ls' nL lv' → W p l e R s m args below meth c H locs cells slots Q (F0 m (pc + 3) ls' rest)) : W p l e R s m args below meth c H locs cells slots Q (F0 m pc ls rest) :=
  lv_iinc hx hb d h hk (iZ_add a n) hn hl kk
variable {θ : gT} {σ : gS} {z : gZ} {H0 : Heap} {own C : String} {T : u_T} {N ci index : Nat}
theorem g_obj (hB : gB θ σ z H0 H locs) {i : Nat} (hi : i < 129) (hck : ck i = ci) (hc : ci < 7) : (gW θ σ z)[i]? = some (tad θ i, .inr (ci, (List.range (nf ci)).map (gv (tq θ) σ z i))) := by
  rw [show (gW θ σ z)[i]? = _ from gWn_at hi, gE_obj hck hc]
theorem g_geti (hx : p.tables.exec = Jvm.exec) (hb : c.code = cc) (hts : ∀ w ∈ gws, w.before args s = true) (hown : s.vm.findClass own = some m.cls) (hK : va_K (tD θ) vwCl (gty (tC θ)) s) (hB : gB θ σ z H0 H locs) (hcl : gCl ci C T N) {i k : Nat} (hi : i < 129) (hck : ck i = ci) (hk : k < N) (hlink : Cond.fieldLink own index C (T k).2.1 (T k).2.2.1 ∈ gws) (hft : ft ci k = 0) (d : decode cc pc = .ok (.getfield index, 3))
    (kk : W p l e R s m args below meth c H locs cells slots Q (F0 m (pc + 3) ls (.int (iZ (σ i k)) :: rest))) : W p l e R s m args below meth c H locs cells slots Q (F0 m pc ls (.ref (tad θ i) :: rest)) := by
  obtain ⟨h1, h2, h3, h4, h5, h6⟩ := hcl
  subst h3
  exact va_get (D := tD θ) (ci := ci) (v := .int (iZ (σ i k))) hx hb hts h2 hown hK hB.1.1 i (g_obj hB hi hck h4) h1 k hk (hts _ hlink) (fun x9 h9 => by rw [← h5 k hk]; exact h9) (by rw [gf_at hk, gv, hck, if_pos hft]) d kk
theorem g_getl (hx : p.tables.exec = Jvm.exec) (hb : c.code = cc) (hts : ∀ w ∈ gws, w.before args s = true) (hown : s.vm.findClass own = some m.cls) (hK : va_K (tD θ) vwCl (gty (tC θ)) s) (hB : gB θ σ z H0 H locs) (hcl : gCl ci C T N) {i k : Nat} (hi : i < 129) (hck : ck i = ci) (hk : k < N) (hlink : Cond.fieldLink own index C (T k).2.1 (T k).2.2.1 ∈ gws) (hft : ft ci k = 2) (d : decode cc pc = .ok (.getfield index, 3))
    (kk : W p l e R s m args below meth c H locs cells slots Q (F0 m (pc + 3) ls (.long (z i) :: rest))) : W p l e R s m args below meth c H locs cells slots Q (F0 m pc ls (.ref (tad θ i) :: rest)) := by
  obtain ⟨h1, h2, h3, h4, h5, h6⟩ := hcl
  subst h3
  exact va_get (D := tD θ) (ci := ci) (v := .long (z i)) hx hb hts h2 hown hK hB.1.1 i (g_obj hB hi hck h4) h1 k hk (hts _ hlink) (fun x9 h9 => by rw [← h5 k hk]; exact h9) (by rw [gf_at hk, gv, hck, if_neg (by omega), if_neg (by omega)]) d kk
theorem g_getr (hx : p.tables.exec = Jvm.exec) (hb : c.code = cc) (hts : ∀ w ∈ gws, w.before args s = true) (hown : s.vm.findClass own = some m.cls) (hK : va_K (tD θ) vwCl (gty (tC θ)) s) (hθ : gOK θ) (hB : gB θ σ z H0 H locs) (hcl : gCl ci C T N) {i k j : Nat} (hi : i < 129) (hck : ck i = ci) (hk : k < N) (hlink : Cond.fieldLink own index C (T k).2.1 (T k).2.2.1 ∈ gws) (hft : ft ci k = 1) (htg : tg i k = j) (d : decode cc pc = .ok (.getfield index, 3))
    (kk : W p l e R s m args below meth c H locs cells slots Q (F0 m (pc + 3) ls (.ref (tad θ j) :: rest))) : W p l e R s m args below meth c H locs cells slots Q (F0 m pc ls (.ref (tad θ i) :: rest)) := by
  obtain ⟨h1, h2, h3, h4, h5, h6⟩ := hcl
  subst h3
  have hr : tq θ i k = some (tad θ (tg i k)) := hθ.2.2 i k hi (by simp [isr, hck, h4, hft])
  exact va_get (D := tD θ) (ci := ci) (v := .ref (tad θ j)) hx hb hts h2 hown hK hB.1.1 i (g_obj hB hi hck h4) h1 k hk (hts _ hlink) (fun x9 h9 => by rw [← h5 k hk]; exact h9) (by rw [gf_at hk, gv, hck, if_neg (by omega), if_pos hft, hr, htg]; rfl) d kk
theorem gR.up {σ : gS} (h : gR σ) {i k : Nat} {v : Int} (hv : rg v) : gR (up2 σ i k v) := fun a b => by
  by_cases q : a = i ∧ b = k
  · rw [show up2 σ i k v a b = v from if_pos q]; exact hv
  · rw [show up2 σ i k v a b = σ a b from if_neg q]; exact h a b
theorem g_putI (hx : p.tables.exec = Jvm.exec) (hb : c.code = cc) (hts : ∀ w ∈ gws, w.before args s = true) (hown : s.vm.findClass own = some m.cls) (hK : va_K (tD θ) vwCl (gty (tC θ)) s) (hθ : gOK θ) (hB : gB θ σ z H0 H locs) (hcl : gCl ci C T N) (ty0 : Nat → FieldType) (hty : ∀ k, k < N → parseFieldDescriptor (T k).2.2.1 = some (ty0 k)) {i k : Nat} {v : Int} (hi : i < 129) (hck : ck i = ci) (hk : k < N) (hlink : Cond.fieldLink own index C (T k).2.1 (T k).2.2.1 ∈ gws) (hft : ft ci k = 0) (hint : ty0 k = .int) (hfin : (T k).2.2.2 = false) (hv : rg v) (d : decode cc pc = .ok (.putfield index, 3))
    (kk : ∀ (H : Heap) (locs : List Loc), gB θ (up2 σ i k v) z H0 H locs → W p l e R s m args below meth c H locs cells slots Q (F0 m (pc + 3) ls rest)) : W p l e R s m args below meth c H locs cells slots Q (F0 m pc ls (.int (iZ v) :: .ref (tad θ i) :: rest)) := by
  obtain ⟨h1, h2, h3, h4, h5, h6⟩ := hcl
  subst h3
  refine va_put (D := tD θ) (ci := ci) (v := .int (iZ v)) (ty := .int) hx hb hts h2 ty0 hty h6 hown hK hB.1.1 (hθ.D σ z) hB.2 i (g_obj hB hi hck h4) h1 k hk (hts _ hlink) (fun x9 h9 => by rw [← h5 k hk]; exact h9) hfin (by rw [hty k hk, hint]) rfl rfl (by rw [List.length_map, List.length_range]; exact hk) d (fun H1 locs1 hP hD hS => kk H1 locs1 ⟨⟨?_, hB.1.2.up hv⟩, hS⟩)
  rw [gWn_set (ρ' := tq θ) (σ' := up2 σ i k v) (z' := z) hi ?_ (fun a ha => gE_congr rfl (up2_row σ v ha) rfl)] at hP
  · exact hP
  · rw [gE_obj hck h4]
    congr 2
    exact gf_set (by rw [gv, hck, if_pos hft, up2_eq]) (fun j hj _ => by unfold gv; rw [up2_k σ v hj])
theorem g_putL (hx : p.tables.exec = Jvm.exec) (hb : c.code = cc) (hts : ∀ w ∈ gws, w.before args s = true) (hown : s.vm.findClass own = some m.cls) (hK : va_K (tD θ) vwCl (gty (tC θ)) s) (hθ : gOK θ) (hB : gB θ σ z H0 H locs) (hcl : gCl ci C T N) (ty0 : Nat → FieldType) (hty : ∀ k, k < N → parseFieldDescriptor (T k).2.2.1 = some (ty0 k)) {i k : Nat} {v : Int64} (hi : i < 129) (hck : ck i = ci) (hk : k < N) (hlink : Cond.fieldLink own index C (T k).2.1 (T k).2.2.1 ∈ gws) (hft : ft ci k = 2) (hone : ∀ j, j < N → j ≠ k → ft ci j ≠ 2 ∧ ft ci j < 3) (hint : ty0 k = .long) (hfin : (T k).2.2.2 = false) (d : decode cc pc = .ok (.putfield index, 3))
    (kk : ∀ (H : Heap) (locs : List Loc), gB θ σ (upr z i v) H0 H locs → W p l e R s m args below meth c H locs cells slots Q (F0 m (pc + 3) ls rest)) : W p l e R s m args below meth c H locs cells slots Q (F0 m pc ls (.long v :: .ref (tad θ i) :: rest)) := by
  obtain ⟨h1, h2, h3, h4, h5, h6⟩ := hcl
  subst h3
  refine va_put (D := tD θ) (ci := ci) (v := .long v) (ty := .long) hx hb hts h2 ty0 hty h6 hown hK hB.1.1 (hθ.D σ z) hB.2 i (g_obj hB hi hck h4) h1 k hk (hts _ hlink) (fun x9 h9 => by rw [← h5 k hk]; exact h9) hfin (by rw [hty k hk, hint]) rfl rfl (by rw [List.length_map, List.length_range]; exact hk) d (fun H1 locs1 hP hD hS => kk H1 locs1 ⟨⟨?_, hB.1.2⟩, hS⟩)
  rw [gWn_set (ρ' := tq θ) (σ' := σ) (z' := upr z i v) hi ?_ (fun a ha => gE_congr rfl rfl (upr_c z v ha))] at hP
  · exact hP
  · rw [gE_obj hck h4]
    congr 2
    refine gf_set (by rw [gv, hck, if_neg (by omega), if_neg (by omega), upr_eq]) (fun j hj hn => ?_)
    have hq := hone j hn hj
    unfold gv
    rw [hck]
    by_cases h0 : ft ci j = 0
    · rw [if_pos h0, if_pos h0]
    · have h1 : ft ci j = 1 := by omega
      rw [if_neg h0, if_neg h0, if_pos h1, if_pos h1]
theorem g_iald (hx : p.tables.exec = Jvm.exec) (hb : c.code = cc) (hK : va_K (tD θ) vwCl (gty (tC θ)) s) (hB : gB θ σ z H0 H locs) {i k : Nat} {a : Int} (hi : i < 129) (hck : ck i = 7) (ha : a = (k : Int)) (hk : k < cn i) (hn : cn i < 1000) (d : decode cc pc = .ok (.iaload, 1))
    (kk : W p l e R s m args below meth c H locs cells slots Q (F0 m (pc + 1) ls (.int (iZ (σ i k)) :: rest))) : W p l e R s m args below meth c H locs cells slots Q (F0 m pc ls (.int (iZ a) :: .ref (tad θ i) :: rest)) := by
  subst ha
  refine va_iald (D := tD θ) (n := cn i) (f := fun k => iZ (σ i k)) hx hb hK hB.1.1 i 0 (by rw [show (gW θ σ z)[i]? = _ from gWn_at hi, gE_int hck]) rfl (iZ_in hk (by omega)) d ?_
  rw [iZ_clampN (by omega)]
  exact kk
theorem g_zald (hx : p.tables.exec = Jvm.exec) (hb : c.code = cc) (hK : va_K (tD θ) vwCl (gty (tC θ)) s) (hB : gB θ σ z H0 H locs) {i k : Nat} {a : Int} (hi : i < 129) (hck : ck i = 8) (ha : a = (k : Int)) (hk : k < cn i) (hn : cn i < 1000) (d : decode cc pc = .ok (.baload, 1))
    (kk : W p l e R s m args below meth c H locs cells slots Q (F0 m (pc + 1) ls (.int (iZ (σ i k)) :: rest))) : W p l e R s m args below meth c H locs cells slots Q (F0 m pc ls (.int (iZ a) :: .ref (tad θ i) :: rest)) := by
  subst ha
  refine va_zald (D := tD θ) (n := cn i) (f := fun k => iZ (σ i k)) hx hb hK hB.1.1 i 1 (by rw [show (gW θ σ z)[i]? = _ from gWn_at hi, gE_bool hck]) rfl (iZ_in hk (by omega)) d ?_
  rw [iZ_clampN (by omega)]
  exact kk
theorem g_aald (hx : p.tables.exec = Jvm.exec) (hb : c.code = cc) (hK : va_K (tD θ) vwCl (gty (tC θ)) s) (hθ : gOK θ) (hB : gB θ σ z H0 H locs) {i k j : Nat} {a : Int} (hi : i < 129) (hck : ck i = 9) (ha : a = (k : Int)) (hk : k < cn i) (hn : cn i < 1000) (htg : tg i k = j) (d : decode cc pc = .ok (.aaload, 1))
    (kk : W p l e R s m args below meth c H locs cells slots Q (F0 m (pc + 1) ls (.ref (tad θ j) :: rest))) : W p l e R s m args below meth c H locs cells slots Q (F0 m pc ls (.int (iZ a) :: .ref (tad θ i) :: rest)) := by
  subst ha
  have hr : tq θ i k = some (tad θ (tg i k)) := hθ.2.2 i k hi (by simp [isr, hck, hk])
  refine va_aldq (D := tD θ) (n := cn i) (f := tq θ i) (C := RX1) hx hb hK hB.1.1 i 2 (by rw [show (gW θ σ z)[i]? = _ from gWn_at hi, gE_ref hck]) rfl (iZ_in hk (by omega)) d ?_
  rw [iZ_clampN (by omega), hr, htg]
  exact kk
theorem upd_iZ (σ : gS) (i k : Nat) (v : Int) : upd (fun k => iZ (σ i k)) k (iZ v) = fun j => iZ (up2 σ i k v i j) := by
  funext j
  by_cases hj : j = k
  · subst hj; rw [up2_eq]; simp [upd]
  · rw [up2_k σ v hj]; simp [upd, hj]
theorem g_iast (hx : p.tables.exec = Jvm.exec) (hb : c.code = cc) (hK : va_K (tD θ) vwCl (gty (tC θ)) s) (hθ : gOK θ) (hB : gB θ σ z H0 H locs) {i k : Nat} {a v : Int} (hi : i < 129) (hck : ck i = 7) (ha : a = (k : Int)) (hk : k < cn i) (hn : cn i < 1000) (hv : rg v) (d : decode cc pc = .ok (.iastore, 1))
    (kk : ∀ (H : Heap) (locs : List Loc), gB θ (up2 σ i k v) z H0 H locs → W p l e R s m args below meth c H locs cells slots Q (F0 m (pc + 1) ls rest)) : W p l e R s m args below meth c H locs cells slots Q (F0 m pc ls (.int (iZ v) :: .int (iZ a) :: .ref (tad θ i) :: rest)) := by
  subst ha
  refine va_iast (D := tD θ) (n := cn i) (f := fun k => iZ (σ i k)) hx hb hK hB.1.1 (hθ.D σ z) hB.2 i 0 (by rw [show (gW θ σ z)[i]? = _ from gWn_at hi, gE_int hck]) rfl (iZ_in hk (by omega)) d (fun H1 locs1 hP hD hS => kk H1 locs1 ⟨⟨?_, hB.1.2.up hv⟩, hS⟩)
  rw [gWn_set (ρ' := tq θ) (σ' := up2 σ i k v) (z' := z) hi ?_ (fun a ha => gE_congr rfl (up2_row σ v ha) rfl)] at hP
  · exact hP
  · rw [gE_int hck, iZ_clampN (by omega), upd_iZ]
theorem nar_bool {v : Int} (hv : v = 0 ∨ v = 1) : vp_nar .boolean (iZ v) = iZ v := by
  rcases hv with rfl | rfl <;> rfl
theorem g_zast (hx : p.tables.exec = Jvm.exec) (hb : c.code = cc) (hK : va_K (tD θ) vwCl (gty (tC θ)) s) (hθ : gOK θ) (hB : gB θ σ z H0 H locs) {i k : Nat} {a v : Int} (hi : i < 129) (hck : ck i = 8) (ha : a = (k : Int)) (hk : k < cn i) (hn : cn i < 1000) (hv : v = 0 ∨ v = 1) (d : decode cc pc = .ok (.bastore, 1))
    (kk : ∀ (H : Heap) (locs : List Loc), gB θ (up2 σ i k v) z H0 H locs → W p l e R s m args below meth c H locs cells slots Q (F0 m (pc + 1) ls rest)) : W p l e R s m args below meth c H locs cells slots Q (F0 m pc ls (.int (iZ v) :: .int (iZ a) :: .ref (tad θ i) :: rest)) := by
  subst ha
  refine va_zast (D := tD θ) (n := cn i) (f := fun k => iZ (σ i k)) hx hb hK hB.1.1 (hθ.D σ z) hB.2 i 1 (by rw [show (gW θ σ z)[i]? = _ from gWn_at hi, gE_bool hck]) rfl (iZ_in hk (by omega)) d (fun H1 locs1 hP hD hS => kk H1 locs1 ⟨⟨?_, hB.1.2.up ⟨by omega, by omega⟩⟩, hS⟩)
  rw [gWn_set (ρ' := tq θ) (σ' := up2 σ i k v) (z' := z) hi ?_ (fun a ha => gE_congr rfl (up2_row σ v ha) rfl)] at hP
  · exact hP
  · rw [gE_bool hck, iZ_clampN (by omega), nar_bool hv, upd_iZ]
/-- returns -/
theorem g_iret (hx : p.tables.exec = Jvm.exec) (hb : c.code = cc) (hr : meth.sig.returnType = some .int) (hlk : meth.locks = false) (hB : gB θ σ z s.heap H locs) {a : Int} {post : Int → gS → gZ → Prop} (d : decode cc pc = .ok (.ireturn, 1)) (ha : rg a) (hp : post a σ z) : W p l e R s m args below meth c H locs 0 0 (MQ below (gQi θ post) args s 0 0 (tA θ)) (F0 m pc ls [.int (iZ a)]) :=
  W.iret (v := iZ a) hx hb hr (fun t ht hW => ⟨⟨iZ a, (σ, z), rfl, ⟨a, rfl, ha, hp⟩, by show gHp θ σ z t.heap; rw [ht]; exact hB.1⟩, hB.2.F ht⟩) hB.2.2.2 d hlk
theorem nar_boolV {v : Int} (hv : v = 0 ∨ v = 1) : narrow .boolean (.int (iZ v)) = .int (iZ v) := by
  rcases hv with rfl | rfl <;> rfl
theorem g_zret (hx : p.tables.exec = Jvm.exec) (hb : c.code = cc) (hr : meth.sig.returnType = some .boolean) (hlk : meth.locks = false) (hB : gB θ σ z s.heap H locs) {a : Int} {post : Int → gS → gZ → Prop} (d : decode cc pc = .ok (.ireturn, 1)) (ha : a = 0 ∨ a = 1) (hp : post a σ z) : W p l e R s m args below meth c H locs 0 0 (MQ below (gQi θ post) args s 0 0 (tA θ)) (F0 m pc ls [.int (iZ a)]) :=
  W.zret (v := iZ a) hx hb hr (nar_boolV ha) (fun t ht hW => ⟨⟨iZ a, (σ, z), rfl, ⟨a, rfl, ⟨by omega, by omega⟩, hp⟩, by show gHp θ σ z t.heap; rw [ht]; exact hB.1⟩, hB.2.F ht⟩) hB.2.2.2 d hlk
theorem g_lret (hx : p.tables.exec = Jvm.exec) (hb : c.code = cc) (hr : meth.sig.returnType = some .long) (hlk : meth.locks = false) (hB : gB θ σ z s.heap H locs) {a : Int64} {post : Int64 → gS → gZ → Prop} (d : decode cc pc = .ok (.lreturn, 1)) (hp : post a σ z) : W p l e R s m args below meth c H locs 0 0 (MQ below (gQl θ post) args s 0 0 (tA θ)) (F0 m pc ls [.long a]) :=
  W.lret (v := a) hx hb hr (fun t ht hW => ⟨⟨a, (σ, z), rfl, hp, by show gHp θ σ z t.heap; rw [ht]; exact hB.1⟩, hB.2.F ht⟩) hB.2.2.2 d hlk
theorem g_vret (hx : p.tables.exec = Jvm.exec) (hb : c.code = cc) (hr : meth.sig.returnType = none) (hlk : meth.locks = false) (hB : gB θ σ z s.heap H locs) {post : gS → gZ → Prop} (d : decode cc pc = .ok (.return_, 1)) (hp : post σ z) : W p l e R s m args below meth c H locs 0 0 (MQ below (gQv θ post) args s 0 0 (tA θ)) (F0 m pc ls []) :=
  W.vret hx hb hr (fun t ht hW => ⟨⟨(σ, z), rfl, hp, by show gHp θ σ z t.heap; rw [ht]; exact hB.1⟩, hB.2.F ht⟩) hB.2.2.2 d hlk
/-- a method's words -/
def gMv (C : String) (y : MethodName) (cc : ByteArray) (nL : Nat) (ret : Option FieldType) (n : Nat) : Prop := Cond.instanceMethod y ∈ gws ∧ Cond.selects C y y ∈ gws ∧ Cond.initialized C ∈ gws ∧ Cond.code y cc nL ret ∈ gws ∧ (y.cls = C ∧ y.cls ≠ "java/lang/invoke/MethodHandle" ∧ y.cls ≠ "java/lang/invoke/VarHandle" ∧ (parseMethodDescriptor y.desc).map (fun d => d.parameters.length) = some n)
def gMs (y : MethodName) (cc : ByteArray) (nL : Nat) (ret : Option FieldType) (n : Nat) : Prop := Cond.static y ∈ gws ∧ Cond.initialized y.cls ∈ gws ∧ Cond.code y cc nL ret ∈ gws ∧ (y.cls ≠ "java/lang/invoke/MethodHandle" ∧ y.cls ≠ "java/lang/invoke/VarHandle" ∧ (parseMethodDescriptor y.desc).map (fun d => d.parameters.length) = some n)
theorem gws_ws {ws : List Cond} (h : ∀ w ∈ ws, w ∈ gws) : GoodIn gws ws := fun w hw => ⟨h w hw, gws_good (h w hw)⟩
theorem gws_code {y : MethodName} {cc : ByteArray} {nL : Nat} {ret : Option FieldType} (h : Cond.code y cc nL ret ∈ gws) : ∀ w ∈ (Cond.code y cc nL ret :: gws), w ∈ gws := fun w hw => (List.mem_cons.mp hw).elim (fun e => e ▸ h) id
variable {y : MethodName} {bytes : ByteArray} {maxL nL n f b : Nat} {ret : Option FieldType} {As : List Value}
theorem g_pre (hK : va_K (tD θ) vwCl (gty (tC θ)) s) (hst : gSt θ s) (hB : gB θ σ z s.heap H locs) {U : State} (hU : U.heap = H) (hW : s.WarmedH U.vm) : gPre θ σ z U :=
  ⟨by rw [hU]; exact hB.1, va_K.moved hW.alike hK, hst.to hW (fun a h1 h2 => by rw [hU]; exact hB.2.2.1 a h1 h2)⟩
theorem g_blind {As : List Value} : FrameBlind (va_Pc As (gPre θ σ z)) := fun a U g mk q => ⟨q.1, q.2.1, va_K.moved (u := U) (U := U.calling g mk a) (Vm.Alike.refl U.vm) q.2.2.1, q.2.2.2.call⟩
theorem g_runV {i : Nat} (hx : p.tables.exec = Jvm.exec) (hb : c.code = cc) (hml : c.maxLocals = nL) (hown : s.vm.findClass own = some m.cls) (hts : ∀ w ∈ gws, w.before args s = true) (hK : va_K (tD θ) vwCl (gty (tC θ)) s) (hst : gSt θ s) (hB : gB θ σ z s.heap H locs) {Qc : Array Value → State → Outcome → State → Prop} (hM : Met l y (.code y bytes maxL ret :: gws) (gRm f b) (va_Pc (.ref (tad θ i) :: As) (gPre θ σ z)) Qc 0 0 (tA θ)) (hv : gMv C y bytes maxL ret n) (hl : Cond.methodLink own index y ∈ gws) (hcl : gCl ci C T N) (hi : i < 129) (hck : ck i = ci) (hn : As.length = n) (hsz : ls.size = nL) {st : List Value} (hst2 : st = As.reverse ++ .ref (tad θ i) :: rest) (hrs : (rest.map fun v => v.category).sum ≤ 8) (hR : f + 1 ≤ R.frames ∧ 8 + (maxL + 11) + b ≤ R.locals) (hcs : cells ≤ R.cells ∧ slots ≤ R.slots) (d : decode cc pc = .ok (.invokevirtual index, 3)) :
    va_Run p l e R s m args below meth c H locs cells slots 0 0 (F0 m pc ls st) rest (Qc (Value.ref (tad θ i) :: As).toArray) (tA θ) := by
  obtain ⟨v1, v2, v3, v4, v5⟩ := hv
  obtain ⟨h1, h2, h3, h4, h5, h6⟩ := hcl
  refine va_runV (As := As) (rest := rest) ⟨hx, hb, hml, hown, hts⟩ hM (cwV n hts (gws_ws (fun w hw => ?_)) rfl rfl rfl v5 hR) ⟨g_blind, va_recv hK hB.1.1 (ci := ci) (q0 := i) h1 (g_obj hB hi hck h4), fun U hU hW => ⟨rfl, g_pre hK hst hB hU hW⟩⟩ rfl hn hsz hst2 (lv_room hrs) d hcs
  unfold wsV at hw
  rcases List.mem_append.mp hw with q | q
  · simp only [List.mem_cons, List.not_mem_nil, or_false] at q
    rcases q with rfl | rfl | rfl | rfl
    · exact hl
    · exact v1
    · exact v2
    · exact v3
  · exact gws_code v4 w q
theorem g_runS (hx : p.tables.exec = Jvm.exec) (hb : c.code = cc) (hml : c.maxLocals = nL) (hown : s.vm.findClass own = some m.cls) (hts : ∀ w ∈ gws, w.before args s = true) (hK : va_K (tD θ) vwCl (gty (tC θ)) s) (hst : gSt θ s) (hB : gB θ σ z s.heap H locs) {Qc : Array Value → State → Outcome → State → Prop} (hM : Met l y (.code y bytes maxL ret :: gws) (gRm f b) (va_Pc As (gPre θ σ z)) Qc 0 0 (tA θ)) (hv : gMs y bytes maxL ret n) (hl : Cond.methodLink own index y ∈ gws) (hn : As.length = n) (hsz : ls.size = nL) {st : List Value} (hst2 : st = As.reverse ++ rest) (hrs : (rest.map fun v => v.category).sum ≤ 8) (hR : f + 1 ≤ R.frames ∧ 8 + (maxL + 11) + b ≤ R.locals) (hcs : cells ≤ R.cells ∧ slots ≤ R.slots) (d : decode cc pc = .ok (.invokestatic index, 3)) :
    va_Run p l e R s m args below meth c H locs cells slots 0 0 (F0 m pc ls st) rest (Qc As.toArray) (tA θ) := by
  obtain ⟨v1, v2, v3, v4⟩ := hv
  have hG : GoodIn gws (.code y bytes maxL ret :: gws) := gws_ws (gws_code v3)
  exact va_runS (As := As) (rest := rest) ⟨hx, hb, hml, hown, hts⟩ hM ⟨callB_of n hts hG rfl rfl rfl (hts _ v2) (hts _ hl) v4 hR, hts _ v1⟩ ⟨g_blind, fun U hU hW => ⟨rfl, g_pre hK hst hB hU hW⟩⟩ rfl hn hsz hst2 (lv_room hrs) d hcs
theorem g_runSN {host : String} (hx : p.tables.exec = Jvm.exec) (hb : c.code = cc) (hml : c.maxLocals = nL) (hown : s.vm.findClass own = some m.cls) (hts : ∀ w ∈ gws, w.before args s = true) (hK : va_K (tD θ) vwCl (gty (tC θ)) s) (hst : gSt θ s) (hB : gB θ σ z s.heap H locs) {Qc : Array Value → State → Outcome → State → Prop} (hM : Met l y (.code y bytes maxL ret :: gws) (gRm f b) (va_Pc As (gPre θ σ z)) Qc 0 0 (tA θ)) (hv : gMs y bytes maxL ret n) (hl : va_Nw (.methodLinkNest own index y host) s) (hn : As.length = n) (hsz : ls.size = nL) {st : List Value} (hst2 : st = As.reverse ++ rest) (hrs : (rest.map fun v => v.category).sum ≤ 8) (hR : f + 1 ≤ R.frames ∧ 8 + (maxL + 11) + b ≤ R.locals) (hcs : cells ≤ R.cells ∧ slots ≤ R.slots) (d : decode cc pc = .ok (.invokestatic index, 3)) :
    va_Run p l e R s m args below meth c H locs cells slots 0 0 (F0 m pc ls st) rest (Qc As.toArray) (tA θ) := by
  obtain ⟨v1, v2, v3, v4⟩ := hv
  have hG : GoodIn gws (.code y bytes maxL ret :: gws) := gws_ws (gws_code v3)
  exact va_runSN (As := As) (rest := rest) ⟨hx, hb, hml, hown, hts⟩ hM ⟨va_cnB n hts hG rfl rfl rfl hl (hts _ v2) v4 hR, hts _ v1, trivial⟩ ⟨g_blind, fun U hU hW => ⟨rfl, g_pre hK hst hB hU hW⟩⟩ rfl hn hsz hst2 (lv_room hrs) d hcs
/-- behind a call -/
theorem g_calli {st0 : List Value} {a : Array Value} {post : Int → gS → gZ → Prop} (hr : va_Run p l e R s m args below meth c H locs cells slots 0 0 (F0 m pc ls st0) rest (gQi θ post a) (tA θ)) (hB : gB θ σ z H0 H locs)
    (kk : ∀ (q : Int) (σ : gS) (z : gZ) (H : Heap) (locs : List Loc), rg q → post q σ z → gB θ σ z H0 H locs → W p l e R s m args below meth c H locs cells slots Q (F0 m (pc + 3) ls (.int (iZ q) :: rest))) : W p l e R s m args below meth c H locs cells slots Q (F0 m pc ls st0) :=
  va_calli hr hB.2 (fun _ _ h => h) (fun _ h => h) (fun r u t H1 locs1 ht _ hp hb _ _ hS => by
    obtain ⟨q, rfl, hq, hp⟩ := hp
    exact kk q u.1 u.2 H1 locs1 hq hp ⟨by rw [← ht]; exact hb, hS⟩)
theorem g_calll {st0 : List Value} {a : Array Value} {post : Int64 → gS → gZ → Prop} (hr : va_Run p l e R s m args below meth c H locs cells slots 0 0 (F0 m pc ls st0) rest (gQl θ post a) (tA θ)) (hB : gB θ σ z H0 H locs)
    (kk : ∀ (q : Int64) (σ : gS) (z : gZ) (H : Heap) (locs : List Loc), post q σ z → gB θ σ z H0 H locs → W p l e R s m args below meth c H locs cells slots Q (F0 m (pc + 3) ls (.long q :: rest))) : W p l e R s m args below meth c H locs cells slots Q (F0 m pc ls st0) :=
  va_calll hr hB.2 (fun _ _ h => h) (fun _ h => h) (fun r u t H1 locs1 ht _ hp hb _ _ hS => kk r u.1 u.2 H1 locs1 hp ⟨by rw [← ht]; exact hb, hS⟩)
theorem g_callv {st0 : List Value} {a : Array Value} {post : gS → gZ → Prop} (hr : va_Run p l e R s m args below meth c H locs cells slots 0 0 (F0 m pc ls st0) rest (gQv θ post a) (tA θ)) (hB : gB θ σ z H0 H locs)
    (kk : ∀ (σ : gS) (z : gZ) (H : Heap) (locs : List Loc), post σ z → gB θ σ z H0 H locs → W p l e R s m args below meth c H locs cells slots Q (F0 m (pc + 3) ls rest)) : W p l e R s m args below meth c H locs cells slots Q (F0 m pc ls st0) :=
  va_callv hr hB.2 (fun _ _ h => h) (fun _ h => h) (fun u t H1 locs1 ht _ hp hb _ _ hS => kk u.1 u.2 H1 locs1 hp ⟨by rw [← ht]; exact hb, hS⟩)
end GR
end
section
theorem mv_X0_forget : gMv RX0 yX0_forget cX0_forget 1 none 0 := ⟨kw_363, kw_364, kw_6, kw_365, by decide +kernel⟩
theorem mv_X0_remember : gMv RX0 yX0_remember cX0_remember 2 none 1 := ⟨kw_486, kw_487, kw_6, kw_488, by decide +kernel⟩
theorem mv_X0_takeBack : gMv RX0 yX0_takeBack cX0_takeBack 2 none 1 := ⟨kw_540, kw_541, kw_6, kw_542, by decide +kernel⟩
theorem mv_X1_become : gMv RX1 yX1_become cX1_become 2 none 1 := ⟨kw_343, kw_344, kw_3, kw_345, by decide +kernel⟩
theorem mv_X1_equate : gMv RX1 yX1_equate cX1_equate 6 none 5 := ⟨kw_313, kw_314, kw_3, kw_315, by decide +kernel⟩
theorem mv_X1_setPart : gMv RX1 yX1_setPart cX1_setPart 4 none 3 := ⟨kw_317, kw_318, kw_3, kw_319, by decide +kernel⟩
theorem mv_X1_part : gMv RX1 yX1_part cX1_part 3 (some .int) 2 := ⟨kw_359, kw_360, kw_3, kw_361, by decide +kernel⟩
theorem mv_X1_kindOf : gMv RX1 yX1_kindOf cX1_kindOf 2 (some .int) 1 := ⟨kw_334, kw_335, kw_3, kw_336, by decide +kernel⟩
theorem mv_X1_valueOf : gMv RX1 yX1_valueOf cX1_valueOf 2 (some .int) 1 := ⟨kw_462, kw_463, kw_3, kw_464, by decide +kernel⟩
theorem mv_X1_restart : gMv RX1 yX1_restart cX1_restart 2 none 0 := ⟨kw_350, kw_351, kw_3, kw_352, by decide +kernel⟩
theorem mv_X1_heldAtFirst : gMv RX1 yX1_heldAtFirst cX1_heldAtFirst 2 (some .int) 1 := ⟨kw_355, kw_1034, kw_3, kw_356, by decide +kernel⟩
theorem mv_X1_thereBits : gMv RX1 yX1_thereBits cX1_thereBits 3 (some .int) 0 := ⟨kw_449, kw_450, kw_3, kw_451, by decide +kernel⟩
theorem mv_X1_sumOfThere : gMv RX1 yX1_sumOfThere cX1_sumOfThere 3 (some .int) 0 := ⟨kw_632, kw_633, kw_3, kw_634, by decide +kernel⟩
theorem mv_X1_work : gMv RX1 yX1_work cX1_work 6 none 3 := ⟨kw_491, kw_492, kw_3, kw_493, by decide +kernel⟩
theorem mv_X1_isThere : gMv RX1 yX1_isThere cX1_isThere 3 (some .boolean) 1 := ⟨kw_496, kw_1052, kw_3, kw_497, by decide +kernel⟩
theorem mv_X1_heldNext : gMv RX1 yX1_heldNext cX1_heldNext 2 (some .int) 1 := ⟨kw_513, kw_1056, kw_3, kw_514, by decide +kernel⟩
theorem mv_X1_reckon : gMv RX1 yX1_reckon cX1_reckon 6 (some .int) 3 := ⟨kw_501, kw_1053, kw_3, kw_502, by decide +kernel⟩
theorem mv_X1_combine : gMv RX1 yX1_combine cX1_combine 4 (some .int) 3 := ⟨kw_505, kw_1054, kw_3, kw_506, by decide +kernel⟩
theorem mv_X1_choose : gMv RX1 yX1_choose cX1_choose 4 (some .int) 3 := ⟨kw_509, kw_1055, kw_3, kw_510, by decide +kernel⟩
theorem mv_X2_isSound : gMv RX2 yX2_isSound cX2_isSound 1 (some .boolean) 0 := ⟨kw_441, kw_442, kw_5, kw_443, by decide +kernel⟩
theorem mv_X2_study : gMv RX2 yX2_study cX2_study 2 none 1 := ⟨kw_367, kw_368, kw_5, kw_369, by decide +kernel⟩
theorem mv_X2_clockAt : gMv RX2 yX2_clockAt cX2_clockAt 5 (some .int) 2 := ⟨kw_475, kw_476, kw_5, kw_477, by decide +kernel⟩
theorem mv_X2_findClash : gMv RX2 yX2_findClash cX2_findClash 3 (some .int) 1 := ⟨kw_373, kw_1035, kw_5, kw_374, by decide +kernel⟩
theorem mv_X2_meet : gMv RX2 yX2_meet cX2_meet 5 (some .boolean) 2 := ⟨kw_377, kw_1036, kw_5, kw_378, by decide +kernel⟩
theorem mv_X2_likenAll : gMv RX2 yX2_likenAll cX2_likenAll 4 (some .boolean) 2 := ⟨kw_391, kw_1039, kw_5, kw_392, by decide +kernel⟩
theorem mv_X2_liken : gMv RX2 yX2_liken cX2_liken 6 (some .boolean) 2 := ⟨kw_387, kw_1038, kw_5, kw_388, by decide +kernel⟩
theorem mv_X2_bind : gMv RX2 yX2_bind cX2_bind 4 (some .boolean) 2 := ⟨kw_383, kw_1037, kw_5, kw_384, by decide +kernel⟩
theorem mv_X2_haveEnds : gMv RX2 yX2_haveEnds cX2_haveEnds 4 (some .boolean) 0 := ⟨kw_396, kw_1040, kw_5, kw_397, by decide +kernel⟩
theorem mv_X2_settle : gMv RX2 yX2_settle cX2_settle 4 none 0 := ⟨kw_400, kw_1041, kw_5, kw_401, by decide +kernel⟩
theorem mv_X2_putInOrder : gMv RX2 yX2_putInOrder cX2_putInOrder 5 none 1 := ⟨kw_404, kw_1042, kw_5, kw_405, by decide +kernel⟩
theorem mv_X2_leastReady : gMv RX2 yX2_leastReady cX2_leastReady 4 (some .int) 2 := ⟨kw_409, kw_1043, kw_5, kw_410, by decide +kernel⟩
theorem mv_X2_waits : gMv RX2 yX2_waits cX2_waits 6 (some .int) 2 := ⟨kw_413, kw_1044, kw_5, kw_414, by decide +kernel⟩
theorem mv_X2_findLevels : gMv RX2 yX2_findLevels cX2_findLevels 4 none 1 := ⟨kw_417, kw_1045, kw_5, kw_418, by decide +kernel⟩
theorem mv_X2_levelByParts : gMv RX2 yX2_levelByParts cX2_levelByParts 3 (some .int) 2 := ⟨kw_421, kw_1046, kw_5, kw_422, by decide +kernel⟩
theorem mv_X2_highest : gMv RX2 yX2_highest cX2_highest 5 (some .int) 2 := ⟨kw_425, kw_1047, kw_5, kw_426, by decide +kernel⟩
theorem mv_X2_findRaw : gMv RX2 yX2_findRaw cX2_findRaw 3 (some .int) 1 := ⟨kw_430, kw_1048, kw_5, kw_431, by decide +kernel⟩
theorem mv_X2_isRaw : gMv RX2 yX2_isRaw cX2_isRaw 3 (some .boolean) 2 := ⟨kw_434, kw_1049, kw_5, kw_435, by decide +kernel⟩
theorem mv_X3_add : gMv RX3 yX3_add cX3_add 5 (some .boolean) 4 := ⟨kw_581, kw_582, kw_7, kw_583, by decide +kernel⟩
theorem mv_X3_lastTick : gMv RX3 yX3_lastTick cX3_lastTick 3 (some .int) 0 := ⟨kw_597, kw_598, kw_7, kw_599, by decide +kernel⟩
theorem mv_X3_fit : gMv RX3 yX3_fit cX3_fit 4 (some .boolean) 2 := ⟨kw_602, kw_603, kw_7, kw_604, by decide +kernel⟩
theorem mv_X4_append : gMv RX4 yX4_append cX4_append 2 (some .boolean) 1 := ⟨kw_202, kw_203, kw_2, kw_204, by decide +kernel⟩
theorem mv_X4_readInto : gMv RX4 yX4_readInto cX4_readInto 5 (some .int) 1 := ⟨kw_214, kw_215, kw_2, kw_216, by decide +kernel⟩
theorem mv_X4_readEquation : gMv RX4 yX4_readEquation cX4_readEquation 8 (some .int) 3 := ⟨kw_223, kw_1033, kw_2, kw_224, by decide +kernel⟩
theorem mv_X4_letterAt : gMv RX4 yX4_letterAt cX4_letterAt 2 (some .int) 1 := ⟨kw_219, kw_1032, kw_2, kw_220, by decide +kernel⟩
theorem mv_X5_write : gMv RX5 yX5_write cX5_write 2 (some .int) 1 := ⟨kw_198, kw_199, kw_1, kw_200, by decide +kernel⟩
theorem mv_X5_wipe : gMv RX5 yX5_wipe cX5_wipe 2 (some .int) 0 := ⟨kw_206, kw_207, kw_1, kw_208, by decide +kernel⟩
theorem mv_X5_fault : gMv RX5 yX5_fault cX5_fault 1 (some .int) 0 := ⟨kw_210, kw_211, kw_1, kw_212, by decide +kernel⟩
theorem mv_X5_program : gMv RX5 yX5_program cX5_program 2 (some .int) 0 := ⟨kw_339, kw_340, kw_1, kw_341, by decide +kernel⟩
theorem mv_X5_about : gMv RX5 yX5_about cX5_about 2 (some .int) 1 := ⟨kw_445, kw_446, kw_1, kw_447, by decide +kernel⟩
theorem mv_X5_stream : gMv RX5 yX5_stream cX5_stream 3 (some .int) 2 := ⟨kw_453, kw_454, kw_1, kw_455, by decide +kernel⟩
theorem mv_X5_figure : gMv RX5 yX5_figure cX5_figure 3 (some .int) 2 := ⟨kw_466, kw_467, kw_1, kw_468, by decide +kernel⟩
theorem mv_X5_clock : gMv RX5 yX5_clock cX5_clock 3 (some .int) 2 := ⟨kw_471, kw_472, kw_1, kw_473, by decide +kernel⟩
theorem mv_X5_tick : gMv RX5 yX5_tick cX5_tick 3 (some .int) 2 := ⟨kw_479, kw_480, kw_1, kw_481, by decide +kernel⟩
theorem mv_X5_afresh : gMv RX5 yX5_afresh cX5_afresh 2 (some .int) 0 := ⟨kw_522, kw_523, kw_1, kw_524, by decide +kernel⟩
theorem mv_X5_tell : gMv RX5 yX5_tell cX5_tell 6 (some .int) 5 := ⟨kw_526, kw_527, kw_1, kw_528, by decide +kernel⟩
theorem mv_X5_undo : gMv RX5 yX5_undo cX5_undo 1 (some .int) 0 := ⟨kw_536, kw_537, kw_1, kw_538, by decide +kernel⟩
theorem mv_X5_later : gMv RX5 yX5_later cX5_later 6 (some .int) 4 := ⟨kw_544, kw_545, kw_1, kw_546, by decide +kernel⟩
theorem mv_X5_first : gMv RX5 yX5_first cX5_first 6 (some .int) 4 := ⟨kw_548, kw_549, kw_1, kw_550, by decide +kernel⟩
theorem mv_X5_round : gMv RX5 yX5_round cX5_round 6 (some .int) 3 := ⟨kw_552, kw_553, kw_1, kw_554, by decide +kernel⟩
theorem mv_X5_judge : gMv RX5 yX5_judge cX5_judge 8 (some .int) 2 := ⟨kw_565, kw_566, kw_1, kw_567, by decide +kernel⟩
theorem mv_X5_see : gMv RX5 yX5_see cX5_see 5 (some .int) 4 := ⟨kw_577, kw_578, kw_1, kw_579, by decide +kernel⟩
theorem mv_X5_unsee : gMv RX5 yX5_unsee cX5_unsee 2 (some .int) 0 := ⟨kw_585, kw_586, kw_1, kw_587, by decide +kernel⟩
theorem mv_X5_inputs : gMv RX5 yX5_inputs cX5_inputs 5 (some .int) 1 := ⟨kw_589, kw_590, kw_1, kw_591, by decide +kernel⟩
theorem mv_X5_odds : gMv RX5 yX5_odds cX5_odds 9 (some .int) 5 := ⟨kw_607, kw_608, kw_1, kw_609, by decide +kernel⟩
theorem mv_X5_seed : gMv RX5 yX5_seed cX5_seed 5 (some .long) 1 := ⟨kw_622, kw_623, kw_1, kw_624, by decide +kernel⟩
theorem mv_X5_runs : gMv RX5 yX5_runs cX5_runs 5 (some .int) 1 := ⟨kw_626, kw_627, kw_1, kw_628, by decide +kernel⟩
theorem mv_X5_keep : gMv RX5 yX5_keep cX5_keep 2 (some .int) 1 := ⟨kw_636, kw_637, kw_1, kw_638, by decide +kernel⟩
theorem mv_X5_again : gMv RX5 yX5_again cX5_again 2 (some .int) 1 := ⟨kw_640, kw_641, kw_1, kw_642, by decide +kernel⟩
theorem mv_X5_isStream : gMv RX5 yX5_isStream cX5_isStream 2 (some .boolean) 1 := ⟨kw_458, kw_1051, kw_1, kw_459, by decide +kernel⟩
theorem mv_X5_soundness : gMv RX5 yX5_soundness cX5_soundness 1 (some .int) 0 := ⟨kw_438, kw_1050, kw_1, kw_439, by decide +kernel⟩
theorem mv_X5_isEquation : gMv RX5 yX5_isEquation cX5_isEquation 5 (some .boolean) 4 := ⟨kw_531, kw_1057, kw_1, kw_532, by decide +kernel⟩
theorem mv_X5_layTrail : gMv RX5 yX5_layTrail cX5_layTrail 4 none 2 := ⟨kw_557, kw_1058, kw_1, kw_558, by decide +kernel⟩
theorem mv_X5_sameOnTrail : gMv RX5 yX5_sameOnTrail cX5_sameOnTrail 4 (some .boolean) 2 := ⟨kw_562, kw_1059, kw_1, kw_563, by decide +kernel⟩
theorem mv_X5_holds : gMv RX5 yX5_holds cX5_holds 5 (some .boolean) 1 := ⟨kw_574, kw_1060, kw_1, kw_575, by decide +kernel⟩
theorem mv_X5_explains : gMv RX5 yX5_explains cX5_explains 5 (some .boolean) 2 := ⟨kw_594, kw_1061, kw_1, kw_595, by decide +kernel⟩
theorem mv_X5_timesThere : gMv RX5 yX5_timesThere cX5_timesThere 6 (some .int) 3 := ⟨kw_612, kw_1062, kw_1, kw_613, by decide +kernel⟩
theorem ms_X5_weight : gMs yX5_weight cX5_weight 5 (some .int) 3 := ⟨kw_615, kw_1, kw_616, by decide +kernel⟩
theorem ms_X5_commonDivisor : gMs yX5_commonDivisor cX5_commonDivisor 6 (some .int) 2 := ⟨kw_619, kw_1, kw_620, by decide +kernel⟩
theorem ms_X5_power : gMs yX5_power cX5_power 6 (some .long) 2 := ⟨kw_570, kw_1, kw_571, by decide +kernel⟩
theorem ms_X5_isValue : gMs yX5_isValue cX5_isValue 1 (some .boolean) 1 := ⟨kw_483, kw_1, kw_484, by decide +kernel⟩
theorem ms_X5_figuresOf : gMs yX5_figuresOf cX5_figuresOf 1 (some .int) 1 := ⟨kw_321, kw_1, kw_322, by decide +kernel⟩
theorem ms_X5_namesStream : gMs yX5_namesStream cX5_namesStream 2 (some .boolean) 2 := ⟨kw_330, kw_1, kw_331, by decide +kernel⟩
theorem ms_X5_isFigure : gMs yX5_isFigure cX5_isFigure 5 (some .boolean) 4 := ⟨kw_326, kw_1, kw_327, by decide +kernel⟩
theorem ms_X6_in : gMs yX6_in cX6_in 6 (some .boolean) 3 := ⟨kw_740, kw_8, kw_741, by decide +kernel⟩
theorem ms_X6_has : gMs yX6_has cX6_has 2 (some .boolean) 2 := ⟨kw_816, kw_8, kw_817, by decide +kernel⟩
theorem ms_X6_power : gMs yX6_power cX6_power 4 (some .int) 2 := ⟨kw_998, kw_8, kw_999, by decide +kernel⟩
theorem mv_X6_noStream : gMv RX6 yX6_noStream cX6_noStream 2 (some .boolean) 1 := ⟨kw_861, kw_1082, kw_8, kw_862, by decide +kernel⟩
theorem ms_X6_figures : gMs yX6_figures cX6_figures 1 (some .int) 1 := ⟨kw_767, kw_8, kw_768, by decide +kernel⟩
theorem ms_X6_kindOf : gMs yX6_kindOf cX6_kindOf 1 (some .int) 1 := ⟨kw_764, kw_8, kw_765, by decide +kernel⟩
theorem ms_X6_most : gMs yX6_most cX6_most 3 (some .int) 3 := ⟨kw_770, kw_8, kw_771, by decide +kernel⟩
theorem ms_X6_streamOf : gMs yX6_streamOf cX6_streamOf 5 (some .int) 3 := ⟨kw_823, kw_8, kw_824, by decide +kernel⟩
theorem mv_X6_write : gMv RX6 yX6_write cX6_write 2 (some .int) 1 := ⟨kw_735, kw_736, kw_8, kw_737, by decide +kernel⟩
theorem mv_X6_wipe : gMv RX6 yX6_wipe cX6_wipe 2 (some .int) 0 := ⟨kw_743, kw_744, kw_8, kw_745, by decide +kernel⟩
theorem mv_X6_letterAt : gMv RX6 yX6_letterAt cX6_letterAt 2 (some .int) 1 := ⟨kw_756, kw_1064, kw_8, kw_757, by decide +kernel⟩
theorem mv_X6_readEquation : gMv RX6 yX6_readEquation cX6_readEquation 6 (some .boolean) 2 := ⟨kw_761, kw_1065, kw_8, kw_762, by decide +kernel⟩
theorem mv_X6_readProgram : gMv RX6 yX6_readProgram cX6_readProgram 3 (some .int) 0 := ⟨kw_752, kw_1063, kw_8, kw_753, by decide +kernel⟩
theorem mv_X6_fault : gMv RX6 yX6_fault cX6_fault 1 (some .int) 0 := ⟨kw_747, kw_748, kw_8, kw_749, by decide +kernel⟩
theorem mv_X6_root : gMv RX6 yX6_root cX6_root 3 (some .int) 1 := ⟨kw_801, kw_1071, kw_8, kw_802, by decide +kernel⟩
theorem mv_X6_isMet : gMv RX6 yX6_isMet cX6_isMet 4 (some .boolean) 2 := ⟨kw_805, kw_1072, kw_8, kw_806, by decide +kernel⟩
theorem mv_X6_settle : gMv RX6 yX6_settle cX6_settle 4 (some .boolean) 2 := ⟨kw_797, kw_1070, kw_8, kw_798, by decide +kernel⟩
theorem mv_X6_like : gMv RX6 yX6_like cX6_like 7 (some .boolean) 2 := ⟨kw_809, kw_1073, kw_8, kw_810, by decide +kernel⟩
theorem mv_X6_asks : gMv RX6 yX6_asks cX6_asks 7 (some .boolean) 2 := ⟨kw_793, kw_1069, kw_8, kw_794, by decide +kernel⟩
theorem mv_X6_findClocks : gMv RX6 yX6_findClocks cX6_findClocks 3 none 1 := ⟨kw_789, kw_1068, kw_8, kw_790, by decide +kernel⟩
theorem mv_X6_clocks : gMv RX6 yX6_clocks cX6_clocks 4 (some .int) 1 := ⟨kw_827, kw_1076, kw_8, kw_828, by decide +kernel⟩
theorem mv_X6_waits : gMv RX6 yX6_waits cX6_waits 7 (some .int) 2 := ⟨kw_820, kw_1075, kw_8, kw_821, by decide +kernel⟩
theorem mv_X6_findOrder : gMv RX6 yX6_findOrder cX6_findOrder 7 none 1 := ⟨kw_813, kw_1074, kw_8, kw_814, by decide +kernel⟩
theorem mv_X6_isOne : gMv RX6 yX6_isOne cX6_isOne 8 (some .boolean) 2 := ⟨kw_835, kw_1078, kw_8, kw_836, by decide +kernel⟩
theorem mv_X6_findLevels : gMv RX6 yX6_findLevels cX6_findLevels 4 none 1 := ⟨kw_831, kw_1077, kw_8, kw_832, by decide +kernel⟩
theorem mv_X6_isRaw : gMv RX6 yX6_isRaw cX6_isRaw 8 (some .boolean) 2 := ⟨kw_841, kw_1079, kw_8, kw_842, by decide +kernel⟩
theorem mv_X6_find : gMv RX6 yX6_find cX6_find 3 none 1 := ⟨kw_785, kw_1067, kw_8, kw_786, by decide +kernel⟩
theorem mv_X6_isSound : gMv RX6 yX6_isSound cX6_isSound 1 (some .boolean) 0 := ⟨kw_845, kw_1080, kw_8, kw_846, by decide +kernel⟩
theorem mv_X6_soundNow : gMv RX6 yX6_soundNow cX6_soundNow 1 (some .boolean) 0 := ⟨kw_781, kw_1066, kw_8, kw_782, by decide +kernel⟩
theorem ms_X6_goAfresh : gMs yX6_goAfresh cX6_goAfresh 3 none 1 := ⟨kw_777, kw_8, kw_778, by decide +kernel⟩
theorem mv_X6_isThere : gMv RX6 yX6_isThere cX6_isThere 6 (some .boolean) 2 := ⟨kw_889, kw_1085, kw_8, kw_890, by decide +kernel⟩
theorem ms_X6_made : gMs yX6_made cX6_made 3 (some .int) 3 := ⟨kw_896, kw_8, kw_897, by decide +kernel⟩
theorem mv_X6_valueOf : gMv RX6 yX6_valueOf cX6_valueOf 10 (some .int) 4 := ⟨kw_893, kw_1086, kw_8, kw_894, by decide +kernel⟩
theorem mv_X6_keepOn : gMv RX6 yX6_keepOn cX6_keepOn 4 none 1 := ⟨kw_900, kw_1087, kw_8, kw_901, by decide +kernel⟩
theorem mv_X6_goTick : gMv RX6 yX6_goTick cX6_goTick 8 (some .int) 3 := ⟨kw_885, kw_1084, kw_8, kw_886, by decide +kernel⟩
theorem mv_X6_program : gMv RX6 yX6_program cX6_program 2 (some .int) 0 := ⟨kw_773, kw_774, kw_8, kw_775, by decide +kernel⟩
theorem mv_X6_there : gMv RX6 yX6_there cX6_there 3 (some .int) 0 := ⟨kw_853, kw_1081, kw_8, kw_854, by decide +kernel⟩
theorem mv_X6_about : gMv RX6 yX6_about cX6_about 2 (some .int) 1 := ⟨kw_848, kw_849, kw_8, kw_850, by decide +kernel⟩
theorem mv_X6_stream : gMv RX6 yX6_stream cX6_stream 3 (some .int) 2 := ⟨kw_856, kw_857, kw_8, kw_858, by decide +kernel⟩
theorem mv_X6_figure : gMv RX6 yX6_figure cX6_figure 3 (some .int) 2 := ⟨kw_864, kw_865, kw_8, kw_866, by decide +kernel⟩
theorem mv_X6_clock : gMv RX6 yX6_clock cX6_clock 4 (some .int) 2 := ⟨kw_868, kw_869, kw_8, kw_870, by decide +kernel⟩
theorem mv_X6_note : gMv RX6 yX6_note cX6_note 2 none 0 := ⟨kw_881, kw_1083, kw_8, kw_882, by decide +kernel⟩
theorem ms_X6_areInputs : gMs yX6_areInputs cX6_areInputs 2 (some .boolean) 2 := ⟨kw_876, kw_8, kw_877, by decide +kernel⟩
theorem mv_X6_tick : gMv RX6 yX6_tick cX6_tick 3 (some .int) 2 := ⟨kw_872, kw_873, kw_8, kw_874, by decide +kernel⟩
theorem mv_X6_afresh : gMv RX6 yX6_afresh cX6_afresh 2 (some .int) 0 := ⟨kw_903, kw_904, kw_8, kw_905, by decide +kernel⟩
theorem mv_X6_areFigures : gMv RX6 yX6_areFigures cX6_areFigures 7 (some .boolean) 4 := ⟨kw_913, kw_1088, kw_8, kw_914, by decide +kernel⟩
theorem mv_X6_tell : gMv RX6 yX6_tell cX6_tell 6 (some .int) 5 := ⟨kw_907, kw_908, kw_8, kw_909, by decide +kernel⟩
theorem mv_X6_undo : gMv RX6 yX6_undo cX6_undo 2 (some .int) 0 := ⟨kw_916, kw_917, kw_8, kw_918, by decide +kernel⟩
theorem mv_X6_begin : gMv RX6 yX6_begin cX6_begin 2 none 0 := ⟨kw_926, kw_1089, kw_8, kw_927, by decide +kernel⟩
theorem mv_X6_goTicks : gMv RX6 yX6_goTicks cX6_goTicks 5 none 3 := ⟨kw_930, kw_1090, kw_8, kw_931, by decide +kernel⟩
theorem mv_X6_later : gMv RX6 yX6_later cX6_later 5 (some .int) 4 := ⟨kw_920, kw_921, kw_8, kw_922, by decide +kernel⟩
theorem mv_X6_first : gMv RX6 yX6_first cX6_first 6 (some .int) 4 := ⟨kw_933, kw_934, kw_8, kw_935, by decide +kernel⟩
theorem mv_X6_areAlike : gMv RX6 yX6_areAlike cX6_areAlike 5 (some .boolean) 2 := ⟨kw_947, kw_1092, kw_8, kw_948, by decide +kernel⟩
theorem mv_X6_layStates : gMv RX6 yX6_layStates cX6_layStates 6 none 2 := ⟨kw_942, kw_1091, kw_8, kw_943, by decide +kernel⟩
theorem mv_X6_round : gMv RX6 yX6_round cX6_round 6 (some .int) 3 := ⟨kw_937, kw_938, kw_8, kw_939, by decide +kernel⟩
theorem ms_X6_longPower : gMs yX6_longPower cX6_longPower 6 (some .long) 2 := ⟨kw_956, kw_8, kw_957, by decide +kernel⟩
theorem mv_X6_areLike : gMv RX6 yX6_areLike cX6_areLike 6 (some .boolean) 2 := ⟨kw_968, kw_1095, kw_8, kw_969, by decide +kernel⟩
theorem mv_X6_isSo : gMv RX6 yX6_isSo cX6_isSo 5 (some .boolean) 4 := ⟨kw_964, kw_1094, kw_8, kw_965, by decide +kernel⟩
theorem mv_X6_does : gMv RX6 yX6_does cX6_does 2 (some .boolean) 1 := ⟨kw_960, kw_1093, kw_8, kw_961, by decide +kernel⟩
theorem mv_X6_judge : gMv RX6 yX6_judge cX6_judge 5 (some .int) 2 := ⟨kw_950, kw_951, kw_8, kw_952, by decide +kernel⟩
theorem mv_X6_see : gMv RX6 yX6_see cX6_see 5 (some .int) 4 := ⟨kw_971, kw_972, kw_8, kw_973, by decide +kernel⟩
theorem mv_X6_unsee : gMv RX6 yX6_unsee cX6_unsee 2 (some .int) 0 := ⟨kw_977, kw_978, kw_8, kw_979, by decide +kernel⟩
theorem mv_X6_explains : gMv RX6 yX6_explains cX6_explains 6 (some .boolean) 2 := ⟨kw_986, kw_1096, kw_8, kw_987, by decide +kernel⟩
theorem mv_X6_inputs : gMv RX6 yX6_inputs cX6_inputs 4 (some .int) 1 := ⟨kw_981, kw_982, kw_8, kw_983, by decide +kernel⟩
theorem ms_X6_divisor : gMs yX6_divisor cX6_divisor 5 (some .int) 2 := ⟨kw_1004, kw_8, kw_1005, by decide +kernel⟩
theorem ms_X6_fraction : gMs yX6_fraction cX6_fraction 4 (some .int) 3 := ⟨kw_1001, kw_8, kw_1002, by decide +kernel⟩
theorem mv_X6_timesThere : gMv RX6 yX6_timesThere cX6_timesThere 6 (some .int) 3 := ⟨kw_995, kw_1097, kw_8, kw_996, by decide +kernel⟩
theorem mv_X6_odds : gMv RX6 yX6_odds cX6_odds 10 (some .int) 5 := ⟨kw_989, kw_990, kw_8, kw_991, by decide +kernel⟩
theorem mv_X6_seed : gMv RX6 yX6_seed cX6_seed 5 (some .long) 1 := ⟨kw_1007, kw_1008, kw_8, kw_1009, by decide +kernel⟩
theorem mv_X6_sumOf : gMv RX6 yX6_sumOf cX6_sumOf 4 (some .int) 1 := ⟨kw_1019, kw_1098, kw_8, kw_1020, by decide +kernel⟩
theorem mv_X6_runs : gMv RX6 yX6_runs cX6_runs 5 (some .int) 1 := ⟨kw_1011, kw_1012, kw_8, kw_1013, by decide +kernel⟩
theorem mv_X6_keep : gMv RX6 yX6_keep cX6_keep 3 (some .int) 1 := ⟨kw_1022, kw_1023, kw_8, kw_1024, by decide +kernel⟩
theorem mv_X6_again : gMv RX6 yX6_again cX6_again 3 (some .int) 1 := ⟨kw_1026, kw_1027, kw_8, kw_1028, by decide +kernel⟩
theorem ms_J6_bitCount_0f7a4 : gMs yJ6_bitCount_0f7a4 cJ6_bitCount_0f7a4 1 (some .int) 1 := ⟨kw_516, kw_16, kw_517, by decide +kernel⟩
theorem mv_J0_length_8abf5 : gMv RJ0 yJ0_length_8abf5 cJ0_length_8abf5 1 (some .int) 0 := ⟨kw_241, kw_242, kw_9, kw_243, by decide +kernel⟩
theorem mv_J0_indexOf_0f7a4 : gMv RJ0 yJ0_indexOf_0f7a4 cJ0_indexOf_0f7a4 2 (some .int) 1 := ⟨kw_227, kw_228, kw_9, kw_229, by decide +kernel⟩
theorem mv_J0_indexOf_7cf53 : gMv RJ0 yJ0_indexOf_7cf53 cJ0_indexOf_7cf53 3 (some .int) 2 := ⟨kw_231, kw_232, kw_9, kw_233, by decide +kernel⟩
theorem mv_J0_coder_7d493 : gMv RJ0 yJ0_coder_7d493 cJ0_coder_7d493 1 (some .byte) 0 := ⟨kw_245, kw_246, kw_9, kw_247, by decide +kernel⟩
theorem mv_J0_isLatin1_aae02 : gMv RJ0 yJ0_isLatin1_aae02 cJ0_isLatin1_aae02 1 (some .boolean) 0 := ⟨kw_235, kw_236, kw_9, kw_237, by decide +kernel⟩
theorem ms_J1_canEncode_9a6ad : gMs yJ1_canEncode_9a6ad cJ1_canEncode_9a6ad 1 (some .boolean) 1 := ⟨kw_252, kw_10, kw_253, by decide +kernel⟩
theorem ms_J1_indexOf_4cfef : gMs yJ1_indexOf_4cfef cJ1_indexOf_4cfef 4 (some .int) 4 := ⟨kw_249, kw_10, kw_250, by decide +kernel⟩
theorem ms_J1_indexOfChar_4cfef : gMs yJ1_indexOfChar_4cfef cJ1_indexOfChar_4cfef 6 (some .int) 4 := ⟨kw_261, kw_10, kw_262, by decide +kernel⟩
theorem ms_J2_length_9d52b : gMs yJ2_length_9d52b cJ2_length_9d52b 1 (some .int) 1 := ⟨kw_276, kw_12, kw_277, by decide +kernel⟩
theorem ms_J2_indexOf_4cfef : gMs yJ2_indexOf_4cfef cJ2_indexOf_4cfef 4 (some .int) 4 := ⟨kw_264, kw_12, kw_265, by decide +kernel⟩
theorem ms_J2_indexOfChar_4cfef : gMs yJ2_indexOfChar_4cfef cJ2_indexOfChar_4cfef 4 (some .int) 4 := ⟨kw_270, kw_12, kw_271, by decide +kernel⟩
theorem ms_J7_fill_53178 : gMs yJ7_fill_53178 cJ7_fill_53178 4 none 2 := ⟨kw_47, kw_4, kw_48, by decide +kernel⟩
/-- the flows' cells -/
def flL : List Nat := [3, 8, 23, 28, 33, 38, 43, 48, 53, 58, 63, 68, 73, 78, 83, 88, 101, 106]
def isF (f : Nat) : Prop := f ∈ flL
theorem isF_all : ∀ f ∈ flL, (f + 4 < 129 ∧ ck f = 1) ∧ (ck (f + 1) = 7 ∧ ck (f + 2) = 7 ∧ ck (f + 3) = 7 ∧ ck (f + 4) = 7) ∧ (cn (f + 1) = 8 ∧ cn (f + 2) = 24 ∧ cn (f + 3) = 8 ∧ cn (f + 4) = 8) := by decide +kernel
theorem isF.lt0 {f : Nat} (h : isF f) : f < 129 := by have := (isF_all f h).1.1; omega
theorem isF.ck0 {f : Nat} (h : isF f) : ck f = 1 := (isF_all f h).1.2
theorem isF.lt1 {f : Nat} (h : isF f) : f + 1 < 129 := by have := (isF_all f h).1.1; omega
theorem isF.ck1 {f : Nat} (h : isF f) : ck (f + 1) = 7 := (isF_all f h).2.1.1
theorem isF.cn1 {f : Nat} (h : isF f) : cn (f + 1) = 8 := (isF_all f h).2.2.1
theorem isF.bg1 {f : Nat} (h : isF f) : cn (f + 1) < 1000 := by rw [h.cn1]; decide
theorem isF.lt2 {f : Nat} (h : isF f) : f + 2 < 129 := by have := (isF_all f h).1.1; omega
theorem isF.ck2 {f : Nat} (h : isF f) : ck (f + 2) = 7 := (isF_all f h).2.1.2.1
theorem isF.cn2 {f : Nat} (h : isF f) : cn (f + 2) = 24 := (isF_all f h).2.2.2.1
theorem isF.bg2 {f : Nat} (h : isF f) : cn (f + 2) < 1000 := by rw [h.cn2]; decide
theorem isF.lt3 {f : Nat} (h : isF f) : f + 3 < 129 := by have := (isF_all f h).1.1; omega
theorem isF.ck3 {f : Nat} (h : isF f) : ck (f + 3) = 7 := (isF_all f h).2.1.2.2.1
theorem isF.cn3 {f : Nat} (h : isF f) : cn (f + 3) = 8 := (isF_all f h).2.2.2.2.1
theorem isF.bg3 {f : Nat} (h : isF f) : cn (f + 3) < 1000 := by rw [h.cn3]; decide
theorem isF.lt4 {f : Nat} (h : isF f) : f + 4 < 129 := by have := (isF_all f h).1.1; omega
theorem isF.ck4 {f : Nat} (h : isF f) : ck (f + 4) = 7 := (isF_all f h).2.1.2.2.2
theorem isF.cn4 {f : Nat} (h : isF f) : cn (f + 4) = 8 := (isF_all f h).2.2.2.2.2
theorem isF.bg4 {f : Nat} (h : isF f) : cn (f + 4) < 1000 := by rw [h.cn4]; decide
theorem isF.tg2 {f : Nat} (h : isF f) : tg f 2 = f + 1 := by rw [tg, if_pos h.ck0]; omega
theorem isF.tg3 {f : Nat} (h : isF f) : tg f 3 = f + 2 := by rw [tg, if_pos h.ck0]; omega
theorem isF.tg4 {f : Nat} (h : isF f) : tg f 4 = f + 3 := by rw [tg, if_pos h.ck0]; omega
theorem isF.tg5 {f : Nat} (h : isF f) : tg f 5 = f + 4 := by rw [tg, if_pos h.ck0]; omega
end
section
/-! plain mathematics -/
def itr (f : Nat → Nat) : Nat → Nat → Nat
  | 0, s => s
  | n + 1, s => f (itr f n s)
theorem itr_fix {f : Nat → Nat} {j s : Nat} (h : f (itr f j s) = itr f j s) : ∀ k, itr f (j + k) s = itr f j s
  | 0 => rfl
  | k + 1 => by
    show f (itr f (j + k) s) = _
    rw [itr_fix h k, h]
theorem itr_fix' {f : Nat → Nat} {j k s : Nat} (h : f (itr f j s) = itr f j s) (hk : j ≤ k) : itr f k s = itr f j s := by
  obtain ⟨d, rfl⟩ := Nat.le.dest hk
  exact itr_fix h d
theorem itr_lt {f : Nat → Nat} {n : Nat} (h : ∀ k, k < n → f k < n) {s : Nat} (hs : s < n) : ∀ j, itr f j s < n
  | 0 => hs
  | j + 1 => h _ (itr_lt h hs j)
theorem itr_add (f : Nat → Nat) (s : Nat) : ∀ a b, itr f (a + b) s = itr f a (itr f b s)
  | 0, b => by rw [Nat.zero_add]; rfl
  | a + 1, b => by
    rw [show a + 1 + b = (a + b) + 1 by omega]
    show f (itr f (a + b) s) = f (itr f a (itr f b s))
    rw [itr_add f s a b]
/-- the reference's clocks: up and term -/
def mU (σ : gS) (u : Nat → Nat) : Prop := ∀ k, k < 8 → σ 123 k = ((u k : Nat) : Int) ∧ u k < 8
def uOK (u : Nat → Nat) : Prop := ∀ k, k < 8 → u k < 8 ∧ u (itr u 8 k) = itr u 8 k
def rt (u : Nat → Nat) (s : Nat) : Nat := itr u 8 s
theorem rt_lt {u : Nat → Nat} (h : uOK u) {s : Nat} (hs : s < 8) : rt u s < 8 := itr_lt (fun k hk => (h k hk).1) hs 8
theorem rt_fix {u : Nat → Nat} (h : uOK u) {s : Nat} (hs : s < 8) : u (rt u s) = rt u s := (h s hs).2
theorem rt_rt {u : Nat → Nat} (h : uOK u) {s : Nat} (hs : s < 8) : rt u (rt u s) = rt u s := by
  have := itr_fix' (f := u) (j := 0) (k := 8) (s := rt u s) (rt_fix h hs) (by omega)
  exact this
theorem rt_of {u : Nat → Nat} {s j : Nat} (hj : j ≤ 8) (h : u (itr u j s) = itr u j s) : rt u s = itr u j s := itr_fix' h hj
/-- terms: -9 none, -1 BASE, 10 c and by -/
def tIn (t : Nat → Int) : Prop := ∀ k, k < 8 → t k = -9 ∨ t k = -1 ∨ (0 ≤ t k ∧ t k < 80)
def mT (σ : gS) (t : Nat → Int) : Prop := ∀ k, k < 8 → σ 124 k = t k
def nx (u : Nat → Nat) (t : Nat → Int) (r : Nat) : Nat := if 0 ≤ t r then rt u (t r / 10).toNat else r
def tOK (u : Nat → Nat) (t : Nat → Int) : Prop := tIn t ∧ ∀ k, k < 8 → t (itr (nx u t) 8 k) < 0
theorem nx_lt {u : Nat → Nat} {t : Nat → Int} (hu : uOK u) (ht : tIn t) {r : Nat} (hr : r < 8) : nx u t r < 8 := by
  unfold nx
  have := ht r hr
  split
  · exact rt_lt hu (by omega)
  · exact hr
theorem nx_end {u : Nat → Nat} {t : Nat → Int} {r : Nat} (h : t r < 0) : nx u t r = r := if_neg (by omega)
def met (u : Nat → Nat) (t : Nat → Int) (r s : Nat) : Prop := ∃ j, itr (nx u t) j (rt u s) = r
/-- one place anew -/
def upn {α : Type} (f : Nat → α) (i : Nat) (x : α) : Nat → α := fun k => if k = i then x else f k
theorem upn_eq {α : Type} (f : Nat → α) (i : Nat) (x : α) : upn f i x i = x := if_pos rfl
theorem upn_ne {α : Type} (f : Nat → α) {i k : Nat} (x : α) (h : k ≠ i) : upn f i x k = f k := if_neg h
end
section
/-- the pages that the reference works on -/
def isP (P : Nat) : Prop := P = 114 ∨ P = 115
theorem isP.ltp {P : Nat} (h : isP P) : P < 129 := by rcases h with rfl | rfl <;> decide
theorem isP.ckp {P : Nat} (h : isP P) : ck P = 7 := by rcases h with rfl | rfl <;> decide
theorem isP.cnp {P : Nat} (h : isP P) : cn P = 50 := by rcases h with rfl | rfl <;> decide
theorem isP.bgp {P : Nat} (h : isP P) : cn P < 1000 := by rw [h.cnp]; decide
set_option maxHeartbeats 4000000 in
set_option maxRecDepth 100000 in
theorem mX6_in (l : Launch) (θ : gT) (hθ : gOK θ) (σ : gS) (z : gZ) (v a b : Int) (hv : rgL v) (ha : rgL a) (hb0 : rgL b) : GI l θ yX6_in cX6_in 6 (some .boolean) 0 0 [.long (lZ v), .long (lZ a), .long (lZ b)] σ z (fun q σ' z' => ((q = 1 ∧ (a ≤ v ∧ v ≤ b)) ∨ (q = 0 ∧ ¬ (a ≤ v ∧ v ≤ b))) ∧ σ' = σ ∧ z' = z) := by
  refine g_enter (ret := (some .boolean)) (by decide +kernel) (Nat.le_of_ble_eq_true rfl) ?_
  intro p e s m args below meth c ls F hB hl
  obtain ⟨hx, hb, hr, hml, hown, hts, hlk, hK, hst⟩ := F
  have hR := hB.1.2
  have hl : lv_has ls 6 [(0, .long (lZ v)), (2, .long (lZ a)), (4, .long (lZ b))] := hl
  refine lv_lload_n hx hb dX6_in_0 rfl (lv_at hl 0 rfl) ?_
  refine lv_lload_n hx hb dX6_in_1 rfl (lv_at hl 1 rfl) ?_
  refine z_lcmp hx hb dX6_in_2 ⟨by omega, by omega⟩ ⟨by omega, by omega⟩ ?_
  have hc_1 := cmpZ_sp v a
  refine z_if_lt (tgt := 17) hx hb dX6_in_3 (by decide) ⟨by omega, by omega⟩ (fun c_2 => ?_) (fun c_2 => ?_)
  · refine lv_iconst (v := iZ 0) hx hb dX6_in_17 rfl ?_
    exact g_zret hx hb hr hlk hB dX6_in_18 (by decide) (⟨by omega, rfl, rfl⟩)
  · refine lv_lload_n hx hb dX6_in_6 rfl (lv_at hl 0 rfl) ?_
    refine lv_lload hx hb dX6_in_7 (lv_at hl 2 rfl) ?_
    refine z_lcmp hx hb dX6_in_9 ⟨by omega, by omega⟩ ⟨by omega, by omega⟩ ?_
    have hc_3 := cmpZ_sp v b
    refine z_if_gt (tgt := 17) hx hb dX6_in_10 (by decide) ⟨by omega, by omega⟩ (fun c_4 => ?_) (fun c_4 => ?_)
    · refine lv_iconst (v := iZ 0) hx hb dX6_in_17 rfl ?_
      exact g_zret hx hb hr hlk hB dX6_in_18 (by decide) (⟨by omega, rfl, rfl⟩)
    · refine lv_iconst (v := iZ 1) hx hb dX6_in_13 rfl ?_
      refine lv_goto (tgt := 18) hx hb dX6_in_14 (by decide) ?_
      exact g_zret hx hb hr hlk hB dX6_in_18 (by decide) (⟨by omega, rfl, rfl⟩)
set_option maxHeartbeats 4000000 in
set_option maxRecDepth 100000 in
theorem mX6_has (l : Launch) (θ : gT) (hθ : gOK θ) (σ : gS) (z : gZ) (a : Nat) (ha : a < 256) (k : Nat) (hk : k < 8) : GI l θ yX6_has cX6_has 2 (some .boolean) 0 0 [.int (iZ ((a : Nat) : Int)), .int (iZ ((k : Nat) : Int))] σ z (fun q σ' z' => ((q = 1 ∧ (a / 2 ^ k % 2 = 1)) ∨ (q = 0 ∧ ¬ (a / 2 ^ k % 2 = 1))) ∧ σ' = σ ∧ z' = z) := by
  refine g_enter (ret := (some .boolean)) (by decide +kernel) (Nat.le_of_ble_eq_true rfl) ?_
  intro p e s m args below meth c ls F hB hl
  obtain ⟨hx, hb, hr, hml, hown, hts, hlk, hK, hst⟩ := F
  have hR := hB.1.2
  have hl : lv_has ls 2 [(0, .int (iZ ((a : Nat) : Int))), (1, .int (iZ ((k : Nat) : Int)))] := hl
  refine lv_iload_n hx hb dX6_has_0 rfl (lv_at hl 0 rfl) ?_
  refine lv_iload_n hx hb dX6_has_1 rfl (lv_at hl 1 rfl) ?_
  refine z_ishr (a := a) (j := k) hx hb (by omega) (by omega) dX6_has_2 ?_
  refine lv_iconst (v := iZ 1) hx hb dX6_has_3 rfl ?_
  have e1 : (a / 2 ^ k) &&& 1 = a / 2 ^ k % 2 := Nat.and_one_is_mod _
  have e2 := Nat.mod_lt (a / 2 ^ k) (show 0 < 2 by decide)
  refine z_iand (a := (a / 2 ^ k)) (b := 1) hx hb dX6_has_4 ?_
  refine lv_iconst (v := iZ 1) hx hb dX6_has_5 rfl ?_
  refine z_icmp_ne (tgt := 13) hx hb dX6_has_6 (by decide) ⟨by omega, by omega⟩ ⟨by decide, by decide⟩ (fun c_1 => ?_) (fun c_1 => ?_)
  · refine lv_iconst (v := iZ 0) hx hb dX6_has_13 rfl ?_
    exact g_zret hx hb hr hlk hB dX6_has_14 (by decide) (⟨by omega, rfl, rfl⟩)
  · refine lv_iconst (v := iZ 1) hx hb dX6_has_9 rfl ?_
    refine lv_goto (tgt := 14) hx hb dX6_has_10 (by decide) ?_
    exact g_zret hx hb hr hlk hB dX6_has_14 (by decide) (⟨by omega, rfl, rfl⟩)
set_option maxHeartbeats 4000000 in
set_option maxRecDepth 100000 in
theorem mX6_figures (l : Launch) (θ : gT) (hθ : gOK θ) (σ : gS) (z : gZ) (k : Int) (hk : rg k) : GI l θ yX6_figures cX6_figures 1 (some .int) 0 0 [.int (iZ k)] σ z (fun q σ' z' => (((k < 2 ∨ k = 7) ∧ q = 1) ∨ ((k = 5 ∨ k = 11) ∧ q = 3) ∨ (¬ (k < 2 ∨ k = 7 ∨ k = 5 ∨ k = 11) ∧ q = 2)) ∧ σ' = σ ∧ z' = z) := by
  refine g_enter (ret := (some .int)) (by decide +kernel) (Nat.le_of_ble_eq_true rfl) ?_
  intro p e s m args below meth c ls F hB hl
  obtain ⟨hx, hb, hr, hml, hown, hts, hlk, hK, hst⟩ := F
  have hR := hB.1.2
  have hl : lv_has ls 1 [(0, .int (iZ k))] := hl
  refine lv_iload_n hx hb dX6_figures_0 rfl (lv_at hl 0 rfl) ?_
  refine lv_iconst (v := iZ 2) hx hb dX6_figures_1 rfl ?_
  refine z_icmp_lt (tgt := 11) hx hb dX6_figures_2 (by decide) ⟨by omega, by omega⟩ ⟨by decide, by decide⟩ (fun c_1 => ?_) (fun c_1 => ?_)
  · refine lv_iconst (v := iZ 1) hx hb dX6_figures_11 rfl ?_
    refine lv_goto (tgt := 31) hx hb dX6_figures_12 (by decide) ?_
    exact g_iret hx hb hr hlk hB dX6_figures_31 ⟨by decide, by decide⟩ (⟨by omega, rfl, rfl⟩)
  · refine lv_iload_n hx hb dX6_figures_5 rfl (lv_at hl 0 rfl) ?_
    refine lv_bipush (v := iZ 7) hx hb dX6_figures_6 (by decide) ?_
    refine z_icmp_ne (tgt := 15) hx hb dX6_figures_8 (by decide) ⟨by omega, by omega⟩ ⟨by decide, by decide⟩ (fun c_2 => ?_) (fun c_2 => ?_)
    · refine lv_iload_n hx hb dX6_figures_15 rfl (lv_at hl 0 rfl) ?_
      refine lv_iconst (v := iZ 5) hx hb dX6_figures_16 rfl ?_
      refine z_icmp_eq (tgt := 26) hx hb dX6_figures_17 (by decide) ⟨by omega, by omega⟩ ⟨by decide, by decide⟩ (fun c_3 => ?_) (fun c_3 => ?_)
      · refine lv_iconst (v := iZ 3) hx hb dX6_figures_26 rfl ?_
        refine lv_goto (tgt := 31) hx hb dX6_figures_27 (by decide) ?_
        exact g_iret hx hb hr hlk hB dX6_figures_31 ⟨by decide, by decide⟩ (⟨by omega, rfl, rfl⟩)
      · refine lv_iload_n hx hb dX6_figures_20 rfl (lv_at hl 0 rfl) ?_
        refine lv_bipush (v := iZ 11) hx hb dX6_figures_21 (by decide) ?_
        refine z_icmp_ne (tgt := 30) hx hb dX6_figures_23 (by decide) ⟨by omega, by omega⟩ ⟨by decide, by decide⟩ (fun c_4 => ?_) (fun c_4 => ?_)
        · refine lv_iconst (v := iZ 2) hx hb dX6_figures_30 rfl ?_
          exact g_iret hx hb hr hlk hB dX6_figures_31 ⟨by decide, by decide⟩ (⟨by omega, rfl, rfl⟩)
        · refine lv_iconst (v := iZ 3) hx hb dX6_figures_26 rfl ?_
          refine lv_goto (tgt := 31) hx hb dX6_figures_27 (by decide) ?_
          exact g_iret hx hb hr hlk hB dX6_figures_31 ⟨by decide, by decide⟩ (⟨by omega, rfl, rfl⟩)
    · refine lv_iconst (v := iZ 1) hx hb dX6_figures_11 rfl ?_
      refine lv_goto (tgt := 31) hx hb dX6_figures_12 (by decide) ?_
      exact g_iret hx hb hr hlk hB dX6_figures_31 ⟨by decide, by decide⟩ (⟨by omega, rfl, rfl⟩)
set_option maxHeartbeats 4000000 in
set_option maxRecDepth 100000 in
theorem mX6_most (l : Launch) (θ : gT) (hθ : gOK θ) (σ : gS) (z : gZ) (k i n : Int) (hk : rg k) (hi : rg i) (hn : 0 ≤ n ∧ n < 1000) : GI l θ yX6_most cX6_most 3 (some .int) 0 0 [.int (iZ k), .int (iZ i), .int (iZ n)] σ z (fun q σ' z' => ((k = 0 ∧ q = 1) ∨ (k ≠ 0 ∧ (k = 1 ∨ k = 6 ∧ i = 0) ∧ q = 9) ∨ (k ≠ 0 ∧ ¬ (k = 1 ∨ k = 6 ∧ i = 0) ∧ q = n - 1)) ∧ σ' = σ ∧ z' = z) := by
  refine g_enter (ret := (some .int)) (by decide +kernel) (Nat.le_of_ble_eq_true rfl) ?_
  intro p e s m args below meth c ls F hB hl
  obtain ⟨hx, hb, hr, hml, hown, hts, hlk, hK, hst⟩ := F
  have hR := hB.1.2
  have hl : lv_has ls 3 [(0, .int (iZ k)), (1, .int (iZ i)), (2, .int (iZ n))] := hl
  refine lv_iload_n hx hb dX6_most_0 rfl (lv_at hl 0 rfl) ?_
  refine z_if_ne (tgt := 8) hx hb dX6_most_1 (by decide) ⟨by omega, by omega⟩ (fun c_1 => ?_) (fun c_1 => ?_)
  · refine lv_iload_n hx hb dX6_most_8 rfl (lv_at hl 0 rfl) ?_
    refine lv_iconst (v := iZ 1) hx hb dX6_most_9 rfl ?_
    refine z_icmp_eq (tgt := 23) hx hb dX6_most_10 (by decide) ⟨by omega, by omega⟩ ⟨by decide, by decide⟩ (fun c_2 => ?_) (fun c_2 => ?_)
    · refine lv_bipush (v := iZ 9) hx hb dX6_most_23 (by decide) ?_
      refine lv_goto (tgt := 31) hx hb dX6_most_25 (by decide) ?_
      exact g_iret hx hb hr hlk hB dX6_most_31 ⟨by decide, by decide⟩ (⟨by omega, rfl, rfl⟩)
    · refine lv_iload_n hx hb dX6_most_13 rfl (lv_at hl 0 rfl) ?_
      refine lv_bipush (v := iZ 6) hx hb dX6_most_14 (by decide) ?_
      refine z_icmp_ne (tgt := 28) hx hb dX6_most_16 (by decide) ⟨by omega, by omega⟩ ⟨by decide, by decide⟩ (fun c_3 => ?_) (fun c_3 => ?_)
      · refine lv_iload_n hx hb dX6_most_28 rfl (lv_at hl 2 rfl) ?_
        refine lv_iconst (v := iZ 1) hx hb dX6_most_29 rfl ?_
        refine z_isub hx hb dX6_most_30 ?_
        exact g_iret hx hb hr hlk hB dX6_most_31 ⟨by omega, by omega⟩ (⟨by omega, rfl, rfl⟩)
      · refine lv_iload_n hx hb dX6_most_19 rfl (lv_at hl 1 rfl) ?_
        refine z_if_ne (tgt := 28) hx hb dX6_most_20 (by decide) ⟨by omega, by omega⟩ (fun c_4 => ?_) (fun c_4 => ?_)
        · refine lv_iload_n hx hb dX6_most_28 rfl (lv_at hl 2 rfl) ?_
          refine lv_iconst (v := iZ 1) hx hb dX6_most_29 rfl ?_
          refine z_isub hx hb dX6_most_30 ?_
          exact g_iret hx hb hr hlk hB dX6_most_31 ⟨by omega, by omega⟩ (⟨by omega, rfl, rfl⟩)
        · refine lv_bipush (v := iZ 9) hx hb dX6_most_23 (by decide) ?_
          refine lv_goto (tgt := 31) hx hb dX6_most_25 (by decide) ?_
          exact g_iret hx hb hr hlk hB dX6_most_31 ⟨by decide, by decide⟩ (⟨by omega, rfl, rfl⟩)
  · refine lv_iconst (v := iZ 1) hx hb dX6_most_4 rfl ?_
    refine lv_goto (tgt := 31) hx hb dX6_most_5 (by decide) ?_
    exact g_iret hx hb hr hlk hB dX6_most_31 ⟨by decide, by decide⟩ (⟨by omega, rfl, rfl⟩)
set_option maxHeartbeats 4000000 in
set_option maxRecDepth 100000 in
theorem mX6_noStream (l : Launch) (θ : gT) (hθ : gOK θ) (σ : gS) (z : gZ) (k : Int) (hk : rg k) (hn : 0 ≤ σ 114 0 ∧ σ 114 0 ≤ 8) : GI l θ yX6_noStream cX6_noStream 2 (some .boolean) 1 25 [.ref (tad θ 111), .int (iZ k)] σ z (fun q σ' z' => ((q = 1 ∧ (¬ (0 ≤ k ∧ k < σ 114 0))) ∨ (q = 0 ∧ ¬ (¬ (0 ≤ k ∧ k < σ 114 0)))) ∧ σ' = σ ∧ z' = z) := by
  refine g_enter (ret := (some .boolean)) (by decide +kernel) (Nat.le_of_ble_eq_true rfl) ?_
  intro p e s m args below meth c ls F hB hl
  obtain ⟨hx, hb, hr, hml, hown, hts, hlk, hK, hst⟩ := F
  have hR := hB.1.2
  have hl : lv_has ls 2 [(0, .ref (tad θ 111)), (1, .int (iZ k))] := hl
  refine lv_iload_n hx hb dX6_noStream_0 rfl (lv_at hl 1 rfl) ?_
  refine z_i2l hx hb ⟨by omega, by omega⟩ dX6_noStream_1 ?_
  refine lv_lconst (v := lZ 0) hx hb dX6_noStream_2 (by decide) ?_
  refine lv_aload_n hx hb dX6_noStream_3 rfl (lv_at hl 0 rfl) ?_
  refine g_getr (k := 5) (j := 114) hx hb hts hown hK hθ hB cf6 (by decide) rfl (by decide) kw_654 rfl rfl dX6_noStream_4 ?_
  refine lv_iconst (v := iZ 0) hx hb dX6_noStream_7 rfl ?_
  refine g_iald (k := 0) hx hb hK hB (by decide) rfl (by omega) (Nat.lt_of_lt_of_eq (by omega : 0 < 50) (Eq.symm rfl)) (by decide) dX6_noStream_8 ?_
  have hr_1 := hR 114 0
  refine lv_iconst (v := iZ 1) hx hb dX6_noStream_9 rfl ?_
  refine z_isub hx hb dX6_noStream_10 ?_
  refine z_i2l hx hb ⟨by omega, by omega⟩ dX6_noStream_11 ?_
  refine g_calli (g_runS (As := [.long (lZ k), .long (lZ 0), .long (lZ ((σ 114 0) - 1))]) (rest := []) hx hb hml hown hts hK hst hB (mX6_in l θ hθ σ z k 0 ((σ 114 0) - 1) ⟨by omega, by omega⟩ ⟨by omega, by omega⟩ ⟨by omega, by omega⟩) ms_X6_in kw_739 rfl hl.1 rfl (Nat.le_of_ble_eq_true rfl) ⟨by decide, by decide⟩ ⟨Nat.le_refl _, Nat.le_refl _⟩ dX6_noStream_12) hB (fun q_4 σ_2 z_3 H locs hq_4 pq_4 hB => ?_)
  obtain ⟨pq_4, e1_, e2_⟩ := pq_4
  rw [e1_, e2_] at hB
  clear e1_ e2_
  refine z_if_ne (tgt := 22) hx hb dX6_noStream_15 (by decide) ⟨by omega, by omega⟩ (fun c_5 => ?_) (fun c_5 => ?_)
  · refine lv_iconst (v := iZ 0) hx hb dX6_noStream_22 rfl ?_
    exact g_zret hx hb hr hlk hB dX6_noStream_23 (by decide) (⟨by omega, rfl, rfl⟩)
  · refine lv_iconst (v := iZ 1) hx hb dX6_noStream_18 rfl ?_
    refine lv_goto (tgt := 23) hx hb dX6_noStream_19 (by decide) ?_
    exact g_zret hx hb hr hlk hB dX6_noStream_23 (by decide) (⟨by omega, rfl, rfl⟩)
set_option maxHeartbeats 4000000 in
set_option maxRecDepth 100000 in
theorem mX6_streamOf (l : Launch) (θ : gT) (hθ : gOK θ) (σ : gS) (z : gZ) (P : Nat) (hP : isP P) (k i : Nat) (hk : k < 8) (hi : i < 3) : GI l θ yX6_streamOf cX6_streamOf 5 (some .int) 1 20 [.ref (tad θ P), .int (iZ ((k : Nat) : Int)), .int (iZ ((i : Nat) : Int))] σ z (fun q σ' z' => (((1 < σ P (1 + k) ∧ ((i : Int) < 1 ∨ ((i : Int) < 2 ∧ σ P (1 + k) ≠ 7) ∨ σ P (1 + k) = 5 ∨ σ P (1 + k) = 11) ∧ (σ P (1 + k) ≠ 6 ∨ 0 < i)) ∧ q = σ P (9 + 3 * k + i)) ∨ (¬ (1 < σ P (1 + k) ∧ ((i : Int) < 1 ∨ ((i : Int) < 2 ∧ σ P (1 + k) ≠ 7) ∨ σ P (1 + k) = 5 ∨ σ P (1 + k) = 11) ∧ (σ P (1 + k) ≠ 6 ∨ 0 < i)) ∧ q = -9)) ∧ σ' = σ ∧ z' = z) := by
  refine g_enter (ret := (some .int)) (by decide +kernel) (Nat.le_of_ble_eq_true rfl) ?_
  intro p e s m args below meth c ls F hB hl
  obtain ⟨hx, hb, hr, hml, hown, hts, hlk, hK, hst⟩ := F
  have hR := hB.1.2
  have hl : lv_has ls 5 [(0, .ref (tad θ P)), (1, .int (iZ ((k : Nat) : Int))), (2, .int (iZ ((i : Nat) : Int)))] := hl
  refine lv_aload_n hx hb dX6_streamOf_0 rfl (lv_at hl 0 rfl) ?_
  refine lv_iconst (v := iZ 1) hx hb dX6_streamOf_1 rfl ?_
  refine lv_iload_n hx hb dX6_streamOf_2 rfl (lv_at hl 1 rfl) ?_
  refine z_iadd hx hb dX6_streamOf_3 ?_
  refine g_iald (k := (1 + k)) hx hb hK hB hP.ltp hP.ckp (by omega) (Nat.lt_of_lt_of_eq (by omega : (1 + k) < 50) (Eq.symm hP.cnp)) hP.bgp dX6_streamOf_4 ?_
  have hr_1 := hR P (1 + k)
  refine lv_istore_n (lv' := [(3, .int (iZ (σ P (1 + k)))), (0, .ref (tad θ P)), (1, .int (iZ ((k : Nat) : Int))), (2, .int (iZ ((i : Nat) : Int)))]) hx hb dX6_streamOf_5 rfl hl (by decide) rfl (fun ls hl => ?_)
  refine lv_iload_n hx hb dX6_streamOf_6 rfl (lv_at hl 0 rfl) ?_
  refine lv_iconst (v := iZ 1) hx hb dX6_streamOf_7 rfl ?_
  refine z_icmp_le (tgt := 33) hx hb dX6_streamOf_8 (by decide) ⟨by omega, by omega⟩ ⟨by decide, by decide⟩ (fun c_2 => ?_) (fun c_2 => ?_)
  · refine lv_iconst (v := iZ 0) hx hb dX6_streamOf_33 rfl ?_
    refine lv_istore (lv' := [(4, .int (iZ 0)), (3, .int (iZ (σ P (1 + k)))), (0, .ref (tad θ P)), (1, .int (iZ ((k : Nat) : Int))), (2, .int (iZ ((i : Nat) : Int)))]) hx hb dX6_streamOf_34 hl (by decide) rfl (fun ls hl => ?_)
    refine lv_iload hx hb dX6_streamOf_36 (lv_at hl 0 rfl) ?_
    refine z_if_eq (tgt := 54) hx hb dX6_streamOf_38 (by decide) ⟨by decide, by decide⟩ (fun c_3 => ?_) (fun c_3 => ?_)
    · refine lv_bipush (v := iZ (-9)) hx hb dX6_streamOf_54 (by decide) ?_
      exact g_iret hx hb hr hlk hB dX6_streamOf_56 ⟨by decide, by decide⟩ (⟨by omega, rfl, rfl⟩)
    · exact absurd (by decide) c_3
  · refine lv_iload_n hx hb dX6_streamOf_11 rfl (lv_at hl 3 rfl) ?_
    refine lv_iload_n hx hb dX6_streamOf_12 rfl (lv_at hl 0 rfl) ?_
    refine g_calli (g_runS (As := [.int (iZ (σ P (1 + k)))]) (rest := [.int (iZ ((i : Nat) : Int))]) hx hb hml hown hts hK hst hB (mX6_figures l θ hθ σ z (σ P (1 + k)) ⟨by omega, by omega⟩) ms_X6_figures kw_766 rfl hl.1 rfl (Nat.le_of_ble_eq_true rfl) ⟨by decide, by decide⟩ ⟨Nat.le_refl _, Nat.le_refl _⟩ dX6_streamOf_13) hB (fun q_6 σ_4 z_5 H locs hq_6 pq_6 hB => ?_)
    obtain ⟨pq_6, e1_, e2_⟩ := pq_6
    rw [e1_, e2_] at hB
    clear e1_ e2_
    refine z_icmp_ge (tgt := 33) hx hb dX6_streamOf_16 (by decide) ⟨by omega, by omega⟩ ⟨by omega, by omega⟩ (fun c_7 => ?_) (fun c_7 => ?_)
    · refine lv_iconst (v := iZ 0) hx hb dX6_streamOf_33 rfl ?_
      refine lv_istore (lv' := [(4, .int (iZ 0)), (3, .int (iZ (σ P (1 + k)))), (0, .ref (tad θ P)), (1, .int (iZ ((k : Nat) : Int))), (2, .int (iZ ((i : Nat) : Int)))]) hx hb dX6_streamOf_34 hl (by decide) rfl (fun ls hl => ?_)
      refine lv_iload hx hb dX6_streamOf_36 (lv_at hl 0 rfl) ?_
      refine z_if_eq (tgt := 54) hx hb dX6_streamOf_38 (by decide) ⟨by decide, by decide⟩ (fun c_8 => ?_) (fun c_8 => ?_)
      · refine lv_bipush (v := iZ (-9)) hx hb dX6_streamOf_54 (by decide) ?_
        exact g_iret hx hb hr hlk hB dX6_streamOf_56 ⟨by decide, by decide⟩ (⟨by omega, rfl, rfl⟩)
      · exact absurd (by decide) c_8
    · refine lv_iload_n hx hb dX6_streamOf_19 rfl (lv_at hl 0 rfl) ?_
      refine lv_bipush (v := iZ 6) hx hb dX6_streamOf_20 (by decide) ?_
      refine z_icmp_ne (tgt := 29) hx hb dX6_streamOf_22 (by decide) ⟨by omega, by omega⟩ ⟨by decide, by decide⟩ (fun c_9 => ?_) (fun c_9 => ?_)
      · refine lv_iconst (v := iZ 1) hx hb dX6_streamOf_29 rfl ?_
        refine lv_goto (tgt := 34) hx hb dX6_streamOf_30 (by decide) ?_
        refine lv_istore (lv' := [(4, .int (iZ 1)), (3, .int (iZ (σ P (1 + k)))), (0, .ref (tad θ P)), (1, .int (iZ ((k : Nat) : Int))), (2, .int (iZ ((i : Nat) : Int)))]) hx hb dX6_streamOf_34 hl (by decide) rfl (fun ls hl => ?_)
        refine lv_iload hx hb dX6_streamOf_36 (lv_at hl 0 rfl) ?_
        refine z_if_eq (tgt := 54) hx hb dX6_streamOf_38 (by decide) ⟨by decide, by decide⟩ (fun c_10 => ?_) (fun c_10 => ?_)
        · exact absurd c_10 (by decide)
        · refine lv_aload_n hx hb dX6_streamOf_41 rfl (lv_at hl 2 rfl) ?_
          refine lv_bipush (v := iZ 9) hx hb dX6_streamOf_42 (by decide) ?_
          refine lv_iconst (v := iZ 3) hx hb dX6_streamOf_44 rfl ?_
          refine lv_iload_n hx hb dX6_streamOf_45 rfl (lv_at hl 3 rfl) ?_
          refine z_imul hx hb dX6_streamOf_46 ?_
          refine z_iadd hx hb dX6_streamOf_47 ?_
          refine lv_iload_n hx hb dX6_streamOf_48 rfl (lv_at hl 4 rfl) ?_
          refine z_iadd hx hb dX6_streamOf_49 ?_
          refine g_iald (k := ((9 + (3 * k)) + i)) hx hb hK hB hP.ltp hP.ckp (by omega) (Nat.lt_of_lt_of_eq (by omega : ((9 + (3 * k)) + i) < 50) (Eq.symm hP.cnp)) hP.bgp dX6_streamOf_50 ?_
          have hr_11 := hR P ((9 + (3 * k)) + i)
          refine lv_goto (tgt := 56) hx hb dX6_streamOf_51 (by decide) ?_
          exact g_iret hx hb hr hlk hB dX6_streamOf_56 ⟨by omega, by omega⟩ (⟨by omega, rfl, rfl⟩)
      · refine lv_iload_n hx hb dX6_streamOf_25 rfl (lv_at hl 3 rfl) ?_
        refine z_if_le (tgt := 33) hx hb dX6_streamOf_26 (by decide) ⟨by omega, by omega⟩ (fun c_12 => ?_) (fun c_12 => ?_)
        · refine lv_iconst (v := iZ 0) hx hb dX6_streamOf_33 rfl ?_
          refine lv_istore (lv' := [(4, .int (iZ 0)), (3, .int (iZ (σ P (1 + k)))), (0, .ref (tad θ P)), (1, .int (iZ ((k : Nat) : Int))), (2, .int (iZ ((i : Nat) : Int)))]) hx hb dX6_streamOf_34 hl (by decide) rfl (fun ls hl => ?_)
          refine lv_iload hx hb dX6_streamOf_36 (lv_at hl 0 rfl) ?_
          refine z_if_eq (tgt := 54) hx hb dX6_streamOf_38 (by decide) ⟨by decide, by decide⟩ (fun c_13 => ?_) (fun c_13 => ?_)
          · refine lv_bipush (v := iZ (-9)) hx hb dX6_streamOf_54 (by decide) ?_
            exact g_iret hx hb hr hlk hB dX6_streamOf_56 ⟨by decide, by decide⟩ (⟨by omega, rfl, rfl⟩)
          · exact absurd (by decide) c_13
        · refine lv_iconst (v := iZ 1) hx hb dX6_streamOf_29 rfl ?_
          refine lv_goto (tgt := 34) hx hb dX6_streamOf_30 (by decide) ?_
          refine lv_istore (lv' := [(4, .int (iZ 1)), (3, .int (iZ (σ P (1 + k)))), (0, .ref (tad θ P)), (1, .int (iZ ((k : Nat) : Int))), (2, .int (iZ ((i : Nat) : Int)))]) hx hb dX6_streamOf_34 hl (by decide) rfl (fun ls hl => ?_)
          refine lv_iload hx hb dX6_streamOf_36 (lv_at hl 0 rfl) ?_
          refine z_if_eq (tgt := 54) hx hb dX6_streamOf_38 (by decide) ⟨by decide, by decide⟩ (fun c_14 => ?_) (fun c_14 => ?_)
          · exact absurd c_14 (by decide)
          · refine lv_aload_n hx hb dX6_streamOf_41 rfl (lv_at hl 2 rfl) ?_
            refine lv_bipush (v := iZ 9) hx hb dX6_streamOf_42 (by decide) ?_
            refine lv_iconst (v := iZ 3) hx hb dX6_streamOf_44 rfl ?_
            refine lv_iload_n hx hb dX6_streamOf_45 rfl (lv_at hl 3 rfl) ?_
            refine z_imul hx hb dX6_streamOf_46 ?_
            refine z_iadd hx hb dX6_streamOf_47 ?_
            refine lv_iload_n hx hb dX6_streamOf_48 rfl (lv_at hl 4 rfl) ?_
            refine z_iadd hx hb dX6_streamOf_49 ?_
            refine g_iald (k := ((9 + (3 * k)) + i)) hx hb hK hB hP.ltp hP.ckp (by omega) (Nat.lt_of_lt_of_eq (by omega : ((9 + (3 * k)) + i) < 50) (Eq.symm hP.cnp)) hP.bgp dX6_streamOf_50 ?_
            have hr_15 := hR P ((9 + (3 * k)) + i)
            refine lv_goto (tgt := 56) hx hb dX6_streamOf_51 (by decide) ?_
            exact g_iret hx hb hr hlk hB dX6_streamOf_56 ⟨by omega, by omega⟩ (⟨by omega, rfl, rfl⟩)
set_option maxHeartbeats 4000000 in
set_option maxRecDepth 100000 in
theorem mX6_root (l : Launch) (θ : gT) (hθ : gOK θ) (σ : gS) (z : gZ) (u : Nat → Nat) (hu : mU σ u) (ho : uOK u) (s0 : Nat) (hs : s0 < 8) : GI l θ yX6_root cX6_root 3 (some .int) 0 0 [.ref (tad θ 111), .int (iZ ((s0 : Nat) : Int))] σ z (fun q σ' z' => (q = ((rt u s0 : Nat) : Int)) ∧ σ' = σ ∧ z' = z) := by
  refine g_enter (ret := (some .int)) (by decide +kernel) (Nat.le_of_ble_eq_true rfl) ?_
  intro p e s m args below meth c ls F hB hl
  obtain ⟨hx, hb, hr, hml, hown, hts, hlk, hK, hst⟩ := F
  have hR := hB.1.2
  have hl : lv_has ls 3 [(0, .ref (tad θ 111)), (1, .int (iZ ((s0 : Nat) : Int)))] := hl
  refine lv_iload_n hx hb dX6_root_0 rfl (lv_at hl 1 rfl) ?_
  refine lv_istore_n (lv' := [(2, .int (iZ ((s0 : Nat) : Int))), (0, .ref (tad θ 111)), (1, .int (iZ ((s0 : Nat) : Int)))]) hx hb dX6_root_1 rfl hl (by decide) rfl (fun ls hl => ?_)
  have loop_3 : ∀ (n_1 : Nat) (r : Nat) (j : Nat) (H : Heap) (locs : List Loc) (ls : Array Slot), 8 - j < n_1 → (r < 8) → (r = itr u j s0) → (j ≤ 8) →  gB θ σ z s.heap H locs → lv_has ls 3 [(2, .int (iZ ((r : Nat) : Int))), (0, .ref (tad θ 111)), (1, .int (iZ ((s0 : Nat) : Int)))] → W p l e (gRm 0 0) s m args below meth c H locs 0 0 (MQ below (gQi θ (fun q σ' z' => (q = ((rt u s0 : Nat) : Int)) ∧ σ' = σ ∧ z' = z)) args s 0 0 (tA θ)) (F0 m 2 ls []) := by
    intro n_1
    induction n_1 with
    | zero => intro r j H locs ls hmu; exact absurd hmu (Nat.not_lt_zero _)
    | succ n_1 ih_2 =>
      intro r j H locs ls hmu hr8 hj hj8 hB hl
      have hR := hB.1.2
      have hu8 := (hu r hr8).2
      refine lv_aload_n hx hb dX6_root_2 rfl (lv_at hl 1 rfl) ?_
      refine g_getr (k := 17) (j := 123) hx hb hts hown hK hθ hB cf6 (by decide) rfl (by decide) kw_666 rfl rfl dX6_root_3 ?_
      refine lv_iload_n hx hb dX6_root_6 rfl (lv_at hl 0 rfl) ?_
      refine g_iald (k := r) hx hb hK hB (by decide) rfl (by omega) (Nat.lt_of_lt_of_eq (by omega : r < 8) (Eq.symm rfl)) (by decide) dX6_root_7 ?_
      refine z_top (b := (((u r) : Nat) : Int)) ((hu r hr8).1) ?_
      refine lv_iload_n hx hb dX6_root_8 rfl (lv_at hl 0 rfl) ?_
      refine z_icmp_eq (tgt := 22) hx hb dX6_root_9 (by decide) ⟨by omega, by omega⟩ ⟨by omega, by omega⟩ (fun c_4 => ?_) (fun c_4 => ?_)
      · have hfx : u (itr u j s0) = itr u j s0 := by rw [← hj]; omega
        have hrt : rt u s0 = r := by rw [rt_of hj8 hfx, hj]
        refine lv_iload_n hx hb dX6_root_22 rfl (lv_at hl 0 rfl) ?_
        exact g_iret hx hb hr hlk hB dX6_root_23 ⟨by omega, by omega⟩ (⟨by omega, rfl, rfl⟩)
      · have hlt : j < 8 := by
          rcases Nat.lt_or_ge j 8 with h | h
          · exact h
          · have e8 : j = 8 := by omega
            subst e8
            have := (ho s0 hs).2
            rw [← hj] at this
            omega
        refine lv_aload_n hx hb dX6_root_12 rfl (lv_at hl 1 rfl) ?_
        refine g_getr (k := 17) (j := 123) hx hb hts hown hK hθ hB cf6 (by decide) rfl (by decide) kw_666 rfl rfl dX6_root_13 ?_
        refine lv_iload_n hx hb dX6_root_16 rfl (lv_at hl 0 rfl) ?_
        refine g_iald (k := r) hx hb hK hB (by decide) rfl (by omega) (Nat.lt_of_lt_of_eq (by omega : r < 8) (Eq.symm rfl)) (by decide) dX6_root_17 ?_
        refine z_top (b := (((u r) : Nat) : Int)) ((hu r hr8).1) ?_
        refine lv_istore_n (lv' := [(2, .int (iZ (((u r) : Nat) : Int))), (0, .ref (tad θ 111)), (1, .int (iZ ((s0 : Nat) : Int)))]) hx hb dX6_root_18 rfl hl (by decide) rfl (fun ls hl => ?_)
        refine lv_goto (tgt := 2) hx hb dX6_root_19 (by decide) ?_
        exact ih_2 (u r) (j + 1) _ _ _ (by omega) hu8 (by rw [hj]; rfl) (by omega) hB (lv_sub hl [0, 1, 2] rfl)
  exact loop_3 _ s0 0 _ _ _ (Nat.lt_succ_self _) hs rfl (by omega) hB (lv_sub hl [0, 1, 2] rfl)
end
