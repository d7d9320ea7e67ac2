section
-- ===== PART A: goes FIRST, ahead of the names: the tables' words, and 'selects' of the private methods out of them =====
/-- a private method of a class that the tables say can be made, by its rows of tables_1 -/
def lw_okq (q : MethodName × Nat) : Prop := (q.1.cls ≠ "java/lang/invoke/MethodHandle" ∧ q.1.cls ≠ "java/lang/invoke/VarHandle") ∧ Cond.instantiable q.1.cls q.2 ∈ tables_1 ∧ Cond.privateMethod q.1 ∈ tables_1 ∧ Cond.instanceMethod q.1 ∈ tables_1
theorem lw_p0 : lw_okq (⟨"BestSplits", "noteChange", "()V"⟩, 9) := ⟨⟨by decide +kernel, by decide +kernel⟩, List.mem_of_getElem? (i := 15) (by decide +kernel), List.mem_of_getElem? (i := 300) (by decide +kernel), List.mem_of_getElem? (i := 301) (by decide +kernel)⟩
theorem lw_p1 : lw_okq (⟨"BestSplits", "ask", "(IIII)V"⟩, 9) := ⟨⟨by decide +kernel, by decide +kernel⟩, List.mem_of_getElem? (i := 15) (by decide +kernel), List.mem_of_getElem? (i := 313) (by decide +kernel), List.mem_of_getElem? (i := 314) (by decide +kernel)⟩
theorem lw_p2 : lw_okq (⟨"BestSplits$Table", "enterKnown", "(III)V"⟩, 7) := ⟨⟨by decide +kernel, by decide +kernel⟩, List.mem_of_getElem? (i := 23) (by decide +kernel), List.mem_of_getElem? (i := 329) (by decide +kernel), List.mem_of_getElem? (i := 330) (by decide +kernel)⟩
theorem lw_p3 : lw_okq (⟨"BestSplits$Table", "isLeftOf", "(III)Z"⟩, 7) := ⟨⟨by decide +kernel, by decide +kernel⟩, List.mem_of_getElem? (i := 23) (by decide +kernel), List.mem_of_getElem? (i := 337) (by decide +kernel), List.mem_of_getElem? (i := 338) (by decide +kernel)⟩
theorem lw_p4 : lw_okq (⟨"BestSplits", "growIfChanged", "()V"⟩, 9) := ⟨⟨by decide +kernel, by decide +kernel⟩, List.mem_of_getElem? (i := 15) (by decide +kernel), List.mem_of_getElem? (i := 357) (by decide +kernel), List.mem_of_getElem? (i := 358) (by decide +kernel)⟩
theorem lw_p5 : lw_okq (⟨"BestSplits$Tree", "begin", "(LBestSplits$Node;II)V"⟩, 6) := ⟨⟨by decide +kernel, by decide +kernel⟩, List.mem_of_getElem? (i := 144) (by decide +kernel), List.mem_of_getElem? (i := 369) (by decide +kernel), List.mem_of_getElem? (i := 370) (by decide +kernel)⟩
theorem lw_p6 : lw_okq (⟨"BestSplits$Tree", "partIfDue", "(LBestSplits$Node;)V"⟩, 6) := ⟨⟨by decide +kernel, by decide +kernel⟩, List.mem_of_getElem? (i := 144) (by decide +kernel), List.mem_of_getElem? (i := 389) (by decide +kernel), List.mem_of_getElem? (i := 390) (by decide +kernel)⟩
theorem lw_p7 : lw_okq (⟨"BestSplits$Table", "isGrouping", "(III)Z"⟩, 7) := ⟨⟨by decide +kernel, by decide +kernel⟩, List.mem_of_getElem? (i := 23) (by decide +kernel), List.mem_of_getElem? (i := 401) (by decide +kernel), List.mem_of_getElem? (i := 402) (by decide +kernel)⟩
theorem lw_p8 : lw_okq (⟨"BestSplits$Table", "isStep", "(III)Z"⟩, 7) := ⟨⟨by decide +kernel, by decide +kernel⟩, List.mem_of_getElem? (i := 23) (by decide +kernel), List.mem_of_getElem? (i := 405) (by decide +kernel), List.mem_of_getElem? (i := 406) (by decide +kernel)⟩
theorem lw_p9 : lw_okq (⟨"BestSplits$Survey", "keepIfBetter", "(Z)V"⟩, 4) := ⟨⟨by decide +kernel, by decide +kernel⟩, List.mem_of_getElem? (i := 79) (by decide +kernel), List.mem_of_getElem? (i := 434) (by decide +kernel), List.mem_of_getElem? (i := 435) (by decide +kernel)⟩
theorem lw_p10 : lw_okq (⟨"BestSplits$Pruning", "recordStage", "(I)Z"⟩, 6) := ⟨⟨by decide +kernel, by decide +kernel⟩, List.mem_of_getElem? (i := 233) (by decide +kernel), List.mem_of_getElem? (i := 477) (by decide +kernel), List.mem_of_getElem? (i := 478) (by decide +kernel)⟩
theorem lw_p11 : lw_okq (⟨"BestSplits$Pruning", "findAlpha", "(ILBestSplits$Fraction;)V"⟩, 6) := ⟨⟨by decide +kernel, by decide +kernel⟩, List.mem_of_getElem? (i := 233) (by decide +kernel), List.mem_of_getElem? (i := 489) (by decide +kernel), List.mem_of_getElem? (i := 490) (by decide +kernel)⟩
theorem lw_p12 : lw_okq (⟨"BestSplits$Pruning", "weigh", "(LBestSplits$Node;)V"⟩, 6) := ⟨⟨by decide +kernel, by decide +kernel⟩, List.mem_of_getElem? (i := 233) (by decide +kernel), List.mem_of_getElem? (i := 493) (by decide +kernel), List.mem_of_getElem? (i := 494) (by decide +kernel)⟩
theorem lw_p13 : lw_okq (⟨"BestSplits$Pruning", "cutBack", "(ILBestSplits$Fraction;)V"⟩, 6) := ⟨⟨by decide +kernel, by decide +kernel⟩, List.mem_of_getElem? (i := 233) (by decide +kernel), List.mem_of_getElem? (i := 500) (by decide +kernel), List.mem_of_getElem? (i := 501) (by decide +kernel)⟩
theorem lw_p14 : lw_okq (⟨"BestSplits$Fraction", "greatestCommonDivisor", "()I"⟩, 2) := ⟨⟨by decide +kernel, by decide +kernel⟩, List.mem_of_getElem? (i := 91) (by decide +kernel), List.mem_of_getElem? (i := 542) (by decide +kernel), List.mem_of_getElem? (i := 543) (by decide +kernel)⟩
theorem lw_p15 : lw_okq (⟨"BestSplits", "isMistakenByOthers", "(I)Z"⟩, 9) := ⟨⟨by decide +kernel, by decide +kernel⟩, List.mem_of_getElem? (i := 15) (by decide +kernel), List.mem_of_getElem? (i := 606) (by decide +kernel), List.mem_of_getElem? (i := 607) (by decide +kernel)⟩
def lw_privs_1 : List (MethodName × Nat) := [(⟨"BestSplits", "noteChange", "()V"⟩, 9), (⟨"BestSplits", "ask", "(IIII)V"⟩, 9), (⟨"BestSplits$Table", "enterKnown", "(III)V"⟩, 7), (⟨"BestSplits$Table", "isLeftOf", "(III)Z"⟩, 7), (⟨"BestSplits", "growIfChanged", "()V"⟩, 9), (⟨"BestSplits$Tree", "begin", "(LBestSplits$Node;II)V"⟩, 6), (⟨"BestSplits$Tree", "partIfDue", "(LBestSplits$Node;)V"⟩, 6), (⟨"BestSplits$Table", "isGrouping", "(III)Z"⟩, 7), (⟨"BestSplits$Table", "isStep", "(III)Z"⟩, 7), (⟨"BestSplits$Survey", "keepIfBetter", "(Z)V"⟩, 4), (⟨"BestSplits$Pruning", "recordStage", "(I)Z"⟩, 6), (⟨"BestSplits$Pruning", "findAlpha", "(ILBestSplits$Fraction;)V"⟩, 6), (⟨"BestSplits$Pruning", "weigh", "(LBestSplits$Node;)V"⟩, 6), (⟨"BestSplits$Pruning", "cutBack", "(ILBestSplits$Fraction;)V"⟩, 6), (⟨"BestSplits$Fraction", "greatestCommonDivisor", "()I"⟩, 2), (⟨"BestSplits", "isMistakenByOthers", "(I)Z"⟩, 9)]
theorem lw_r1 : ∀ q ∈ lw_privs_1, lw_okq q := List.forall_mem_cons.mpr ⟨lw_p0, List.forall_mem_cons.mpr ⟨lw_p1, List.forall_mem_cons.mpr ⟨lw_p2, List.forall_mem_cons.mpr ⟨lw_p3, List.forall_mem_cons.mpr ⟨lw_p4, List.forall_mem_cons.mpr ⟨lw_p5, List.forall_mem_cons.mpr ⟨lw_p6, List.forall_mem_cons.mpr ⟨lw_p7, List.forall_mem_cons.mpr ⟨lw_p8, List.forall_mem_cons.mpr ⟨lw_p9, List.forall_mem_cons.mpr ⟨lw_p10, List.forall_mem_cons.mpr ⟨lw_p11, List.forall_mem_cons.mpr ⟨lw_p12, List.forall_mem_cons.mpr ⟨lw_p13, List.forall_mem_cons.mpr ⟨lw_p14, List.forall_mem_cons.mpr ⟨lw_p15, fun _ h => absurd h List.not_mem_nil⟩⟩⟩⟩⟩⟩⟩⟩⟩⟩⟩⟩⟩⟩⟩⟩
theorem lw_p16 : lw_okq (⟨"BestSplitsModel", "isValue", "(II)Z"⟩, 33) := ⟨⟨by decide +kernel, by decide +kernel⟩, List.mem_of_getElem? (i := 610) (by decide +kernel), List.mem_of_getElem? (i := 725) (by decide +kernel), List.mem_of_getElem? (i := 726) (by decide +kernel)⟩
theorem lw_p17 : lw_okq (⟨"BestSplitsModel", "build", "()V"⟩, 33) := ⟨⟨by decide +kernel, by decide +kernel⟩, List.mem_of_getElem? (i := 610) (by decide +kernel), List.mem_of_getElem? (i := 741) (by decide +kernel), List.mem_of_getElem? (i := 742) (by decide +kernel)⟩
theorem lw_p18 : lw_okq (⟨"BestSplitsModel", "grow", "(I)V"⟩, 33) := ⟨⟨by decide +kernel, by decide +kernel⟩, List.mem_of_getElem? (i := 610) (by decide +kernel), List.mem_of_getElem? (i := 745) (by decide +kernel), List.mem_of_getElem? (i := 746) (by decide +kernel)⟩
theorem lw_p19 : lw_okq (⟨"BestSplitsModel", "add", "(II)V"⟩, 33) := ⟨⟨by decide +kernel, by decide +kernel⟩, List.mem_of_getElem? (i := 610) (by decide +kernel), List.mem_of_getElem? (i := 749) (by decide +kernel), List.mem_of_getElem? (i := 750) (by decide +kernel)⟩
theorem lw_p20 : lw_okq (⟨"BestSplitsModel", "isMixed", "(I)Z"⟩, 33) := ⟨⟨by decide +kernel, by decide +kernel⟩, List.mem_of_getElem? (i := 610) (by decide +kernel), List.mem_of_getElem? (i := 753) (by decide +kernel), List.mem_of_getElem? (i := 754) (by decide +kernel)⟩
theorem lw_p21 : lw_okq (⟨"BestSplitsModel", "wrongOf", "(I)I"⟩, 33) := ⟨⟨by decide +kernel, by decide +kernel⟩, List.mem_of_getElem? (i := 610) (by decide +kernel), List.mem_of_getElem? (i := 757) (by decide +kernel), List.mem_of_getElem? (i := 758) (by decide +kernel)⟩
theorem lw_p22 : lw_okq (⟨"BestSplitsModel", "many", "(I)I"⟩, 33) := ⟨⟨by decide +kernel, by decide +kernel⟩, List.mem_of_getElem? (i := 610) (by decide +kernel), List.mem_of_getElem? (i := 761) (by decide +kernel), List.mem_of_getElem? (i := 762) (by decide +kernel)⟩
theorem lw_p23 : lw_okq (⟨"BestSplitsModel", "labelOf", "(I)I"⟩, 33) := ⟨⟨by decide +kernel, by decide +kernel⟩, List.mem_of_getElem? (i := 610) (by decide +kernel), List.mem_of_getElem? (i := 765) (by decide +kernel), List.mem_of_getElem? (i := 766) (by decide +kernel)⟩
theorem lw_p24 : lw_okq (⟨"BestSplitsModel", "of", "(II)I"⟩, 33) := ⟨⟨by decide +kernel, by decide +kernel⟩, List.mem_of_getElem? (i := 610) (by decide +kernel), List.mem_of_getElem? (i := 769) (by decide +kernel), List.mem_of_getElem? (i := 770) (by decide +kernel)⟩
theorem lw_p25 : lw_okq (⟨"BestSplitsModel", "findBest", "(I)Z"⟩, 33) := ⟨⟨by decide +kernel, by decide +kernel⟩, List.mem_of_getElem? (i := 610) (by decide +kernel), List.mem_of_getElem? (i := 773) (by decide +kernel), List.mem_of_getElem? (i := 774) (by decide +kernel)⟩
theorem lw_p26 : lw_okq (⟨"BestSplitsModel", "may", "(IIII)Z"⟩, 33) := ⟨⟨by decide +kernel, by decide +kernel⟩, List.mem_of_getElem? (i := 610) (by decide +kernel), List.mem_of_getElem? (i := 777) (by decide +kernel), List.mem_of_getElem? (i := 778) (by decide +kernel)⟩
theorem lw_p27 : lw_okq (⟨"BestSplitsModel", "isCut", "(IIII)Z"⟩, 33) := ⟨⟨by decide +kernel, by decide +kernel⟩, List.mem_of_getElem? (i := 610) (by decide +kernel), List.mem_of_getElem? (i := 781) (by decide +kernel), List.mem_of_getElem? (i := 782) (by decide +kernel)⟩
theorem lw_p28 : lw_okq (⟨"BestSplitsModel", "hasValue", "(III)Z"⟩, 33) := ⟨⟨by decide +kernel, by decide +kernel⟩, List.mem_of_getElem? (i := 610) (by decide +kernel), List.mem_of_getElem? (i := 785) (by decide +kernel), List.mem_of_getElem? (i := 786) (by decide +kernel)⟩
theorem lw_p29 : lw_okq (⟨"BestSplitsModel", "greatest", "(II)I"⟩, 33) := ⟨⟨by decide +kernel, by decide +kernel⟩, List.mem_of_getElem? (i := 610) (by decide +kernel), List.mem_of_getElem? (i := 789) (by decide +kernel), List.mem_of_getElem? (i := 790) (by decide +kernel)⟩
theorem lw_p30 : lw_okq (⟨"BestSplitsModel", "kindsOf", "(II)I"⟩, 33) := ⟨⟨by decide +kernel, by decide +kernel⟩, List.mem_of_getElem? (i := 610) (by decide +kernel), List.mem_of_getElem? (i := 793) (by decide +kernel), List.mem_of_getElem? (i := 794) (by decide +kernel)⟩
theorem lw_p31 : lw_okq (⟨"BestSplitsModel", "leftOf", "(IIII)I"⟩, 33) := ⟨⟨by decide +kernel, by decide +kernel⟩, List.mem_of_getElem? (i := 610) (by decide +kernel), List.mem_of_getElem? (i := 797) (by decide +kernel), List.mem_of_getElem? (i := 798) (by decide +kernel)⟩
def lw_privs_2 : List (MethodName × Nat) := [(⟨"BestSplitsModel", "isValue", "(II)Z"⟩, 33), (⟨"BestSplitsModel", "build", "()V"⟩, 33), (⟨"BestSplitsModel", "grow", "(I)V"⟩, 33), (⟨"BestSplitsModel", "add", "(II)V"⟩, 33), (⟨"BestSplitsModel", "isMixed", "(I)Z"⟩, 33), (⟨"BestSplitsModel", "wrongOf", "(I)I"⟩, 33), (⟨"BestSplitsModel", "many", "(I)I"⟩, 33), (⟨"BestSplitsModel", "labelOf", "(I)I"⟩, 33), (⟨"BestSplitsModel", "of", "(II)I"⟩, 33), (⟨"BestSplitsModel", "findBest", "(I)Z"⟩, 33), (⟨"BestSplitsModel", "may", "(IIII)Z"⟩, 33), (⟨"BestSplitsModel", "isCut", "(IIII)Z"⟩, 33), (⟨"BestSplitsModel", "hasValue", "(III)Z"⟩, 33), (⟨"BestSplitsModel", "greatest", "(II)I"⟩, 33), (⟨"BestSplitsModel", "kindsOf", "(II)I"⟩, 33), (⟨"BestSplitsModel", "leftOf", "(IIII)I"⟩, 33)]
theorem lw_r2 : ∀ q ∈ lw_privs_2, lw_okq q := List.forall_mem_cons.mpr ⟨lw_p16, List.forall_mem_cons.mpr ⟨lw_p17, List.forall_mem_cons.mpr ⟨lw_p18, List.forall_mem_cons.mpr ⟨lw_p19, List.forall_mem_cons.mpr ⟨lw_p20, List.forall_mem_cons.mpr ⟨lw_p21, List.forall_mem_cons.mpr ⟨lw_p22, List.forall_mem_cons.mpr ⟨lw_p23, List.forall_mem_cons.mpr ⟨lw_p24, List.forall_mem_cons.mpr ⟨lw_p25, List.forall_mem_cons.mpr ⟨lw_p26, List.forall_mem_cons.mpr ⟨lw_p27, List.forall_mem_cons.mpr ⟨lw_p28, List.forall_mem_cons.mpr ⟨lw_p29, List.forall_mem_cons.mpr ⟨lw_p30, List.forall_mem_cons.mpr ⟨lw_p31, fun _ h => absurd h List.not_mem_nil⟩⟩⟩⟩⟩⟩⟩⟩⟩⟩⟩⟩⟩⟩⟩⟩
theorem lw_p32 : lw_okq (⟨"BestSplitsModel", "goesLeft", "(IIII)Z"⟩, 33) := ⟨⟨by decide +kernel, by decide +kernel⟩, List.mem_of_getElem? (i := 610) (by decide +kernel), List.mem_of_getElem? (i := 801) (by decide +kernel), List.mem_of_getElem? (i := 802) (by decide +kernel)⟩
theorem lw_p33 : lw_okq (⟨"BestSplitsModel", "isLeft", "(IIII)Z"⟩, 33) := ⟨⟨by decide +kernel, by decide +kernel⟩, List.mem_of_getElem? (i := 610) (by decide +kernel), List.mem_of_getElem? (i := 805) (by decide +kernel), List.mem_of_getElem? (i := 806) (by decide +kernel)⟩
theorem lw_p34 : lw_okq (⟨"BestSplitsModel", "squares", "(I)J"⟩, 33) := ⟨⟨by decide +kernel, by decide +kernel⟩, List.mem_of_getElem? (i := 610) (by decide +kernel), List.mem_of_getElem? (i := 809) (by decide +kernel), List.mem_of_getElem? (i := 810) (by decide +kernel)⟩
theorem lw_p35 : lw_okq (⟨"BestSplitsModel", "findStages", "()V"⟩, 33) := ⟨⟨by decide +kernel, by decide +kernel⟩, List.mem_of_getElem? (i := 610) (by decide +kernel), List.mem_of_getElem? (i := 814) (by decide +kernel), List.mem_of_getElem? (i := 815) (by decide +kernel)⟩
theorem lw_p36 : lw_okq (⟨"BestSplitsModel", "nextStage", "()V"⟩, 33) := ⟨⟨by decide +kernel, by decide +kernel⟩, List.mem_of_getElem? (i := 610) (by decide +kernel), List.mem_of_getElem? (i := 818) (by decide +kernel), List.mem_of_getElem? (i := 819) (by decide +kernel)⟩
theorem lw_p37 : lw_okq (⟨"BestSplitsModel", "look", "(II)V"⟩, 33) := ⟨⟨by decide +kernel, by decide +kernel⟩, List.mem_of_getElem? (i := 610) (by decide +kernel), List.mem_of_getElem? (i := 823) (by decide +kernel), List.mem_of_getElem? (i := 824) (by decide +kernel)⟩
theorem lw_p38 : lw_okq (⟨"BestSplitsModel", "isNode", "(I)Z"⟩, 33) := ⟨⟨by decide +kernel, by decide +kernel⟩, List.mem_of_getElem? (i := 610) (by decide +kernel), List.mem_of_getElem? (i := 831) (by decide +kernel), List.mem_of_getElem? (i := 832) (by decide +kernel)⟩
theorem lw_p39 : lw_okq (⟨"BestSplitsModel", "comesTo", "()I"⟩, 33) := ⟨⟨by decide +kernel, by decide +kernel⟩, List.mem_of_getElem? (i := 610) (by decide +kernel), List.mem_of_getElem? (i := 853) (by decide +kernel), List.mem_of_getElem? (i := 854) (by decide +kernel)⟩
theorem lw_p40 : lw_okq (⟨"BestSplitsModel", "leafFor", "(I)I"⟩, 33) := ⟨⟨by decide +kernel, by decide +kernel⟩, List.mem_of_getElem? (i := 610) (by decide +kernel), List.mem_of_getElem? (i := 861) (by decide +kernel), List.mem_of_getElem? (i := 862) (by decide +kernel)⟩
theorem lw_p41 : lw_okq (⟨"BestSplitsModel", "isStage", "(I)Z"⟩, 33) := ⟨⟨by decide +kernel, by decide +kernel⟩, List.mem_of_getElem? (i := 610) (by decide +kernel), List.mem_of_getElem? (i := 881) (by decide +kernel), List.mem_of_getElem? (i := 882) (by decide +kernel)⟩
def lw_privs_3 : List (MethodName × Nat) := [(⟨"BestSplitsModel", "goesLeft", "(IIII)Z"⟩, 33), (⟨"BestSplitsModel", "isLeft", "(IIII)Z"⟩, 33), (⟨"BestSplitsModel", "squares", "(I)J"⟩, 33), (⟨"BestSplitsModel", "findStages", "()V"⟩, 33), (⟨"BestSplitsModel", "nextStage", "()V"⟩, 33), (⟨"BestSplitsModel", "look", "(II)V"⟩, 33), (⟨"BestSplitsModel", "isNode", "(I)Z"⟩, 33), (⟨"BestSplitsModel", "comesTo", "()I"⟩, 33), (⟨"BestSplitsModel", "leafFor", "(I)I"⟩, 33), (⟨"BestSplitsModel", "isStage", "(I)Z"⟩, 33)]
theorem lw_r3 : ∀ q ∈ lw_privs_3, lw_okq q := List.forall_mem_cons.mpr ⟨lw_p32, List.forall_mem_cons.mpr ⟨lw_p33, List.forall_mem_cons.mpr ⟨lw_p34, List.forall_mem_cons.mpr ⟨lw_p35, List.forall_mem_cons.mpr ⟨lw_p36, List.forall_mem_cons.mpr ⟨lw_p37, List.forall_mem_cons.mpr ⟨lw_p38, List.forall_mem_cons.mpr ⟨lw_p39, List.forall_mem_cons.mpr ⟨lw_p40, List.forall_mem_cons.mpr ⟨lw_p41, fun _ h => absurd h List.not_mem_nil⟩⟩⟩⟩⟩⟩⟩⟩⟩⟩
def lw_privs : List (MethodName × Nat) := lw_privs_1 ++ (lw_privs_2 ++ (lw_privs_3))
def lw_tbl : List Cond := k2_sels lw_privs ++ tables_1
theorem lw_privs_ok : ∀ q ∈ lw_privs, lw_okq q := by
  show ∀ q ∈ lw_privs_1 ++ (lw_privs_2 ++ (lw_privs_3)), lw_okq q
  exact List.forall_mem_append.mpr ⟨lw_r1, List.forall_mem_append.mpr ⟨lw_r2, lw_r3⟩⟩
end
section
/-! NAMES, by program: classes, fields, code -/
def zT : List Cond := lw_tbl.filter goodWord
theorem mT {w : Cond} (i : Nat) (h : lw_tbl[i]? = some w) (hg : goodWord w = true) : w ∈ zT := List.mem_filter.mpr ⟨List.mem_of_getElem? h, hg⟩
theorem mem_ps {ws : List Cond} (ps : List Nat) (hp : ws = ps.filterMap (fun i => lw_tbl[i]?)) (hg : ws.all goodWord = true) : ∀ w ∈ ws, w ∈ zT := fun w hw => by
  have h1 := List.all_eq_true.mp hg w hw
  rw [hp] at hw
  obtain ⟨i, -, hi⟩ := List.mem_filterMap.mp hw
  exact mT i hi h1
def R_Cut : String := "BestSplits$Cut"
def R_Fra : String := "BestSplits$Fraction"
def R_Lim : String := "BestSplits$Limits"
def R_Nod : String := "BestSplits$Node"
def R_Pru : String := "BestSplits$Pruning"
def R_Sur : String := "BestSplits$Survey"
def R_Tab : String := "BestSplits$Table"
def R_Tre : String := "BestSplits$Tree"
def R_Bs : String := "BestSplits"
def R_Mo : String := "BestSplitsModel"
def R_Int : String := "java/lang/Integer"
def R_Lon : String := "java/lang/Long"
def R_Mat : String := "java/lang/Math"
def R_Law : String := "BestSplitsLaw"
def T_Cut : u_T := fun k => match k with
  | 0 => ("BestSplits$Cut", "gain", "LBestSplits$Fraction;", true)
  | 1 => ("BestSplits$Cut", "column", "I", false)
  | 2 => ("BestSplits$Cut", "number", "I", false)
  | _ => ("BestSplits$Cut", "side", "I", false)
def ty_Cut : Nat → FieldType := fun k => match k with
  | 0 => .object "BestSplits$Fraction"
  | 1 => .int
  | 2 => .int
  | _ => .int
theorem nm_Cut : ∀ a, a < 4 → ∀ b, b < 4 → a ≠ b → (T_Cut a).2.1 ≠ (T_Cut b).2.1 := by decide +kernel
theorem tyok_Cut : ∀ k, k < 4 → parseFieldDescriptor (T_Cut k).2.2.1 = some (ty_Cut k) := by decide +kernel
theorem in_Cut : ∀ w ∈ u_ws R_Cut T_Cut 4, w ∈ zT := mem_ps [161, 163, 165, 167] (by decide +kernel) (by decide +kernel)
def T_Fra : u_T := fun k => match k with
  | 0 => ("BestSplits$Fraction", "above", "I", false)
  | _ => ("BestSplits$Fraction", "below", "I", false)
def ty_Fra : Nat → FieldType := fun k => match k with
  | 0 => .int
  | _ => .int
theorem nm_Fra : ∀ a, a < 2 → ∀ b, b < 2 → a ≠ b → (T_Fra a).2.1 ≠ (T_Fra b).2.1 := by decide +kernel
theorem tyok_Fra : ∀ k, k < 2 → parseFieldDescriptor (T_Fra k).2.2.1 = some (ty_Fra k) := by decide +kernel
theorem in_Fra : ∀ w ∈ u_ws R_Fra T_Fra 2, w ∈ zT := mem_ps [140, 142] (by decide +kernel) (by decide +kernel)
def T_Lim : u_T := fun k => match k with
  | 0 => ("BestSplits$Limits", "depth", "I", false)
  | 1 => ("BestSplits$Limits", "least", "I", false)
  | _ => ("BestSplits$Limits", "worth", "I", false)
def ty_Lim : Nat → FieldType := fun k => match k with
  | 0 => .int
  | 1 => .int
  | _ => .int
theorem nm_Lim : ∀ a, a < 3 → ∀ b, b < 3 → a ≠ b → (T_Lim a).2.1 ≠ (T_Lim b).2.1 := by decide +kernel
theorem tyok_Lim : ∀ k, k < 3 → parseFieldDescriptor (T_Lim k).2.2.1 = some (ty_Lim k) := by decide +kernel
theorem in_Lim : ∀ w ∈ u_ws R_Lim T_Lim 3, w ∈ zT := mem_ps [113, 115, 117] (by decide +kernel) (by decide +kernel)
def T_Nod : u_T := fun k => match k with
  | 0 => ("BestSplits$Node", "number", "I", true)
  | 1 => ("BestSplits$Node", "cut", "LBestSplits$Cut;", true)
  | 2 => ("BestSplits$Node", "rows", "I", false)
  | 3 => ("BestSplits$Node", "depth", "I", false)
  | 4 => ("BestSplits$Node", "label", "I", false)
  | 5 => ("BestSplits$Node", "wrongRows", "I", false)
  | 6 => ("BestSplits$Node", "left", "LBestSplits$Node;", false)
  | 7 => ("BestSplits$Node", "right", "LBestSplits$Node;", false)
  | 8 => ("BestSplits$Node", "leafFrom", "I", false)
  | 9 => ("BestSplits$Node", "goneFrom", "I", false)
  | 10 => ("BestSplits$Node", "leavesBelow", "I", false)
  | _ => ("BestSplits$Node", "wrongBelow", "I", false)
def ty_Nod : Nat → FieldType := fun k => match k with
  | 0 => .int
  | 1 => .object "BestSplits$Cut"
  | 2 => .int
  | 3 => .int
  | 4 => .int
  | 5 => .int
  | 6 => .object "BestSplits$Node"
  | 7 => .object "BestSplits$Node"
  | 8 => .int
  | 9 => .int
  | 10 => .int
  | _ => .int
theorem nm_Nod : ∀ a, a < 12 → ∀ b, b < 12 → a ≠ b → (T_Nod a).2.1 ≠ (T_Nod b).2.1 := by decide +kernel
theorem tyok_Nod : ∀ k, k < 12 → parseFieldDescriptor (T_Nod k).2.2.1 = some (ty_Nod k) := by decide +kernel
theorem in_Nod : ∀ w ∈ u_ws R_Nod T_Nod 12, w ∈ zT := mem_ps [227, 229, 231, 233, 235, 237, 239, 241, 243, 245, 247, 249] (by decide +kernel) (by decide +kernel)
def T_Pru : u_T := fun k => match k with
  | 0 => ("BestSplits$Pruning", "size", "I", false)
  | 1 => ("BestSplits$Pruning", "alphas", "[LBestSplits$Fraction;", true)
  | 2 => ("BestSplits$Pruning", "leafCounts", "[I", true)
  | 3 => ("BestSplits$Pruning", "wrongSums", "[I", true)
  | 4 => ("BestSplits$Pruning", "tree", "LBestSplits$Tree;", true)
  | _ => ("BestSplits$Pruning", "ofNode", "LBestSplits$Fraction;", true)
def ty_Pru : Nat → FieldType := fun k => match k with
  | 0 => .int
  | 1 => .array (.object "BestSplits$Fraction")
  | 2 => .array .int
  | 3 => .array .int
  | 4 => .object "BestSplits$Tree"
  | _ => .object "BestSplits$Fraction"
theorem nm_Pru : ∀ a, a < 6 → ∀ b, b < 6 → a ≠ b → (T_Pru a).2.1 ≠ (T_Pru b).2.1 := by decide +kernel
theorem tyok_Pru : ∀ k, k < 6 → parseFieldDescriptor (T_Pru k).2.2.1 = some (ty_Pru k) := by decide +kernel
theorem in_Pru : ∀ w ∈ u_ws R_Pru T_Pru 6, w ∈ zT := mem_ps [293, 295, 297, 299, 301, 303] (by decide +kernel) (by decide +kernel)
def T_Sur : u_T := fun k => match k with
  | 0 => ("BestSplits$Survey", "tried", "LBestSplits$Cut;", true)
  | 1 => ("BestSplits$Survey", "best", "LBestSplits$Cut;", true)
  | 2 => ("BestSplits$Survey", "table", "LBestSplits$Table;", true)
  | _ => ("BestSplits$Survey", "limits", "LBestSplits$Limits;", true)
def ty_Sur : Nat → FieldType := fun k => match k with
  | 0 => .object "BestSplits$Cut"
  | 1 => .object "BestSplits$Cut"
  | 2 => .object "BestSplits$Table"
  | _ => .object "BestSplits$Limits"
theorem nm_Sur : ∀ a, a < 4 → ∀ b, b < 4 → a ≠ b → (T_Sur a).2.1 ≠ (T_Sur b).2.1 := by decide +kernel
theorem tyok_Sur : ∀ k, k < 4 → parseFieldDescriptor (T_Sur k).2.2.1 = some (ty_Sur k) := by decide +kernel
theorem in_Sur : ∀ w ∈ u_ws R_Sur T_Sur 4, w ∈ zT := mem_ps [176, 178, 180, 182] (by decide +kernel) (by decide +kernel)
def T_Tab : u_T := fun k => match k with
  | 0 => ("BestSplits$Table", "values", "[[I", true)
  | 1 => ("BestSplits$Table", "classes", "[I", true)
  | 2 => ("BestSplits$Table", "size", "I", false)
  | 3 => ("BestSplits$Table", "sorts", "[I", true)
  | 4 => ("BestSplits$Table", "rowsOfClass", "[I", true)
  | 5 => ("BestSplits$Table", "rowsKnown", "[I", true)
  | _ => ("BestSplits$Table", "rowsLeft", "[[I", true)
def ty_Tab : Nat → FieldType := fun k => match k with
  | 0 => .array (.array .int)
  | 1 => .array .int
  | 2 => .int
  | 3 => .array .int
  | 4 => .array .int
  | 5 => .array .int
  | _ => .array (.array .int)
theorem nm_Tab : ∀ a, a < 7 → ∀ b, b < 7 → a ≠ b → (T_Tab a).2.1 ≠ (T_Tab b).2.1 := by decide +kernel
theorem tyok_Tab : ∀ k, k < 7 → parseFieldDescriptor (T_Tab k).2.2.1 = some (ty_Tab k) := by decide +kernel
theorem in_Tab : ∀ w ∈ u_ws R_Tab T_Tab 7, w ∈ zT := mem_ps [82, 84, 86, 88, 90, 92, 94] (by decide +kernel) (by decide +kernel)
def T_Tre : u_T := fun k => match k with
  | 0 => ("BestSplits$Tree", "size", "I", false)
  | 1 => ("BestSplits$Tree", "table", "LBestSplits$Table;", true)
  | 2 => ("BestSplits$Tree", "limits", "LBestSplits$Limits;", true)
  | 3 => ("BestSplits$Tree", "survey", "LBestSplits$Survey;", true)
  | 4 => ("BestSplits$Tree", "all", "[LBestSplits$Node;", true)
  | _ => ("BestSplits$Tree", "root", "LBestSplits$Node;", true)
def ty_Tre : Nat → FieldType := fun k => match k with
  | 0 => .int
  | 1 => .object "BestSplits$Table"
  | 2 => .object "BestSplits$Limits"
  | 3 => .object "BestSplits$Survey"
  | 4 => .array (.object "BestSplits$Node")
  | _ => .object "BestSplits$Node"
theorem nm_Tre : ∀ a, a < 6 → ∀ b, b < 6 → a ≠ b → (T_Tre a).2.1 ≠ (T_Tre b).2.1 := by decide +kernel
theorem tyok_Tre : ∀ k, k < 6 → parseFieldDescriptor (T_Tre k).2.2.1 = some (ty_Tre k) := by decide +kernel
theorem in_Tre : ∀ w ∈ u_ws R_Tre T_Tre 6, w ∈ zT := mem_ps [261, 263, 265, 267, 269, 271] (by decide +kernel) (by decide +kernel)
def T_Bs : u_T := fun k => match k with
  | 0 => ("BestSplits", "table", "LBestSplits$Table;", true)
  | 1 => ("BestSplits", "limits", "LBestSplits$Limits;", true)
  | 2 => ("BestSplits", "survey", "LBestSplits$Survey;", true)
  | 3 => ("BestSplits", "tree", "LBestSplits$Tree;", true)
  | 4 => ("BestSplits", "treeOfOthers", "LBestSplits$Tree;", true)
  | 5 => ("BestSplits", "pruning", "LBestSplits$Pruning;", true)
  | 6 => ("BestSplits", "asked", "[I", true)
  | 7 => ("BestSplits", "changed", "Z", false)
  | _ => ("BestSplits", "leftOutCount", "I", false)
def ty_Bs : Nat → FieldType := fun k => match k with
  | 0 => .object "BestSplits$Table"
  | 1 => .object "BestSplits$Limits"
  | 2 => .object "BestSplits$Survey"
  | 3 => .object "BestSplits$Tree"
  | 4 => .object "BestSplits$Tree"
  | 5 => .object "BestSplits$Pruning"
  | 6 => .array .int
  | 7 => .boolean
  | _ => .int
theorem nm_Bs : ∀ a, a < 9 → ∀ b, b < 9 → a ≠ b → (T_Bs a).2.1 ≠ (T_Bs b).2.1 := by decide +kernel
theorem tyok_Bs : ∀ k, k < 9 → parseFieldDescriptor (T_Bs k).2.2.1 = some (ty_Bs k) := by decide +kernel
theorem in_Bs : ∀ w ∈ u_ws R_Bs T_Bs 9, w ∈ zT := mem_ps [315, 317, 319, 321, 323, 325, 327, 329, 331] (by decide +kernel) (by decide +kernel)
def T_Mo : u_T := fun k => match k with
  | 0 => ("BestSplitsModel", "sorts", "[I", true)
  | 1 => ("BestSplitsModel", "rows", "I", false)
  | 2 => ("BestSplitsModel", "values", "[I", true)
  | 3 => ("BestSplitsModel", "classes", "[I", true)
  | 4 => ("BestSplitsModel", "deepest", "I", false)
  | 5 => ("BestSplitsModel", "least", "I", false)
  | 6 => ("BestSplitsModel", "worth", "I", false)
  | 7 => ("BestSplitsModel", "built", "Z", false)
  | 8 => ("BestSplitsModel", "above", "J", false)
  | 9 => ("BestSplitsModel", "below", "J", false)
  | 10 => ("BestSplitsModel", "bestColumn", "I", false)
  | 11 => ("BestSplitsModel", "bestNumber", "I", false)
  | 12 => ("BestSplitsModel", "bestSide", "I", false)
  | 13 => ("BestSplitsModel", "bestAbove", "J", false)
  | 14 => ("BestSplitsModel", "bestBelow", "J", false)
  | 15 => ("BestSplitsModel", "nodes", "I", false)
  | 16 => ("BestSplitsModel", "rowsOf", "[I", true)
  | 17 => ("BestSplitsModel", "depthOf", "[I", true)
  | 18 => ("BestSplitsModel", "columnOf", "[I", true)
  | 19 => ("BestSplitsModel", "numberOf", "[I", true)
  | 20 => ("BestSplitsModel", "sideOf", "[I", true)
  | 21 => ("BestSplitsModel", "leftNode", "[I", true)
  | 22 => ("BestSplitsModel", "rightNode", "[I", true)
  | 23 => ("BestSplitsModel", "gainAbove", "[J", true)
  | 24 => ("BestSplitsModel", "gainBelow", "[J", true)
  | 25 => ("BestSplitsModel", "asked", "[I", true)
  | 26 => ("BestSplitsModel", "stages", "I", false)
  | 27 => ("BestSplitsModel", "state", "[I", true)
  | 28 => ("BestSplitsModel", "alphaAbove", "[J", true)
  | 29 => ("BestSplitsModel", "alphaBelow", "[J", true)
  | 30 => ("BestSplitsModel", "pile", "[I", true)
  | 31 => ("BestSplitsModel", "leavesBelow", "I", false)
  | _ => ("BestSplitsModel", "wrongBelow", "I", false)
def ty_Mo : Nat → FieldType := fun k => match k with
  | 0 => .array .int
  | 1 => .int
  | 2 => .array .int
  | 3 => .array .int
  | 4 => .int
  | 5 => .int
  | 6 => .int
  | 7 => .boolean
  | 8 => .long
  | 9 => .long
  | 10 => .int
  | 11 => .int
  | 12 => .int
  | 13 => .long
  | 14 => .long
  | 15 => .int
  | 16 => .array .int
  | 17 => .array .int
  | 18 => .array .int
  | 19 => .array .int
  | 20 => .array .int
  | 21 => .array .int
  | 22 => .array .int
  | 23 => .array .long
  | 24 => .array .long
  | 25 => .array .int
  | 26 => .int
  | 27 => .array .int
  | 28 => .array .long
  | 29 => .array .long
  | 30 => .array .int
  | 31 => .int
  | _ => .int
theorem nm_Mo : ∀ a, a < 33 → ∀ b, b < 33 → a ≠ b → (T_Mo a).2.1 ≠ (T_Mo b).2.1 := by decide +kernel
theorem tyok_Mo : ∀ k, k < 33 → parseFieldDescriptor (T_Mo k).2.2.1 = some (ty_Mo k) := by decide +kernel
theorem in_Mo : ∀ w ∈ u_ws R_Mo T_Mo 33, w ∈ zT := mem_ps [690, 692, 694, 696, 698, 700, 702, 704, 706, 708, 710, 712, 714, 716, 718, 720, 722, 724, 726, 728, 730, 732, 734, 736, 738, 740, 742, 744, 746, 748, 750, 752, 754] (by decide +kernel) (by decide +kernel)
abbrev zCl : List vw_C := [(R_Cut, T_Cut, 4), (R_Fra, T_Fra, 2), (R_Lim, T_Lim, 3), (R_Nod, T_Nod, 12), (R_Pru, T_Pru, 6), (R_Sur, T_Sur, 4), (R_Tab, T_Tab, 7), (R_Tre, T_Tre, 6), (R_Bs, T_Bs, 9), (R_Mo, T_Mo, 33)]
abbrev cCut : Nat := 0
abbrev cFra : Nat := 1
abbrev cLim : Nat := 2
abbrev cNod : Nat := 3
abbrev cPru : Nat := 4
abbrev cSur : Nat := 5
abbrev cTab : Nat := 6
abbrev cTre : Nat := 7
abbrev cBs : Nat := 8
abbrev cMo : Nat := 9
abbrev c_Bs_init : ByteArray := prog_1_method_1_code
def y_Bs_init : MethodName := ⟨R_Bs, "<init>", "()V"⟩
theorem k_Bs_init : Cond.code y_Bs_init c_Bs_init 1 none ∈ zT := (mT 60 (by decide +kernel) rfl)
abbrev c_Tab_init : ByteArray := prog_8_method_1_code
def y_Tab_init : MethodName := ⟨R_Tab, "<init>", "()V"⟩
theorem k_Tab_init : Cond.code y_Tab_init c_Tab_init 1 none ∈ zT := (mT 68 (by decide +kernel) rfl)
abbrev c_Lim_init : ByteArray := prog_4_method_1_code
def y_Lim_init : MethodName := ⟨R_Lim, "<init>", "()V"⟩
theorem k_Lim_init : Cond.code y_Lim_init c_Lim_init 1 none ∈ zT := (mT 102 (by decide +kernel) rfl)
abbrev c_Sur_init : ByteArray := prog_7_method_1_code
def y_Sur_init : MethodName := ⟨R_Sur, "<init>", "(LBestSplits$Table;LBestSplits$Limits;)V"⟩
theorem k_Sur_init : Cond.code y_Sur_init c_Sur_init 3 none ∈ zT := (mT 124 (by decide +kernel) rfl)
abbrev c_Cut_init : ByteArray := prog_2_method_1_code
def y_Cut_init : MethodName := ⟨R_Cut, "<init>", "()V"⟩
theorem k_Cut_init : Cond.code y_Cut_init c_Cut_init 1 none ∈ zT := (mT 130 (by decide +kernel) rfl)
abbrev c_Fra_init : ByteArray := prog_3_method_1_code
def y_Fra_init : MethodName := ⟨R_Fra, "<init>", "()V"⟩
theorem k_Fra_init : Cond.code y_Fra_init c_Fra_init 1 none ∈ zT := (mT 136 (by decide +kernel) rfl)
abbrev c_Tre_init : ByteArray := prog_9_method_1_code
def y_Tre_init : MethodName := ⟨R_Tre, "<init>", "(LBestSplits$Table;LBestSplits$Limits;LBestSplits$Survey;)V"⟩
theorem k_Tre_init : Cond.code y_Tre_init c_Tre_init 5 none ∈ zT := (mT 189 (by decide +kernel) rfl)
abbrev c_Nod_init : ByteArray := prog_5_method_1_code
def y_Nod_init : MethodName := ⟨R_Nod, "<init>", "(I)V"⟩
theorem k_Nod_init : Cond.code y_Nod_init c_Nod_init 2 none ∈ zT := (mT 196 (by decide +kernel) rfl)
abbrev c_Pru_init : ByteArray := prog_6_method_1_code
def y_Pru_init : MethodName := ⟨R_Pru, "<init>", "(LBestSplits$Tree;)V"⟩
theorem k_Pru_init : Cond.code y_Pru_init c_Pru_init 3 none ∈ zT := (mT 278 (by decide +kernel) rfl)
abbrev c_Bs_column : ByteArray := prog_1_method_2_code
def y_Bs_column : MethodName := ⟨R_Bs, "column", "(II)I"⟩
theorem k_Bs_column : Cond.code y_Bs_column c_Bs_column 3 (some (.int)) ∈ zT := (mT 337 (by decide +kernel) rfl)
abbrev c_Bs_isColumn : ByteArray := prog_1_method_24_code
def y_Bs_isColumn : MethodName := ⟨R_Bs, "isColumn", "(I)Z"⟩
theorem k_Bs_isColumn : Cond.code y_Bs_isColumn c_Bs_isColumn 1 (some (.boolean)) ∈ zT := (mT 340 (by decide +kernel) rfl)
abbrev c_Bs_noteChange : ByteArray := prog_1_method_21_code
def y_Bs_noteChange : MethodName := ⟨R_Bs, "noteChange", "()V"⟩
theorem k_Bs_noteChange : Cond.code y_Bs_noteChange c_Bs_noteChange 1 none ∈ zT := (mT 344 (by decide +kernel) rfl)
abbrev c_Tab_changeSort : ByteArray := prog_8_method_2_code
def y_Tab_changeSort : MethodName := ⟨R_Tab, "changeSort", "(II)I"⟩
theorem k_Tab_changeSort : Cond.code y_Tab_changeSort c_Tab_changeSort 4 (some (.int)) ∈ zT := (mT 348 (by decide +kernel) rfl)
abbrev c_Bs_row : ByteArray := prog_1_method_3_code
def y_Bs_row : MethodName := ⟨R_Bs, "row", "(IIIII)I"⟩
theorem k_Bs_row : Cond.code y_Bs_row c_Bs_row 6 (some (.int)) ∈ zT := (mT 353 (by decide +kernel) rfl)
abbrev c_Bs_ask : ByteArray := prog_1_method_23_code
def y_Bs_ask : MethodName := ⟨R_Bs, "ask", "(IIII)V"⟩
theorem k_Bs_ask : Cond.code y_Bs_ask c_Bs_ask 5 none ∈ zT := (mT 357 (by decide +kernel) rfl)
abbrev c_Tab_takes : ByteArray := prog_8_method_3_code
def y_Tab_takes : MethodName := ⟨R_Tab, "takes", "([I)Z"⟩
theorem k_Tab_takes : Cond.code y_Tab_takes c_Tab_takes 4 (some (.boolean)) ∈ zT := (mT 361 (by decide +kernel) rfl)
abbrev c_Bs_isClass : ByteArray := prog_1_method_25_code
def y_Bs_isClass : MethodName := ⟨R_Bs, "isClass", "(I)Z"⟩
theorem k_Bs_isClass : Cond.code y_Bs_isClass c_Bs_isClass 1 (some (.boolean)) ∈ zT := (mT 364 (by decide +kernel) rfl)
abbrev c_Tab_add : ByteArray := prog_8_method_6_code
def y_Tab_add : MethodName := ⟨R_Tab, "add", "([II)I"⟩
theorem k_Tab_add : Cond.code y_Tab_add c_Tab_add 5 (some (.int)) ∈ zT := (mT 368 (by decide +kernel) rfl)
abbrev c_Tab_enterKnown : ByteArray := prog_8_method_7_code
def y_Tab_enterKnown : MethodName := ⟨R_Tab, "enterKnown", "(III)V"⟩
theorem k_Tab_enterKnown : Cond.code y_Tab_enterKnown c_Tab_enterKnown 6 none ∈ zT := (mT 373 (by decide +kernel) rfl)
abbrev c_Tab_lastNumber : ByteArray := prog_8_method_9_code
def y_Tab_lastNumber : MethodName := ⟨R_Tab, "lastNumber", "(I)I"⟩
theorem k_Tab_lastNumber : Cond.code y_Tab_lastNumber c_Tab_lastNumber 2 (some (.int)) ∈ zT := (mT 377 (by decide +kernel) rfl)
abbrev c_Tab_isLeftOf : ByteArray := prog_8_method_10_code
def y_Tab_isLeftOf : MethodName := ⟨R_Tab, "isLeftOf", "(III)Z"⟩
theorem k_Tab_isLeftOf : Cond.code y_Tab_isLeftOf c_Tab_isLeftOf 4 (some (.boolean)) ∈ zT := (mT 381 (by decide +kernel) rfl)
abbrev c_Bs_clear : ByteArray := prog_1_method_4_code
def y_Bs_clear : MethodName := ⟨R_Bs, "clear", "()I"⟩
theorem k_Bs_clear : Cond.code y_Bs_clear c_Bs_clear 1 (some (.int)) ∈ zT := (mT 385 (by decide +kernel) rfl)
abbrev c_Tab_removeAll : ByteArray := prog_8_method_8_code
def y_Tab_removeAll : MethodName := ⟨R_Tab, "removeAll", "()I"⟩
theorem k_Tab_removeAll : Cond.code y_Tab_removeAll c_Tab_removeAll 4 (some (.int)) ∈ zT := (mT 389 (by decide +kernel) rfl)
abbrev c_Bs_settings : ByteArray := prog_1_method_5_code
def y_Bs_settings : MethodName := ⟨R_Bs, "settings", "(III)I"⟩
theorem k_Bs_settings : Cond.code y_Bs_settings c_Bs_settings 4 (some (.int)) ∈ zT := (mT 393 (by decide +kernel) rfl)
abbrev c_Bs_nodes : ByteArray := prog_1_method_6_code
def y_Bs_nodes : MethodName := ⟨R_Bs, "nodes", "()I"⟩
theorem k_Bs_nodes : Cond.code y_Bs_nodes c_Bs_nodes 1 (some (.int)) ∈ zT := (mT 397 (by decide +kernel) rfl)
abbrev c_Bs_growIfChanged : ByteArray := prog_1_method_22_code
def y_Bs_growIfChanged : MethodName := ⟨R_Bs, "growIfChanged", "()V"⟩
theorem k_Bs_growIfChanged : Cond.code y_Bs_growIfChanged c_Bs_growIfChanged 1 none ∈ zT := (mT 401 (by decide +kernel) rfl)
abbrev c_Tab_allRows : ByteArray := prog_8_method_5_code
def y_Tab_allRows : MethodName := ⟨R_Tab, "allRows", "()I"⟩
theorem k_Tab_allRows : Cond.code y_Tab_allRows c_Tab_allRows 1 (some (.int)) ∈ zT := (mT 405 (by decide +kernel) rfl)
abbrev c_Tre_grow : ByteArray := prog_9_method_3_code
def y_Tre_grow : MethodName := ⟨R_Tre, "grow", "(I)V"⟩
theorem k_Tre_grow : Cond.code y_Tre_grow c_Tre_grow 3 none ∈ zT := (mT 409 (by decide +kernel) rfl)
abbrev c_Tre_begin : ByteArray := prog_9_method_4_code
def y_Tre_begin : MethodName := ⟨R_Tre, "begin", "(LBestSplits$Node;II)V"⟩
theorem k_Tre_begin : Cond.code y_Tre_begin c_Tre_begin 4 none ∈ zT := (mT 413 (by decide +kernel) rfl)
abbrev c_Tab_labelOf : ByteArray := prog_8_method_19_code
def y_Tab_labelOf : MethodName := ⟨R_Tab, "labelOf", "(I)I"⟩
theorem k_Tab_labelOf : Cond.code y_Tab_labelOf c_Tab_labelOf 4 (some (.int)) ∈ zT := (mT 417 (by decide +kernel) rfl)
abbrev c_Tab_countOf : ByteArray := prog_8_method_17_code
def y_Tab_countOf : MethodName := ⟨R_Tab, "countOf", "(II)I"⟩
theorem k_Tab_countOf : Cond.code y_Tab_countOf c_Tab_countOf 3 (some (.int)) ∈ zT := (mT 421 (by decide +kernel) rfl)
abbrev c_Int_bitCount : ByteArray := prog_12_method_49_code
def y_Int_bitCount : MethodName := ⟨R_Int, "bitCount", "(I)I"⟩
theorem k_Int_bitCount : Cond.code y_Int_bitCount c_Int_bitCount 1 (some (.int)) ∈ zT := (mT 424 (by decide +kernel) rfl)
abbrev c_Tre_partIfDue : ByteArray := prog_9_method_5_code
def y_Tre_partIfDue : MethodName := ⟨R_Tre, "partIfDue", "(LBestSplits$Node;)V"⟩
theorem k_Tre_partIfDue : Cond.code y_Tre_partIfDue c_Tre_partIfDue 6 none ∈ zT := (mT 433 (by decide +kernel) rfl)
abbrev c_Sur_look : ByteArray := prog_7_method_2_code
def y_Sur_look : MethodName := ⟨R_Sur, "look", "(I)I"⟩
theorem k_Sur_look : Cond.code y_Sur_look c_Sur_look 6 (some (.int)) ∈ zT := (mT 437 (by decide +kernel) rfl)
abbrev c_Tab_canCut : ByteArray := prog_8_method_12_code
def y_Tab_canCut : MethodName := ⟨R_Tab, "canCut", "(III)Z"⟩
theorem k_Tab_canCut : Cond.code y_Tab_canCut c_Tab_canCut 4 (some (.boolean)) ∈ zT := (mT 441 (by decide +kernel) rfl)
abbrev c_Tab_isGrouping : ByteArray := prog_8_method_14_code
def y_Tab_isGrouping : MethodName := ⟨R_Tab, "isGrouping", "(III)Z"⟩
theorem k_Tab_isGrouping : Cond.code y_Tab_isGrouping c_Tab_isGrouping 6 (some (.boolean)) ∈ zT := (mT 445 (by decide +kernel) rfl)
abbrev c_Tab_isStep : ByteArray := prog_8_method_13_code
def y_Tab_isStep : MethodName := ⟨R_Tab, "isStep", "(III)Z"⟩
theorem k_Tab_isStep : Cond.code y_Tab_isStep c_Tab_isStep 6 (some (.boolean)) ∈ zT := (mT 449 (by decide +kernel) rfl)
abbrev c_Sur_measure : ByteArray := prog_7_method_4_code
def y_Sur_measure : MethodName := ⟨R_Sur, "measure", "(IIII)Z"⟩
theorem k_Sur_measure : Cond.code y_Sur_measure c_Sur_measure 12 (some (.boolean)) ∈ zT := (mT 453 (by decide +kernel) rfl)
abbrev c_Tab_unknownOf : ByteArray := prog_8_method_15_code
def y_Tab_unknownOf : MethodName := ⟨R_Tab, "unknownOf", "(II)I"⟩
theorem k_Tab_unknownOf : Cond.code y_Tab_unknownOf c_Tab_unknownOf 3 (some (.int)) ∈ zT := (mT 457 (by decide +kernel) rfl)
abbrev c_Tab_leftOf : ByteArray := prog_8_method_16_code
def y_Tab_leftOf : MethodName := ⟨R_Tab, "leftOf", "(IIII)I"⟩
theorem k_Tab_leftOf : Cond.code y_Tab_leftOf c_Tab_leftOf 6 (some (.int)) ∈ zT := (mT 461 (by decide +kernel) rfl)
abbrev c_Tab_squaresOf : ByteArray := prog_8_method_18_code
def y_Tab_squaresOf : MethodName := ⟨R_Tab, "squaresOf", "(I)I"⟩
theorem k_Tab_squaresOf : Cond.code y_Tab_squaresOf c_Tab_squaresOf 5 (some (.int)) ∈ zT := (mT 466 (by decide +kernel) rfl)
abbrev c_Cut_become : ByteArray := prog_2_method_2_code
def y_Cut_become : MethodName := ⟨R_Cut, "become", "(III)V"⟩
theorem k_Cut_become : Cond.code y_Cut_become c_Cut_become 4 none ∈ zT := (mT 470 (by decide +kernel) rfl)
abbrev c_Fra_become : ByteArray := prog_3_method_2_code
def y_Fra_become : MethodName := ⟨R_Fra, "become", "(II)V"⟩
theorem k_Fra_become : Cond.code y_Fra_become c_Fra_become 3 none ∈ zT := (mT 474 (by decide +kernel) rfl)
abbrev c_Sur_keepIfBetter : ByteArray := prog_7_method_3_code
def y_Sur_keepIfBetter : MethodName := ⟨R_Sur, "keepIfBetter", "(Z)V"⟩
theorem k_Sur_keepIfBetter : Cond.code y_Sur_keepIfBetter c_Sur_keepIfBetter 2 none ∈ zT := (mT 478 (by decide +kernel) rfl)
abbrev c_Fra_compareWith : ByteArray := prog_3_method_4_code
def y_Fra_compareWith : MethodName := ⟨R_Fra, "compareWith", "(LBestSplits$Fraction;)I"⟩
theorem k_Fra_compareWith : Cond.code y_Fra_compareWith c_Fra_compareWith 2 (some (.int)) ∈ zT := (mT 482 (by decide +kernel) rfl)
abbrev c_Lon_compare : ByteArray := prog_13_method_42_code
def y_Lon_compare : MethodName := ⟨R_Lon, "compare", "(JJ)I"⟩
theorem k_Lon_compare : Cond.code y_Lon_compare c_Lon_compare 4 (some (.int)) ∈ zT := (mT 485 (by decide +kernel) rfl)
abbrev c_Cut_becomeAs : ByteArray := prog_2_method_3_code
def y_Cut_becomeAs : MethodName := ⟨R_Cut, "becomeAs", "(LBestSplits$Cut;)V"⟩
theorem k_Cut_becomeAs : Cond.code y_Cut_becomeAs c_Cut_becomeAs 2 none ∈ zT := (mT 489 (by decide +kernel) rfl)
abbrev c_Fra_becomeAs : ByteArray := prog_3_method_3_code
def y_Fra_becomeAs : MethodName := ⟨R_Fra, "becomeAs", "(LBestSplits$Fraction;)V"⟩
theorem k_Fra_becomeAs : Cond.code y_Fra_becomeAs c_Fra_becomeAs 2 none ∈ zT := (mT 494 (by decide +kernel) rfl)
abbrev c_Fra_isAboveHundredths : ByteArray := prog_3_method_5_code
def y_Fra_isAboveHundredths : MethodName := ⟨R_Fra, "isAboveHundredths", "(I)Z"⟩
theorem k_Fra_isAboveHundredths : Cond.code y_Fra_isAboveHundredths c_Fra_isAboveHundredths 2 (some (.boolean)) ∈ zT := (mT 498 (by decide +kernel) rfl)
abbrev c_Pru_cutBackToRoot : ByteArray := prog_6_method_3_code
def y_Pru_cutBackToRoot : MethodName := ⟨R_Pru, "cutBackToRoot", "()V"⟩
theorem k_Pru_cutBackToRoot : Cond.code y_Pru_cutBackToRoot c_Pru_cutBackToRoot 3 none ∈ zT := (mT 505 (by decide +kernel) rfl)
abbrev c_Tre_find : ByteArray := prog_9_method_2_code
def y_Tre_find : MethodName := ⟨R_Tre, "find", "(I)LBestSplits$Node;"⟩
theorem k_Tre_find : Cond.code y_Tre_find c_Tre_find 2 (some (.object "BestSplits$Node")) ∈ zT := (mT 509 (by decide +kernel) rfl)
abbrev c_Nod_beginStages : ByteArray := prog_5_method_6_code
def y_Nod_beginStages : MethodName := ⟨R_Nod, "beginStages", "()V"⟩
theorem k_Nod_beginStages : Cond.code y_Nod_beginStages c_Nod_beginStages 1 none ∈ zT := (mT 513 (by decide +kernel) rfl)
abbrev c_Nod_isUnparted : ByteArray := prog_5_method_2_code
def y_Nod_isUnparted : MethodName := ⟨R_Nod, "isUnparted", "()Z"⟩
theorem k_Nod_isUnparted : Cond.code y_Nod_isUnparted c_Nod_isUnparted 1 (some (.boolean)) ∈ zT := (mT 517 (by decide +kernel) rfl)
abbrev c_Pru_recordStage : ByteArray := prog_6_method_4_code
def y_Pru_recordStage : MethodName := ⟨R_Pru, "recordStage", "(I)Z"⟩
theorem k_Pru_recordStage : Cond.code y_Pru_recordStage c_Pru_recordStage 4 (some (.boolean)) ∈ zT := (mT 521 (by decide +kernel) rfl)
abbrev c_Nod_sumUp : ByteArray := prog_5_method_7_code
def y_Nod_sumUp : MethodName := ⟨R_Nod, "sumUp", "(I)V"⟩
theorem k_Nod_sumUp : Cond.code y_Nod_sumUp c_Nod_sumUp 2 none ∈ zT := (mT 525 (by decide +kernel) rfl)
abbrev c_Nod_stateAt : ByteArray := prog_5_method_5_code
def y_Nod_stateAt : MethodName := ⟨R_Nod, "stateAt", "(I)I"⟩
theorem k_Nod_stateAt : Cond.code y_Nod_stateAt c_Nod_stateAt 2 (some (.int)) ∈ zT := (mT 529 (by decide +kernel) rfl)
abbrev c_Pru_findAlpha : ByteArray := prog_6_method_5_code
def y_Pru_findAlpha : MethodName := ⟨R_Pru, "findAlpha", "(ILBestSplits$Fraction;)V"⟩
theorem k_Pru_findAlpha : Cond.code y_Pru_findAlpha c_Pru_findAlpha 6 none ∈ zT := (mT 533 (by decide +kernel) rfl)
abbrev c_Pru_weigh : ByteArray := prog_6_method_7_code
def y_Pru_weigh : MethodName := ⟨R_Pru, "weigh", "(LBestSplits$Node;)V"⟩
theorem k_Pru_weigh : Cond.code y_Pru_weigh c_Pru_weigh 2 none ∈ zT := (mT 537 (by decide +kernel) rfl)
abbrev c_Pru_cutBack : ByteArray := prog_6_method_6_code
def y_Pru_cutBack : MethodName := ⟨R_Pru, "cutBack", "(ILBestSplits$Fraction;)V"⟩
theorem k_Pru_cutBack : Cond.code y_Pru_cutBack c_Pru_cutBack 5 none ∈ zT := (mT 544 (by decide +kernel) rfl)
abbrev c_Nod_loseThoseBelow : ByteArray := prog_5_method_8_code
def y_Nod_loseThoseBelow : MethodName := ⟨R_Nod, "loseThoseBelow", "(I)V"⟩
theorem k_Nod_loseThoseBelow : Cond.code y_Nod_loseThoseBelow c_Nod_loseThoseBelow 2 none ∈ zT := (mT 548 (by decide +kernel) rfl)
abbrev c_Mat_min : ByteArray := prog_14_method_69_code
def y_Mat_min : MethodName := ⟨R_Mat, "min", "(II)I"⟩
theorem k_Mat_min : Cond.code y_Mat_min c_Mat_min 2 (some (.int)) ∈ zT := (mT 551 (by decide +kernel) rfl)
abbrev c_Bs_node : ByteArray := prog_1_method_7_code
def y_Bs_node : MethodName := ⟨R_Bs, "node", "(II)I"⟩
theorem k_Bs_node : Cond.code y_Bs_node c_Bs_node 4 (some (.int)) ∈ zT := (mT 555 (by decide +kernel) rfl)
abbrev c_Nod_cutDetail : ByteArray := prog_5_method_3_code
def y_Nod_cutDetail : MethodName := ⟨R_Nod, "cutDetail", "(I)I"⟩
theorem k_Nod_cutDetail : Cond.code y_Nod_cutDetail c_Nod_cutDetail 2 (some (.int)) ∈ zT := (mT 560 (by decide +kernel) rfl)
abbrev c_Nod_ownDetail : ByteArray := prog_5_method_4_code
def y_Nod_ownDetail : MethodName := ⟨R_Nod, "ownDetail", "(I)I"⟩
theorem k_Nod_ownDetail : Cond.code y_Nod_ownDetail c_Nod_ownDetail 2 (some (.int)) ∈ zT := (mT 564 (by decide +kernel) rfl)
abbrev c_Bs_count : ByteArray := prog_1_method_8_code
def y_Bs_count : MethodName := ⟨R_Bs, "count", "(II)I"⟩
theorem k_Bs_count : Cond.code y_Bs_count c_Bs_count 4 (some (.int)) ∈ zT := (mT 569 (by decide +kernel) rfl)
abbrev c_Bs_gain : ByteArray := prog_1_method_9_code
def y_Bs_gain : MethodName := ⟨R_Bs, "gain", "(II)I"⟩
theorem k_Bs_gain : Cond.code y_Bs_gain c_Bs_gain 4 (some (.int)) ∈ zT := (mT 574 (by decide +kernel) rfl)
abbrev c_Bs_isPart : ByteArray := prog_1_method_26_code
def y_Bs_isPart : MethodName := ⟨R_Bs, "isPart", "(I)Z"⟩
theorem k_Bs_isPart : Cond.code y_Bs_isPart c_Bs_isPart 1 (some (.boolean)) ∈ zT := (mT 577 (by decide +kernel) rfl)
abbrev c_Fra_inLowestTerms : ByteArray := prog_3_method_6_code
def y_Fra_inLowestTerms : MethodName := ⟨R_Fra, "inLowestTerms", "(I)I"⟩
theorem k_Fra_inLowestTerms : Cond.code y_Fra_inLowestTerms c_Fra_inLowestTerms 4 (some (.int)) ∈ zT := (mT 582 (by decide +kernel) rfl)
abbrev c_Fra_greatestCommonDivisor : ByteArray := prog_3_method_7_code
def y_Fra_greatestCommonDivisor : MethodName := ⟨R_Fra, "greatestCommonDivisor", "()I"⟩
theorem k_Fra_greatestCommonDivisor : Cond.code y_Fra_greatestCommonDivisor c_Fra_greatestCommonDivisor 5 (some (.int)) ∈ zT := (mT 586 (by decide +kernel) rfl)
abbrev c_Bs_leaf : ByteArray := prog_1_method_10_code
def y_Bs_leaf : MethodName := ⟨R_Bs, "leaf", "(IIII)I"⟩
theorem k_Bs_leaf : Cond.code y_Bs_leaf c_Bs_leaf 5 (some (.int)) ∈ zT := (mT 590 (by decide +kernel) rfl)
abbrev c_Tre_whereComes : ByteArray := prog_9_method_6_code
def y_Tre_whereComes : MethodName := ⟨R_Tre, "whereComes", "([I)LBestSplits$Node;"⟩
theorem k_Tre_whereComes : Cond.code y_Tre_whereComes c_Tre_whereComes 5 (some (.object "BestSplits$Node")) ∈ zT := (mT 594 (by decide +kernel) rfl)
abbrev c_Tab_goesLeft : ByteArray := prog_8_method_11_code
def y_Tab_goesLeft : MethodName := ⟨R_Tab, "goesLeft", "([ILBestSplits$Cut;)Z"⟩
theorem k_Tab_goesLeft : Cond.code y_Tab_goesLeft c_Tab_goesLeft 4 (some (.boolean)) ∈ zT := (mT 598 (by decide +kernel) rfl)
abbrev c_Bs_leafOf : ByteArray := prog_1_method_11_code
def y_Bs_leafOf : MethodName := ⟨R_Bs, "leafOf", "(I)I"⟩
theorem k_Bs_leafOf : Cond.code y_Bs_leafOf c_Bs_leafOf 2 (some (.int)) ∈ zT := (mT 602 (by decide +kernel) rfl)
abbrev c_Tab_has : ByteArray := prog_8_method_4_code
def y_Tab_has : MethodName := ⟨R_Tab, "has", "(I)Z"⟩
theorem k_Tab_has : Cond.code y_Tab_has c_Tab_has 2 (some (.boolean)) ∈ zT := (mT 606 (by decide +kernel) rfl)
abbrev c_Bs_cuts : ByteArray := prog_1_method_12_code
def y_Bs_cuts : MethodName := ⟨R_Bs, "cuts", "()I"⟩
theorem k_Bs_cuts : Cond.code y_Bs_cuts c_Bs_cuts 1 (some (.int)) ∈ zT := (mT 610 (by decide +kernel) rfl)
abbrev c_Bs_cutGain : ByteArray := prog_1_method_13_code
def y_Bs_cutGain : MethodName := ⟨R_Bs, "cutGain", "(IIII)I"⟩
theorem k_Bs_cutGain : Cond.code y_Bs_cutGain c_Bs_cutGain 6 (some (.int)) ∈ zT := (mT 615 (by decide +kernel) rfl)
abbrev c_Bs_stages : ByteArray := prog_1_method_14_code
def y_Bs_stages : MethodName := ⟨R_Bs, "stages", "()I"⟩
theorem k_Bs_stages : Cond.code y_Bs_stages c_Bs_stages 1 (some (.int)) ∈ zT := (mT 621 (by decide +kernel) rfl)
abbrev c_Bs_alpha : ByteArray := prog_1_method_15_code
def y_Bs_alpha : MethodName := ⟨R_Bs, "alpha", "(II)I"⟩
theorem k_Bs_alpha : Cond.code y_Bs_alpha c_Bs_alpha 3 (some (.int)) ∈ zT := (mT 625 (by decide +kernel) rfl)
abbrev c_Pru_has : ByteArray := prog_6_method_2_code
def y_Pru_has : MethodName := ⟨R_Pru, "has", "(I)Z"⟩
theorem k_Pru_has : Cond.code y_Pru_has c_Pru_has 2 (some (.boolean)) ∈ zT := (mT 629 (by decide +kernel) rfl)
abbrev c_Bs_leaves : ByteArray := prog_1_method_16_code
def y_Bs_leaves : MethodName := ⟨R_Bs, "leaves", "(I)I"⟩
theorem k_Bs_leaves : Cond.code y_Bs_leaves c_Bs_leaves 2 (some (.int)) ∈ zT := (mT 633 (by decide +kernel) rfl)
abbrev c_Bs_wrong : ByteArray := prog_1_method_17_code
def y_Bs_wrong : MethodName := ⟨R_Bs, "wrong", "(I)I"⟩
theorem k_Bs_wrong : Cond.code y_Bs_wrong c_Bs_wrong 2 (some (.int)) ∈ zT := (mT 637 (by decide +kernel) rfl)
abbrev c_Bs_state : ByteArray := prog_1_method_18_code
def y_Bs_state : MethodName := ⟨R_Bs, "state", "(II)I"⟩
theorem k_Bs_state : Cond.code y_Bs_state c_Bs_state 4 (some (.int)) ∈ zT := (mT 641 (by decide +kernel) rfl)
abbrev c_Bs_leftOut : ByteArray := prog_1_method_19_code
def y_Bs_leftOut : MethodName := ⟨R_Bs, "leftOut", "()I"⟩
theorem k_Bs_leftOut : Cond.code y_Bs_leftOut c_Bs_leftOut 2 (some (.int)) ∈ zT := (mT 646 (by decide +kernel) rfl)
abbrev c_Bs_isMistakenByOthers : ByteArray := prog_1_method_20_code
def y_Bs_isMistakenByOthers : MethodName := ⟨R_Bs, "isMistakenByOthers", "(I)Z"⟩
theorem k_Bs_isMistakenByOthers : Cond.code y_Bs_isMistakenByOthers c_Bs_isMistakenByOthers 2 (some (.boolean)) ∈ zT := (mT 650 (by decide +kernel) rfl)
abbrev c_Mo_init : ByteArray := prog_11_method_1_code
def y_Mo_init : MethodName := ⟨R_Mo, "<init>", "()V"⟩
theorem k_Mo_init : Cond.code y_Mo_init c_Mo_init 1 none ∈ zT := (mT 655 (by decide +kernel) rfl)
abbrev c_Mo_column : ByteArray := prog_11_method_3_code
def y_Mo_column : MethodName := ⟨R_Mo, "column", "(II)I"⟩
theorem k_Mo_column : Cond.code y_Mo_column c_Mo_column 4 (some (.int)) ∈ zT := (mT 761 (by decide +kernel) rfl)
abbrev c_Mo_row : ByteArray := prog_11_method_4_code
def y_Mo_row : MethodName := ⟨R_Mo, "row", "(IIIII)I"⟩
theorem k_Mo_row : Cond.code y_Mo_row c_Mo_row 6 (some (.int)) ∈ zT := (mT 765 (by decide +kernel) rfl)
abbrev c_Mo_isValue : ByteArray := prog_11_method_2_code
def y_Mo_isValue : MethodName := ⟨R_Mo, "isValue", "(II)Z"⟩
theorem k_Mo_isValue : Cond.code y_Mo_isValue c_Mo_isValue 3 (some (.boolean)) ∈ zT := (mT 769 (by decide +kernel) rfl)
abbrev c_Mo_clear : ByteArray := prog_11_method_5_code
def y_Mo_clear : MethodName := ⟨R_Mo, "clear", "()I"⟩
theorem k_Mo_clear : Cond.code y_Mo_clear c_Mo_clear 2 (some (.int)) ∈ zT := (mT 773 (by decide +kernel) rfl)
abbrev c_Mo_settings : ByteArray := prog_11_method_6_code
def y_Mo_settings : MethodName := ⟨R_Mo, "settings", "(III)I"⟩
theorem k_Mo_settings : Cond.code y_Mo_settings c_Mo_settings 4 (some (.int)) ∈ zT := (mT 777 (by decide +kernel) rfl)
abbrev c_Mo_nodes : ByteArray := prog_11_method_25_code
def y_Mo_nodes : MethodName := ⟨R_Mo, "nodes", "()I"⟩
theorem k_Mo_nodes : Cond.code y_Mo_nodes c_Mo_nodes 1 (some (.int)) ∈ zT := (mT 781 (by decide +kernel) rfl)
abbrev c_Mo_build : ByteArray := prog_11_method_24_code
def y_Mo_build : MethodName := ⟨R_Mo, "build", "()V"⟩
theorem k_Mo_build : Cond.code y_Mo_build c_Mo_build 1 none ∈ zT := (mT 785 (by decide +kernel) rfl)
abbrev c_Mo_grow : ByteArray := prog_11_method_23_code
def y_Mo_grow : MethodName := ⟨R_Mo, "grow", "(I)V"⟩
theorem k_Mo_grow : Cond.code y_Mo_grow c_Mo_grow 5 none ∈ zT := (mT 789 (by decide +kernel) rfl)
abbrev c_Mo_add : ByteArray := prog_11_method_21_code
def y_Mo_add : MethodName := ⟨R_Mo, "add", "(II)V"⟩
theorem k_Mo_add : Cond.code y_Mo_add c_Mo_add 3 none ∈ zT := (mT 793 (by decide +kernel) rfl)
abbrev c_Mo_isMixed : ByteArray := prog_11_method_22_code
def y_Mo_isMixed : MethodName := ⟨R_Mo, "isMixed", "(I)Z"⟩
theorem k_Mo_isMixed : Cond.code y_Mo_isMixed c_Mo_isMixed 2 (some (.boolean)) ∈ zT := (mT 797 (by decide +kernel) rfl)
abbrev c_Mo_wrongOf : ByteArray := prog_11_method_11_code
def y_Mo_wrongOf : MethodName := ⟨R_Mo, "wrongOf", "(I)I"⟩
theorem k_Mo_wrongOf : Cond.code y_Mo_wrongOf c_Mo_wrongOf 2 (some (.int)) ∈ zT := (mT 801 (by decide +kernel) rfl)
abbrev c_Mo_many : ByteArray := prog_11_method_7_code
def y_Mo_many : MethodName := ⟨R_Mo, "many", "(I)I"⟩
theorem k_Mo_many : Cond.code y_Mo_many c_Mo_many 4 (some (.int)) ∈ zT := (mT 805 (by decide +kernel) rfl)
abbrev c_Mo_labelOf : ByteArray := prog_11_method_10_code
def y_Mo_labelOf : MethodName := ⟨R_Mo, "labelOf", "(I)I"⟩
theorem k_Mo_labelOf : Cond.code y_Mo_labelOf c_Mo_labelOf 4 (some (.int)) ∈ zT := (mT 809 (by decide +kernel) rfl)
abbrev c_Mo_of : ByteArray := prog_11_method_8_code
def y_Mo_of : MethodName := ⟨R_Mo, "of", "(II)I"⟩
theorem k_Mo_of : Cond.code y_Mo_of c_Mo_of 5 (some (.int)) ∈ zT := (mT 813 (by decide +kernel) rfl)
abbrev c_Mo_findBest : ByteArray := prog_11_method_20_code
def y_Mo_findBest : MethodName := ⟨R_Mo, "findBest", "(I)Z"⟩
theorem k_Mo_findBest : Cond.code y_Mo_findBest c_Mo_findBest 6 (some (.boolean)) ∈ zT := (mT 817 (by decide +kernel) rfl)
abbrev c_Mo_may : ByteArray := prog_11_method_19_code
def y_Mo_may : MethodName := ⟨R_Mo, "may", "(IIII)Z"⟩
theorem k_Mo_may : Cond.code y_Mo_may c_Mo_may 13 (some (.boolean)) ∈ zT := (mT 821 (by decide +kernel) rfl)
abbrev c_Mo_isCut : ByteArray := prog_11_method_17_code
def y_Mo_isCut : MethodName := ⟨R_Mo, "isCut", "(IIII)Z"⟩
theorem k_Mo_isCut : Cond.code y_Mo_isCut c_Mo_isCut 6 (some (.boolean)) ∈ zT := (mT 825 (by decide +kernel) rfl)
abbrev c_Mo_hasValue : ByteArray := prog_11_method_16_code
def y_Mo_hasValue : MethodName := ⟨R_Mo, "hasValue", "(III)Z"⟩
theorem k_Mo_hasValue : Cond.code y_Mo_hasValue c_Mo_hasValue 5 (some (.boolean)) ∈ zT := (mT 829 (by decide +kernel) rfl)
abbrev c_Mo_greatest : ByteArray := prog_11_method_15_code
def y_Mo_greatest : MethodName := ⟨R_Mo, "greatest", "(II)I"⟩
theorem k_Mo_greatest : Cond.code y_Mo_greatest c_Mo_greatest 5 (some (.int)) ∈ zT := (mT 833 (by decide +kernel) rfl)
abbrev c_Mo_kindsOf : ByteArray := prog_11_method_14_code
def y_Mo_kindsOf : MethodName := ⟨R_Mo, "kindsOf", "(II)I"⟩
theorem k_Mo_kindsOf : Cond.code y_Mo_kindsOf c_Mo_kindsOf 5 (some (.int)) ∈ zT := (mT 837 (by decide +kernel) rfl)
abbrev c_Mo_leftOf : ByteArray := prog_11_method_18_code
def y_Mo_leftOf : MethodName := ⟨R_Mo, "leftOf", "(IIII)I"⟩
theorem k_Mo_leftOf : Cond.code y_Mo_leftOf c_Mo_leftOf 7 (some (.int)) ∈ zT := (mT 841 (by decide +kernel) rfl)
abbrev c_Mo_goesLeft : ByteArray := prog_11_method_12_code
def y_Mo_goesLeft : MethodName := ⟨R_Mo, "goesLeft", "(IIII)Z"⟩
theorem k_Mo_goesLeft : Cond.code y_Mo_goesLeft c_Mo_goesLeft 6 (some (.boolean)) ∈ zT := (mT 845 (by decide +kernel) rfl)
abbrev c_Mo_isLeft : ByteArray := prog_11_method_13_code
def y_Mo_isLeft : MethodName := ⟨R_Mo, "isLeft", "(IIII)Z"⟩
theorem k_Mo_isLeft : Cond.code y_Mo_isLeft c_Mo_isLeft 5 (some (.boolean)) ∈ zT := (mT 849 (by decide +kernel) rfl)
abbrev c_Mo_squares : ByteArray := prog_11_method_9_code
def y_Mo_squares : MethodName := ⟨R_Mo, "squares", "(I)J"⟩
theorem k_Mo_squares : Cond.code y_Mo_squares c_Mo_squares 7 (some (.long)) ∈ zT := (mT 853 (by decide +kernel) rfl)
abbrev c_Mo_findStages : ByteArray := prog_11_method_39_code
def y_Mo_findStages : MethodName := ⟨R_Mo, "findStages", "()V"⟩
theorem k_Mo_findStages : Cond.code y_Mo_findStages c_Mo_findStages 2 none ∈ zT := (mT 858 (by decide +kernel) rfl)
abbrev c_Mo_nextStage : ByteArray := prog_11_method_40_code
def y_Mo_nextStage : MethodName := ⟨R_Mo, "nextStage", "()V"⟩
theorem k_Mo_nextStage : Cond.code y_Mo_nextStage c_Mo_nextStage 11 none ∈ zT := (mT 862 (by decide +kernel) rfl)
abbrev c_Mo_look : ByteArray := prog_11_method_38_code
def y_Mo_look : MethodName := ⟨R_Mo, "look", "(II)V"⟩
theorem k_Mo_look : Cond.code y_Mo_look c_Mo_look 5 none ∈ zT := (mT 867 (by decide +kernel) rfl)
abbrev c_Mo_node : ByteArray := prog_11_method_27_code
def y_Mo_node : MethodName := ⟨R_Mo, "node", "(II)I"⟩
theorem k_Mo_node : Cond.code y_Mo_node c_Mo_node 3 (some (.int)) ∈ zT := (mT 871 (by decide +kernel) rfl)
abbrev c_Mo_isNode : ByteArray := prog_11_method_26_code
def y_Mo_isNode : MethodName := ⟨R_Mo, "isNode", "(I)Z"⟩
theorem k_Mo_isNode : Cond.code y_Mo_isNode c_Mo_isNode 2 (some (.boolean)) ∈ zT := (mT 875 (by decide +kernel) rfl)
abbrev c_Mo_count : ByteArray := prog_11_method_28_code
def y_Mo_count : MethodName := ⟨R_Mo, "count", "(II)I"⟩
theorem k_Mo_count : Cond.code y_Mo_count c_Mo_count 3 (some (.int)) ∈ zT := (mT 879 (by decide +kernel) rfl)
abbrev c_Mo_gain : ByteArray := prog_11_method_31_code
def y_Mo_gain : MethodName := ⟨R_Mo, "gain", "(II)I"⟩
theorem k_Mo_gain : Cond.code y_Mo_gain c_Mo_gain 3 (some (.int)) ∈ zT := (mT 883 (by decide +kernel) rfl)
abbrev c_Mo_lowest : ByteArray := prog_11_method_30_code
def y_Mo_lowest : MethodName := ⟨R_Mo, "lowest", "(JJI)I"⟩
theorem k_Mo_lowest : Cond.code y_Mo_lowest c_Mo_lowest 7 (some (.int)) ∈ zT := (mT 886 (by decide +kernel) rfl)
abbrev c_Mo_common : ByteArray := prog_11_method_29_code
def y_Mo_common : MethodName := ⟨R_Mo, "common", "(JJ)J"⟩
theorem k_Mo_common : Cond.code y_Mo_common c_Mo_common 10 (some (.long)) ∈ zT := (mT 889 (by decide +kernel) rfl)
abbrev c_Mo_leaf : ByteArray := prog_11_method_33_code
def y_Mo_leaf : MethodName := ⟨R_Mo, "leaf", "(IIII)I"⟩
theorem k_Mo_leaf : Cond.code y_Mo_leaf c_Mo_leaf 5 (some (.int)) ∈ zT := (mT 893 (by decide +kernel) rfl)
abbrev c_Mo_comesTo : ByteArray := prog_11_method_32_code
def y_Mo_comesTo : MethodName := ⟨R_Mo, "comesTo", "()I"⟩
theorem k_Mo_comesTo : Cond.code y_Mo_comesTo c_Mo_comesTo 2 (some (.int)) ∈ zT := (mT 897 (by decide +kernel) rfl)
abbrev c_Mo_leafOf : ByteArray := prog_11_method_35_code
def y_Mo_leafOf : MethodName := ⟨R_Mo, "leafOf", "(I)I"⟩
theorem k_Mo_leafOf : Cond.code y_Mo_leafOf c_Mo_leafOf 2 (some (.int)) ∈ zT := (mT 901 (by decide +kernel) rfl)
abbrev c_Mo_leafFor : ByteArray := prog_11_method_34_code
def y_Mo_leafFor : MethodName := ⟨R_Mo, "leafFor", "(I)I"⟩
theorem k_Mo_leafFor : Cond.code y_Mo_leafFor c_Mo_leafFor 3 (some (.int)) ∈ zT := (mT 905 (by decide +kernel) rfl)
abbrev c_Mo_cuts : ByteArray := prog_11_method_36_code
def y_Mo_cuts : MethodName := ⟨R_Mo, "cuts", "()I"⟩
theorem k_Mo_cuts : Cond.code y_Mo_cuts c_Mo_cuts 5 (some (.int)) ∈ zT := (mT 909 (by decide +kernel) rfl)
abbrev c_Mo_cutGain : ByteArray := prog_11_method_37_code
def y_Mo_cutGain : MethodName := ⟨R_Mo, "cutGain", "(IIII)I"⟩
theorem k_Mo_cutGain : Cond.code y_Mo_cutGain c_Mo_cutGain 5 (some (.int)) ∈ zT := (mT 913 (by decide +kernel) rfl)
abbrev c_Mo_stages : ByteArray := prog_11_method_41_code
def y_Mo_stages : MethodName := ⟨R_Mo, "stages", "()I"⟩
theorem k_Mo_stages : Cond.code y_Mo_stages c_Mo_stages 1 (some (.int)) ∈ zT := (mT 917 (by decide +kernel) rfl)
abbrev c_Mo_alpha : ByteArray := prog_11_method_43_code
def y_Mo_alpha : MethodName := ⟨R_Mo, "alpha", "(II)I"⟩
theorem k_Mo_alpha : Cond.code y_Mo_alpha c_Mo_alpha 3 (some (.int)) ∈ zT := (mT 921 (by decide +kernel) rfl)
abbrev c_Mo_isStage : ByteArray := prog_11_method_42_code
def y_Mo_isStage : MethodName := ⟨R_Mo, "isStage", "(I)Z"⟩
theorem k_Mo_isStage : Cond.code y_Mo_isStage c_Mo_isStage 2 (some (.boolean)) ∈ zT := (mT 925 (by decide +kernel) rfl)
abbrev c_Mo_leaves : ByteArray := prog_11_method_44_code
def y_Mo_leaves : MethodName := ⟨R_Mo, "leaves", "(I)I"⟩
theorem k_Mo_leaves : Cond.code y_Mo_leaves c_Mo_leaves 2 (some (.int)) ∈ zT := (mT 929 (by decide +kernel) rfl)
abbrev c_Mo_wrong : ByteArray := prog_11_method_45_code
def y_Mo_wrong : MethodName := ⟨R_Mo, "wrong", "(I)I"⟩
theorem k_Mo_wrong : Cond.code y_Mo_wrong c_Mo_wrong 2 (some (.int)) ∈ zT := (mT 933 (by decide +kernel) rfl)
abbrev c_Mo_state : ByteArray := prog_11_method_46_code
def y_Mo_state : MethodName := ⟨R_Mo, "state", "(II)I"⟩
theorem k_Mo_state : Cond.code y_Mo_state c_Mo_state 3 (some (.int)) ∈ zT := (mT 937 (by decide +kernel) rfl)
abbrev c_Mo_leftOut : ByteArray := prog_11_method_47_code
def y_Mo_leftOut : MethodName := ⟨R_Mo, "leftOut", "()I"⟩
theorem k_Mo_leftOut : Cond.code y_Mo_leftOut c_Mo_leftOut 3 (some (.int)) ∈ zT := (mT 941 (by decide +kernel) rfl)
abbrev c_Law_law : ByteArray := code
def y_Law_law : MethodName := ⟨R_Law, "law", "([I)Z"⟩
theorem zT_good : ∀ w ∈ zT, ((w.onTables && w.keeps) = true ∨ ∃ ty, w = .arrayClass ty) := fun w hw => good_of_word (List.mem_filter.mp hw).2
/-- words of the nest, and of arrays of references: they are kept, but by rows of their own -/
def zN : List Cond := [(Cond.methodLinkNest "BestSplits" (11 : Nat) y_Tab_init "BestSplits"), (Cond.arrayOver (FieldType.array FieldType.int)), (Cond.methodLinkNest "BestSplits" (18 : Nat) y_Lim_init "BestSplits"), (Cond.methodLinkNest "BestSplits$Survey" (11 : Nat) y_Cut_init "BestSplits"), (Cond.methodLinkNest "BestSplits$Cut" (9 : Nat) y_Fra_init "BestSplits"), (Cond.arrayOver (FieldType.object "BestSplits$Node")), (Cond.methodLinkNest "BestSplits$Node" (11 : Nat) y_Cut_init "BestSplits"), (Cond.fieldLinkNest "BestSplits$Pruning" (64 : Nat) "BestSplits$Tree" "root" "LBestSplits$Node;" "BestSplits"), (Cond.arrayOver (FieldType.object "BestSplits$Fraction")), (Cond.methodLinkNest "BestSplits$Pruning" (24 : Nat) y_Fra_init "BestSplits"), (Cond.methodLinkNest "BestSplits$Table" (36 : Nat) y_Bs_isColumn "BestSplits"), (Cond.methodLinkNest "BestSplits$Table" (40 : Nat) y_Bs_isClass "BestSplits")]
theorem mN {w : Cond} (i : Nat) (h : zN[i]? = some w) : w ∈ zN := List.mem_of_getElem? h
theorem zN_in : ∀ w ∈ zN, w ∈ lw_tbl := fun w hw => by
  have hp : zN = [66, 71, 100, 128, 134, 192, 199, 260, 281, 282, 349, 369].filterMap (fun i => lw_tbl[i]?) := by decide +kernel
  rw [hp] at hw
  obtain ⟨i, -, hi⟩ := List.mem_filterMap.mp hw
  exact List.mem_of_getElem? hi
end
section
/-! V: a walk over ONE pool: f says what lies at each address; fNo: nothing of ours. L, H, locs, ls are hidden. Numbers are Int: iv z, jv z. -/
abbrev xG : Type := va_G × (Nat → ClassId)
abbrev xF : Type := Nat → va_E
abbrev xT : Type := Program × Launch × Env × Room × State × MethodId × Array Value × List Frame × Method × Code × (Nat → Prop) × Heap × Nat × (State → Prop)
def iv (z : Int) : Int32 := Int32.ofInt z
def jv (z : Int) : Int64 := Int64.ofInt z
def ir (z : Int) : Prop := -2147483648 ≤ z ∧ z ≤ 2147483647
def jr (z : Int) : Prop := -9223372036854775808 ≤ z ∧ z ≤ 9223372036854775807
theorem iv_toInt {z : Int} (h : ir z) : (iv z).toInt = z := Int32.toInt_ofInt_of_le (by have := h.1; omega) (by have := h.2; omega)
theorem jv_toInt {z : Int} (h : jr z) : (jv z).toInt = z := Int64.toInt_ofInt_of_le (by have := h.1; omega) (by have := h.2; omega)
theorem iv_of (x : Int32) : ∃ z, ir z ∧ x = iv z := ⟨x.toInt, ⟨by have := x.le_toInt; omega, by have := x.toInt_lt; omega⟩, (Int32.ofInt_toInt x).symm⟩
theorem iv_lt {a b : Int} (ha : ir a) (hb : ir b) : iv a < iv b ↔ a < b := by rw [Int32.lt_iff_toInt_lt, iv_toInt ha, iv_toInt hb]
theorem iv_le {a b : Int} (ha : ir a) (hb : ir b) : iv a ≤ iv b ↔ a ≤ b := by rw [Int32.le_iff_toInt_le, iv_toInt ha, iv_toInt hb]
theorem iv_eq {a b : Int} (ha : ir a) (hb : ir b) : iv a = iv b ↔ a = b := ⟨fun h => by rw [← iv_toInt ha, ← iv_toInt hb, h], fun h => by rw [h]⟩
theorem iv_add (a b : Int) : iv a + iv b = iv (a + b) := (Int32.ofInt_add a b).symm
theorem iv_sub (a b : Int) : iv a - iv b = iv (a - b) := (Int32.ofInt_sub a b).symm
theorem iv_mul (a b : Int) : iv a * iv b = iv (a * b) := (Int32.ofInt_mul a b).symm
theorem iv_neg (a : Int) : - iv a = iv (-a) := (Int32.ofInt_neg a).symm
theorem jv_add (a b : Int) : jv a + jv b = jv (a + b) := (Int64.ofInt_add a b).symm
theorem jv_sub (a b : Int) : jv a - jv b = jv (a - b) := (Int64.ofInt_sub a b).symm
theorem jv_mul (a b : Int) : jv a * jv b = jv (a * b) := (Int64.ofInt_mul a b).symm
theorem iv_nat (n : Nat) : iv (n : Int) = nI n := Int32.ofInt_eq_ofNat
theorem iv_in {z : Int} {k n : Nat} (hz : z = k) (hk : k < n) (hn : n < 2147483648) : vp_in (iv z) n ∧ (iv z).toNatClampNeg = k := by
  subst hz
  rw [iv_nat]
  exact ⟨vp_in_nI hk (by omega), nI_clamp (by omega)⟩
theorem ir_n {n : Nat} (h : n < 2147483648) : ir n := ⟨by omega, by omega⟩
theorem ir_0 : ir 0 := ⟨by decide, by decide⟩
theorem iv_long {a : Int} (h : ir a) : (iv a).toInt64 = jv a := Int64.toInt_inj.mp (by rw [Int32.toInt_toInt64, iv_toInt h, jv_toInt ⟨by have := h.1; omega, by have := h.2; omega⟩])
theorem jv_cmp {a b : Int} (ha : jr a) (hb : jr b) : lg_cmp (jv a) (jv b) = iv (if b < a then 1 else if a = b then 0 else -1) := by
  have e1 : jv b < jv a ↔ b < a := by rw [Int64.lt_iff_toInt_lt, jv_toInt ha, jv_toInt hb]
  have e2 : jv a = jv b ↔ a = b := ⟨fun h => by rw [← jv_toInt ha, ← jv_toInt hb, h], fun h => by rw [h]⟩
  by_cases h1 : b < a
  · simp only [lg_cmp, e1, h1, if_true]; rfl
  · by_cases h2 : a = b
    · simp only [lg_cmp, e1, e2, h2, if_true]; simp; rfl
    · simp only [lg_cmp, e1, e2, h1, h2, if_false]; rfl
def fNo : va_E := .inr (999, [])
abbrev eO (ci : Nat) (fs : List Value) : va_E := .inr (ci, fs)
def eJ (G : xG) (n : Nat) (g : Nat → Int) : va_E := .inl (G.2 0, n, .inl (fun j => iv (g j)))
def eR (G : xG) (t n : Nat) (g : Nat → Option Nat) : va_E := .inl (G.2 t, n, .inr (.inr (.inr (.inr g))))
def xt (G : xG) : List (ClassId × FieldType) := [(G.2 0, .int), (G.2 1, .array .int), (G.2 2, .object "BestSplits$Node"), (G.2 3, .object "BestSplits$Fraction"), (G.2 4, .long)]
def vW (L : List Nat) (f : xF) : Prop := ∀ a, a ∉ L → f a = fNo
theorem vW.mem {L : List Nat} {f : xF} (h : vW L f) {a : Nat} (ha : f a ≠ fNo) : a ∈ L := Classical.byContradiction fun q => ha (h a q)
theorem vW.up {L : List Nat} {f : xF} (h : vW L f) {a : Nat} (ha : a ∈ L) (x : va_E) : vW L (va_up f a x) := fun b hb => by
  rw [va_up_ne _ _ (fun q => hb (by rw [q]; exact ha))]
  exact h b hb
theorem vW.push {L : List Nat} {f : xF} (h : vW L f) (a : Nat) (x : va_E) : vW (L ++ [a]) (va_up f a x) := fun b hb => by
  have h1 : b ∉ L := fun q => hb (List.mem_append_left _ q)
  have h2 : b ≠ a := fun q => hb (by rw [q]; simp)
  rw [va_up_ne _ _ h2]
  exact h b h1
theorem pl_get {L : List Nat} {f : xF} {a : Nat} (h : a ∈ L) : ∃ k : Nat, (va_pl L f)[k]? = some (a, f a) := by
  have := va_pl_get (X := []) (f := f) h
  simpa using this
theorem pl_set {A : Nat → Prop} {L : List Nat} {f : xF} {a k : Nat} {x : va_E} (hD : va_D A (va_pl L f)) (h : a ∈ L) (hk : (va_pl L f)[k]? = some (a, f a)) : (va_pl L f).set k (a, x) = va_pl L (va_up f a x) := by
  have := va_pl_set (X := []) (e := x) (by simpa using hD) h (by simpa using hk)
  simpa using this
theorem eO_ne {ci : Nat} {fs : List Value} (h : ci < 999) : (eO ci fs : va_E) ≠ fNo := fun q => by
  have : ci = 999 := congrArg (fun (x : va_E) => match x with | .inr y => y.1 | .inl _ => 0) q
  omega
theorem eJ_ne {G : xG} {n : Nat} {g : Nat → Int} : eJ G n g ≠ fNo := fun q => by cases q
theorem eR_ne {G : xG} {t n : Nat} {g : Nat → Option Nat} : eR G t n g ≠ fNo := fun q => by cases q
theorem eJ_up {G : xG} {n : Nat} (g : Nat → Int) (k : Nat) (z : Int) : (.inl (G.2 0, n, .inl (upd (fun j => iv (g j)) k (iv z))) : va_E) = eJ G n (va_up g k z) := by
  have : upd (fun j => iv (g j)) k (iv z) = fun j => iv (va_up g k z j) := by
    funext j
    by_cases h : j = k
    · subst h; simp [upd, va_up]
    · simp [upd, va_up, h]
  rw [this]; rfl
def vV (G : xG) (X : xT) (kc ks pc : Nat) (lv : List (Nat × Value)) (st : List Value) (f : xF) : Prop := match X with
  | (p, l, e, R, s, m, args, below, meth, c, A, H0, n0, Q) => ∀ (L : List Nat) (H : Heap) (locs : List Loc) (ls : Array Slot), vW L f → va_P G.1 zCl (va_pl L f) H → va_D A (va_pl L f) → va_S A H0 H locs → lv_has ls n0 lv → W p l e R s m args below meth c H locs kc ks Q (F0 m pc ls st)
def xOk (G : xG) (X : xT) (cc : ByteArray) (y : MethodName) (nL : Nat) (rm : Room) : Prop := match X with
  | (p, l, e, R, s, m, args, below, meth, c, A, H0, n0, Q) => p.tables.exec = Jvm.exec ∧ c.code = cc ∧ n0 = nL ∧ c.maxLocals = nL ∧ s.vm.findClass y.cls = some m.cls ∧ (∀ w ∈ zT, w.before args s = true) ∧ (∀ w ∈ zN, va_Nw w s) ∧ va_K G.1 zCl (xt G) s ∧ (∀ q, H0.size ≤ q → A q) ∧ R = rm ∧ meth.name = y.name
/-- what the tables say of a field by a place of the pool: it may be read -/
def FldA (own : String) (idx ci k : Nat) : Prop := ∃ (C : String) (T : u_T) (N : Nat), zCl[ci]? = some (C, T, N) ∧ k < N ∧ ci < 999 ∧ (∀ w ∈ u_ws C T N, w ∈ zT) ∧ (T k).1 = C ∧ (Cond.fieldLink own idx C (T k).2.1 (T k).2.2.1 ∈ zT ∨ ∃ host, Cond.fieldLinkNest own idx C (T k).2.1 (T k).2.2.1 host ∈ zN)
/-- it may be written -/
def PutA (own : String) (idx ci k : Nat) (ty : FieldType) : Prop := ∃ (C : String) (T : u_T) (N : Nat) (ty0 : Nat → FieldType), zCl[ci]? = some (C, T, N) ∧ k < N ∧ ci < 999 ∧ (∀ w ∈ u_ws C T N, w ∈ zT) ∧ (T k).1 = C ∧ (∀ k, k < N → parseFieldDescriptor (T k).2.2.1 = some (ty0 k)) ∧ (∀ a, a < N → ∀ b, b < N → a ≠ b → (T a).2.1 ≠ (T b).2.1) ∧ parseFieldDescriptor (T k).2.2.1 = some ty ∧
  ((T k).2.2.2 = false ∧ (Cond.fieldLink own idx C (T k).2.1 (T k).2.2.1 ∈ zT ∨ ∃ host, Cond.fieldLinkNest own idx C (T k).2.1 (T k).2.2.1 host ∈ zN))
/-- a final one, in its own constructor -/
def PutF (own : String) (idx ci k : Nat) (ty : FieldType) : Prop := ∃ (C : String) (T : u_T) (N : Nat) (ty0 : Nat → FieldType), zCl[ci]? = some (C, T, N) ∧ k < N ∧ ci < 999 ∧ (∀ w ∈ u_ws C T N, w ∈ zT) ∧ (T k).1 = C ∧ (∀ k, k < N → parseFieldDescriptor (T k).2.2.1 = some (ty0 k)) ∧ (∀ a, a < N → ∀ b, b < N → a ≠ b → (T a).2.1 ≠ (T b).2.1) ∧ parseFieldDescriptor (T k).2.2.1 = some ty ∧
  (T k).2.2.2 = true ∧ Cond.fieldLink own idx C (T k).2.1 (T k).2.2.1 ∈ zT ∧ C = own
/-- a class's objects may be made; fs: what a new one holds -/
def NewA (own : String) (idx ci N : Nat) (fs : List Value) : Prop := ∃ (C : String) (T : u_T) (ty0 : Nat → FieldType), zCl[ci]? = some (C, T, N) ∧ ci < 999 ∧ (∀ w ∈ u_ws C T N, w ∈ zT) ∧ (∀ k, k < N → parseFieldDescriptor (T k).2.2.1 = some (ty0 k)) ∧ (∀ j, j < N → defaultValue (ty0 j) = vp_V fs j) ∧ Cond.classLink own idx C ∈ zT ∧ Cond.instantiable C N ∈ zT ∧ Cond.initialized C ∈ zT
def CalD (y : MethodName) (n : Nat) : Prop := y.cls ≠ "java/lang/invoke/MethodHandle" ∧ y.cls ≠ "java/lang/invoke/VarHandle" ∧ (parseMethodDescriptor y.desc).map (fun d => d.parameters.length) = some n
def CalL (own : String) (idx : Nat) (y : MethodName) : Prop := Cond.methodLink own idx y ∈ zT ∨ ∃ host, Cond.methodLinkNest own idx y host ∈ zN
def CalV (own : String) (idx : Nat) (y : MethodName) (cw : Cond) (n ci : Nat) : Prop := cw ∈ zT ∧ CalL own idx y ∧ Cond.instanceMethod y ∈ zT ∧ Cond.selects y.cls y y ∈ zT ∧ Cond.initialized y.cls ∈ zT ∧ CalD y n ∧ ci < 999 ∧ ∃ (T : u_T) (N : Nat), zCl[ci]? = some (y.cls, T, N)
def CalS (own : String) (idx : Nat) (y : MethodName) (cw : Cond) (n : Nat) : Prop := cw ∈ zT ∧ CalL own idx y ∧ Cond.static y ∈ zT ∧ Cond.initialized y.cls ∈ zT ∧ CalD y n
def CalI (own : String) (idx : Nat) (y : MethodName) (cw : Cond) (n : Nat) : Prop := cw ∈ zT ∧ CalL own idx y ∧ Cond.instanceMethod y ∈ zT ∧ y.name = "<init>" ∧ Cond.initialized y.cls ∈ zT ∧ CalD y n
theorem aoA_moved {t : FieldType} {u U : State} (hvm : u.vm.Alike U.vm) (h : va_Nw (.arrayOver (.array t)) u) : va_Nw (.arrayOver (.array t)) U := by
  sorry
theorem zN_warm {s U : State} (hW : s.WarmedH U.vm) (h : ∀ w ∈ zN, va_Nw w s) : ∀ w ∈ zN, va_Nw w U := fun w hw => by
  have h0 := h w hw
  simp only [zN, List.mem_cons, List.not_mem_nil, or_false] at hw
  rcases hw with rfl | rfl | rfl | rfl | rfl | rfl | rfl | rfl | rfl | rfl | rfl | rfl <;> first | exact va_Nw.warmM hW h0 | exact va_Nw.warmF hW h0 | exact va_AO.moved hW.alike h0 | exact aoA_moved hW.alike h0
theorem zN_same {s U : State} (h9 : s.vm = U.vm) (h : ∀ w ∈ zN, va_Nw w s) : ∀ w ∈ zN, va_Nw w U := fun w hw => by
  have h0 := h w hw
  simp only [zN, List.mem_cons, List.not_mem_nil, or_false] at hw
  rcases hw with rfl | rfl | rfl | rfl | rfl | rfl | rfl | rfl | rfl | rfl | rfl | rfl <;> first | exact va_Nw.same rfl h9 h0 | exact va_AO.moved (h9 ▸ Vm.Alike.refl s.vm) h0 | exact aoA_moved (h9 ▸ Vm.Alike.refl s.vm) h0
theorem lw_goodIn {cw : Cond} (h : cw ∈ zT) : GoodIn zT (cw :: zT) := fun w hw => by
  have h1 : w ∈ zT := by
    rcases List.mem_cons.mp hw with rfl | q
    · exact h
    · exact q
  exact ⟨h1, zT_good w h1⟩
section VV
variable {G : xG} {X : xT} {cc : ByteArray} {y : MethodName} {nL : Nat} {rm : Room} {kc ks pc : Nat} {lv lv' : List (Nat × Value)} {st : List Value} {f : xF}
theorem v_iconst (h : xOk G X cc y nL rm) (z : Int) (hdg : decode cc pc = .ok (.iconst z, 1)) (k : vV G X kc ks (pc + 1) lv (.int (iv z) :: st) f) : vV G X kc ks pc lv st f := by
  obtain ⟨p, l, e, R, s, m, args, below, meth, c, A, H0, n0, Q⟩ := X
  obtain ⟨hx, hb, rfl, h⟩ := h
  exact fun L H locs ls h1 h2 h3 h4 h5 => lv_iconst hx hb hdg rfl (k L H locs ls h1 h2 h3 h4 h5)
theorem v_bipush (h : xOk G X cc y nL rm) (z : Int) (hdg : decode cc pc = .ok (.bipush z, 2)) (hz : (Int8.ofInt z).toInt32 = iv z) (k : vV G X kc ks (pc + 2) lv (.int (iv z) :: st) f) : vV G X kc ks pc lv st f := by
  obtain ⟨p, l, e, R, s, m, args, below, meth, c, A, H0, n0, Q⟩ := X
  obtain ⟨hx, hb, rfl, h⟩ := h
  exact fun L H locs ls h1 h2 h3 h4 h5 => lv_bipush hx hb hdg hz (k L H locs ls h1 h2 h3 h4 h5)
theorem v_sipush (h : xOk G X cc y nL rm) (z : Int) (hdg : decode cc pc = .ok (.sipush z, 3)) (hz : (Int16.ofInt z).toInt32 = iv z) (k : vV G X kc ks (pc + 3) lv (.int (iv z) :: st) f) : vV G X kc ks pc lv st f := by
  obtain ⟨p, l, e, R, s, m, args, below, meth, c, A, H0, n0, Q⟩ := X
  obtain ⟨hx, hb, rfl, h⟩ := h
  exact fun L H locs ls h1 h2 h3 h4 h5 => lv_sipush hx hb hdg hz (k L H locs ls h1 h2 h3 h4 h5)
theorem v_iadd (h : xOk G X cc y nL rm) {a b : Int} (hdg : decode cc pc = .ok (.iadd, 1)) (k : vV G X kc ks (pc + 1) lv (.int (iv (a + b)) :: st) f) : vV G X kc ks pc lv (.int (iv b) :: .int (iv a) :: st) f := by
  obtain ⟨p, l, e, R, s, m, args, below, meth, c, A, H0, n0, Q⟩ := X
  obtain ⟨hx, hb, rfl, h⟩ := h
  exact fun L H locs ls h1 h2 h3 h4 h5 => lv_iadd hx hb hdg (by rw [iv_add]; exact k L H locs ls h1 h2 h3 h4 h5)
theorem v_isub (h : xOk G X cc y nL rm) {a b : Int} (hdg : decode cc pc = .ok (.isub, 1)) (k : vV G X kc ks (pc + 1) lv (.int (iv (a - b)) :: st) f) : vV G X kc ks pc lv (.int (iv b) :: .int (iv a) :: st) f := by
  obtain ⟨p, l, e, R, s, m, args, below, meth, c, A, H0, n0, Q⟩ := X
  obtain ⟨hx, hb, rfl, h⟩ := h
  exact fun L H locs ls h1 h2 h3 h4 h5 => lv_isub hx hb hdg (by rw [iv_sub]; exact k L H locs ls h1 h2 h3 h4 h5)
theorem v_imul (h : xOk G X cc y nL rm) {a b : Int} (hdg : decode cc pc = .ok (.imul, 1)) (k : vV G X kc ks (pc + 1) lv (.int (iv (a * b)) :: st) f) : vV G X kc ks pc lv (.int (iv b) :: .int (iv a) :: st) f := by
  obtain ⟨p, l, e, R, s, m, args, below, meth, c, A, H0, n0, Q⟩ := X
  obtain ⟨hx, hb, rfl, h⟩ := h
  exact fun L H locs ls h1 h2 h3 h4 h5 => lv_imul hx hb hdg (by rw [iv_mul]; exact k L H locs ls h1 h2 h3 h4 h5)
theorem v_ladd (h : xOk G X cc y nL rm) {a b : Int} (hdg : decode cc pc = .ok (.ladd, 1)) (k : vV G X kc ks (pc + 1) lv (.long (jv (a + b)) :: st) f) : vV G X kc ks pc lv (.long (jv b) :: .long (jv a) :: st) f := by
  obtain ⟨p, l, e, R, s, m, args, below, meth, c, A, H0, n0, Q⟩ := X
  obtain ⟨hx, hb, rfl, h⟩ := h
  exact fun L H locs ls h1 h2 h3 h4 h5 => lv_ladd hx hb hdg (by rw [jv_add]; exact k L H locs ls h1 h2 h3 h4 h5)
theorem v_lsub (h : xOk G X cc y nL rm) {a b : Int} (hdg : decode cc pc = .ok (.lsub, 1)) (k : vV G X kc ks (pc + 1) lv (.long (jv (a - b)) :: st) f) : vV G X kc ks pc lv (.long (jv b) :: .long (jv a) :: st) f := by
  obtain ⟨p, l, e, R, s, m, args, below, meth, c, A, H0, n0, Q⟩ := X
  obtain ⟨hx, hb, rfl, h⟩ := h
  exact fun L H locs ls h1 h2 h3 h4 h5 => lv_lsub hx hb hdg (by rw [jv_sub]; exact k L H locs ls h1 h2 h3 h4 h5)
theorem v_lmul (h : xOk G X cc y nL rm) {a b : Int} (hdg : decode cc pc = .ok (.lmul, 1)) (k : vV G X kc ks (pc + 1) lv (.long (jv (a * b)) :: st) f) : vV G X kc ks pc lv (.long (jv b) :: .long (jv a) :: st) f := by
  obtain ⟨p, l, e, R, s, m, args, below, meth, c, A, H0, n0, Q⟩ := X
  obtain ⟨hx, hb, rfl, h⟩ := h
  exact fun L H locs ls h1 h2 h3 h4 h5 => lv_lmul hx hb hdg (by rw [jv_mul]; exact k L H locs ls h1 h2 h3 h4 h5)
theorem v_ineg (h : xOk G X cc y nL rm) {a : Int} (hdg : decode cc pc = .ok (.ineg, 1)) (k : vV G X kc ks (pc + 1) lv (.int (iv (-a)) :: st) f) : vV G X kc ks pc lv (.int (iv a) :: st) f := by
  obtain ⟨p, l, e, R, s, m, args, below, meth, c, A, H0, n0, Q⟩ := X
  obtain ⟨hx, hb, rfl, h⟩ := h
  exact fun L H locs ls h1 h2 h3 h4 h5 => lv_ineg hx hb hdg (by rw [iv_neg]; exact k L H locs ls h1 h2 h3 h4 h5)
theorem v_iand (h : xOk G X cc y nL rm) {a b z : Int} (hdg : decode cc pc = .ok (.iand, 1)) (hz : iv a &&& iv b = iv z) (k : vV G X kc ks (pc + 1) lv (.int (iv z) :: st) f) : vV G X kc ks pc lv (.int (iv b) :: .int (iv a) :: st) f := by
  obtain ⟨p, l, e, R, s, m, args, below, meth, c, A, H0, n0, Q⟩ := X
  obtain ⟨hx, hb, rfl, h⟩ := h
  exact fun L H locs ls h1 h2 h3 h4 h5 => lv_iand hx hb hdg (by rw [hz]; exact k L H locs ls h1 h2 h3 h4 h5)
theorem v_ior (h : xOk G X cc y nL rm) {a b z : Int} (hdg : decode cc pc = .ok (.ior, 1)) (hz : iv a ||| iv b = iv z) (k : vV G X kc ks (pc + 1) lv (.int (iv z) :: st) f) : vV G X kc ks pc lv (.int (iv b) :: .int (iv a) :: st) f := by
  obtain ⟨p, l, e, R, s, m, args, below, meth, c, A, H0, n0, Q⟩ := X
  obtain ⟨hx, hb, rfl, h⟩ := h
  exact fun L H locs ls h1 h2 h3 h4 h5 => lv_ior hx hb hdg (by rw [hz]; exact k L H locs ls h1 h2 h3 h4 h5)
theorem v_ixor (h : xOk G X cc y nL rm) {a b z : Int} (hdg : decode cc pc = .ok (.ixor, 1)) (hz : iv a ^^^ iv b = iv z) (k : vV G X kc ks (pc + 1) lv (.int (iv z) :: st) f) : vV G X kc ks pc lv (.int (iv b) :: .int (iv a) :: st) f := by
  obtain ⟨p, l, e, R, s, m, args, below, meth, c, A, H0, n0, Q⟩ := X
  obtain ⟨hx, hb, rfl, h⟩ := h
  exact fun L H locs ls h1 h2 h3 h4 h5 => lv_ixor hx hb hdg (by rw [hz]; exact k L H locs ls h1 h2 h3 h4 h5)
theorem v_ishl (h : xOk G X cc y nL rm) {a b z : Int} (hdg : decode cc pc = .ok (.ishl, 1)) (hz : iv a <<< (iv b &&& 31) = iv z) (k : vV G X kc ks (pc + 1) lv (.int (iv z) :: st) f) : vV G X kc ks pc lv (.int (iv b) :: .int (iv a) :: st) f := by
  obtain ⟨p, l, e, R, s, m, args, below, meth, c, A, H0, n0, Q⟩ := X
  obtain ⟨hx, hb, rfl, h⟩ := h
  exact fun L H locs ls h1 h2 h3 h4 h5 => lv_ishl hx hb hdg (by rw [hz]; exact k L H locs ls h1 h2 h3 h4 h5)
theorem v_ishr (h : xOk G X cc y nL rm) {a b z : Int} (hdg : decode cc pc = .ok (.ishr, 1)) (hz : iv a >>> (iv b &&& 31) = iv z) (k : vV G X kc ks (pc + 1) lv (.int (iv z) :: st) f) : vV G X kc ks pc lv (.int (iv b) :: .int (iv a) :: st) f := by
  obtain ⟨p, l, e, R, s, m, args, below, meth, c, A, H0, n0, Q⟩ := X
  obtain ⟨hx, hb, rfl, h⟩ := h
  exact fun L H locs ls h1 h2 h3 h4 h5 => lv_ishr hx hb hdg (by rw [hz]; exact k L H locs ls h1 h2 h3 h4 h5)
theorem v_iushr (h : xOk G X cc y nL rm) {a b z : Int} (hdg : decode cc pc = .ok (.iushr, 1)) (hz : ((iv a).toUInt32 >>> ((iv b).toUInt32 &&& Int32.toUInt32 31)).toInt32 = iv z) (k : vV G X kc ks (pc + 1) lv (.int (iv z) :: st) f) : vV G X kc ks pc lv (.int (iv b) :: .int (iv a) :: st) f := by
  obtain ⟨p, l, e, R, s, m, args, below, meth, c, A, H0, n0, Q⟩ := X
  obtain ⟨hx, hb, rfl, h⟩ := h
  exact fun L H locs ls h1 h2 h3 h4 h5 => lv_iushr hx hb hdg hz (k L H locs ls h1 h2 h3 h4 h5)
theorem v_idiv (h : xOk G X cc y nL rm) {a b z : Int} (hdg : decode cc pc = .ok (.idiv, 1)) (hne : ¬ iv b = 0) (hz : iv a / iv b = iv z) (k : vV G X kc ks (pc + 1) lv (.int (iv z) :: st) f) : vV G X kc ks pc lv (.int (iv b) :: .int (iv a) :: st) f := by
  obtain ⟨p, l, e, R, s, m, args, below, meth, c, A, H0, n0, Q⟩ := X
  obtain ⟨hx, hb, rfl, h⟩ := h
  exact fun L H locs ls h1 h2 h3 h4 h5 => lv_idiv hx hb hdg hne (by rw [hz]; exact k L H locs ls h1 h2 h3 h4 h5)
theorem v_irem (h : xOk G X cc y nL rm) {a b z : Int} (hdg : decode cc pc = .ok (.irem, 1)) (hne : ¬ iv b = 0) (hz : iv a - iv a / iv b * iv b = iv z) (k : vV G X kc ks (pc + 1) lv (.int (iv z) :: st) f) : vV G X kc ks pc lv (.int (iv b) :: .int (iv a) :: st) f := by
  obtain ⟨p, l, e, R, s, m, args, below, meth, c, A, H0, n0, Q⟩ := X
  obtain ⟨hx, hb, rfl, h⟩ := h
  exact fun L H locs ls h1 h2 h3 h4 h5 => lv_irem hx hb hdg hne (by rw [hz]; exact k L H locs ls h1 h2 h3 h4 h5)
theorem v_i2l (h : xOk G X cc y nL rm) {a : Int} (hdg : decode cc pc = .ok (.i2l, 1)) (ha : ir a) (k : vV G X kc ks (pc + 1) lv (.long (jv a) :: st) f) : vV G X kc ks pc lv (.int (iv a) :: st) f := by
  obtain ⟨p, l, e, R, s, m, args, below, meth, c, A, H0, n0, Q⟩ := X
  obtain ⟨hx, hb, rfl, h⟩ := h
  intro L H locs ls h1 h2 h3 h4 h5
  exact lv_i2l hx hb hdg (iv_long ha) (k L H locs ls h1 h2 h3 h4 h5)
theorem v_lcmp (h : xOk G X cc y nL rm) {a b : Int} (hdg : decode cc pc = .ok (.lcmp, 1)) (ha : jr a) (hc : jr b) (k : vV G X kc ks (pc + 1) lv (.int (iv (if b < a then 1 else if a = b then 0 else -1)) :: st) f) : vV G X kc ks pc lv (.long (jv b) :: .long (jv a) :: st) f := by
  obtain ⟨p, l, e, R, s, m, args, below, meth, c, A, H0, n0, Q⟩ := X
  obtain ⟨hx, hb, rfl, h⟩ := h
  intro L H locs ls h1 h2 h3 h4 h5
  exact W.lcmp hx hb hdg (by rw [jv_cmp ha hc]; exact k L H locs ls h1 h2 h3 h4 h5)
theorem v_dup (h : xOk G X cc y nL rm) {va : Value} (hdg : decode cc pc = .ok (.dup, 1)) (hva : va.category = 1) (k : vV G X kc ks (pc + 1) lv (va :: va :: st) f) : vV G X kc ks pc lv (va :: st) f := by
  obtain ⟨p, l, e, R, s, m, args, below, meth, c, A, H0, n0, Q⟩ := X
  obtain ⟨hx, hb, rfl, h⟩ := h
  exact fun L H locs ls h1 h2 h3 h4 h5 => lv_dup hx hb hdg hva (k L H locs ls h1 h2 h3 h4 h5)
theorem v_pop (h : xOk G X cc y nL rm) {va : Value} (hdg : decode cc pc = .ok (.pop, 1)) (hva : va.category = 1) (k : vV G X kc ks (pc + 1) lv st f) : vV G X kc ks pc lv (va :: st) f := by
  obtain ⟨p, l, e, R, s, m, args, below, meth, c, A, H0, n0, Q⟩ := X
  obtain ⟨hx, hb, rfl, h⟩ := h
  exact fun L H locs ls h1 h2 h3 h4 h5 => lv_pop hx hb hdg hva (k L H locs ls h1 h2 h3 h4 h5)
theorem v_dup_x1 (h : xOk G X cc y nL rm) {va vb : Value} (hdg : decode cc pc = .ok (.dup_x1, 1)) (hva : va.category = 1) (hvb : vb.category = 1) (k : vV G X kc ks (pc + 1) lv (va :: vb :: va :: st) f) : vV G X kc ks pc lv (va :: vb :: st) f := by
  obtain ⟨p, l, e, R, s, m, args, below, meth, c, A, H0, n0, Q⟩ := X
  obtain ⟨hx, hb, rfl, h⟩ := h
  exact fun L H locs ls h1 h2 h3 h4 h5 => lv_dup_x1 hx hb hdg hva hvb (k L H locs ls h1 h2 h3 h4 h5)
theorem v_dup2_11 (h : xOk G X cc y nL rm) {va vb : Value} (hdg : decode cc pc = .ok (.dup2, 1)) (hva : va.category = 1) (hvb : vb.category = 1) (k : vV G X kc ks (pc + 1) lv (va :: vb :: va :: vb :: st) f) : vV G X kc ks pc lv (va :: vb :: st) f := by
  obtain ⟨p, l, e, R, s, m, args, below, meth, c, A, H0, n0, Q⟩ := X
  obtain ⟨hx, hb, rfl, h⟩ := h
  exact fun L H locs ls h1 h2 h3 h4 h5 => lv_dup2_11 hx hb hdg hva hvb (k L H locs ls h1 h2 h3 h4 h5)
theorem v_dup2_2 (h : xOk G X cc y nL rm) {va : Value} (hdg : decode cc pc = .ok (.dup2, 1)) (hva : va.category = 2) (k : vV G X kc ks (pc + 1) lv (va :: va :: st) f) : vV G X kc ks pc lv (va :: st) f := by
  obtain ⟨p, l, e, R, s, m, args, below, meth, c, A, H0, n0, Q⟩ := X
  obtain ⟨hx, hb, rfl, h⟩ := h
  exact fun L H locs ls h1 h2 h3 h4 h5 => lv_dup2_2 hx hb hdg hva (k L H locs ls h1 h2 h3 h4 h5)
theorem v_null (h : xOk G X cc y nL rm) (hdg : decode cc pc = .ok (.aconst_null, 1)) (k : vV G X kc ks (pc + 1) lv (.null :: st) f) : vV G X kc ks pc lv st f := by
  obtain ⟨p, l, e, R, s, m, args, below, meth, c, A, H0, n0, Q⟩ := X
  obtain ⟨hx, hb, rfl, h⟩ := h
  exact fun L H locs ls h1 h2 h3 h4 h5 => lv_null hx hb hdg (k L H locs ls h1 h2 h3 h4 h5)
theorem v_iload_n (h : xOk G X cc y nL rm) {k0 : Fin 4} {x : Int32} (hdg : decode cc pc = .ok (.iload_n k0, 1)) (j : Nat) (hl : lv[j]? = some ((k0 : Nat), .int x)) (k : vV G X kc ks (pc + 1) lv (.int x :: st) f) : vV G X kc ks pc lv st f := by
  obtain ⟨p, l, e, R, s, m, args, below, meth, c, A, H0, n0, Q⟩ := X
  obtain ⟨hx, hb, rfl, h⟩ := h
  exact fun L H locs ls h1 h2 h3 h4 h5 => lv_iload_n hx hb hdg rfl (lv_at h5 j hl) (k L H locs ls h1 h2 h3 h4 h5)
theorem v_iload (h : xOk G X cc y nL rm) {i : Nat} {x : Int32} (hdg : decode cc pc = .ok (.iload i, 2)) (j : Nat) (hl : lv[j]? = some (i, .int x)) (k : vV G X kc ks (pc + 2) lv (.int x :: st) f) : vV G X kc ks pc lv st f := by
  obtain ⟨p, l, e, R, s, m, args, below, meth, c, A, H0, n0, Q⟩ := X
  obtain ⟨hx, hb, rfl, h⟩ := h
  exact fun L H locs ls h1 h2 h3 h4 h5 => lv_iload hx hb hdg (lv_at h5 j hl) (k L H locs ls h1 h2 h3 h4 h5)
theorem v_lload_n (h : xOk G X cc y nL rm) {k0 : Fin 4} {x : Int64} (hdg : decode cc pc = .ok (.lload_n k0, 1)) (j : Nat) (hl : lv[j]? = some ((k0 : Nat), .long x)) (k : vV G X kc ks (pc + 1) lv (.long x :: st) f) : vV G X kc ks pc lv st f := by
  obtain ⟨p, l, e, R, s, m, args, below, meth, c, A, H0, n0, Q⟩ := X
  obtain ⟨hx, hb, rfl, h⟩ := h
  exact fun L H locs ls h1 h2 h3 h4 h5 => lv_lload_n hx hb hdg rfl (lv_at h5 j hl) (k L H locs ls h1 h2 h3 h4 h5)
theorem v_lload (h : xOk G X cc y nL rm) {i : Nat} {x : Int64} (hdg : decode cc pc = .ok (.lload i, 2)) (j : Nat) (hl : lv[j]? = some (i, .long x)) (k : vV G X kc ks (pc + 2) lv (.long x :: st) f) : vV G X kc ks pc lv st f := by
  obtain ⟨p, l, e, R, s, m, args, below, meth, c, A, H0, n0, Q⟩ := X
  obtain ⟨hx, hb, rfl, h⟩ := h
  exact fun L H locs ls h1 h2 h3 h4 h5 => lv_lload hx hb hdg (lv_at h5 j hl) (k L H locs ls h1 h2 h3 h4 h5)
theorem v_aload_n (h : xOk G X cc y nL rm) {k0 : Fin 4} {x : Nat} (hdg : decode cc pc = .ok (.aload_n k0, 1)) (j : Nat) (hl : lv[j]? = some ((k0 : Nat), .ref x)) (k : vV G X kc ks (pc + 1) lv (.ref x :: st) f) : vV G X kc ks pc lv st f := by
  obtain ⟨p, l, e, R, s, m, args, below, meth, c, A, H0, n0, Q⟩ := X
  obtain ⟨hx, hb, rfl, h⟩ := h
  exact fun L H locs ls h1 h2 h3 h4 h5 => lv_aload_n hx hb hdg rfl (lv_at h5 j hl) (k L H locs ls h1 h2 h3 h4 h5)
theorem v_aload (h : xOk G X cc y nL rm) {i : Nat} {x : Nat} (hdg : decode cc pc = .ok (.aload i, 2)) (j : Nat) (hl : lv[j]? = some (i, .ref x)) (k : vV G X kc ks (pc + 2) lv (.ref x :: st) f) : vV G X kc ks pc lv st f := by
  obtain ⟨p, l, e, R, s, m, args, below, meth, c, A, H0, n0, Q⟩ := X
  obtain ⟨hx, hb, rfl, h⟩ := h
  exact fun L H locs ls h1 h2 h3 h4 h5 => lv_aload hx hb hdg (lv_at h5 j hl) (k L H locs ls h1 h2 h3 h4 h5)
theorem v_aload_nN (h : xOk G X cc y nL rm) {k0 : Fin 4} (hdg : decode cc pc = .ok (.aload_n k0, 1)) (j : Nat) (hl : lv[j]? = some ((k0 : Nat), .null)) (k : vV G X kc ks (pc + 1) lv (.null :: st) f) : vV G X kc ks pc lv st f := by
  obtain ⟨p, l, e, R, s, m, args, below, meth, c, A, H0, n0, Q⟩ := X
  obtain ⟨hx, hb, rfl, h⟩ := h
  exact fun L H locs ls h1 h2 h3 h4 h5 => lv_aload_nN hx hb hdg rfl (lv_at h5 j hl) (k L H locs ls h1 h2 h3 h4 h5)
theorem v_aloadN (h : xOk G X cc y nL rm) {i : Nat} (hdg : decode cc pc = .ok (.aload i, 2)) (j : Nat) (hl : lv[j]? = some (i, .null)) (k : vV G X kc ks (pc + 2) lv (.null :: st) f) : vV G X kc ks pc lv st f := by
  obtain ⟨p, l, e, R, s, m, args, below, meth, c, A, H0, n0, Q⟩ := X
  obtain ⟨hx, hb, rfl, h⟩ := h
  exact fun L H locs ls h1 h2 h3 h4 h5 => lv_aloadN hx hb hdg (lv_at h5 j hl) (k L H locs ls h1 h2 h3 h4 h5)
theorem v_istore_n (h : xOk G X cc y nL rm) {k0 : Fin 4} {i : Nat} {x : Int32} (hdg : decode cc pc = .ok (.istore_n k0, 1)) (hi : (k0 : Nat) = i) (hn : i < nL) (hl : (i, Value.int x) :: lv.filter (fun q => !(q.1 == i) && !(q.1 + 1 == i && q.2.category == 2)) = lv') (k : vV G X kc ks (pc + 1) lv' st f) : vV G X kc ks pc lv (Value.int x :: st) f := by
  obtain ⟨p, l, e, R, s, m, args, below, meth, c, A, H0, n0, Q⟩ := X
  obtain ⟨hx, hb, rfl, h⟩ := h
  exact fun L H locs ls h1 h2 h3 h4 h5 => lv_istore_n hx hb hdg hi h5 hn hl (fun ls h5 => k L H locs ls h1 h2 h3 h4 h5)
theorem v_istore (h : xOk G X cc y nL rm) {i : Nat} {x : Int32} (hdg : decode cc pc = .ok (.istore i, 2)) (hn : i < nL) (hl : (i, Value.int x) :: lv.filter (fun q => !(q.1 == i) && !(q.1 + 1 == i && q.2.category == 2)) = lv') (k : vV G X kc ks (pc + 2) lv' st f) : vV G X kc ks pc lv (Value.int x :: st) f := by
  obtain ⟨p, l, e, R, s, m, args, below, meth, c, A, H0, n0, Q⟩ := X
  obtain ⟨hx, hb, rfl, h⟩ := h
  exact fun L H locs ls h1 h2 h3 h4 h5 => lv_istore hx hb hdg h5 hn hl (fun ls h5 => k L H locs ls h1 h2 h3 h4 h5)
theorem v_lstore_n (h : xOk G X cc y nL rm) {k0 : Fin 4} {i : Nat} {x : Int64} (hdg : decode cc pc = .ok (.lstore_n k0, 1)) (hi : (k0 : Nat) = i) (hn : i + 1 < nL) (hl : (i, Value.long x) :: lv.filter (fun q => !(q.1 == i) && (!(q.1 == i + 1) && !(q.1 + 1 == i && q.2.category == 2))) = lv') (k : vV G X kc ks (pc + 1) lv' st f) : vV G X kc ks pc lv (Value.long x :: st) f := by
  obtain ⟨p, l, e, R, s, m, args, below, meth, c, A, H0, n0, Q⟩ := X
  obtain ⟨hx, hb, rfl, h⟩ := h
  exact fun L H locs ls h1 h2 h3 h4 h5 => lv_lstore_n hx hb hdg hi h5 hn hl (fun ls h5 => k L H locs ls h1 h2 h3 h4 h5)
theorem v_lstore (h : xOk G X cc y nL rm) {i : Nat} {x : Int64} (hdg : decode cc pc = .ok (.lstore i, 2)) (hn : i + 1 < nL) (hl : (i, Value.long x) :: lv.filter (fun q => !(q.1 == i) && (!(q.1 == i + 1) && !(q.1 + 1 == i && q.2.category == 2))) = lv') (k : vV G X kc ks (pc + 2) lv' st f) : vV G X kc ks pc lv (Value.long x :: st) f := by
  obtain ⟨p, l, e, R, s, m, args, below, meth, c, A, H0, n0, Q⟩ := X
  obtain ⟨hx, hb, rfl, h⟩ := h
  exact fun L H locs ls h1 h2 h3 h4 h5 => lv_lstore hx hb hdg h5 hn hl (fun ls h5 => k L H locs ls h1 h2 h3 h4 h5)
theorem v_astore_n (h : xOk G X cc y nL rm) {k0 : Fin 4} {i : Nat} {x : Nat} (hdg : decode cc pc = .ok (.astore_n k0, 1)) (hi : (k0 : Nat) = i) (hn : i < nL) (hl : (i, Value.ref x) :: lv.filter (fun q => !(q.1 == i) && !(q.1 + 1 == i && q.2.category == 2)) = lv') (k : vV G X kc ks (pc + 1) lv' st f) : vV G X kc ks pc lv (Value.ref x :: st) f := by
  obtain ⟨p, l, e, R, s, m, args, below, meth, c, A, H0, n0, Q⟩ := X
  obtain ⟨hx, hb, rfl, h⟩ := h
  exact fun L H locs ls h1 h2 h3 h4 h5 => lv_astore_n hx hb hdg hi h5 hn hl (fun ls h5 => k L H locs ls h1 h2 h3 h4 h5)
theorem v_astore (h : xOk G X cc y nL rm) {i : Nat} {x : Nat} (hdg : decode cc pc = .ok (.astore i, 2)) (hn : i < nL) (hl : (i, Value.ref x) :: lv.filter (fun q => !(q.1 == i) && !(q.1 + 1 == i && q.2.category == 2)) = lv') (k : vV G X kc ks (pc + 2) lv' st f) : vV G X kc ks pc lv (Value.ref x :: st) f := by
  obtain ⟨p, l, e, R, s, m, args, below, meth, c, A, H0, n0, Q⟩ := X
  obtain ⟨hx, hb, rfl, h⟩ := h
  exact fun L H locs ls h1 h2 h3 h4 h5 => lv_astore hx hb hdg h5 hn hl (fun ls h5 => k L H locs ls h1 h2 h3 h4 h5)
theorem v_astore_nN (h : xOk G X cc y nL rm) {k0 : Fin 4} {i : Nat} (hdg : decode cc pc = .ok (.astore_n k0, 1)) (hi : (k0 : Nat) = i) (hn : i < nL) (hl : (i, Value.null) :: lv.filter (fun q => !(q.1 == i) && !(q.1 + 1 == i && q.2.category == 2)) = lv') (k : vV G X kc ks (pc + 1) lv' st f) : vV G X kc ks pc lv (.null :: st) f := by
  obtain ⟨p, l, e, R, s, m, args, below, meth, c, A, H0, n0, Q⟩ := X
  obtain ⟨hx, hb, rfl, h⟩ := h
  exact fun L H locs ls h1 h2 h3 h4 h5 => lv_astore_nN hx hb hdg hi h5 hn hl (fun ls h5 => k L H locs ls h1 h2 h3 h4 h5)
theorem v_astoreN (h : xOk G X cc y nL rm) {i : Nat} (hdg : decode cc pc = .ok (.astore i, 2)) (hn : i < nL) (hl : (i, Value.null) :: lv.filter (fun q => !(q.1 == i) && !(q.1 + 1 == i && q.2.category == 2)) = lv') (k : vV G X kc ks (pc + 2) lv' st f) : vV G X kc ks pc lv (.null :: st) f := by
  obtain ⟨p, l, e, R, s, m, args, below, meth, c, A, H0, n0, Q⟩ := X
  obtain ⟨hx, hb, rfl, h⟩ := h
  exact fun L H locs ls h1 h2 h3 h4 h5 => lv_astoreN hx hb hdg h5 hn hl (fun ls h5 => k L H locs ls h1 h2 h3 h4 h5)
theorem v_iinc (h : xOk G X cc y nL rm) {i : Nat} {n a : Int} (hdg : decode cc pc = .ok (.iinc i n, 3)) (j : Nat) (hk : lv[j]? = some (i, .int (iv a))) (hn : i < nL) (hl : (i, Value.int (iv (a + n))) :: lv.filter (fun q => !(q.1 == i) && !(q.1 + 1 == i && q.2.category == 2)) = lv') (k : vV G X kc ks (pc + 3) lv' st f) : vV G X kc ks pc lv st f := by
  obtain ⟨p, l, e, R, s, m, args, below, meth, c, A, H0, n0, Q⟩ := X
  obtain ⟨hx, hb, rfl, h⟩ := h
  exact fun L H locs ls h1 h2 h3 h4 h5 => lv_iinc hx hb hdg h5 hk (iv_add a n) hn hl (fun ls h5 => k L H locs ls h1 h2 h3 h4 h5)
theorem v_lv (ks' : List Nat) (hl : lv_pick lv ks' = lv') (k : vV G X kc ks pc lv' st f) : vV G X kc ks pc lv st f := by
  obtain ⟨p, l, e, R, s, m, args, below, meth, c, A, H0, n0, Q⟩ := X
  exact fun L H locs ls h1 h2 h3 h4 h5 => k L H locs ls h1 h2 h3 h4 (lv_sub h5 ks' hl)
theorem v_eq {st' : List Value} (h : st = st') (k : vV G X kc ks pc lv st' f) : vV G X kc ks pc lv st f := h ▸ k
theorem v_top {x x' : Int32} (h : x = x') (k : vV G X kc ks pc lv (.int x' :: st) f) : vV G X kc ks pc lv (.int x :: st) f := h ▸ k
theorem v_f {f' : xF} (h : f = f') (k : vV G X kc ks pc lv st f') : vV G X kc ks pc lv st f := h ▸ k
theorem v_widen {kc' ks' : Nat} (h1 : kc ≤ kc') (h2 : ks ≤ ks') (k : vV G X kc' ks' pc lv st f) : vV G X kc ks pc lv st f := by
  obtain ⟨p, l, e, R, s, m, args, below, meth, c, A, H0, n0, Q⟩ := X
  exact fun L H locs ls a1 a2 a3 a4 a5 => W.widen h1 h2 (k L H locs ls a1 a2 a3 a4 a5)
theorem v_icmp_eq (h : xOk G X cc y nL rm) {a b : Int} {off : Int} {tgt : Nat} (hdg : decode cc pc = .ok (.if_icmp .eq off, 3)) (ht : (pc : Int) + off = (tgt : Int)) (ha0 : ir a) (hb0 : ir b) (kt : a = b → vV G X kc ks tgt lv st f) (kf : ¬ a = b → vV G X kc ks (pc + 3) lv st f) : vV G X kc ks pc lv (.int (iv b) :: .int (iv a) :: st) f := by
  obtain ⟨p, l, e, R, s, m, args, below, meth, c, A, H0, n0, Q⟩ := X
  obtain ⟨hx, hb, rfl, h⟩ := h
  exact fun L H locs ls h1 h2 h3 h4 h5 => lv_icmp_eq hx hb hdg ht (fun q => kt ((iv_eq ha0 hb0).mp q) L H locs ls h1 h2 h3 h4 h5) (fun q => kf (fun q9 => q ((iv_eq ha0 hb0).mpr q9)) L H locs ls h1 h2 h3 h4 h5)
theorem v_if_eq (h : xOk G X cc y nL rm) {a : Int} {off : Int} {tgt : Nat} (hdg : decode cc pc = .ok (.ifCond .eq off, 3)) (ht : (pc : Int) + off = (tgt : Int)) (ha0 : ir a) (kt : a = 0 → vV G X kc ks tgt lv st f) (kf : ¬ a = 0 → vV G X kc ks (pc + 3) lv st f) : vV G X kc ks pc lv (.int (iv a) :: st) f := by
  obtain ⟨p, l, e, R, s, m, args, below, meth, c, A, H0, n0, Q⟩ := X
  obtain ⟨hx, hb, rfl, h⟩ := h
  have hb0 : ir 0 := ir_0
  have e0 : (0 : Int32) = iv 0 := rfl
  exact fun L H locs ls h1 h2 h3 h4 h5 => lv_if_eq hx hb hdg ht (fun q => kt ((iv_eq ha0 hb0).mp q) L H locs ls h1 h2 h3 h4 h5) (fun q => kf (fun q9 => q ((iv_eq ha0 hb0).mpr q9)) L H locs ls h1 h2 h3 h4 h5)
theorem v_icmp_ne (h : xOk G X cc y nL rm) {a b : Int} {off : Int} {tgt : Nat} (hdg : decode cc pc = .ok (.if_icmp .ne off, 3)) (ht : (pc : Int) + off = (tgt : Int)) (ha0 : ir a) (hb0 : ir b) (kt : ¬ a = b → vV G X kc ks tgt lv st f) (kf : a = b → vV G X kc ks (pc + 3) lv st f) : vV G X kc ks pc lv (.int (iv b) :: .int (iv a) :: st) f := by
  obtain ⟨p, l, e, R, s, m, args, below, meth, c, A, H0, n0, Q⟩ := X
  obtain ⟨hx, hb, rfl, h⟩ := h
  exact fun L H locs ls h1 h2 h3 h4 h5 => lv_icmp_ne hx hb hdg ht (fun q => kt (fun q9 => q ((iv_eq ha0 hb0).mpr q9)) L H locs ls h1 h2 h3 h4 h5) (fun q => kf ((iv_eq ha0 hb0).mp q) L H locs ls h1 h2 h3 h4 h5)
theorem v_if_ne (h : xOk G X cc y nL rm) {a : Int} {off : Int} {tgt : Nat} (hdg : decode cc pc = .ok (.ifCond .ne off, 3)) (ht : (pc : Int) + off = (tgt : Int)) (ha0 : ir a) (kt : ¬ a = 0 → vV G X kc ks tgt lv st f) (kf : a = 0 → vV G X kc ks (pc + 3) lv st f) : vV G X kc ks pc lv (.int (iv a) :: st) f := by
  obtain ⟨p, l, e, R, s, m, args, below, meth, c, A, H0, n0, Q⟩ := X
  obtain ⟨hx, hb, rfl, h⟩ := h
  have hb0 : ir 0 := ir_0
  have e0 : (0 : Int32) = iv 0 := rfl
  exact fun L H locs ls h1 h2 h3 h4 h5 => lv_if_ne hx hb hdg ht (fun q => kt (fun q9 => q ((iv_eq ha0 hb0).mpr q9)) L H locs ls h1 h2 h3 h4 h5) (fun q => kf ((iv_eq ha0 hb0).mp q) L H locs ls h1 h2 h3 h4 h5)
theorem v_icmp_lt (h : xOk G X cc y nL rm) {a b : Int} {off : Int} {tgt : Nat} (hdg : decode cc pc = .ok (.if_icmp .lt off, 3)) (ht : (pc : Int) + off = (tgt : Int)) (ha0 : ir a) (hb0 : ir b) (kt : a < b → vV G X kc ks tgt lv st f) (kf : b ≤ a → vV G X kc ks (pc + 3) lv st f) : vV G X kc ks pc lv (.int (iv b) :: .int (iv a) :: st) f := by
  obtain ⟨p, l, e, R, s, m, args, below, meth, c, A, H0, n0, Q⟩ := X
  obtain ⟨hx, hb, rfl, h⟩ := h
  exact fun L H locs ls h1 h2 h3 h4 h5 => lv_icmp_lt hx hb hdg ht (fun q => kt ((iv_lt ha0 hb0).mp q) L H locs ls h1 h2 h3 h4 h5) (fun q => kf (by have := mt (iv_lt ha0 hb0).mpr q; omega) L H locs ls h1 h2 h3 h4 h5)
theorem v_if_lt (h : xOk G X cc y nL rm) {a : Int} {off : Int} {tgt : Nat} (hdg : decode cc pc = .ok (.ifCond .lt off, 3)) (ht : (pc : Int) + off = (tgt : Int)) (ha0 : ir a) (kt : a < 0 → vV G X kc ks tgt lv st f) (kf : 0 ≤ a → vV G X kc ks (pc + 3) lv st f) : vV G X kc ks pc lv (.int (iv a) :: st) f := by
  obtain ⟨p, l, e, R, s, m, args, below, meth, c, A, H0, n0, Q⟩ := X
  obtain ⟨hx, hb, rfl, h⟩ := h
  have hb0 : ir 0 := ir_0
  have e0 : (0 : Int32) = iv 0 := rfl
  exact fun L H locs ls h1 h2 h3 h4 h5 => lv_if_lt hx hb hdg ht (fun q => kt ((iv_lt ha0 hb0).mp q) L H locs ls h1 h2 h3 h4 h5) (fun q => kf (by have := mt (iv_lt ha0 hb0).mpr q; omega) L H locs ls h1 h2 h3 h4 h5)
theorem v_icmp_ge (h : xOk G X cc y nL rm) {a b : Int} {off : Int} {tgt : Nat} (hdg : decode cc pc = .ok (.if_icmp .ge off, 3)) (ht : (pc : Int) + off = (tgt : Int)) (ha0 : ir a) (hb0 : ir b) (kt : b ≤ a → vV G X kc ks tgt lv st f) (kf : a < b → vV G X kc ks (pc + 3) lv st f) : vV G X kc ks pc lv (.int (iv b) :: .int (iv a) :: st) f := by
  obtain ⟨p, l, e, R, s, m, args, below, meth, c, A, H0, n0, Q⟩ := X
  obtain ⟨hx, hb, rfl, h⟩ := h
  exact fun L H locs ls h1 h2 h3 h4 h5 => lv_icmp_ge hx hb hdg ht (fun q => kt ((iv_le hb0 ha0).mp q) L H locs ls h1 h2 h3 h4 h5) (fun q => kf (by have := mt (iv_le hb0 ha0).mpr q; omega) L H locs ls h1 h2 h3 h4 h5)
theorem v_if_ge (h : xOk G X cc y nL rm) {a : Int} {off : Int} {tgt : Nat} (hdg : decode cc pc = .ok (.ifCond .ge off, 3)) (ht : (pc : Int) + off = (tgt : Int)) (ha0 : ir a) (kt : 0 ≤ a → vV G X kc ks tgt lv st f) (kf : a < 0 → vV G X kc ks (pc + 3) lv st f) : vV G X kc ks pc lv (.int (iv a) :: st) f := by
  obtain ⟨p, l, e, R, s, m, args, below, meth, c, A, H0, n0, Q⟩ := X
  obtain ⟨hx, hb, rfl, h⟩ := h
  have hb0 : ir 0 := ir_0
  have e0 : (0 : Int32) = iv 0 := rfl
  exact fun L H locs ls h1 h2 h3 h4 h5 => lv_if_ge hx hb hdg ht (fun q => kt ((iv_le hb0 ha0).mp q) L H locs ls h1 h2 h3 h4 h5) (fun q => kf (by have := mt (iv_le hb0 ha0).mpr q; omega) L H locs ls h1 h2 h3 h4 h5)
theorem v_icmp_gt (h : xOk G X cc y nL rm) {a b : Int} {off : Int} {tgt : Nat} (hdg : decode cc pc = .ok (.if_icmp .gt off, 3)) (ht : (pc : Int) + off = (tgt : Int)) (ha0 : ir a) (hb0 : ir b) (kt : b < a → vV G X kc ks tgt lv st f) (kf : a ≤ b → vV G X kc ks (pc + 3) lv st f) : vV G X kc ks pc lv (.int (iv b) :: .int (iv a) :: st) f := by
  obtain ⟨p, l, e, R, s, m, args, below, meth, c, A, H0, n0, Q⟩ := X
  obtain ⟨hx, hb, rfl, h⟩ := h
  exact fun L H locs ls h1 h2 h3 h4 h5 => lv_icmp_gt hx hb hdg ht (fun q => kt ((iv_lt hb0 ha0).mp q) L H locs ls h1 h2 h3 h4 h5) (fun q => kf (by have := mt (iv_lt hb0 ha0).mpr q; omega) L H locs ls h1 h2 h3 h4 h5)
theorem v_if_gt (h : xOk G X cc y nL rm) {a : Int} {off : Int} {tgt : Nat} (hdg : decode cc pc = .ok (.ifCond .gt off, 3)) (ht : (pc : Int) + off = (tgt : Int)) (ha0 : ir a) (kt : 0 < a → vV G X kc ks tgt lv st f) (kf : a ≤ 0 → vV G X kc ks (pc + 3) lv st f) : vV G X kc ks pc lv (.int (iv a) :: st) f := by
  obtain ⟨p, l, e, R, s, m, args, below, meth, c, A, H0, n0, Q⟩ := X
  obtain ⟨hx, hb, rfl, h⟩ := h
  have hb0 : ir 0 := ir_0
  have e0 : (0 : Int32) = iv 0 := rfl
  exact fun L H locs ls h1 h2 h3 h4 h5 => lv_if_gt hx hb hdg ht (fun q => kt ((iv_lt hb0 ha0).mp q) L H locs ls h1 h2 h3 h4 h5) (fun q => kf (by have := mt (iv_lt hb0 ha0).mpr q; omega) L H locs ls h1 h2 h3 h4 h5)
theorem v_icmp_le (h : xOk G X cc y nL rm) {a b : Int} {off : Int} {tgt : Nat} (hdg : decode cc pc = .ok (.if_icmp .le off, 3)) (ht : (pc : Int) + off = (tgt : Int)) (ha0 : ir a) (hb0 : ir b) (kt : a ≤ b → vV G X kc ks tgt lv st f) (kf : b < a → vV G X kc ks (pc + 3) lv st f) : vV G X kc ks pc lv (.int (iv b) :: .int (iv a) :: st) f := by
  obtain ⟨p, l, e, R, s, m, args, below, meth, c, A, H0, n0, Q⟩ := X
  obtain ⟨hx, hb, rfl, h⟩ := h
  exact fun L H locs ls h1 h2 h3 h4 h5 => lv_icmp_le hx hb hdg ht (fun q => kt ((iv_le ha0 hb0).mp q) L H locs ls h1 h2 h3 h4 h5) (fun q => kf (by have := mt (iv_le ha0 hb0).mpr q; omega) L H locs ls h1 h2 h3 h4 h5)
theorem v_if_le (h : xOk G X cc y nL rm) {a : Int} {off : Int} {tgt : Nat} (hdg : decode cc pc = .ok (.ifCond .le off, 3)) (ht : (pc : Int) + off = (tgt : Int)) (ha0 : ir a) (kt : a ≤ 0 → vV G X kc ks tgt lv st f) (kf : 0 < a → vV G X kc ks (pc + 3) lv st f) : vV G X kc ks pc lv (.int (iv a) :: st) f := by
  obtain ⟨p, l, e, R, s, m, args, below, meth, c, A, H0, n0, Q⟩ := X
  obtain ⟨hx, hb, rfl, h⟩ := h
  have hb0 : ir 0 := ir_0
  have e0 : (0 : Int32) = iv 0 := rfl
  exact fun L H locs ls h1 h2 h3 h4 h5 => lv_if_le hx hb hdg ht (fun q => kt ((iv_le ha0 hb0).mp q) L H locs ls h1 h2 h3 h4 h5) (fun q => kf (by have := mt (iv_le ha0 hb0).mpr q; omega) L H locs ls h1 h2 h3 h4 h5)
theorem v_goto (h : xOk G X cc y nL rm) {off : Int} {tgt : Nat} (hdg : decode cc pc = .ok (.goto off, 3)) (ht : (pc : Int) + off = (tgt : Int)) (k : vV G X kc ks tgt lv st f) : vV G X kc ks pc lv st f := by
  obtain ⟨p, l, e, R, s, m, args, below, meth, c, A, H0, n0, Q⟩ := X
  obtain ⟨hx, hb, rfl, h⟩ := h
  exact fun L H locs ls h1 h2 h3 h4 h5 => lv_goto hx hb hdg ht (k L H locs ls h1 h2 h3 h4 h5)
theorem v_ifnonnull (h : xOk G X cc y nL rm) {x : Nat} {off : Int} {tgt : Nat} (hdg : decode cc pc = .ok (.ifnonnull off, 3)) (ht : (pc : Int) + off = (tgt : Int)) (k : vV G X kc ks tgt lv st f) : vV G X kc ks pc lv (.ref x :: st) f := by
  obtain ⟨p, l, e, R, s, m, args, below, meth, c, A, H0, n0, Q⟩ := X
  obtain ⟨hx, hb, rfl, h⟩ := h
  exact fun L H locs ls h1 h2 h3 h4 h5 => lv_ifnonnull hx hb hdg ht (k L H locs ls h1 h2 h3 h4 h5)
theorem v_ifnull (h : xOk G X cc y nL rm) {x : Nat} {off : Int} (hdg : decode cc pc = .ok (.ifnull off, 3)) (k : vV G X kc ks (pc + 3) lv st f) : vV G X kc ks pc lv (.ref x :: st) f := by
  obtain ⟨p, l, e, R, s, m, args, below, meth, c, A, H0, n0, Q⟩ := X
  obtain ⟨hx, hb, rfl, h⟩ := h
  exact fun L H locs ls h1 h2 h3 h4 h5 => lv_ifnull hx hb hdg (k L H locs ls h1 h2 h3 h4 h5)
theorem v_ifnullN (h : xOk G X cc y nL rm) {off : Int} {tgt : Nat} (hdg : decode cc pc = .ok (.ifnull off, 3)) (ht : (pc : Int) + off = (tgt : Int)) (k : vV G X kc ks tgt lv st f) : vV G X kc ks pc lv (.null :: st) f := by
  obtain ⟨p, l, e, R, s, m, args, below, meth, c, A, H0, n0, Q⟩ := X
  obtain ⟨hx, hb, rfl, h⟩ := h
  exact fun L H locs ls h1 h2 h3 h4 h5 => lv_ifnullN hx hb hdg ht (k L H locs ls h1 h2 h3 h4 h5)
theorem v_ifnonnullN (h : xOk G X cc y nL rm) {off : Int} (hdg : decode cc pc = .ok (.ifnonnull off, 3)) (k : vV G X kc ks (pc + 3) lv st f) : vV G X kc ks pc lv (.null :: st) f := by
  obtain ⟨p, l, e, R, s, m, args, below, meth, c, A, H0, n0, Q⟩ := X
  obtain ⟨hx, hb, rfl, h⟩ := h
  exact fun L H locs ls h1 h2 h3 h4 h5 => lv_ifnonnullN hx hb hdg (k L H locs ls h1 h2 h3 h4 h5)
theorem v_tableOut (h : xOk G X cc y nL rm) {dflt lo hi a : Int} {offs : Array Int} {len : Nat} {tgt : Nat} (hdg : decode cc pc = .ok (.tableswitch dflt lo hi offs, len)) (ha : ir a) (hq : a < lo ∨ hi < a) (ht : (pc : Int) + dflt = (tgt : Int)) (k : vV G X kc ks tgt lv st f) : vV G X kc ks pc lv (.int (iv a) :: st) f := by
  obtain ⟨p, l, e, R, s, m, args, below, meth, c, A, H0, n0, Q⟩ := X
  obtain ⟨hx, hb, rfl, h⟩ := h
  intro L H locs ls h1 h2 h3 h4 h5
  exact lv_tableOut hx hb hdg (by rw [iv_toInt ha]; exact hq) ht (k L H locs ls h1 h2 h3 h4 h5)
theorem v_tableIn (h : xOk G X cc y nL rm) {dflt lo hi a : Int} {offs : Array Int} {len : Nat} {off : Int} {tgt : Nat} (hdg : decode cc pc = .ok (.tableswitch dflt lo hi offs, len)) (ha : ir a) (hq1 : lo ≤ a) (hq2 : a ≤ hi) (ho : offs[(a - lo).toNat]? = some off) (ht : (pc : Int) + off = (tgt : Int)) (k : vV G X kc ks tgt lv st f) : vV G X kc ks pc lv (.int (iv a) :: st) f := by
  obtain ⟨p, l, e, R, s, m, args, below, meth, c, A, H0, n0, Q⟩ := X
  obtain ⟨hx, hb, rfl, h⟩ := h
  intro L H locs ls h1 h2 h3 h4 h5
  exact lv_tableIn hx hb hdg (by rw [iv_toInt ha]; omega) (by rw [iv_toInt ha]; omega) (by rw [iv_toInt ha]; exact ho) ht (k L H locs ls h1 h2 h3 h4 h5)
theorem v_get (h : xOk G X cc y nL rm) {idx ci kf a : Nat} {fs : List Value} {v : Value} (hF : FldA y.cls idx ci kf) (hdg : decode cc pc = .ok (.getfield idx, 3)) (he : f a = eO ci fs) (hv : fs[kf]? = some v) (k : vV G X kc ks (pc + 3) lv (v :: st) f) : vV G X kc ks pc lv (.ref a :: st) f := by
  obtain ⟨p, l, e, R, s, m, args, below, meth, c, A, H0, n0, Q⟩ := X
  obtain ⟨hx, hb, rfl, hml, hown, hts, hN, hK, hA, hR, hnm⟩ := h
  obtain ⟨C, T, N, hc, hk, h9, hin, hC, hl⟩ := hF
  intro L H locs ls h1 h2 h3 h4 h5
  have hm : a ∈ L := h1.mem (by rw [he]; exact eO_ne h9)
  obtain ⟨q0, hq0⟩ := pl_get (f := f) hm
  rw [he] at hq0
  rcases hl with hl | ⟨host, hl⟩
  · exact va_get (D := G.1) (ci := ci) (v := v) (C := C) (T := T) (N := N) hx hb hts hin hown hK h2 q0 hq0 hc kf hk (hts _ hl) (fun _ q9 => by rw [hC] at q9; exact q9) hv hdg (k L H locs ls h1 h2 h3 h4 h5)
  · exact va_getN (D := G.1) (ci := ci) (v := v) (C := C) (T := T) (N := N) hx hb hts hin hown hK h2 q0 hq0 hc kf hk (va_Nw.use rfl (hN _ hl)) (fun _ q9 => by rw [hC] at q9; exact q9) hv hdg (k L H locs ls h1 h2 h3 h4 h5)
theorem v_put (h : xOk G X cc y nL rm) {idx ci kf a : Nat} {ty : FieldType} {fs fs' : List Value} {v : Value} (hF : PutA y.cls idx ci kf ty) (hdg : decode cc pc = .ok (.putfield idx, 3)) (he : f a = eO ci fs) (hn : narrow ty v = v) (hfit : fits ty v = true) (hl : kf < fs.length) (hs : fs.set kf v = fs') (k : vV G X kc ks (pc + 3) lv st (va_up f a (eO ci fs'))) : vV G X kc ks pc lv (v :: .ref a :: st) f := by
  obtain ⟨p, l, e, R, s, m, args, below, meth, c, A, H0, n0, Q⟩ := X
  obtain ⟨hx, hb, rfl, hml, hown, hts, hN, hK, hA, hR, hnm⟩ := h
  obtain ⟨C, T, N, ty0, hc, hk, h9, hin, hC, hty, hnms, hd, hfin, hlk⟩ := hF
  subst hs
  intro L H locs ls h1 h2 h3 h4 h5
  have hm : a ∈ L := h1.mem (by rw [he]; exact eO_ne h9)
  obtain ⟨q0, hq0⟩ := pl_get (f := f) hm
  have hset := pl_set (x := eO ci (fs.set kf v)) h3 hm hq0
  rw [he] at hq0
  rcases hlk with hlk | ⟨host, hlk⟩
  · exact va_put (D := G.1) (ci := ci) (v := v) (ty := ty) (C := C) (T := T) (N := N) hx hb hts hin ty0 hty hnms hown hK h2 h3 h4 q0 hq0 hc kf hk (hts _ hlk) (fun _ q9 => by rw [hC] at q9; exact q9) hfin hd hn hfit hl hdg (fun H1 locs1 a1 a2 a3 => by rw [hset] at a1 a2; exact k L H1 locs1 ls (h1.up hm _) a1 a2 a3 h5)
  · exact va_putN (D := G.1) (ci := ci) (v := v) (ty := ty) (C := C) (T := T) (N := N) hx hb hts hin ty0 hty hnms hown hK h2 h3 h4 q0 hq0 hc kf hk (va_Nw.use rfl (hN _ hlk)) (fun _ q9 => by rw [hC] at q9; exact q9) hfin hd hn hfit hl hdg (fun H1 locs1 a1 a2 a3 => by rw [hset] at a1 a2; exact k L H1 locs1 ls (h1.up hm _) a1 a2 a3 h5)
theorem v_putF (h : xOk G X cc y nL rm) {idx ci kf a : Nat} {ty : FieldType} {fs fs' : List Value} {v : Value} (hF : PutF y.cls idx ci kf ty) (hy : y.name = "<init>") (hdg : decode cc pc = .ok (.putfield idx, 3)) (he : f a = eO ci fs) (hn : narrow ty v = v) (hfit : fits ty v = true) (hl : kf < fs.length) (hs : fs.set kf v = fs') (k : vV G X kc ks (pc + 3) lv st (va_up f a (eO ci fs'))) : vV G X kc ks pc lv (v :: .ref a :: st) f := by
  obtain ⟨p, l, e, R, s, m, args, below, meth, c, A, H0, n0, Q⟩ := X
  obtain ⟨hx, hb, rfl, hml, hown, hts, hN, hK, hA, hR, hnm⟩ := h
  obtain ⟨C, T, N, ty0, hc, hk, h9, hin, hC, hty, hnms, hd, hfin, hlk, hCo⟩ := hF
  subst hs
  intro L H locs ls h1 h2 h3 h4 h5
  have hm : a ∈ L := h1.mem (by rw [he]; exact eO_ne h9)
  obtain ⟨q0, hq0⟩ := pl_get (f := f) hm
  have hset := pl_set (x := eO ci (fs.set kf v)) h3 hm hq0
  rw [he] at hq0
  exact va_putF (D := G.1) (ci := ci) (v := v) (ty := ty) (C := C) (T := T) (N := N) hx hb hts hin ty0 hty hnms hown hK h2 h3 h4 q0 hq0 hc kf hk (hts _ hlk) (fun _ q9 => by rw [hC] at q9; exact q9) hfin (hnm.trans hy) (hC.trans hCo) hd hn hfit hl hdg (fun H1 locs1 a1 a2 a3 => by rw [hset] at a1 a2; exact k L H1 locs1 ls (h1.up hm _) a1 a2 a3 h5)
theorem v_iald (h : xOk G X cc y nL rm) {a n : Nat} {g : Nat → Int} {z : Int} (hdg : decode cc pc = .ok (.iaload, 1)) (he : f a = eJ G n g) (hn : n < 2147483648) (i : Nat) (hi : z = i) (hin : i < n) (k : vV G X kc ks (pc + 1) lv (.int (iv (g i)) :: st) f) : vV G X kc ks pc lv (.int (iv z) :: .ref a :: st) f := by
  obtain ⟨p, l, e, R, s, m, args, below, meth, c, A, H0, n0, Q⟩ := X
  obtain ⟨hx, hb, rfl, hml, hown, hts, hN, hK, hA, hR, hnm⟩ := h
  intro L H locs ls h1 h2 h3 h4 h5
  have hm : a ∈ L := h1.mem (by rw [he]; exact eJ_ne)
  obtain ⟨q0, hq0⟩ := pl_get (f := f) hm
  rw [he] at hq0
  obtain ⟨b1, b2⟩ := iv_in hi hin hn
  exact va_iald (D := G.1) hx hb hK h2 q0 0 hq0 rfl b1 hdg (by rw [b2]; exact k L H locs ls h1 h2 h3 h4 h5)
theorem v_iast (h : xOk G X cc y nL rm) {a n : Nat} {g : Nat → Int} {z x : Int} (hdg : decode cc pc = .ok (.iastore, 1)) (he : f a = eJ G n g) (hn : n < 2147483648) (i : Nat) (hi : z = i) (hin : i < n) (k : vV G X kc ks (pc + 1) lv st (va_up f a (eJ G n (va_up g i x)))) : vV G X kc ks pc lv (.int (iv x) :: .int (iv z) :: .ref a :: st) f := by
  obtain ⟨p, l, e, R, s, m, args, below, meth, c, A, H0, n0, Q⟩ := X
  obtain ⟨hx, hb, rfl, hml, hown, hts, hN, hK, hA, hR, hnm⟩ := h
  intro L H locs ls h1 h2 h3 h4 h5
  have hm : a ∈ L := h1.mem (by rw [he]; exact eJ_ne)
  obtain ⟨q0, hq0⟩ := pl_get (f := f) hm
  have hset := pl_set (x := eJ G n (va_up g i x)) h3 hm hq0
  rw [he] at hq0
  obtain ⟨b1, b2⟩ := iv_in hi hin hn
  exact va_iast (D := G.1) hx hb hK h2 h3 h4 q0 0 hq0 rfl b1 hdg (fun H1 locs1 a1 a2 a3 => by rw [b2, eJ_up, hset] at a1 a2; exact k L H1 locs1 ls (h1.up hm _) a1 a2 a3 h5)
theorem v_alenJ (h : xOk G X cc y nL rm) {a n : Nat} {g : Nat → Int} (hdg : decode cc pc = .ok (.arraylength, 1)) (he : f a = eJ G n g) (k : vV G X kc ks (pc + 1) lv (.int (iv n) :: st) f) : vV G X kc ks pc lv (.ref a :: st) f := by
  obtain ⟨p, l, e, R, s, m, args, below, meth, c, A, H0, n0, Q⟩ := X
  obtain ⟨hx, hb, rfl, hml, hown, hts, hN, hK, hA, hR, hnm⟩ := h
  intro L H locs ls h1 h2 h3 h4 h5
  have hm : a ∈ L := h1.mem (by rw [he]; exact eJ_ne)
  obtain ⟨q0, hq0⟩ := pl_get (f := f) hm
  rw [he] at hq0
  exact va_alen (D := G.1) hx hb hK h2 q0 0 hq0 rfl (by rw [iv_nat]; rfl) hdg (k L H locs ls h1 h2 h3 h4 h5)
theorem v_aald (h : xOk G X cc y nL rm) {a t n : Nat} {C : String} {g : Nat → Option Nat} {z : Int} (hdg : decode cc pc = .ok (.aaload, 1)) (he : f a = eR G t n g) (ht : (xt G)[t]? = some (G.2 t, .object C)) (hn : n < 2147483648) (i : Nat) (hi : z = i) (hin : i < n) {q : Nat} (hq : g i = some q) (k : vV G X kc ks (pc + 1) lv (.ref q :: st) f) : vV G X kc ks pc lv (.int (iv z) :: .ref a :: st) f := by
  obtain ⟨p, l, e, R, s, m, args, below, meth, c, A, H0, n0, Q⟩ := X
  obtain ⟨hx, hb, rfl, hml, hown, hts, hN, hK, hA, hR, hnm⟩ := h
  intro L H locs ls h1 h2 h3 h4 h5
  have hm : a ∈ L := h1.mem (by rw [he]; exact eR_ne)
  obtain ⟨q0, hq0⟩ := pl_get (f := f) hm
  rw [he] at hq0
  obtain ⟨b1, b2⟩ := iv_in hi hin hn
  exact va_aldq (D := G.1) hx hb hK h2 q0 t hq0 ht b1 hdg (by rw [b2, hq]; exact k L H locs ls h1 h2 h3 h4 h5)
theorem v_aaldA (h : xOk G X cc y nL rm) {a t n : Nat} {ty : FieldType} {g : Nat → Option Nat} {z : Int} (hdg : decode cc pc = .ok (.aaload, 1)) (he : f a = eR G t n g) (ht : (xt G)[t]? = some (G.2 t, .array ty)) (hn : n < 2147483648) (i : Nat) (hi : z = i) (hin : i < n) {q : Nat} (hq : g i = some q) (k : vV G X kc ks (pc + 1) lv (.ref q :: st) f) : vV G X kc ks pc lv (.int (iv z) :: .ref a :: st) f := by
  obtain ⟨p, l, e, R, s, m, args, below, meth, c, A, H0, n0, Q⟩ := X
  obtain ⟨hx, hb, rfl, hml, hown, hts, hN, hK, hA, hR, hnm⟩ := h
  intro L H locs ls h1 h2 h3 h4 h5
  have hm : a ∈ L := h1.mem (by rw [he]; exact eR_ne)
  obtain ⟨q0, hq0⟩ := pl_get (f := f) hm
  rw [he] at hq0
  obtain ⟨b1, b2⟩ := iv_in hi hin hn
  have hlt : (iv z).toNatClampNeg < n := by rw [b2]; exact hin
  exact W.aald (v := va_rf (g (iv z).toNatClampNeg)) (ty := .array ty) hx hb (h2 q0 _ hq0) ((hK.2 t _ ht).1 n (fun j => va_rf (g j))) rfl (fun q => by cases q) (by show ¬ (iv z < 0 ∨ (arrV _ _ _).slots.size ≤ _); rw [arrV_size]; exact b1) (by show (arrV _ _ _).slots[_]? = _; rw [arrV_read _ _ hlt]) rfl rfl hdg (by rw [b2, hq]; exact k L H locs ls h1 h2 h3 h4 h5)
theorem v_objInit (h : xOk G X cc y nL rm) {idx a : Nat} (hdg : decode cc pc = .ok (.invokespecial idx, 3)) (hl : Cond.methodLink y.cls idx Lib.objectInit ∈ zT) (hi : Cond.instanceMethod Lib.objectInit ∈ zT) (hc : Cond.code Lib.objectInit ⟨#[0xb1]⟩ 1 none ∈ zT) (hr1 : 1 ≤ rm.frames) (hr2 : (st.map fun v => v.category).sum + 12 ≤ rm.locals) (k : vV G X kc ks (pc + 3) lv st f) : vV G X kc ks pc lv (.ref a :: st) f := by
  obtain ⟨p, l, e, R, s, m, args, below, meth, c, A, H0, n0, Q⟩ := X
  obtain ⟨hx, hb, rfl, hml, hown, hts, hN, hK, hA, rfl, hnm⟩ := h
  intro L H locs ls h1 h2 h3 h4 h5
  refine W.objInit hx hb hown (hts _ hl) (hts _ hi) (hts _ hc) rfl (by rw [hml]; exact h5.1) rfl hdg hr1 (Nat.le_trans (Nat.le_of_eq ?_) hr2) ?_
  · simp [JFrame.monitorRoom]
  · exact k L H locs ls h1 h2 h3 h4 h5
end VV

/-! contracts: a method by what it does to f -/
def mPre (G : xG) (L : List Nat) (f : xF) (sz : Nat) : State → Prop := fun U => U.heap.size = sz ∧ va_P G.1 zCl (va_pl L f) U.heap ∧ va_K G.1 zCl (xt G) U ∧ (∀ w ∈ zN, va_Nw w U) ∧ va_D (fun _ => True) (va_pl L f)
def mPost (G : xG) (A : Nat → Prop) (f' : xF) (t : State) : Prop := ∃ L' : List Nat, vW L' f' ∧ va_P G.1 zCl (va_pl L' f') t.heap ∧ va_K G.1 zCl (xt G) t ∧ va_D A (va_pl L' f')
def mI (l : Launch) (G : xG) (y : MethodName) (cw : Cond) (rm : Room) (av : List Value) (f : xF) (post : Int → xF → Prop) : Prop := ∀ (L : List Nat) (sz : Nat), vW L f → Met l y (cw :: zT) rm (va_Pc av (mPre G L f sz)) (va_Qi (fun r f' => ∃ z, ir z ∧ r = iv z ∧ post z f') (mPost G (va_A (va_pl L f) sz)) (va_A (va_pl L f) sz)) rm.cells rm.slots (va_A (va_pl L f) sz)
def mV (l : Launch) (G : xG) (y : MethodName) (cw : Cond) (rm : Room) (av : List Value) (f : xF) (post : xF → Prop) : Prop := ∀ (L : List Nat) (sz : Nat), vW L f → Met l y (cw :: zT) rm (va_Pc av (mPre G L f sz)) (va_Qv post (mPost G (va_A (va_pl L f) sz)) (va_A (va_pl L f) sz)) rm.cells rm.slots (va_A (va_pl L f) sz)
def mR (l : Launch) (G : xG) (y : MethodName) (cw : Cond) (rm : Room) (av : List Value) (f : xF) (post : Option Nat → xF → Prop) : Prop := ∀ (L : List Nat) (sz : Nat), vW L f → Met l y (cw :: zT) rm (va_Pc av (mPre G L f sz)) (va_Qq post (mPost G (va_A (va_pl L f) sz)) (va_A (va_pl L f) sz)) rm.cells rm.slots (va_A (va_pl L f) sz)
theorem mPre_blind {G : xG} {L : List Nat} {f : xF} {sz : Nat} {av : List Value} : FrameBlind (va_Pc av (mPre G L f sz)) := fun a U g mk q => by
  obtain ⟨q0, q1, qP, qK, qN, qD⟩ := q
  exact ⟨q0, q1, qP, va_K.moved (u := U) (U := U.calling g mk a) (Vm.Alike.refl U.vm) qK, zN_same (s := U) (U := U.calling g mk a) rfl qN, qD⟩
theorem mI_of {l : Launch} {G : xG} {y : MethodName} {cc : ByteArray} {nL : Nat} {rt : FieldType} {rm : Room} {av : List Value} {f : xF} {post : Int → xF → Prop} (hy : plainName y.cls = true) (hlen : (lg_sl av).length ≤ nL) (body : ∀ X : xT, xOk G X cc y nL rm → (∀ (pc : Nat) (lv : List (Nat × Value)) (z : Int) (f' : xF), decode cc pc = .ok (.ireturn, 1) → ir z → post z f' → narrow rt (.int (iv z)) = .int (iv z) → vV G X rm.cells rm.slots pc lv [.int (iv z)] f') → vV G X 0 0 0 (lv_args 0 av) [] f) : mI l G y (.code y cc nL (some rt)) rm av f post := by
  intro L sz hw
  refine Met.ofW (cc := cc) (maxL := nL) (ret := some rt) hy rfl ?_
  intro p e s m args below meth c s₁ B hml hv
  obtain ⟨rfl, hsz, hP, hK, hN, hD0⟩ := hv
  have hts := atoms_spec (ws := .code y cc nL (some rt) :: zT) B.pre
  have hown : s.vm.findClass y.cls = some m.cls := findClass_of_methodNamed B.named
  subst hsz
  have hD := hD0.self (sz := s.heap.size)
  have hl := lv_entry av (n := nL) hlen
  have hlocks := B.notSynchronized
  rw [lg_entry_eq]
  refine body (p, l, e, rm, s, m, av.toArray, below, meth, c, va_A (va_pl L f) s.heap.size, s.heap, nL, MQ below (va_Qi (fun r f' => ∃ z, ir z ∧ r = iv z ∧ post z f') (mPost G (va_A (va_pl L f) s.heap.size)) (va_A (va_pl L f) s.heap.size)) av.toArray s rm.cells rm.slots (va_A (va_pl L f) s.heap.size)) ⟨B.exec, B.bytes, rfl, hml, hown, fun w hw => hts w (List.mem_cons_of_mem _ hw), hN, hK, fun q h => Or.inr h, rfl, (name_of_methodNamed B.named B.method).1⟩ ?_ L s.heap [] _ hw hP hD va_S.rf hl
  · intro pc lv z f' hd hz hp hn L' H locs ls h1 h2 h3 h4 h5
    exact W.zret (v := iv z) B.exec B.bytes B.returns hn (fun t ht hW => ⟨⟨iv z, f', rfl, ⟨z, hz, rfl, hp⟩, L', h1, by rw [ht]; exact h2, va_K.moved hW.alike hK, h3⟩, h4.F ht⟩) h4.2.2 hd
theorem mV_of {l : Launch} {G : xG} {y : MethodName} {cc : ByteArray} {nL : Nat} {rm : Room} {av : List Value} {f : xF} {post : xF → Prop} (hy : plainName y.cls = true) (hlen : (lg_sl av).length ≤ nL) (body : ∀ X : xT, xOk G X cc y nL rm → (∀ (pc : Nat) (lv : List (Nat × Value)) (f' : xF), decode cc pc = .ok (.return_, 1) → post f' → vV G X rm.cells rm.slots pc lv [] f') → vV G X 0 0 0 (lv_args 0 av) [] f) : mV l G y (.code y cc nL (none)) rm av f post := by
  intro L sz hw
  refine Met.ofW (cc := cc) (maxL := nL) (ret := none) hy rfl ?_
  intro p e s m args below meth c s₁ B hml hv
  obtain ⟨rfl, hsz, hP, hK, hN, hD0⟩ := hv
  have hts := atoms_spec (ws := .code y cc nL (none) :: zT) B.pre
  have hown : s.vm.findClass y.cls = some m.cls := findClass_of_methodNamed B.named
  subst hsz
  have hD := hD0.self (sz := s.heap.size)
  have hl := lv_entry av (n := nL) hlen
  have hlocks := B.notSynchronized
  rw [lg_entry_eq]
  refine body (p, l, e, rm, s, m, av.toArray, below, meth, c, va_A (va_pl L f) s.heap.size, s.heap, nL, MQ below (va_Qv post (mPost G (va_A (va_pl L f) s.heap.size)) (va_A (va_pl L f) s.heap.size)) av.toArray s rm.cells rm.slots (va_A (va_pl L f) s.heap.size)) ⟨B.exec, B.bytes, rfl, hml, hown, fun w hw => hts w (List.mem_cons_of_mem _ hw), hN, hK, fun q h => Or.inr h, rfl, (name_of_methodNamed B.named B.method).1⟩ ?_ L s.heap [] _ hw hP hD va_S.rf hl
  · intro pc lv f' hd hp L' H locs ls h1 h2 h3 h4 h5
    exact W.vret B.exec B.bytes B.returns (fun t ht hW => ⟨⟨f', rfl, hp, L', h1, by rw [ht]; exact h2, va_K.moved hW.alike hK, h3⟩, h4.F ht⟩) h4.2.2 hd
theorem mR_of {l : Launch} {G : xG} {y : MethodName} {cc : ByteArray} {nL : Nat} {rt : FieldType} (hrt : (∃ n, rt = .object n) ∨ ∃ t, rt = .array t) {rm : Room} {av : List Value} {f : xF} {post : Option Nat → xF → Prop} (hy : plainName y.cls = true) (hlen : (lg_sl av).length ≤ nL) (body : ∀ X : xT, xOk G X cc y nL rm → (∀ (pc : Nat) (lv : List (Nat × Value)) (r : Option Nat) (f' : xF), decode cc pc = .ok (.areturn, 1) → post r f' → vV G X rm.cells rm.slots pc lv [va_rf r] f') → vV G X 0 0 0 (lv_args 0 av) [] f) : mR l G y (.code y cc nL (some rt)) rm av f post := by
  intro L sz hw
  refine Met.ofW (cc := cc) (maxL := nL) (ret := some rt) hy rfl ?_
  intro p e s m args below meth c s₁ B hml hv
  obtain ⟨rfl, hsz, hP, hK, hN, hD0⟩ := hv
  have hts := atoms_spec (ws := .code y cc nL (some rt) :: zT) B.pre
  have hown : s.vm.findClass y.cls = some m.cls := findClass_of_methodNamed B.named
  subst hsz
  have hD := hD0.self (sz := s.heap.size)
  have hl := lv_entry av (n := nL) hlen
  have hlocks := B.notSynchronized
  rw [lg_entry_eq]
  refine body (p, l, e, rm, s, m, av.toArray, below, meth, c, va_A (va_pl L f) s.heap.size, s.heap, nL, MQ below (va_Qq post (mPost G (va_A (va_pl L f) s.heap.size)) (va_A (va_pl L f) s.heap.size)) av.toArray s rm.cells rm.slots (va_A (va_pl L f) s.heap.size)) ⟨B.exec, B.bytes, rfl, hml, hown, fun w hw => hts w (List.mem_cons_of_mem _ hw), hN, hK, fun q h => Or.inr h, rfl, (name_of_methodNamed B.named B.method).1⟩ ?_ L s.heap [] _ hw hP hD va_S.rf hl
  · intro pc lv r f' hd hp L' H locs ls h1 h2 h3 h4 h5
    exact W.aret (v := va_rf r) B.exec B.bytes B.returns hrt (va_rf_or r) (fun t ht hW => ⟨⟨r, f', rfl, hp, L', h1, by rw [ht]; exact h2, va_K.moved hW.alike hK, h3⟩, h4.F ht⟩) h4.2.2 hd
section VC
variable {G : xG} {X : xT} {cc : ByteArray} {y : MethodName} {nL : Nat} {rm : Room} {kc ks pc : Nat} {lv lv' : List (Nat × Value)} {st : List Value} {f : xF}
theorem v_callVI (h : xOk G X cc y nL rm) {y2 : MethodName} {bytes : ByteArray} {maxL idx n : Nat} {rt : FieldType} {rmc : Room} {b : Nat} {As : List Value} {post : Int → xF → Prop} {ci : Nat} {fs : List Value} (he : f b = eO ci fs) (hM : ∀ l, mI l G y2 (.code y2 bytes maxL (some rt)) rmc (.ref b :: As) f post) (hC : CalV y.cls idx y2 (.code y2 bytes maxL (some rt)) n ci) (hdg : decode cc pc = .ok (.invokevirtual idx, 3)) (hn : As.length = n) (hroom : rmc.frames + 1 ≤ rm.frames ∧ 8 + (maxL + 11) + rmc.locals ≤ rm.locals) (hcap : kc + rmc.cells ≤ rm.cells ∧ ks + rmc.slots ≤ rm.slots) (hst : (st.map fun v => v.category).sum ≤ 8) (kk : ∀ (z : Int) (f' : xF), ir z → post z f' → vV G X (kc + rmc.cells) (ks + rmc.slots) (pc + 3) lv (.int (iv z) :: st) f') : vV G X kc ks pc lv (As.reverse ++ .ref b :: st) f := by
  obtain ⟨p, l, e, R, s, m, args, below, meth, c, A, H0, n0, Q⟩ := X
  obtain ⟨hx, hb, rfl, hml, hown, hts, hN, hK, hA, rfl, hnm⟩ := h
  obtain ⟨c1, c2, c3, c4, c5, c6, c7, T, N, c8⟩ := hC
  intro L H locs ls h1 h2 h3 h4 h5
  have hm : b ∈ L := h1.mem (by rw [he]; exact eO_ne c7)
  obtain ⟨q0, hq0⟩ := pl_get (f := f) hm
  rw [he] at hq0
  have hF : ∀ q, va_A (va_pl L f) H.size q → A q := fun q hq => by
    rcases hq with ⟨k9, e9, h9⟩ | h9
    · exact h3.2 k9 (q, e9) h9
    · exact hA q (Nat.le_trans h4.1 h9)
  have hM0 := hM l L H.size h1
  have hp : PreV s H y2.cls b (va_Pc (.ref b :: As) (mPre G L f H.size)) As := ⟨mPre_blind, va_recv hK h2 (q0 := q0) c8 hq0, fun U hU hW => ⟨rfl, by rw [hU], by rw [hU]; exact h2, va_K.moved hW.alike hK, zN_warm hW hN, h3.weaken (fun _ _ _ _ => trivial)⟩⟩
  rcases c2 with c2 | ⟨host, c2⟩
  · refine va_calli (va_runV (As := As) (rest := st) (C := y2.cls) (b := b) ⟨hx, hb, hml, hown, hts⟩ hM0 ⟨callB_of n hts (lw_goodIn c1) rfl rfl rfl (hts _ c5) (hts _ c2) c6 hroom, hts _ c3, hts _ c4⟩ hp rfl hn h5.1 rfl (lv_room hst) hdg hcap) h4 (fun q _ h9 => hF q h9) hF (fun r f' t H1 locs1 ht hvm hw hB hz1 hk1 hS1 => by
    obtain ⟨z, hz, rfl, hp⟩ := hw
    obtain ⟨L', w1, w2, w3, w4⟩ := hB
    exact kk z f' hz hp L' H1 locs1 ls w1 (by rw [← ht]; exact w2) (w4.weaken (fun _ q _ h => hF q.1 h)) hS1 h5)
  · refine va_calli (va_runVN (As := As) (rest := st) (C := y2.cls) (b := b) ⟨hx, hb, hml, hown, hts⟩ hM0 ⟨va_cnB n hts (lw_goodIn c1) rfl rfl rfl (hN _ c2) (hts _ c5) c6 hroom, hts _ c3, hts _ c4⟩ hp rfl hn h5.1 rfl (lv_room hst) hdg hcap) h4 (fun q _ h9 => hF q h9) hF (fun r f' t H1 locs1 ht hvm hw hB hz1 hk1 hS1 => by
    obtain ⟨z, hz, rfl, hp⟩ := hw
    obtain ⟨L', w1, w2, w3, w4⟩ := hB
    exact kk z f' hz hp L' H1 locs1 ls w1 (by rw [← ht]; exact w2) (w4.weaken (fun _ q _ h => hF q.1 h)) hS1 h5)
theorem v_callVV (h : xOk G X cc y nL rm) {y2 : MethodName} {bytes : ByteArray} {maxL idx n : Nat} {rmc : Room} {b : Nat} {As : List Value} {post : xF → Prop} {ci : Nat} {fs : List Value} (he : f b = eO ci fs) (hM : ∀ l, mV l G y2 (.code y2 bytes maxL (none)) rmc (.ref b :: As) f post) (hC : CalV y.cls idx y2 (.code y2 bytes maxL (none)) n ci) (hdg : decode cc pc = .ok (.invokevirtual idx, 3)) (hn : As.length = n) (hroom : rmc.frames + 1 ≤ rm.frames ∧ 8 + (maxL + 11) + rmc.locals ≤ rm.locals) (hcap : kc + rmc.cells ≤ rm.cells ∧ ks + rmc.slots ≤ rm.slots) (hst : (st.map fun v => v.category).sum ≤ 8) (kk : ∀ (f' : xF), post f' → vV G X (kc + rmc.cells) (ks + rmc.slots) (pc + 3) lv st f') : vV G X kc ks pc lv (As.reverse ++ .ref b :: st) f := by
  obtain ⟨p, l, e, R, s, m, args, below, meth, c, A, H0, n0, Q⟩ := X
  obtain ⟨hx, hb, rfl, hml, hown, hts, hN, hK, hA, rfl, hnm⟩ := h
  obtain ⟨c1, c2, c3, c4, c5, c6, c7, T, N, c8⟩ := hC
  intro L H locs ls h1 h2 h3 h4 h5
  have hm : b ∈ L := h1.mem (by rw [he]; exact eO_ne c7)
  obtain ⟨q0, hq0⟩ := pl_get (f := f) hm
  rw [he] at hq0
  have hF : ∀ q, va_A (va_pl L f) H.size q → A q := fun q hq => by
    rcases hq with ⟨k9, e9, h9⟩ | h9
    · exact h3.2 k9 (q, e9) h9
    · exact hA q (Nat.le_trans h4.1 h9)
  have hM0 := hM l L H.size h1
  have hp : PreV s H y2.cls b (va_Pc (.ref b :: As) (mPre G L f H.size)) As := ⟨mPre_blind, va_recv hK h2 (q0 := q0) c8 hq0, fun U hU hW => ⟨rfl, by rw [hU], by rw [hU]; exact h2, va_K.moved hW.alike hK, zN_warm hW hN, h3.weaken (fun _ _ _ _ => trivial)⟩⟩
  rcases c2 with c2 | ⟨host, c2⟩
  · refine va_callv (va_runV (As := As) (rest := st) (C := y2.cls) (b := b) ⟨hx, hb, hml, hown, hts⟩ hM0 ⟨callB_of n hts (lw_goodIn c1) rfl rfl rfl (hts _ c5) (hts _ c2) c6 hroom, hts _ c3, hts _ c4⟩ hp rfl hn h5.1 rfl (lv_room hst) hdg hcap) h4 (fun q _ h9 => hF q h9) hF (fun f' t H1 locs1 ht hvm hw hB hz1 hk1 hS1 => by
    obtain ⟨L', w1, w2, w3, w4⟩ := hB
    exact kk f' hw L' H1 locs1 ls w1 (by rw [← ht]; exact w2) (w4.weaken (fun _ q _ h => hF q.1 h)) hS1 h5)
  · refine va_callv (va_runVN (As := As) (rest := st) (C := y2.cls) (b := b) ⟨hx, hb, hml, hown, hts⟩ hM0 ⟨va_cnB n hts (lw_goodIn c1) rfl rfl rfl (hN _ c2) (hts _ c5) c6 hroom, hts _ c3, hts _ c4⟩ hp rfl hn h5.1 rfl (lv_room hst) hdg hcap) h4 (fun q _ h9 => hF q h9) hF (fun f' t H1 locs1 ht hvm hw hB hz1 hk1 hS1 => by
    obtain ⟨L', w1, w2, w3, w4⟩ := hB
    exact kk f' hw L' H1 locs1 ls w1 (by rw [← ht]; exact w2) (w4.weaken (fun _ q _ h => hF q.1 h)) hS1 h5)
theorem v_callVR (h : xOk G X cc y nL rm) {y2 : MethodName} {bytes : ByteArray} {maxL idx n : Nat} {rt : FieldType} {rmc : Room} {b : Nat} {As : List Value} {post : Option Nat → xF → Prop} {ci : Nat} {fs : List Value} (he : f b = eO ci fs) (hM : ∀ l, mR l G y2 (.code y2 bytes maxL (some rt)) rmc (.ref b :: As) f post) (hC : CalV y.cls idx y2 (.code y2 bytes maxL (some rt)) n ci) (hdg : decode cc pc = .ok (.invokevirtual idx, 3)) (hn : As.length = n) (hroom : rmc.frames + 1 ≤ rm.frames ∧ 8 + (maxL + 11) + rmc.locals ≤ rm.locals) (hcap : kc + rmc.cells ≤ rm.cells ∧ ks + rmc.slots ≤ rm.slots) (hst : (st.map fun v => v.category).sum ≤ 8) (kk : ∀ (r : Option Nat) (f' : xF), post r f' → vV G X (kc + rmc.cells) (ks + rmc.slots) (pc + 3) lv (va_rf r :: st) f') : vV G X kc ks pc lv (As.reverse ++ .ref b :: st) f := by
  obtain ⟨p, l, e, R, s, m, args, below, meth, c, A, H0, n0, Q⟩ := X
  obtain ⟨hx, hb, rfl, hml, hown, hts, hN, hK, hA, rfl, hnm⟩ := h
  obtain ⟨c1, c2, c3, c4, c5, c6, c7, T, N, c8⟩ := hC
  intro L H locs ls h1 h2 h3 h4 h5
  have hm : b ∈ L := h1.mem (by rw [he]; exact eO_ne c7)
  obtain ⟨q0, hq0⟩ := pl_get (f := f) hm
  rw [he] at hq0
  have hF : ∀ q, va_A (va_pl L f) H.size q → A q := fun q hq => by
    rcases hq with ⟨k9, e9, h9⟩ | h9
    · exact h3.2 k9 (q, e9) h9
    · exact hA q (Nat.le_trans h4.1 h9)
  have hM0 := hM l L H.size h1
  have hp : PreV s H y2.cls b (va_Pc (.ref b :: As) (mPre G L f H.size)) As := ⟨mPre_blind, va_recv hK h2 (q0 := q0) c8 hq0, fun U hU hW => ⟨rfl, by rw [hU], by rw [hU]; exact h2, va_K.moved hW.alike hK, zN_warm hW hN, h3.weaken (fun _ _ _ _ => trivial)⟩⟩
  rcases c2 with c2 | ⟨host, c2⟩
  · refine va_callq (va_runV (As := As) (rest := st) (C := y2.cls) (b := b) ⟨hx, hb, hml, hown, hts⟩ hM0 ⟨callB_of n hts (lw_goodIn c1) rfl rfl rfl (hts _ c5) (hts _ c2) c6 hroom, hts _ c3, hts _ c4⟩ hp rfl hn h5.1 rfl (lv_room hst) hdg hcap) h4 (fun q _ h9 => hF q h9) hF (fun r f' t H1 locs1 ht hvm hw hB hz1 hk1 hS1 => by
    obtain ⟨L', w1, w2, w3, w4⟩ := hB
    exact kk r f' hw L' H1 locs1 ls w1 (by rw [← ht]; exact w2) (w4.weaken (fun _ q _ h => hF q.1 h)) hS1 h5)
  · refine va_callq (va_runVN (As := As) (rest := st) (C := y2.cls) (b := b) ⟨hx, hb, hml, hown, hts⟩ hM0 ⟨va_cnB n hts (lw_goodIn c1) rfl rfl rfl (hN _ c2) (hts _ c5) c6 hroom, hts _ c3, hts _ c4⟩ hp rfl hn h5.1 rfl (lv_room hst) hdg hcap) h4 (fun q _ h9 => hF q h9) hF (fun r f' t H1 locs1 ht hvm hw hB hz1 hk1 hS1 => by
    obtain ⟨L', w1, w2, w3, w4⟩ := hB
    exact kk r f' hw L' H1 locs1 ls w1 (by rw [← ht]; exact w2) (w4.weaken (fun _ q _ h => hF q.1 h)) hS1 h5)
theorem v_callSI (h : xOk G X cc y nL rm) {y2 : MethodName} {bytes : ByteArray} {maxL idx n : Nat} {rt : FieldType} {rmc : Room} {As : List Value} {post : Int → xF → Prop} (hM : ∀ l, mI l G y2 (.code y2 bytes maxL (some rt)) rmc As f post) (hC : CalS y.cls idx y2 (.code y2 bytes maxL (some rt)) n) (hdg : decode cc pc = .ok (.invokestatic idx, 3)) (hn : As.length = n) (hroom : rmc.frames + 1 ≤ rm.frames ∧ 8 + (maxL + 11) + rmc.locals ≤ rm.locals) (hcap : kc + rmc.cells ≤ rm.cells ∧ ks + rmc.slots ≤ rm.slots) (hst : (st.map fun v => v.category).sum ≤ 8) (kk : ∀ (z : Int) (f' : xF), ir z → post z f' → vV G X (kc + rmc.cells) (ks + rmc.slots) (pc + 3) lv (.int (iv z) :: st) f') : vV G X kc ks pc lv (As.reverse ++ st) f := by
  obtain ⟨p, l, e, R, s, m, args, below, meth, c, A, H0, n0, Q⟩ := X
  obtain ⟨hx, hb, rfl, hml, hown, hts, hN, hK, hA, rfl, hnm⟩ := h
  obtain ⟨c1, c2, c3, c5, c6⟩ := hC
  intro L H locs ls h1 h2 h3 h4 h5
  have hF : ∀ q, va_A (va_pl L f) H.size q → A q := fun q hq => by
    rcases hq with ⟨k9, e9, h9⟩ | h9
    · exact h3.2 k9 (q, e9) h9
    · exact hA q (Nat.le_trans h4.1 h9)
  have hM0 := hM l L H.size h1
  have hp : PreS s H (va_Pc As (mPre G L f H.size)) As := ⟨mPre_blind, fun U hU hW => ⟨rfl, by rw [hU], by rw [hU]; exact h2, va_K.moved hW.alike hK, zN_warm hW hN, h3.weaken (fun _ _ _ _ => trivial)⟩⟩
  rcases c2 with c2 | ⟨host, c2⟩
  · refine va_calli (va_runS (As := As) (rest := st) ⟨hx, hb, hml, hown, hts⟩ hM0 ⟨callB_of n hts (lw_goodIn c1) rfl rfl rfl (hts _ c5) (hts _ c2) c6 hroom, hts _ c3⟩ hp rfl hn h5.1 rfl (lv_room hst) hdg hcap) h4 (fun q _ h9 => hF q h9) hF (fun r f' t H1 locs1 ht hvm hw hB hz1 hk1 hS1 => by
    obtain ⟨z, hz, rfl, hp⟩ := hw
    obtain ⟨L', w1, w2, w3, w4⟩ := hB
    exact kk z f' hz hp L' H1 locs1 ls w1 (by rw [← ht]; exact w2) (w4.weaken (fun _ q _ h => hF q.1 h)) hS1 h5)
  · refine va_calli (va_runSN (As := As) (rest := st) ⟨hx, hb, hml, hown, hts⟩ hM0 ⟨va_cnB n hts (lw_goodIn c1) rfl rfl rfl (hN _ c2) (hts _ c5) c6 hroom, hts _ c3, trivial⟩ hp rfl hn h5.1 rfl (lv_room hst) hdg hcap) h4 (fun q _ h9 => hF q h9) hF (fun r f' t H1 locs1 ht hvm hw hB hz1 hk1 hS1 => by
    obtain ⟨z, hz, rfl, hp⟩ := hw
    obtain ⟨L', w1, w2, w3, w4⟩ := hB
    exact kk z f' hz hp L' H1 locs1 ls w1 (by rw [← ht]; exact w2) (w4.weaken (fun _ q _ h => hF q.1 h)) hS1 h5)
theorem v_callSV (h : xOk G X cc y nL rm) {y2 : MethodName} {bytes : ByteArray} {maxL idx n : Nat} {rmc : Room} {As : List Value} {post : xF → Prop} (hM : ∀ l, mV l G y2 (.code y2 bytes maxL (none)) rmc As f post) (hC : CalS y.cls idx y2 (.code y2 bytes maxL (none)) n) (hdg : decode cc pc = .ok (.invokestatic idx, 3)) (hn : As.length = n) (hroom : rmc.frames + 1 ≤ rm.frames ∧ 8 + (maxL + 11) + rmc.locals ≤ rm.locals) (hcap : kc + rmc.cells ≤ rm.cells ∧ ks + rmc.slots ≤ rm.slots) (hst : (st.map fun v => v.category).sum ≤ 8) (kk : ∀ (f' : xF), post f' → vV G X (kc + rmc.cells) (ks + rmc.slots) (pc + 3) lv st f') : vV G X kc ks pc lv (As.reverse ++ st) f := by
  obtain ⟨p, l, e, R, s, m, args, below, meth, c, A, H0, n0, Q⟩ := X
  obtain ⟨hx, hb, rfl, hml, hown, hts, hN, hK, hA, rfl, hnm⟩ := h
  obtain ⟨c1, c2, c3, c5, c6⟩ := hC
  intro L H locs ls h1 h2 h3 h4 h5
  have hF : ∀ q, va_A (va_pl L f) H.size q → A q := fun q hq => by
    rcases hq with ⟨k9, e9, h9⟩ | h9
    · exact h3.2 k9 (q, e9) h9
    · exact hA q (Nat.le_trans h4.1 h9)
  have hM0 := hM l L H.size h1
  have hp : PreS s H (va_Pc As (mPre G L f H.size)) As := ⟨mPre_blind, fun U hU hW => ⟨rfl, by rw [hU], by rw [hU]; exact h2, va_K.moved hW.alike hK, zN_warm hW hN, h3.weaken (fun _ _ _ _ => trivial)⟩⟩
  rcases c2 with c2 | ⟨host, c2⟩
  · refine va_callv (va_runS (As := As) (rest := st) ⟨hx, hb, hml, hown, hts⟩ hM0 ⟨callB_of n hts (lw_goodIn c1) rfl rfl rfl (hts _ c5) (hts _ c2) c6 hroom, hts _ c3⟩ hp rfl hn h5.1 rfl (lv_room hst) hdg hcap) h4 (fun q _ h9 => hF q h9) hF (fun f' t H1 locs1 ht hvm hw hB hz1 hk1 hS1 => by
    obtain ⟨L', w1, w2, w3, w4⟩ := hB
    exact kk f' hw L' H1 locs1 ls w1 (by rw [← ht]; exact w2) (w4.weaken (fun _ q _ h => hF q.1 h)) hS1 h5)
  · refine va_callv (va_runSN (As := As) (rest := st) ⟨hx, hb, hml, hown, hts⟩ hM0 ⟨va_cnB n hts (lw_goodIn c1) rfl rfl rfl (hN _ c2) (hts _ c5) c6 hroom, hts _ c3, trivial⟩ hp rfl hn h5.1 rfl (lv_room hst) hdg hcap) h4 (fun q _ h9 => hF q h9) hF (fun f' t H1 locs1 ht hvm hw hB hz1 hk1 hS1 => by
    obtain ⟨L', w1, w2, w3, w4⟩ := hB
    exact kk f' hw L' H1 locs1 ls w1 (by rw [← ht]; exact w2) (w4.weaken (fun _ q _ h => hF q.1 h)) hS1 h5)
theorem v_callSR (h : xOk G X cc y nL rm) {y2 : MethodName} {bytes : ByteArray} {maxL idx n : Nat} {rt : FieldType} {rmc : Room} {As : List Value} {post : Option Nat → xF → Prop} (hM : ∀ l, mR l G y2 (.code y2 bytes maxL (some rt)) rmc As f post) (hC : CalS y.cls idx y2 (.code y2 bytes maxL (some rt)) n) (hdg : decode cc pc = .ok (.invokestatic idx, 3)) (hn : As.length = n) (hroom : rmc.frames + 1 ≤ rm.frames ∧ 8 + (maxL + 11) + rmc.locals ≤ rm.locals) (hcap : kc + rmc.cells ≤ rm.cells ∧ ks + rmc.slots ≤ rm.slots) (hst : (st.map fun v => v.category).sum ≤ 8) (kk : ∀ (r : Option Nat) (f' : xF), post r f' → vV G X (kc + rmc.cells) (ks + rmc.slots) (pc + 3) lv (va_rf r :: st) f') : vV G X kc ks pc lv (As.reverse ++ st) f := by
  obtain ⟨p, l, e, R, s, m, args, below, meth, c, A, H0, n0, Q⟩ := X
  obtain ⟨hx, hb, rfl, hml, hown, hts, hN, hK, hA, rfl, hnm⟩ := h
  obtain ⟨c1, c2, c3, c5, c6⟩ := hC
  intro L H locs ls h1 h2 h3 h4 h5
  have hF : ∀ q, va_A (va_pl L f) H.size q → A q := fun q hq => by
    rcases hq with ⟨k9, e9, h9⟩ | h9
    · exact h3.2 k9 (q, e9) h9
    · exact hA q (Nat.le_trans h4.1 h9)
  have hM0 := hM l L H.size h1
  have hp : PreS s H (va_Pc As (mPre G L f H.size)) As := ⟨mPre_blind, fun U hU hW => ⟨rfl, by rw [hU], by rw [hU]; exact h2, va_K.moved hW.alike hK, zN_warm hW hN, h3.weaken (fun _ _ _ _ => trivial)⟩⟩
  rcases c2 with c2 | ⟨host, c2⟩
  · refine va_callq (va_runS (As := As) (rest := st) ⟨hx, hb, hml, hown, hts⟩ hM0 ⟨callB_of n hts (lw_goodIn c1) rfl rfl rfl (hts _ c5) (hts _ c2) c6 hroom, hts _ c3⟩ hp rfl hn h5.1 rfl (lv_room hst) hdg hcap) h4 (fun q _ h9 => hF q h9) hF (fun r f' t H1 locs1 ht hvm hw hB hz1 hk1 hS1 => by
    obtain ⟨L', w1, w2, w3, w4⟩ := hB
    exact kk r f' hw L' H1 locs1 ls w1 (by rw [← ht]; exact w2) (w4.weaken (fun _ q _ h => hF q.1 h)) hS1 h5)
  · refine va_callq (va_runSN (As := As) (rest := st) ⟨hx, hb, hml, hown, hts⟩ hM0 ⟨va_cnB n hts (lw_goodIn c1) rfl rfl rfl (hN _ c2) (hts _ c5) c6 hroom, hts _ c3, trivial⟩ hp rfl hn h5.1 rfl (lv_room hst) hdg hcap) h4 (fun q _ h9 => hF q h9) hF (fun r f' t H1 locs1 ht hvm hw hB hz1 hk1 hS1 => by
    obtain ⟨L', w1, w2, w3, w4⟩ := hB
    exact kk r f' hw L' H1 locs1 ls w1 (by rw [← ht]; exact w2) (w4.weaken (fun _ q _ h => hF q.1 h)) hS1 h5)
theorem v_callN (h : xOk G X cc y nL rm) {y2 : MethodName} {bytes : ByteArray} {maxL idx n : Nat} {rmc : Room} {b : Nat} {As : List Value} {post : xF → Prop} (hM : ∀ l, mV l G y2 (.code y2 bytes maxL (none)) rmc (.ref b :: As) f post) (hC : CalI y.cls idx y2 (.code y2 bytes maxL (none)) n) (hdg : decode cc pc = .ok (.invokespecial idx, 3)) (hn : As.length = n) (hroom : rmc.frames + 1 ≤ rm.frames ∧ 8 + (maxL + 11) + rmc.locals ≤ rm.locals) (hcap : kc + rmc.cells ≤ rm.cells ∧ ks + rmc.slots ≤ rm.slots) (hst : (st.map fun v => v.category).sum ≤ 8) (kk : ∀ (f' : xF), post f' → vV G X (kc + rmc.cells) (ks + rmc.slots) (pc + 3) lv st f') : vV G X kc ks pc lv (As.reverse ++ .ref b :: st) f := by
  obtain ⟨p, l, e, R, s, m, args, below, meth, c, A, H0, n0, Q⟩ := X
  obtain ⟨hx, hb, rfl, hml, hown, hts, hN, hK, hA, rfl, hnm⟩ := h
  obtain ⟨c1, c2, c3, c4, c5, c6⟩ := hC
  intro L H locs ls h1 h2 h3 h4 h5
  have hF : ∀ q, va_A (va_pl L f) H.size q → A q := fun q hq => by
    rcases hq with ⟨k9, e9, h9⟩ | h9
    · exact h3.2 k9 (q, e9) h9
    · exact hA q (Nat.le_trans h4.1 h9)
  have hM0 := hM l L H.size h1
  have hp : PreS s H (va_Pc (.ref b :: As) (mPre G L f H.size)) (.ref b :: As) := ⟨mPre_blind, fun U hU hW => ⟨rfl, by rw [hU], by rw [hU]; exact h2, va_K.moved hW.alike hK, zN_warm hW hN, h3.weaken (fun _ _ _ _ => trivial)⟩⟩
  rcases c2 with c2 | ⟨host, c2⟩
  · refine va_callv (va_runI (As := As) (rest := st) (b := b) ⟨hx, hb, hml, hown, hts⟩ hM0 ⟨callB_of n hts (lw_goodIn c1) rfl rfl rfl (hts _ c5) (hts _ c2) c6 hroom, c4, hts _ c3⟩ hp rfl hn h5.1 rfl (lv_room hst) hdg hcap) h4 (fun q _ h9 => hF q h9) hF (fun f' t H1 locs1 ht hvm hw hB hz1 hk1 hS1 => by
    obtain ⟨L', w1, w2, w3, w4⟩ := hB
    exact kk f' hw L' H1 locs1 ls w1 (by rw [← ht]; exact w2) (w4.weaken (fun _ q _ h => hF q.1 h)) hS1 h5)
  · refine va_callv (va_runIN (As := As) (rest := st) (b := b) ⟨hx, hb, hml, hown, hts⟩ hM0 ⟨va_cnB n hts (lw_goodIn c1) rfl rfl rfl (hN _ c2) (hts _ c5) c6 hroom, c4, hts _ c3⟩ hp rfl hn h5.1 rfl (lv_room hst) hdg hcap) h4 (fun q _ h9 => hF q h9) hF (fun f' t H1 locs1 ht hvm hw hB hz1 hk1 hS1 => by
    obtain ⟨L', w1, w2, w3, w4⟩ := hB
    exact kk f' hw L' H1 locs1 ls w1 (by rw [← ht]; exact w2) (w4.weaken (fun _ q _ h => hF q.1 h)) hS1 h5)
theorem v_new (h : xOk G X cc y nL rm) {idx ci N : Nat} {fs : List Value} (hNw : NewA y.cls idx ci N fs) (hdg : decode cc pc = .ok (.new idx, 3)) (hcap : kc + 1 ≤ rm.cells ∧ ks + N ≤ rm.slots) (kk : ∀ q, f q = fNo → vV G X (kc + 1) (ks + N) (pc + 3) lv (.ref q :: st) (va_up f q (eO ci fs))) : vV G X kc ks pc lv st f := by
  obtain ⟨p, l, e, R, s, m, args, below, meth, c, A, H0, n0, Q⟩ := X
  obtain ⟨hx, hb, rfl, hml, hown, hts, hN, hK, hA, rfl, hnm⟩ := h
  obtain ⟨C, T, ty0, c1, c2, c3, c4, c5, c6, c7, c8⟩ := hNw
  intro L H locs ls h1 h2 h3 h4 h5
  refine va_new (D := G.1) (ci := ci) (fs := fs) (C := C) (T := T) (N := N) hx hb hts c3 ty0 c4 hown (hts _ c6) (hts _ c7) (hts _ c8) hK h2 h3 h4 hA c1 c5 hcap.1 hcap.2 hdg (fun q H1 a1 a2 a3 => ?_)
  have hq : q ∉ L := fun hm => by
    obtain ⟨i, hi⟩ := pl_get (f := f) hm
    have hi2 : i < (va_pl L f).length := (List.getElem?_eq_some_iff.mp hi).1
    have e1 : (va_pl L f ++ [(q, (.inr (ci, fs) : va_E))])[i]? = some (q, f q) := by rw [List.getElem?_append_left hi2]; exact hi
    have e2 : (va_pl L f ++ [(q, (.inr (ci, fs) : va_E))])[(va_pl L f).length]? = some (q, .inr (ci, fs)) := by simp
    have := a2.1 _ _ _ _ e1 e2 rfl
    omega
  rw [va_pl_push hq] at a1 a2
  exact kk q (h1 q hq) (L ++ [q]) H1 locs ls (h1.push q _) a1 a2 a3 h5
end VC

/-! THE OVERLAY: the pool's cells that have a number: ad i is the address of number i (i < M); σ says what lies there; f0 the rest -/
def adOk (ad : Nat → Nat) (M : Nat) : Prop := ∀ i j, i < M → j < M → ad i = ad j → i = j
noncomputable def ov (f0 : xF) (ad : Nat → Nat) (M : Nat) (σ : xF) : xF := fun q => if h : ∃ i, i < M ∧ ad i = q then σ (Classical.choose h) else f0 q
theorem ov_at {f0 : xF} {ad : Nat → Nat} {M : Nat} {σ : xF} (hj : adOk ad M) {i : Nat} (hi : i < M) : ov f0 ad M σ (ad i) = σ i := by
  have h : ∃ j, j < M ∧ ad j = ad i := ⟨i, hi, rfl⟩
  have hc := Classical.choose_spec h
  unfold ov
  rw [dif_pos h, hj _ _ hc.1 hi hc.2]
theorem ov_out {f0 : xF} {ad : Nat → Nat} {M : Nat} {σ : xF} {q : Nat} (h : ¬ ∃ i, i < M ∧ ad i = q) : ov f0 ad M σ q = f0 q := by
  unfold ov
  rw [dif_neg h]
theorem ov_up {f0 : xF} {ad : Nat → Nat} {M : Nat} {σ : xF} (hj : adOk ad M) {i : Nat} (hi : i < M) (e : va_E) : va_up (ov f0 ad M σ) (ad i) e = ov f0 ad M (va_up σ i e) := by
  funext q
  by_cases hq : ∃ j, j < M ∧ ad j = q
  · obtain ⟨j, hjM, rfl⟩ := hq
    rw [ov_at hj hjM]
    by_cases hji : j = i
    · subst hji
      rw [va_up_self, va_up_self]
    · rw [va_up_ne _ _ (fun h => hji (hj _ _ hjM hi h)), va_up_ne _ _ hji, ov_at hj hjM]
  · have hq1 : q ≠ ad i := fun h => hq ⟨i, hi, h.symm⟩
    rw [va_up_ne _ _ hq1, ov_out hq, ov_out hq]
def gI (l : Launch) (G : xG) (f0 : xF) (ad : Nat → Nat) (M : Nat) (y : MethodName) (cw : Cond) (rm : Room) (av : List Value) (σ : xF) (post : Int → xF → Prop) : Prop := mI l G y cw rm av (ov f0 ad M σ) (fun z f' => ∃ σ', f' = ov f0 ad M σ' ∧ post z σ')
def gVo (l : Launch) (G : xG) (f0 : xF) (ad : Nat → Nat) (M : Nat) (y : MethodName) (cw : Cond) (rm : Room) (av : List Value) (σ : xF) (post : xF → Prop) : Prop := mV l G y cw rm av (ov f0 ad M σ) (fun f' => ∃ σ', f' = ov f0 ad M σ' ∧ post σ')
def gR (l : Launch) (G : xG) (f0 : xF) (ad : Nat → Nat) (M : Nat) (y : MethodName) (cw : Cond) (rm : Room) (av : List Value) (σ : xF) (post : Option Nat → xF → Prop) : Prop := mR l G y cw rm av (ov f0 ad M σ) (fun r f' => ∃ σ', f' = ov f0 ad M σ' ∧ post r σ')
section GV
variable {G : xG} {X : xT} {cc : ByteArray} {y : MethodName} {nL : Nat} {rm : Room} {kc ks pc : Nat} {lv lv' : List (Nat × Value)} {st : List Value} {f0 : xF} {ad : Nat → Nat} {M : Nat} {σ : xF}
theorem g_get (h : xOk G X cc y nL rm) (hj : adOk ad M) {idx ci kf i : Nat} {fs : List Value} {v : Value} (hF : FldA y.cls idx ci kf) (hdg : decode cc pc = .ok (.getfield idx, 3)) (hi : i < M) (he : σ i = eO ci fs) (hv : fs[kf]? = some v) (k : vV G X kc ks (pc + 3) lv (v :: st) (ov f0 ad M σ)) : vV G X kc ks pc lv (.ref (ad i) :: st) (ov f0 ad M σ) :=
  v_get h hF hdg ((ov_at hj hi).trans he) hv k
theorem g_put (h : xOk G X cc y nL rm) (hj : adOk ad M) {idx ci kf i : Nat} {ty : FieldType} {fs fs' : List Value} {v : Value} (hF : PutA y.cls idx ci kf ty) (hdg : decode cc pc = .ok (.putfield idx, 3)) (hi : i < M) (he : σ i = eO ci fs) (hn : narrow ty v = v) (hfit : fits ty v = true) (hl : kf < fs.length) (hs : fs.set kf v = fs') (k : vV G X kc ks (pc + 3) lv st (ov f0 ad M (va_up σ i (eO ci fs')))) : vV G X kc ks pc lv (v :: .ref (ad i) :: st) (ov f0 ad M σ) :=
  v_put h hF hdg ((ov_at hj hi).trans he) hn hfit hl hs (v_f (ov_up hj hi _) k)
theorem g_iald (h : xOk G X cc y nL rm) (hj : adOk ad M) {i n : Nat} {g : Nat → Int} {z : Int} (hdg : decode cc pc = .ok (.iaload, 1)) (hi : i < M) (he : σ i = eJ G n g) (hn : n < 2147483648) (q : Nat) (hz : z = q) (hq : q < n) (k : vV G X kc ks (pc + 1) lv (.int (iv (g q)) :: st) (ov f0 ad M σ)) : vV G X kc ks pc lv (.int (iv z) :: .ref (ad i) :: st) (ov f0 ad M σ) :=
  v_iald h hdg ((ov_at hj hi).trans he) hn q hz hq k
theorem g_iast (h : xOk G X cc y nL rm) (hj : adOk ad M) {i n : Nat} {g : Nat → Int} {z x : Int} (hdg : decode cc pc = .ok (.iastore, 1)) (hi : i < M) (he : σ i = eJ G n g) (hn : n < 2147483648) (q : Nat) (hz : z = q) (hq : q < n) (k : vV G X kc ks (pc + 1) lv st (ov f0 ad M (va_up σ i (eJ G n (va_up g q x))))) : vV G X kc ks pc lv (.int (iv x) :: .int (iv z) :: .ref (ad i) :: st) (ov f0 ad M σ) :=
  v_iast h hdg ((ov_at hj hi).trans he) hn q hz hq (v_f (ov_up hj hi _) k)
theorem g_alenJ (h : xOk G X cc y nL rm) (hj : adOk ad M) {i n : Nat} {g : Nat → Int} (hdg : decode cc pc = .ok (.arraylength, 1)) (hi : i < M) (he : σ i = eJ G n g) (k : vV G X kc ks (pc + 1) lv (.int (iv n) :: st) (ov f0 ad M σ)) : vV G X kc ks pc lv (.ref (ad i) :: st) (ov f0 ad M σ) :=
  v_alenJ h hdg ((ov_at hj hi).trans he) k
theorem g_aald (h : xOk G X cc y nL rm) (hj : adOk ad M) {i t n : Nat} {C : String} {g : Nat → Option Nat} {z : Int} (hdg : decode cc pc = .ok (.aaload, 1)) (hi : i < M) (he : σ i = eR G t n g) (ht : (xt G)[t]? = some (G.2 t, .object C)) (hn : n < 2147483648) (q : Nat) (hz : z = q) (hq : q < n) {r : Nat} (hr : g q = some r) (k : vV G X kc ks (pc + 1) lv (.ref r :: st) (ov f0 ad M σ)) : vV G X kc ks pc lv (.int (iv z) :: .ref (ad i) :: st) (ov f0 ad M σ) :=
  v_aald h hdg ((ov_at hj hi).trans he) ht hn q hz hq hr k
theorem g_aaldA (h : xOk G X cc y nL rm) (hj : adOk ad M) {i t n : Nat} {ty : FieldType} {g : Nat → Option Nat} {z : Int} (hdg : decode cc pc = .ok (.aaload, 1)) (hi : i < M) (he : σ i = eR G t n g) (ht : (xt G)[t]? = some (G.2 t, .array ty)) (hn : n < 2147483648) (q : Nat) (hz : z = q) (hq : q < n) {r : Nat} (hr : g q = some r) (k : vV G X kc ks (pc + 1) lv (.ref r :: st) (ov f0 ad M σ)) : vV G X kc ks pc lv (.int (iv z) :: .ref (ad i) :: st) (ov f0 ad M σ) :=
  v_aaldA h hdg ((ov_at hj hi).trans he) ht hn q hz hq hr k
theorem g_callVI (h : xOk G X cc y nL rm) (hj : adOk ad M) {y2 : MethodName} {bytes : ByteArray} {maxL idx n : Nat} {rt : FieldType} {rmc : Room} {i : Nat} {As : List Value} {post : Int → xF → Prop} {ci : Nat} {fs : List Value} (hi : i < M) (he : σ i = eO ci fs) (hM : ∀ l, gI l G f0 ad M y2 (.code y2 bytes maxL (some rt)) rmc (.ref (ad i) :: As) σ post) (hC : CalV y.cls idx y2 (.code y2 bytes maxL (some rt)) n ci) (hdg : decode cc pc = .ok (.invokevirtual idx, 3)) (hn : As.length = n) (hroom : rmc.frames + 1 ≤ rm.frames ∧ 8 + (maxL + 11) + rmc.locals ≤ rm.locals) (hcap : kc + rmc.cells ≤ rm.cells ∧ ks + rmc.slots ≤ rm.slots) (hst : (st.map fun v => v.category).sum ≤ 8) (kk : ∀ (z : Int) (σ' : xF), ir z → post z σ' → vV G X (kc + rmc.cells) (ks + rmc.slots) (pc + 3) lv (.int (iv z) :: st) (ov f0 ad M σ')) : vV G X kc ks pc lv (As.reverse ++ .ref (ad i) :: st) (ov f0 ad M σ) :=
  v_callVI h ((ov_at hj hi).trans he) hM hC hdg hn hroom hcap hst (fun z f' hz hp => by obtain ⟨σ', rfl, hp⟩ := hp; exact kk z σ' hz hp)
theorem g_callVV (h : xOk G X cc y nL rm) (hj : adOk ad M) {y2 : MethodName} {bytes : ByteArray} {maxL idx n : Nat} {rmc : Room} {i : Nat} {As : List Value} {post : xF → Prop} {ci : Nat} {fs : List Value} (hi : i < M) (he : σ i = eO ci fs) (hM : ∀ l, gVo l G f0 ad M y2 (.code y2 bytes maxL none) rmc (.ref (ad i) :: As) σ post) (hC : CalV y.cls idx y2 (.code y2 bytes maxL none) n ci) (hdg : decode cc pc = .ok (.invokevirtual idx, 3)) (hn : As.length = n) (hroom : rmc.frames + 1 ≤ rm.frames ∧ 8 + (maxL + 11) + rmc.locals ≤ rm.locals) (hcap : kc + rmc.cells ≤ rm.cells ∧ ks + rmc.slots ≤ rm.slots) (hst : (st.map fun v => v.category).sum ≤ 8) (kk : ∀ (σ' : xF), post σ' → vV G X (kc + rmc.cells) (ks + rmc.slots) (pc + 3) lv st (ov f0 ad M σ')) : vV G X kc ks pc lv (As.reverse ++ .ref (ad i) :: st) (ov f0 ad M σ) :=
  v_callVV h ((ov_at hj hi).trans he) hM hC hdg hn hroom hcap hst (fun f' hp => by obtain ⟨σ', rfl, hp⟩ := hp; exact kk σ' hp)
theorem g_callVR (h : xOk G X cc y nL rm) (hj : adOk ad M) {y2 : MethodName} {bytes : ByteArray} {maxL idx n : Nat} {rt : FieldType} {rmc : Room} {i : Nat} {As : List Value} {post : Option Nat → xF → Prop} {ci : Nat} {fs : List Value} (hi : i < M) (he : σ i = eO ci fs) (hM : ∀ l, gR l G f0 ad M y2 (.code y2 bytes maxL (some rt)) rmc (.ref (ad i) :: As) σ post) (hC : CalV y.cls idx y2 (.code y2 bytes maxL (some rt)) n ci) (hdg : decode cc pc = .ok (.invokevirtual idx, 3)) (hn : As.length = n) (hroom : rmc.frames + 1 ≤ rm.frames ∧ 8 + (maxL + 11) + rmc.locals ≤ rm.locals) (hcap : kc + rmc.cells ≤ rm.cells ∧ ks + rmc.slots ≤ rm.slots) (hst : (st.map fun v => v.category).sum ≤ 8) (kk : ∀ (r : Option Nat) (σ' : xF), post r σ' → vV G X (kc + rmc.cells) (ks + rmc.slots) (pc + 3) lv (va_rf r :: st) (ov f0 ad M σ')) : vV G X kc ks pc lv (As.reverse ++ .ref (ad i) :: st) (ov f0 ad M σ) :=
  v_callVR h ((ov_at hj hi).trans he) hM hC hdg hn hroom hcap hst (fun r f' hp => by obtain ⟨σ', rfl, hp⟩ := hp; exact kk r σ' hp)
theorem g_callSI (h : xOk G X cc y nL rm) {y2 : MethodName} {bytes : ByteArray} {maxL idx n : Nat} {rt : FieldType} {rmc : Room} {As : List Value} {post : Int → Prop} (hM : ∀ l f, mI l G y2 (.code y2 bytes maxL (some rt)) rmc As f (fun z f' => f' = f ∧ post z)) (hC : CalS y.cls idx y2 (.code y2 bytes maxL (some rt)) n) (hdg : decode cc pc = .ok (.invokestatic idx, 3)) (hn : As.length = n) (hroom : rmc.frames + 1 ≤ rm.frames ∧ 8 + (maxL + 11) + rmc.locals ≤ rm.locals) (hcap : kc + rmc.cells ≤ rm.cells ∧ ks + rmc.slots ≤ rm.slots) (hst : (st.map fun v => v.category).sum ≤ 8) {f : xF} (kk : ∀ z : Int, ir z → post z → vV G X (kc + rmc.cells) (ks + rmc.slots) (pc + 3) lv (.int (iv z) :: st) f) : vV G X kc ks pc lv (As.reverse ++ st) f :=
  v_callSI h (fun l => hM l f) hC hdg hn hroom hcap hst (fun z f' hz hp => by obtain ⟨rfl, hp⟩ := hp; exact kk z hz hp)
end GV
end
section
/-! BITS OF NUMBERS: pop k m, how many of the k lowest bits of m are set; the JDK's bitCount counts them -/
def pop : Nat → Nat → Nat
  | 0, _ => 0
  | k + 1, m => m % 2 + pop k (m / 2)
theorem pop_add (j : Nat) : ∀ k m, pop (k + j) m = pop k m + pop j (m / 2 ^ k)
  | 0, m => by simp [pop]
  | k + 1, m => by
    have h := pop_add j k (m / 2)
    rw [show k + 1 + j = (k + j) + 1 by omega]
    show m % 2 + pop (k + j) (m / 2) = m % 2 + pop k (m / 2) + pop j (m / 2 ^ (k + 1))
    rw [h, Nat.div_div_eq_div_mul, show 2 * 2 ^ k = 2 ^ (k + 1) by rw [Nat.pow_succ, Nat.mul_comm]]
    omega
theorem pop_le : ∀ k m, pop k m ≤ k
  | 0, _ => Nat.le_refl 0
  | k + 1, m => by
    have h := pop_le k (m / 2)
    have h2 : m % 2 < 2 := Nat.mod_lt _ (by decide)
    show m % 2 + pop k (m / 2) ≤ k + 1
    omega
theorem pop_bit (k m : Nat) : pop (k + 1) m = pop k m + (if m.testBit k = true then 1 else 0) := by
  rw [pop_add 1 k m, Nat.testBit_eq_decide_div_mod_eq]
  have h : pop 1 (m / 2 ^ k) = m / 2 ^ k % 2 := by simp [pop]
  rw [h]
  have h2 : m / 2 ^ k % 2 < 2 := Nat.mod_lt _ (by decide)
  by_cases h3 : m / 2 ^ k % 2 = 1
  · simp [h3]
  · have : m / 2 ^ k % 2 = 0 := by omega
    simp [this]
theorem pop_mod : ∀ k m, pop k (m % 2 ^ k) = pop k m
  | 0, _ => rfl
  | k + 1, m => by
    have h := pop_mod k (m / 2)
    show m % 2 ^ (k + 1) % 2 + pop k (m % 2 ^ (k + 1) / 2) = m % 2 + pop k (m / 2)
    have e1 : m % 2 ^ (k + 1) % 2 = m % 2 := Nat.mod_mod_of_dvd m ⟨2 ^ k, by rw [Nat.pow_succ, Nat.mul_comm]⟩
    have e2 : m % 2 ^ (k + 1) / 2 = m / 2 % 2 ^ k := by rw [Nat.pow_succ, Nat.mod_mul_left_div_self]
    rw [e1, e2, h]
theorem and_split (x c : Nat) : x &&& c = ((x % 256) &&& (c % 256)) + 256 * ((x / 256) &&& (c / 256)) := by
  have h1 : (x &&& c) % 256 = (x % 256) &&& (c % 256) := Nat.and_mod_two_pow (a := x) (b := c) (n := 8)
  have h2 : (x &&& c) / 256 = (x / 256) &&& (c / 256) := Nat.and_div_two_pow (a := x) (b := c) (n := 8)
  have h3 := Nat.div_add_mod (x &&& c) 256
  omega
theorem by_1 : ∀ b, b < 256 → ∀ t, t < 2 → ((b / 2 + 128 * t) &&& 85) = ((b / 2) &&& 85) := by decide +kernel
theorem by_2 : ∀ b, b < 256 → ∀ t, t < 4 → ((b / 4 + 64 * t) &&& 51) = ((b / 4) &&& 51) := by decide +kernel
theorem by_3 : ∀ b, b < 69 → ∀ t, t < 16 → ((b + b / 16 + 16 * t) % 256 &&& 15) = (b + b / 16) % 16 := by decide +kernel
def by_s1 (b : Nat) : Nat := b - ((b / 2) &&& 85)
def by_s2 (b : Nat) : Nat := (by_s1 b &&& 51) + ((by_s1 b / 4) &&& 51)
theorem by_s : ∀ b, b < 256 → ((b / 2) &&& 85) ≤ b ∧ by_s1 b < 256 ∧ by_s2 b < 69 ∧ by_s2 b % 16 < 5 ∧ (by_s2 b + by_s2 b / 16) % 16 = pop 8 b := by decide +kernel
theorem and_w (b r c C : Nat) (hb : b < 256) (hc : c < 256) : (b + 256 * r) &&& (c + 256 * C) = (b &&& c) + 256 * (r &&& C) := by
  rw [and_split]
  have e1 : (b + 256 * r) % 256 = b := by omega
  have e2 : (b + 256 * r) / 256 = r := by omega
  have e3 : (c + 256 * C) % 256 = c := by omega
  have e4 : (c + 256 * C) / 256 = C := by omega
  rw [e1, e2, e3, e4]
theorem sh1_w (b r C : Nat) (hb : b < 256) : ((b + 256 * r) / 2) &&& (85 + 256 * C) = ((b / 2) &&& 85) + 256 * ((r / 2) &&& C) := by
  have e : (b + 256 * r) / 2 = (b / 2 + 128 * (r % 2)) + 256 * (r / 2) := by omega
  rw [e, and_w _ _ _ _ (by omega) (by decide), by_1 b hb _ (Nat.mod_lt _ (by decide))]
theorem sh2_w (b r C : Nat) (hb : b < 256) : ((b + 256 * r) / 4) &&& (51 + 256 * C) = ((b / 4) &&& 51) + 256 * ((r / 4) &&& C) := by
  have e : (b + 256 * r) / 4 = (b / 4 + 64 * (r % 4)) + 256 * (r / 4) := by omega
  rw [e, and_w _ _ _ _ (by omega) (by decide), by_2 b hb _ (Nat.mod_lt _ (by decide))]
theorem bc_1 (b0 b1 b2 : Nat) (h0 : b0 < 256) (h1 : b1 < 256) (h2 : b2 < 256) : (b0 + 256 * (b1 + 256 * b2)) - (((b0 + 256 * (b1 + 256 * b2)) / 2) &&& 1431655765) = by_s1 b0 + 256 * (by_s1 b1 + 256 * by_s1 b2) := by
  have e : (1431655765 : Nat) = 85 + 256 * (85 + 256 * (85 + 256 * 85)) := by decide
  have e2 : b2 = b2 + 256 * 0 := by omega
  have q : ((b0 + 256 * (b1 + 256 * b2)) / 2) &&& 1431655765 = ((b0 / 2) &&& 85) + 256 * (((b1 / 2) &&& 85) + 256 * ((b2 / 2) &&& 85)) := by
    rw [e, sh1_w _ _ _ h0, sh1_w _ _ _ h1]
    rw [show (b2 / 2) &&& (85 + 256 * 85) = ((b2 / 2) &&& 85) by
      have := sh1_w b2 0 85 h2
      simpa using this]
  rw [q]
  have a0 := (by_s b0 h0).1
  have a1 := (by_s b1 h1).1
  have a2 := (by_s b2 h2).1
  unfold by_s1
  omega
theorem bc_2 (a0 a1 a2 : Nat) (h0 : a0 < 256) (h1 : a1 < 256) (h2 : a2 < 256) : ((a0 + 256 * (a1 + 256 * a2)) &&& 858993459) + (((a0 + 256 * (a1 + 256 * a2)) / 4) &&& 858993459) = ((a0 &&& 51) + ((a0 / 4) &&& 51)) + 256 * (((a1 &&& 51) + ((a1 / 4) &&& 51)) + 256 * ((a2 &&& 51) + ((a2 / 4) &&& 51))) := by
  have e : (858993459 : Nat) = 51 + 256 * (51 + 256 * (51 + 256 * 51)) := by decide
  have q : ((a0 + 256 * (a1 + 256 * a2)) / 4) &&& 858993459 = ((a0 / 4) &&& 51) + 256 * (((a1 / 4) &&& 51) + 256 * ((a2 / 4) &&& 51)) := by
    rw [e, sh2_w _ _ _ h0, sh2_w _ _ _ h1]
    rw [show (a2 / 4) &&& (51 + 256 * 51) = ((a2 / 4) &&& 51) by
      have := sh2_w a2 0 51 h2
      simpa using this]
  have p : (a0 + 256 * (a1 + 256 * a2)) &&& 858993459 = (a0 &&& 51) + 256 * ((a1 &&& 51) + 256 * (a2 &&& 51)) := by
    rw [e, and_w _ _ _ _ h0 (by decide), and_w _ _ _ _ h1 (by decide)]
    rw [show a2 &&& (51 + 256 * 51) = (a2 &&& 51) by
      have := and_w a2 0 51 51 h2 (by decide)
      simpa using this]
  rw [q, p]
  omega
theorem bc_3w (b r C : Nat) (hb : b < 69) (hr : r % 16 < 5) : ((b + 256 * r) + (b + 256 * r) / 16) &&& (15 + 256 * C) = (b + b / 16) % 16 + 256 * ((r + r / 16) &&& C) := by
  have e : (b + 256 * r) + (b + 256 * r) / 16 = (b + b / 16 + 16 * (r % 16)) + 256 * (r + r / 16) := by omega
  have hlt : b + b / 16 + 16 * (r % 16) < 256 := by omega
  rw [e, and_w _ _ _ _ hlt (by decide)]
  have := by_3 b hb (r % 16) (by omega)
  rw [Nat.mod_eq_of_lt hlt] at this
  rw [this]
theorem bc_3 (b0 b1 b2 : Nat) (h0 : b0 < 69) (h1 : b1 < 69) (h2 : b2 < 69) (g1 : b1 % 16 < 5) (g2 : b2 % 16 < 5) : ((b0 + 256 * (b1 + 256 * b2)) + (b0 + 256 * (b1 + 256 * b2)) / 16) &&& 252645135 = (b0 + b0 / 16) % 16 + 256 * ((b1 + b1 / 16) % 16 + 256 * ((b2 + b2 / 16) % 16)) := by
  have e : (252645135 : Nat) = 15 + 256 * (15 + 256 * (15 + 256 * 15)) := by decide
  rw [e, bc_3w _ _ _ h0 (by omega), bc_3w _ _ _ h1 g2]
  rw [show (b2 + b2 / 16) &&& (15 + 256 * 15) = (b2 + b2 / 16) % 16 by
    have := bc_3w b2 0 15 h2 (by decide)
    simpa using this]
/-- the JDK's way to count, for numbers of 24 bits -/
theorem bc_all (m : Nat) (hm : m < 16777216) : ∃ a b c : Nat, m - ((m / 2) &&& 1431655765) = a ∧ ((m / 2) &&& 1431655765) ≤ m ∧ (a &&& 858993459) + ((a / 4) &&& 858993459) = b ∧ (b + b / 16) &&& 252645135 = c ∧ a < 16777216 ∧ b < 16777216 ∧ c < 16777216 ∧ ((c + c / 256) + (c + c / 256) / 65536) % 64 = pop 24 m := by
  obtain ⟨b0, b1, b2, h0, h1, h2, rfl⟩ : ∃ b0 b1 b2, b0 < 256 ∧ b1 < 256 ∧ b2 < 256 ∧ m = b0 + 256 * (b1 + 256 * b2) := ⟨m % 256, m / 256 % 256, m / 65536, by omega, by omega, by omega, by omega⟩
  have s0 := by_s b0 h0
  have s1 := by_s b1 h1
  have s2 := by_s b2 h2
  have q1 := bc_1 b0 b1 b2 h0 h1 h2
  have q2 := bc_2 (by_s1 b0) (by_s1 b1) (by_s1 b2) s0.2.1 s1.2.1 s2.2.1
  have q3 := bc_3 (by_s2 b0) (by_s2 b1) (by_s2 b2) s0.2.2.1 s1.2.2.1 s2.2.2.1 s1.2.2.2.1 s2.2.2.2.1
  have p0 := pop_le 8 b0
  have p1 := pop_le 8 b1
  have p2 := pop_le 8 b2
  have hpop : pop 24 (b0 + 256 * (b1 + 256 * b2)) = pop 8 b0 + pop 8 b1 + pop 8 b2 := by
    rw [show (24 : Nat) = 8 + 16 by decide, pop_add, show (16 : Nat) = 8 + 8 by decide, pop_add]
    have e1 : pop 8 (b0 + 256 * (b1 + 256 * b2)) = pop 8 b0 := by
      rw [← pop_mod 8 (b0 + 256 * (b1 + 256 * b2))]
      have : (b0 + 256 * (b1 + 256 * b2)) % 2 ^ 8 = b0 := by omega
      rw [this]
    have e2 : (b0 + 256 * (b1 + 256 * b2)) / 2 ^ 8 = b1 + 256 * b2 := by omega
    have e3 : pop 8 (b1 + 256 * b2) = pop 8 b1 := by
      rw [← pop_mod 8 (b1 + 256 * b2)]
      have : (b1 + 256 * b2) % 2 ^ 8 = b1 := by omega
      rw [this]
    have e4 : (b1 + 256 * b2) / 2 ^ 8 = b2 := by omega
    rw [e1, e2, e3, e4]
    omega
  refine ⟨_, _, _, q1, ?_, rfl, rfl, ?_, ?_, ?_, ?_⟩
  · have a0 := s0.1
    have e : ((b0 + 256 * (b1 + 256 * b2)) / 2) &&& 1431655765 ≤ (b0 + 256 * (b1 + 256 * b2)) / 2 := Nat.and_le_left
    omega
  · have := s0.2.1; have := s1.2.1; have := s2.2.1; omega
  · rw [q2]
    have a0 : by_s2 b0 < 69 := s0.2.2.1
    have a1 : by_s2 b1 < 69 := s1.2.2.1
    have a2 : by_s2 b2 < 69 := s2.2.2.1
    unfold by_s2 at a0 a1 a2
    omega
  · rw [q2]
    have := q3
    unfold by_s2 at this
    rw [this]
    omega
  · rw [q2]
    have h := q3
    unfold by_s2 at h
    rw [h]
    have e0 := s0.2.2.2.2
    have e1 := s1.2.2.2.2
    have e2 := s2.2.2.2.2
    unfold by_s2 at e0 e1 e2
    rw [e0, e1, e2, hpop]
    clear h e0 e1 e2 hpop q1 q2 q3 s0 s1 s2 h0 h1 h2 hm
    generalize pop 8 b0 = x at *
    generalize pop 8 b1 = y at *
    generalize pop 8 b2 = z at *
    have g1 : (x + 256 * (y + 256 * z)) / 256 = y + 256 * z := by omega
    rw [g1]
    have g2 : (x + 256 * (y + 256 * z) + (y + 256 * z)) / 65536 = z := by omega
    rw [g2]
    omega
theorem iv_bv (n : Nat) : (iv (n : Int)).toBitVec = BitVec.ofNat 32 n := by rw [iv_nat]; rfl
theorem iv_and (a b : Nat) : iv (a : Int) &&& iv (b : Int) = iv ((a &&& b : Nat) : Int) := by
  apply Int32.toBitVec_inj.1
  rw [Int32.toBitVec_and, iv_bv, iv_bv, iv_bv]
  apply BitVec.eq_of_getLsbD_eq
  intro i hi
  simp [hi]
theorem iv_or (a b : Nat) : iv (a : Int) ||| iv (b : Int) = iv ((a ||| b : Nat) : Int) := by
  apply Int32.toBitVec_inj.1
  rw [Int32.toBitVec_or, iv_bv, iv_bv, iv_bv]
  apply BitVec.eq_of_getLsbD_eq
  intro i hi
  simp [hi]
theorem iv_xor (a b : Nat) : iv (a : Int) ^^^ iv (b : Int) = iv ((a ^^^ b : Nat) : Int) := by
  apply Int32.toBitVec_inj.1
  rw [Int32.toBitVec_xor, iv_bv, iv_bv, iv_bv]
  apply BitVec.eq_of_getLsbD_eq
  intro i hi
  simp [hi]
theorem iv_m1 : (iv (-1)).toBitVec = BitVec.allOnes 32 := by decide +kernel
theorem iv_notbv (b : Nat) : (iv (-1 - (b : Int))).toBitVec = ~~~ (BitVec.ofNat 32 b) := by
  rw [← iv_sub, Int32.toBitVec_sub, iv_m1, iv_bv, BitVec.allOnes_sub_eq_not]
theorem iv_not (b : Nat) : iv (b : Int) ^^^ iv (-1) = iv (-1 - (b : Int)) := by
  apply Int32.toBitVec_inj.1
  rw [Int32.toBitVec_xor, iv_notbv, iv_m1, iv_bv, BitVec.xor_allOnes]
theorem iv_andnot (a b : Nat) : iv (a : Int) &&& iv (-1 - (b : Int)) = iv ((a ^^^ (a &&& b) : Nat) : Int) := by
  apply Int32.toBitVec_inj.1
  rw [Int32.toBitVec_and, iv_notbv, iv_bv, iv_bv]
  apply BitVec.eq_of_getLsbD_eq
  intro i hi
  simp only [BitVec.getLsbD_and, BitVec.getLsbD_not, BitVec.getLsbD_ofNat, Nat.testBit_xor, Nat.testBit_and, hi, decide_true, Bool.true_and]
  cases a.testBit i <;> cases b.testBit i <;> rfl
theorem iv_shl1 : ∀ n : Nat, n < 31 → iv 1 <<< (iv (n : Int) &&& 31) = iv ((2 ^ n : Nat) : Int) := by decide +kernel
theorem iv_low : ∀ m : Nat, m < 64 → iv (m : Int) &&& iv (-(m : Int)) = iv ((m &&& (4294967296 - m) : Nat) : Int) := by decide +kernel
theorem iv_shl_a : ∀ n : Nat, n < 32 → ((iv (n : Int) &&& 31).toBitVec.smod 32).toNat = n := by decide +kernel
theorem iv_shr (m : Nat) (hm : m < 2147483648) (n : Nat) (hn : n < 32) : iv (m : Int) >>> (iv (n : Int) &&& 31) = iv ((m / 2 ^ n : Nat) : Int) := by
  rw [iv_nat m, iv_nat (m / 2 ^ n)]
  exact pk_shrN (by omega) _ n (iv_shl_a n hn)
theorem iv_ushr_a : ∀ n : Nat, n < 32 → (((iv (n : Int)).toUInt32 &&& Int32.toUInt32 31).toBitVec % 32).toNat = n := by decide +kernel
theorem iv_ushr (m : Nat) (hm : m < 2147483648) (n : Nat) (hn : n < 32) : ((iv (m : Int)).toUInt32 >>> ((iv (n : Int)).toUInt32 &&& Int32.toUInt32 31)).toInt32 = iv ((m / 2 ^ n : Nat) : Int) := by
  rw [iv_nat m, iv_nat (m / 2 ^ n)]
  exact pk_ushrN (by omega) _ n (iv_ushr_a n hn)
theorem iv_ne0 {b : Int} (h : ir b) (h0 : b ≠ 0) : ¬ iv b = 0 := fun q => h0 ((iv_eq h ir_0).mp q)
theorem iv_div (a b : Nat) (ha : a < 2147483648) (h0 : 0 < b) (hb : b < 2147483648) : iv (a : Int) / iv (b : Int) = iv ((a / b : Nat) : Int) := by
  rw [iv_nat, iv_nat, iv_nat]
  exact pk_div (by omega) h0 (by omega)
theorem iv_rem (a b : Nat) (ha : a < 2147483648) (h0 : 0 < b) (hb : b < 2147483648) : iv (a : Int) - iv (a : Int) / iv (b : Int) * iv (b : Int) = iv ((a % b : Nat) : Int) := by
  rw [iv_nat, iv_nat, iv_nat]
  exact pk_rem (by omega) h0 (by omega)
end
