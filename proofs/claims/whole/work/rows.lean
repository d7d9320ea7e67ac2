section
-- ===== PART A: goes FIRST, ahead of the names: the tables' words, and 'selects' of the private methods out of them =====
/-- a private method of a class that the tables say can be made, by its rows of tables_1 -/
def lw_okq (q : MethodName × Nat) : Prop := (q.1.cls ≠ "java/lang/invoke/MethodHandle" ∧ q.1.cls ≠ "java/lang/invoke/VarHandle") ∧ Cond.instantiable q.1.cls q.2 ∈ tables_1 ∧ Cond.privateMethod q.1 ∈ tables_1 ∧ Cond.instanceMethod q.1 ∈ tables_1
theorem lw_p0 : lw_okq (⟨"BestSplits", "noteChange", "()V"⟩, 9) := ⟨⟨by decide +kernel, by decide +kernel⟩, List.mem_of_getElem? (i := 15) (by decide +kernel), List.mem_of_getElem? (i := 300) (by decide +kernel), List.mem_of_getElem? (i := 301) (by decide +kernel)⟩
theorem lw_p1 : lw_okq (⟨"BestSplits", "ask", "(IIII)V"⟩, 9) := ⟨⟨by decide +kernel, by decide +kernel⟩, List.mem_of_getElem? (i := 15) (by decide +kernel), List.mem_of_getElem? (i := 313) (by decide +kernel), List.mem_of_getElem? (i := 314) (by decide +kernel)⟩
theorem lw_p2 : lw_okq (⟨"BestSplits$Table", "enterKnown", "(III)V"⟩, 7) := ⟨⟨by decide +kernel, by decide +kernel⟩, List.mem_of_getElem? (i := 23) (by decide +kernel), List.mem_of_getElem? (i := 329) (by decide +kernel), List.mem_of_getElem? (i := 330) (by decide +kernel)⟩
theorem lw_p3 : lw_okq (⟨"BestSplits$Table", "isLeftOf", "(III)Z"⟩, 7) := ⟨⟨by decide +kernel, by decide +kernel⟩, List.mem_of_getElem? (i := 23) (by decide +kernel), List.mem_of_getElem? (i := 337) (by decide +kernel), List.mem_of_getElem? (i := 338) (by decide +kernel)⟩
theorem lw_p4 : lw_okq (⟨"BestSplits", "growIfChanged", "()V"⟩, 9) := ⟨⟨by decide +kernel, by decide +kernel⟩, List.mem_of_getElem? (i := 15) (by decide +kernel), List.mem_of_getElem? (i := 357) (by decide +kernel), List.mem_of_getElem? (i := 358) (by decide +kernel)⟩
theorem lw_p5 : lw_okq (⟨"BestSplits$Tree", "begin", "(LBestSplits$Node;II)V"⟩, 6) := ⟨⟨by decide +kernel, by decide +kernel⟩, List.mem_of_getElem? (i := 144) (by decide +kernel), List.mem_of_getElem? (i := 369) (by decide +kernel), List.mem_of_getElem? (i := 370) (by decide +kernel)⟩
theorem lw_p6 : lw_okq (⟨"BestSplits$Tree", "partIfDue", "(LBestSplits$Node;)V"⟩, 6) := ⟨⟨by decide +kernel, by decide +kernel⟩, List.mem_of_getElem? (i := 144) (by decide +kernel), List.mem_of_getElem? (i := 389) (by decide +kernel), List.mem_of_getElem? (i := 390) (by decide +kernel)⟩
theorem lw_p7 : lw_okq (⟨"BestSplits$Table", "isGrouping", "(III)Z"⟩, 7) := ⟨⟨by decide +kernel, by decide +kernel⟩, List.mem_of_getElem? (i := 23) (by decide +kernel), List.mem_of_getElem? (i := 401) (by decide +kernel), List.mem_of_getElem? (i := 402) (by decide +kernel)⟩
theorem lw_p8 : lw_okq (⟨"BestSplits$Table", "isStep", "(III)Z"⟩, 7) := ⟨⟨by decide +kernel, by decide +kernel⟩, List.mem_of_getElem? (i := 23) (by decide +kernel), List.mem_of_getElem? (i := 405) (by decide +kernel), List.mem_of_getElem? (i := 406) (by decide +kernel)⟩
theorem lw_p9 : lw_okq (⟨"BestSplits$Survey", "keepIfBetter", "(Z)V"⟩, 4) := ⟨⟨by decide +kernel, by decide +kernel⟩, List.mem_of_getElem? (i := 79) (by decide +kernel), List.mem_of_getElem? (i := 434) (by decide +kernel), List.mem_of_getElem? (i := 435) (by decide +kernel)⟩
theorem lw_p10 : lw_okq (⟨"BestSplits$Pruning", "recordStage", "(I)Z"⟩, 6) := ⟨⟨by decide +kernel, by decide +kernel⟩, List.mem_of_getElem? (i := 233) (by decide +kernel), List.mem_of_getElem? (i := 477) (by decide +kernel), List.mem_of_getElem? (i := 478) (by decide +kernel)⟩
theorem lw_p11 : lw_okq (⟨"BestSplits$Pruning", "findAlpha", "(ILBestSplits$Fraction;)V"⟩, 6) := ⟨⟨by decide +kernel, by decide +kernel⟩, List.mem_of_getElem? (i := 233) (by decide +kernel), List.mem_of_getElem? (i := 489) (by decide +kernel), List.mem_of_getElem? (i := 490) (by decide +kernel)⟩
theorem lw_p12 : lw_okq (⟨"BestSplits$Pruning", "weigh", "(LBestSplits$Node;)V"⟩, 6) := ⟨⟨by decide +kernel, by decide +kernel⟩, List.mem_of_getElem? (i := 233) (by decide +kernel), List.mem_of_getElem? (i := 493) (by decide +kernel), List.mem_of_getElem? (i := 494) (by decide +kernel)⟩
theorem lw_p13 : lw_okq (⟨"BestSplits$Pruning", "cutBack", "(ILBestSplits$Fraction;)V"⟩, 6) := ⟨⟨by decide +kernel, by decide +kernel⟩, List.mem_of_getElem? (i := 233) (by decide +kernel), List.mem_of_getElem? (i := 500) (by decide +kernel), List.mem_of_getElem? (i := 501) (by decide +kernel)⟩
theorem lw_p14 : lw_okq (⟨"BestSplits$Fraction", "greatestCommonDivisor", "()I"⟩, 2) := ⟨⟨by decide +kernel, by decide +kernel⟩, List.mem_of_getElem? (i := 91) (by decide +kernel), List.mem_of_getElem? (i := 542) (by decide +kernel), List.mem_of_getElem? (i := 543) (by decide +kernel)⟩
theorem lw_p15 : lw_okq (⟨"BestSplits", "isMistakenByOthers", "(I)Z"⟩, 9) := ⟨⟨by decide +kernel, by decide +kernel⟩, List.mem_of_getElem? (i := 15) (by decide +kernel), List.mem_of_getElem? (i := 606) (by decide +kernel), List.mem_of_getElem? (i := 607) (by decide +kernel)⟩
def lw_privs_1 : List (MethodName × Nat) := [(⟨"BestSplits", "noteChange", "()V"⟩, 9), (⟨"BestSplits", "ask", "(IIII)V"⟩, 9), (⟨"BestSplits$Table", "enterKnown", "(III)V"⟩, 7), (⟨"BestSplits$Table", "isLeftOf", "(III)Z"⟩, 7), (⟨"BestSplits", "growIfChanged", "()V"⟩, 9), (⟨"BestSplits$Tree", "begin", "(LBestSplits$Node;II)V"⟩, 6), (⟨"BestSplits$Tree", "partIfDue", "(LBestSplits$Node;)V"⟩, 6), (⟨"BestSplits$Table", "isGrouping", "(III)Z"⟩, 7), (⟨"BestSplits$Table", "isStep", "(III)Z"⟩, 7), (⟨"BestSplits$Survey", "keepIfBetter", "(Z)V"⟩, 4), (⟨"BestSplits$Pruning", "recordStage", "(I)Z"⟩, 6), (⟨"BestSplits$Pruning", "findAlpha", "(ILBestSplits$Fraction;)V"⟩, 6), (⟨"BestSplits$Pruning", "weigh", "(LBestSplits$Node;)V"⟩, 6), (⟨"BestSplits$Pruning", "cutBack", "(ILBestSplits$Fraction;)V"⟩, 6), (⟨"BestSplits$Fraction", "greatestCommonDivisor", "()I"⟩, 2), (⟨"BestSplits", "isMistakenByOthers", "(I)Z"⟩, 9)]
theorem lw_r1 : ∀ q ∈ lw_privs_1, lw_okq q := List.forall_mem_cons.mpr ⟨lw_p0, List.forall_mem_cons.mpr ⟨lw_p1, List.forall_mem_cons.mpr ⟨lw_p2, List.forall_mem_cons.mpr ⟨lw_p3, List.forall_mem_cons.mpr ⟨lw_p4, List.forall_mem_cons.mpr ⟨lw_p5, List.forall_mem_cons.mpr ⟨lw_p6, List.forall_mem_cons.mpr ⟨lw_p7, List.forall_mem_cons.mpr ⟨lw_p8, List.forall_mem_cons.mpr ⟨lw_p9, List.forall_mem_cons.mpr ⟨lw_p10, List.forall_mem_cons.mpr ⟨lw_p11, List.forall_mem_cons.mpr ⟨lw_p12, List.forall_mem_cons.mpr ⟨lw_p13, List.forall_mem_cons.mpr ⟨lw_p14, List.forall_mem_cons.mpr ⟨lw_p15, fun _ h => absurd h List.not_mem_nil⟩⟩⟩⟩⟩⟩⟩⟩⟩⟩⟩⟩⟩⟩⟩⟩
theorem lw_p16 : lw_okq (⟨"BestSplitsModel", "isValue", "(II)Z"⟩, 33) := ⟨⟨by decide +kernel, by decide +kernel⟩, List.mem_of_getElem? (i := 610) (by decide +kernel), List.mem_of_getElem? (i := 725) (by decide +kernel), List.mem_of_getElem? (i := 726) (by decide +kernel)⟩
theorem lw_p17 : lw_okq (⟨"BestSplitsModel", "build", "()V"⟩, 33) := ⟨⟨by decide +kernel, by decide +kernel⟩, List.mem_of_getElem? (i := 610) (by decide +kernel), List.mem_of_getElem? (i := 741) (by decide +kernel), List.mem_of_getElem? (i := 742) (by decide +kernel)⟩
theorem lw_p18 : lw_okq (⟨"BestSplitsModel", "grow", "(I)V"⟩, 33) := ⟨⟨by decide +kernel, by decide +kernel⟩, List.mem_of_getElem? (i := 610) (by decide +kernel), List.mem_of_getElem? (i := 745) (by decide +kernel), List.mem_of_getElem? (i := 746) (by decide +kernel)⟩
theorem lw_p19 : lw_okq (⟨"BestSplitsModel", "add", "(II)V"⟩, 33) := ⟨⟨by decide +kernel, by decide +kernel⟩, List.mem_of_getElem? (i := 610) (by decide +kernel), List.mem_of_getElem? (i := 749) (by decide +kernel), List.mem_of_getElem? (i := 750) (by decide +kernel)⟩
theorem lw_p20 : lw_okq (⟨"BestSplitsModel", "isMixed", "(I)Z"⟩, 33) := ⟨⟨by decide +kernel, by decide +kernel⟩, List.mem_of_getElem? (i := 610) (by decide +kernel), List.mem_of_getElem? (i := 753) (by decide +kernel), List.mem_of_getElem? (i := 754) (by decide +kernel)⟩
theorem lw_p21 : lw_okq (⟨"BestSplitsModel", "wrongOf", "(I)I"⟩, 33) := ⟨⟨by decide +kernel, by decide +kernel⟩, List.mem_of_getElem? (i := 610) (by decide +kernel), List.mem_of_getElem? (i := 757) (by decide +kernel), List.mem_of_getElem? (i := 758) (by decide +kernel)⟩
theorem lw_p22 : lw_okq (⟨"BestSplitsModel", "many", "(I)I"⟩, 33) := ⟨⟨by decide +kernel, by decide +kernel⟩, List.mem_of_getElem? (i := 610) (by decide +kernel), List.mem_of_getElem? (i := 761) (by decide +kernel), List.mem_of_getElem? (i := 762) (by decide +kernel)⟩
theorem lw_p23 : lw_okq (⟨"BestSplitsModel", "labelOf", "(I)I"⟩, 33) := ⟨⟨by decide +kernel, by decide +kernel⟩, List.mem_of_getElem? (i := 610) (by decide +kernel), List.mem_of_getElem? (i := 765) (by decide +kernel), List.mem_of_getElem? (i := 766) (by decide +kernel)⟩
theorem lw_p24 : lw_okq (⟨"BestSplitsModel", "of", "(II)I"⟩, 33) := ⟨⟨by decide +kernel, by decide +kernel⟩, List.mem_of_getElem? (i := 610) (by decide +kernel), List.mem_of_getElem? (i := 769) (by decide +kernel), List.mem_of_getElem? (i := 770) (by decide +kernel)⟩
theorem lw_p25 : lw_okq (⟨"BestSplitsModel", "findBest", "(I)Z"⟩, 33) := ⟨⟨by decide +kernel, by decide +kernel⟩, List.mem_of_getElem? (i := 610) (by decide +kernel), List.mem_of_getElem? (i := 773) (by decide +kernel), List.mem_of_getElem? (i := 774) (by decide +kernel)⟩
theorem lw_p26 : lw_okq (⟨"BestSplitsModel", "may", "(IIII)Z"⟩, 33) := ⟨⟨by decide +kernel, by decide +kernel⟩, List.mem_of_getElem? (i := 610) (by decide +kernel), List.mem_of_getElem? (i := 777) (by decide +kernel), List.mem_of_getElem? (i := 778) (by decide +kernel)⟩
theorem lw_p27 : lw_okq (⟨"BestSplitsModel", "isCut", "(IIII)Z"⟩, 33) := ⟨⟨by decide +kernel, by decide +kernel⟩, List.mem_of_getElem? (i := 610) (by decide +kernel), List.mem_of_getElem? (i := 781) (by decide +kernel), List.mem_of_getElem? (i := 782) (by decide +kernel)⟩
theorem lw_p28 : lw_okq (⟨"BestSplitsModel", "hasValue", "(III)Z"⟩, 33) := ⟨⟨by decide +kernel, by decide +kernel⟩, List.mem_of_getElem? (i := 610) (by decide +kernel), List.mem_of_getElem? (i := 785) (by decide +kernel), List.mem_of_getElem? (i := 786) (by decide +kernel)⟩
theorem lw_p29 : lw_okq (⟨"BestSplitsModel", "greatest", "(II)I"⟩, 33) := ⟨⟨by decide +kernel, by decide +kernel⟩, List.mem_of_getElem? (i := 610) (by decide +kernel), List.mem_of_getElem? (i := 789) (by decide +kernel), List.mem_of_getElem? (i := 790) (by decide +kernel)⟩
theorem lw_p30 : lw_okq (⟨"BestSplitsModel", "kindsOf", "(II)I"⟩, 33) := ⟨⟨by decide +kernel, by decide +kernel⟩, List.mem_of_getElem? (i := 610) (by decide +kernel), List.mem_of_getElem? (i := 793) (by decide +kernel), List.mem_of_getElem? (i := 794) (by decide +kernel)⟩
theorem lw_p31 : lw_okq (⟨"BestSplitsModel", "leftOf", "(IIII)I"⟩, 33) := ⟨⟨by decide +kernel, by decide +kernel⟩, List.mem_of_getElem? (i := 610) (by decide +kernel), List.mem_of_getElem? (i := 797) (by decide +kernel), List.mem_of_getElem? (i := 798) (by decide +kernel)⟩
def lw_privs_2 : List (MethodName × Nat) := [(⟨"BestSplitsModel", "isValue", "(II)Z"⟩, 33), (⟨"BestSplitsModel", "build", "()V"⟩, 33), (⟨"BestSplitsModel", "grow", "(I)V"⟩, 33), (⟨"BestSplitsModel", "add", "(II)V"⟩, 33), (⟨"BestSplitsModel", "isMixed", "(I)Z"⟩, 33), (⟨"BestSplitsModel", "wrongOf", "(I)I"⟩, 33), (⟨"BestSplitsModel", "many", "(I)I"⟩, 33), (⟨"BestSplitsModel", "labelOf", "(I)I"⟩, 33), (⟨"BestSplitsModel", "of", "(II)I"⟩, 33), (⟨"BestSplitsModel", "findBest", "(I)Z"⟩, 33), (⟨"BestSplitsModel", "may", "(IIII)Z"⟩, 33), (⟨"BestSplitsModel", "isCut", "(IIII)Z"⟩, 33), (⟨"BestSplitsModel", "hasValue", "(III)Z"⟩, 33), (⟨"BestSplitsModel", "greatest", "(II)I"⟩, 33), (⟨"BestSplitsModel", "kindsOf", "(II)I"⟩, 33), (⟨"BestSplitsModel", "leftOf", "(IIII)I"⟩, 33)]
theorem lw_r2 : ∀ q ∈ lw_privs_2, lw_okq q := List.forall_mem_cons.mpr ⟨lw_p16, List.forall_mem_cons.mpr ⟨lw_p17, List.forall_mem_cons.mpr ⟨lw_p18, List.forall_mem_cons.mpr ⟨lw_p19, List.forall_mem_cons.mpr ⟨lw_p20, List.forall_mem_cons.mpr ⟨lw_p21, List.forall_mem_cons.mpr ⟨lw_p22, List.forall_mem_cons.mpr ⟨lw_p23, List.forall_mem_cons.mpr ⟨lw_p24, List.forall_mem_cons.mpr ⟨lw_p25, List.forall_mem_cons.mpr ⟨lw_p26, List.forall_mem_cons.mpr ⟨lw_p27, List.forall_mem_cons.mpr ⟨lw_p28, List.forall_mem_cons.mpr ⟨lw_p29, List.forall_mem_cons.mpr ⟨lw_p30, List.forall_mem_cons.mpr ⟨lw_p31, fun _ h => absurd h List.not_mem_nil⟩⟩⟩⟩⟩⟩⟩⟩⟩⟩⟩⟩⟩⟩⟩⟩
theorem lw_p32 : lw_okq (⟨"BestSplitsModel", "goesLeft", "(IIII)Z"⟩, 33) := ⟨⟨by decide +kernel, by decide +kernel⟩, List.mem_of_getElem? (i := 610) (by decide +kernel), List.mem_of_getElem? (i := 801) (by decide +kernel), List.mem_of_getElem? (i := 802) (by decide +kernel)⟩
theorem lw_p33 : lw_okq (⟨"BestSplitsModel", "isLeft", "(IIII)Z"⟩, 33) := ⟨⟨by decide +kernel, by decide +kernel⟩, List.mem_of_getElem? (i := 610) (by decide +kernel), List.mem_of_getElem? (i := 805) (by decide +kernel), List.mem_of_getElem? (i := 806) (by decide +kernel)⟩
theorem lw_p34 : lw_okq (⟨"BestSplitsModel", "squares", "(I)J"⟩, 33) := ⟨⟨by decide +kernel, by decide +kernel⟩, List.mem_of_getElem? (i := 610) (by decide +kernel), List.mem_of_getElem? (i := 809) (by decide +kernel), List.mem_of_getElem? (i := 810) (by decide +kernel)⟩
theorem lw_p35 : lw_okq (⟨"BestSplitsModel", "findStages", "()V"⟩, 33) := ⟨⟨by decide +kernel, by decide +kernel⟩, List.mem_of_getElem? (i := 610) (by decide +kernel), List.mem_of_getElem? (i := 814) (by decide +kernel), List.mem_of_getElem? (i := 815) (by decide +kernel)⟩
theorem lw_p36 : lw_okq (⟨"BestSplitsModel", "nextStage", "()V"⟩, 33) := ⟨⟨by decide +kernel, by decide +kernel⟩, List.mem_of_getElem? (i := 610) (by decide +kernel), List.mem_of_getElem? (i := 818) (by decide +kernel), List.mem_of_getElem? (i := 819) (by decide +kernel)⟩
theorem lw_p37 : lw_okq (⟨"BestSplitsModel", "look", "(II)V"⟩, 33) := ⟨⟨by decide +kernel, by decide +kernel⟩, List.mem_of_getElem? (i := 610) (by decide +kernel), List.mem_of_getElem? (i := 823) (by decide +kernel), List.mem_of_getElem? (i := 824) (by decide +kernel)⟩
theorem lw_p38 : lw_okq (⟨"BestSplitsModel", "isNode", "(I)Z"⟩, 33) := ⟨⟨by decide +kernel, by decide +kernel⟩, List.mem_of_getElem? (i := 610) (by decide +kernel), List.mem_of_getElem? (i := 831) (by decide +kernel), List.mem_of_getElem? (i := 832) (by decide +kernel)⟩
theorem lw_p39 : lw_okq (⟨"BestSplitsModel", "comesTo", "()I"⟩, 33) := ⟨⟨by decide +kernel, by decide +kernel⟩, List.mem_of_getElem? (i := 610) (by decide +kernel), List.mem_of_getElem? (i := 853) (by decide +kernel), List.mem_of_getElem? (i := 854) (by decide +kernel)⟩
theorem lw_p40 : lw_okq (⟨"BestSplitsModel", "leafFor", "(I)I"⟩, 33) := ⟨⟨by decide +kernel, by decide +kernel⟩, List.mem_of_getElem? (i := 610) (by decide +kernel), List.mem_of_getElem? (i := 861) (by decide +kernel), List.mem_of_getElem? (i := 862) (by decide +kernel)⟩
theorem lw_p41 : lw_okq (⟨"BestSplitsModel", "isStage", "(I)Z"⟩, 33) := ⟨⟨by decide +kernel, by decide +kernel⟩, List.mem_of_getElem? (i := 610) (by decide +kernel), List.mem_of_getElem? (i := 881) (by decide +kernel), List.mem_of_getElem? (i := 882) (by decide +kernel)⟩
def lw_privs_3 : List (MethodName × Nat) := [(⟨"BestSplitsModel", "goesLeft", "(IIII)Z"⟩, 33), (⟨"BestSplitsModel", "isLeft", "(IIII)Z"⟩, 33), (⟨"BestSplitsModel", "squares", "(I)J"⟩, 33), (⟨"BestSplitsModel", "findStages", "()V"⟩, 33), (⟨"BestSplitsModel", "nextStage", "()V"⟩, 33), (⟨"BestSplitsModel", "look", "(II)V"⟩, 33), (⟨"BestSplitsModel", "isNode", "(I)Z"⟩, 33), (⟨"BestSplitsModel", "comesTo", "()I"⟩, 33), (⟨"BestSplitsModel", "leafFor", "(I)I"⟩, 33), (⟨"BestSplitsModel", "isStage", "(I)Z"⟩, 33)]
theorem lw_r3 : ∀ q ∈ lw_privs_3, lw_okq q := List.forall_mem_cons.mpr ⟨lw_p32, List.forall_mem_cons.mpr ⟨lw_p33, List.forall_mem_cons.mpr ⟨lw_p34, List.forall_mem_cons.mpr ⟨lw_p35, List.forall_mem_cons.mpr ⟨lw_p36, List.forall_mem_cons.mpr ⟨lw_p37, List.forall_mem_cons.mpr ⟨lw_p38, List.forall_mem_cons.mpr ⟨lw_p39, List.forall_mem_cons.mpr ⟨lw_p40, List.forall_mem_cons.mpr ⟨lw_p41, fun _ h => absurd h List.not_mem_nil⟩⟩⟩⟩⟩⟩⟩⟩⟩⟩
def lw_privs : List (MethodName × Nat) := lw_privs_1 ++ (lw_privs_2 ++ (lw_privs_3))
def lw_tbl : List Cond := k2_sels lw_privs ++ tables_1
theorem lw_privs_ok : ∀ q ∈ lw_privs, lw_okq q := by
  show ∀ q ∈ lw_privs_1 ++ (lw_privs_2 ++ (lw_privs_3)), lw_okq q
  exact List.forall_mem_append.mpr ⟨lw_r1, List.forall_mem_append.mpr ⟨lw_r2, lw_r3⟩⟩
end
section
/-! NAMES, by program: classes, fields, code -/
def zT : List Cond := lw_tbl.filter goodWord
theorem mT {w : Cond} (i : Nat) (h : lw_tbl[i]? = some w) (hg : goodWord w = true) : w ∈ zT := List.mem_filter.mpr ⟨List.mem_of_getElem? h, hg⟩
theorem mem_ps {ws : List Cond} (ps : List Nat) (hp : ws = ps.filterMap (fun i => lw_tbl[i]?)) (hg : ws.all goodWord = true) : ∀ w ∈ ws, w ∈ zT := fun w hw => by
  have h1 := List.all_eq_true.mp hg w hw
  rw [hp] at hw
  obtain ⟨i, -, hi⟩ := List.mem_filterMap.mp hw
  exact mT i hi h1
def R_Cut : String := "BestSplits$Cut"
def R_Fra : String := "BestSplits$Fraction"
def R_Lim : String := "BestSplits$Limits"
def R_Nod : String := "BestSplits$Node"
def R_Pru : String := "BestSplits$Pruning"
def R_Sur : String := "BestSplits$Survey"
def R_Tab : String := "BestSplits$Table"
def R_Tre : String := "BestSplits$Tree"
def R_Bs : String := "BestSplits"
def R_Mo : String := "BestSplitsModel"
def R_Int : String := "java/lang/Integer"
def R_Lon : String := "java/lang/Long"
def R_Mat : String := "java/lang/Math"
def R_Law : String := "BestSplitsLaw"
def T_Cut : u_T := fun k => match k with
  | 0 => ("BestSplits$Cut", "gain", "LBestSplits$Fraction;", true)
  | 1 => ("BestSplits$Cut", "column", "I", false)
  | 2 => ("BestSplits$Cut", "number", "I", false)
  | _ => ("BestSplits$Cut", "side", "I", false)
def ty_Cut : Nat → FieldType := fun k => match k with
  | 0 => .object "BestSplits$Fraction"
  | 1 => .int
  | 2 => .int
  | _ => .int
theorem nm_Cut : ∀ a, a < 4 → ∀ b, b < 4 → a ≠ b → (T_Cut a).2.1 ≠ (T_Cut b).2.1 := by decide +kernel
theorem tyok_Cut : ∀ k, k < 4 → parseFieldDescriptor (T_Cut k).2.2.1 = some (ty_Cut k) := by decide +kernel
theorem in_Cut : ∀ w ∈ u_ws R_Cut T_Cut 4, w ∈ zT := mem_ps [161, 163, 165, 167] (by decide +kernel) (by decide +kernel)
def T_Fra : u_T := fun k => match k with
  | 0 => ("BestSplits$Fraction", "above", "I", false)
  | _ => ("BestSplits$Fraction", "below", "I", false)
def ty_Fra : Nat → FieldType := fun k => match k with
  | 0 => .int
  | _ => .int
theorem nm_Fra : ∀ a, a < 2 → ∀ b, b < 2 → a ≠ b → (T_Fra a).2.1 ≠ (T_Fra b).2.1 := by decide +kernel
theorem tyok_Fra : ∀ k, k < 2 → parseFieldDescriptor (T_Fra k).2.2.1 = some (ty_Fra k) := by decide +kernel
theorem in_Fra : ∀ w ∈ u_ws R_Fra T_Fra 2, w ∈ zT := mem_ps [140, 142] (by decide +kernel) (by decide +kernel)
def T_Lim : u_T := fun k => match k with
  | 0 => ("BestSplits$Limits", "depth", "I", false)
  | 1 => ("BestSplits$Limits", "least", "I", false)
  | _ => ("BestSplits$Limits", "worth", "I", false)
def ty_Lim : Nat → FieldType := fun k => match k with
  | 0 => .int
  | 1 => .int
  | _ => .int
theorem nm_Lim : ∀ a, a < 3 → ∀ b, b < 3 → a ≠ b → (T_Lim a).2.1 ≠ (T_Lim b).2.1 := by decide +kernel
theorem tyok_Lim : ∀ k, k < 3 → parseFieldDescriptor (T_Lim k).2.2.1 = some (ty_Lim k) := by decide +kernel
theorem in_Lim : ∀ w ∈ u_ws R_Lim T_Lim 3, w ∈ zT := mem_ps [113, 115, 117] (by decide +kernel) (by decide +kernel)
def T_Nod : u_T := fun k => match k with
  | 0 => ("BestSplits$Node", "number", "I", true)
  | 1 => ("BestSplits$Node", "cut", "LBestSplits$Cut;", true)
  | 2 => ("BestSplits$Node", "rows", "I", false)
  | 3 => ("BestSplits$Node", "depth", "I", false)
  | 4 => ("BestSplits$Node", "label", "I", false)
  | 5 => ("BestSplits$Node", "wrongRows", "I", false)
  | 6 => ("BestSplits$Node", "left", "LBestSplits$Node;", false)
  | 7 => ("BestSplits$Node", "right", "LBestSplits$Node;", false)
  | 8 => ("BestSplits$Node", "leafFrom", "I", false)
  | 9 => ("BestSplits$Node", "goneFrom", "I", false)
  | 10 => ("BestSplits$Node", "leavesBelow", "I", false)
  | _ => ("BestSplits$Node", "wrongBelow", "I", false)
def ty_Nod : Nat → FieldType := fun k => match k with
  | 0 => .int
  | 1 => .object "BestSplits$Cut"
  | 2 => .int
  | 3 => .int
  | 4 => .int
  | 5 => .int
  | 6 => .object "BestSplits$Node"
  | 7 => .object "BestSplits$Node"
  | 8 => .int
  | 9 => .int
  | 10 => .int
  | _ => .int
theorem nm_Nod : ∀ a, a < 12 → ∀ b, b < 12 → a ≠ b → (T_Nod a).2.1 ≠ (T_Nod b).2.1 := by decide +kernel
theorem tyok_Nod : ∀ k, k < 12 → parseFieldDescriptor (T_Nod k).2.2.1 = some (ty_Nod k) := by decide +kernel
theorem in_Nod : ∀ w ∈ u_ws R_Nod T_Nod 12, w ∈ zT := mem_ps [227, 229, 231, 233, 235, 237, 239, 241, 243, 245, 247, 249] (by decide +kernel) (by decide +kernel)
def T_Pru : u_T := fun k => match k with
  | 0 => ("BestSplits$Pruning", "size", "I", false)
  | 1 => ("BestSplits$Pruning", "alphas", "[LBestSplits$Fraction;", true)
  | 2 => ("BestSplits$Pruning", "leafCounts", "[I", true)
  | 3 => ("BestSplits$Pruning", "wrongSums", "[I", true)
  | 4 => ("BestSplits$Pruning", "tree", "LBestSplits$Tree;", true)
  | _ => ("BestSplits$Pruning", "ofNode", "LBestSplits$Fraction;", true)
def ty_Pru : Nat → FieldType := fun k => match k with
  | 0 => .int
  | 1 => .array (.object "BestSplits$Fraction")
  | 2 => .array .int
  | 3 => .array .int
  | 4 => .object "BestSplits$Tree"
  | _ => .object "BestSplits$Fraction"
theorem nm_Pru : ∀ a, a < 6 → ∀ b, b < 6 → a ≠ b → (T_Pru a).2.1 ≠ (T_Pru b).2.1 := by decide +kernel
theorem tyok_Pru : ∀ k, k < 6 → parseFieldDescriptor (T_Pru k).2.2.1 = some (ty_Pru k) := by decide +kernel
theorem in_Pru : ∀ w ∈ u_ws R_Pru T_Pru 6, w ∈ zT := mem_ps [293, 295, 297, 299, 301, 303] (by decide +kernel) (by decide +kernel)
def T_Sur : u_T := fun k => match k with
  | 0 => ("BestSplits$Survey", "tried", "LBestSplits$Cut;", true)
  | 1 => ("BestSplits$Survey", "best", "LBestSplits$Cut;", true)
  | 2 => ("BestSplits$Survey", "table", "LBestSplits$Table;", true)
  | _ => ("BestSplits$Survey", "limits", "LBestSplits$Limits;", true)
def ty_Sur : Nat → FieldType := fun k => match k with
  | 0 => .object "BestSplits$Cut"
  | 1 => .object "BestSplits$Cut"
  | 2 => .object "BestSplits$Table"
  | _ => .object "BestSplits$Limits"
theorem nm_Sur : ∀ a, a < 4 → ∀ b, b < 4 → a ≠ b → (T_Sur a).2.1 ≠ (T_Sur b).2.1 := by decide +kernel
theorem tyok_Sur : ∀ k, k < 4 → parseFieldDescriptor (T_Sur k).2.2.1 = some (ty_Sur k) := by decide +kernel
theorem in_Sur : ∀ w ∈ u_ws R_Sur T_Sur 4, w ∈ zT := mem_ps [176, 178, 180, 182] (by decide +kernel) (by decide +kernel)
def T_Tab : u_T := fun k => match k with
  | 0 => ("BestSplits$Table", "values", "[[I", true)
  | 1 => ("BestSplits$Table", "classes", "[I", true)
  | 2 => ("BestSplits$Table", "size", "I", false)
  | 3 => ("BestSplits$Table", "sorts", "[I", true)
  | 4 => ("BestSplits$Table", "rowsOfClass", "[I", true)
  | 5 => ("BestSplits$Table", "rowsKnown", "[I", true)
  | _ => ("BestSplits$Table", "rowsLeft", "[[I", true)
def ty_Tab : Nat → FieldType := fun k => match k with
  | 0 => .array (.array .int)
  | 1 => .array .int
  | 2 => .int
  | 3 => .array .int
  | 4 => .array .int
  | 5 => .array .int
  | _ => .array (.array .int)
theorem nm_Tab : ∀ a, a < 7 → ∀ b, b < 7 → a ≠ b → (T_Tab a).2.1 ≠ (T_Tab b).2.1 := by decide +kernel
theorem tyok_Tab : ∀ k, k < 7 → parseFieldDescriptor (T_Tab k).2.2.1 = some (ty_Tab k) := by decide +kernel
theorem in_Tab : ∀ w ∈ u_ws R_Tab T_Tab 7, w ∈ zT := mem_ps [82, 84, 86, 88, 90, 92, 94] (by decide +kernel) (by decide +kernel)
def T_Tre : u_T := fun k => match k with
  | 0 => ("BestSplits$Tree", "size", "I", false)
  | 1 => ("BestSplits$Tree", "table", "LBestSplits$Table;", true)
  | 2 => ("BestSplits$Tree", "limits", "LBestSplits$Limits;", true)
  | 3 => ("BestSplits$Tree", "survey", "LBestSplits$Survey;", true)
  | 4 => ("BestSplits$Tree", "all", "[LBestSplits$Node;", true)
  | _ => ("BestSplits$Tree", "root", "LBestSplits$Node;", true)
def ty_Tre : Nat → FieldType := fun k => match k with
  | 0 => .int
  | 1 => .object "BestSplits$Table"
  | 2 => .object "BestSplits$Limits"
  | 3 => .object "BestSplits$Survey"
  | 4 => .array (.object "BestSplits$Node")
  | _ => .object "BestSplits$Node"
theorem nm_Tre : ∀ a, a < 6 → ∀ b, b < 6 → a ≠ b → (T_Tre a).2.1 ≠ (T_Tre b).2.1 := by decide +kernel
theorem tyok_Tre : ∀ k, k < 6 → parseFieldDescriptor (T_Tre k).2.2.1 = some (ty_Tre k) := by decide +kernel
theorem in_Tre : ∀ w ∈ u_ws R_Tre T_Tre 6, w ∈ zT := mem_ps [261, 263, 265, 267, 269, 271] (by decide +kernel) (by decide +kernel)
def T_Bs : u_T := fun k => match k with
  | 0 => ("BestSplits", "table", "LBestSplits$Table;", true)
  | 1 => ("BestSplits", "limits", "LBestSplits$Limits;", true)
  | 2 => ("BestSplits", "survey", "LBestSplits$Survey;", true)
  | 3 => ("BestSplits", "tree", "LBestSplits$Tree;", true)
  | 4 => ("BestSplits", "treeOfOthers", "LBestSplits$Tree;", true)
  | 5 => ("BestSplits", "pruning", "LBestSplits$Pruning;", true)
  | 6 => ("BestSplits", "asked", "[I", true)
  | 7 => ("BestSplits", "changed", "Z", false)
  | _ => ("BestSplits", "leftOutCount", "I", false)
def ty_Bs : Nat → FieldType := fun k => match k with
  | 0 => .object "BestSplits$Table"
  | 1 => .object "BestSplits$Limits"
  | 2 => .object "BestSplits$Survey"
  | 3 => .object "BestSplits$Tree"
  | 4 => .object "BestSplits$Tree"
  | 5 => .object "BestSplits$Pruning"
  | 6 => .array .int
  | 7 => .boolean
  | _ => .int
theorem nm_Bs : ∀ a, a < 9 → ∀ b, b < 9 → a ≠ b → (T_Bs a).2.1 ≠ (T_Bs b).2.1 := by decide +kernel
theorem tyok_Bs : ∀ k, k < 9 → parseFieldDescriptor (T_Bs k).2.2.1 = some (ty_Bs k) := by decide +kernel
theorem in_Bs : ∀ w ∈ u_ws R_Bs T_Bs 9, w ∈ zT := mem_ps [315, 317, 319, 321, 323, 325, 327, 329, 331] (by decide +kernel) (by decide +kernel)
def T_Mo : u_T := fun k => match k with
  | 0 => ("BestSplitsModel", "sorts", "[I", true)
  | 1 => ("BestSplitsModel", "rows", "I", false)
  | 2 => ("BestSplitsModel", "values", "[I", true)
  | 3 => ("BestSplitsModel", "classes", "[I", true)
  | 4 => ("BestSplitsModel", "deepest", "I", false)
  | 5 => ("BestSplitsModel", "least", "I", false)
  | 6 => ("BestSplitsModel", "worth", "I", false)
  | 7 => ("BestSplitsModel", "built", "Z", false)
  | 8 => ("BestSplitsModel", "above", "J", false)
  | 9 => ("BestSplitsModel", "below", "J", false)
  | 10 => ("BestSplitsModel", "bestColumn", "I", false)
  | 11 => ("BestSplitsModel", "bestNumber", "I", false)
  | 12 => ("BestSplitsModel", "bestSide", "I", false)
  | 13 => ("BestSplitsModel", "bestAbove", "J", false)
  | 14 => ("BestSplitsModel", "bestBelow", "J", false)
  | 15 => ("BestSplitsModel", "nodes", "I", false)
  | 16 => ("BestSplitsModel", "rowsOf", "[I", true)
  | 17 => ("BestSplitsModel", "depthOf", "[I", true)
  | 18 => ("BestSplitsModel", "columnOf", "[I", true)
  | 19 => ("BestSplitsModel", "numberOf", "[I", true)
  | 20 => ("BestSplitsModel", "sideOf", "[I", true)
  | 21 => ("BestSplitsModel", "leftNode", "[I", true)
  | 22 => ("BestSplitsModel", "rightNode", "[I", true)
  | 23 => ("BestSplitsModel", "gainAbove", "[J", true)
  | 24 => ("BestSplitsModel", "gainBelow", "[J", true)
  | 25 => ("BestSplitsModel", "asked", "[I", true)
  | 26 => ("BestSplitsModel", "stages", "I", false)
  | 27 => ("BestSplitsModel", "state", "[I", true)
  | 28 => ("BestSplitsModel", "alphaAbove", "[J", true)
  | 29 => ("BestSplitsModel", "alphaBelow", "[J", true)
  | 30 => ("BestSplitsModel", "pile", "[I", true)
  | 31 => ("BestSplitsModel", "leavesBelow", "I", false)
  | _ => ("BestSplitsModel", "wrongBelow", "I", false)
def ty_Mo : Nat → FieldType := fun k => match k with
  | 0 => .array .int
  | 1 => .int
  | 2 => .array .int
  | 3 => .array .int
  | 4 => .int
  | 5 => .int
  | 6 => .int
  | 7 => .boolean
  | 8 => .long
  | 9 => .long
  | 10 => .int
  | 11 => .int
  | 12 => .int
  | 13 => .long
  | 14 => .long
  | 15 => .int
  | 16 => .array .int
  | 17 => .array .int
  | 18 => .array .int
  | 19 => .array .int
  | 20 => .array .int
  | 21 => .array .int
  | 22 => .array .int
  | 23 => .array .long
  | 24 => .array .long
  | 25 => .array .int
  | 26 => .int
  | 27 => .array .int
  | 28 => .array .long
  | 29 => .array .long
  | 30 => .array .int
  | 31 => .int
  | _ => .int
theorem nm_Mo : ∀ a, a < 33 → ∀ b, b < 33 → a ≠ b → (T_Mo a).2.1 ≠ (T_Mo b).2.1 := by decide +kernel
theorem tyok_Mo : ∀ k, k < 33 → parseFieldDescriptor (T_Mo k).2.2.1 = some (ty_Mo k) := by decide +kernel
theorem in_Mo : ∀ w ∈ u_ws R_Mo T_Mo 33, w ∈ zT := mem_ps [690, 692, 694, 696, 698, 700, 702, 704, 706, 708, 710, 712, 714, 716, 718, 720, 722, 724, 726, 728, 730, 732, 734, 736, 738, 740, 742, 744, 746, 748, 750, 752, 754] (by decide +kernel) (by decide +kernel)
abbrev zCl : List vw_C := [(R_Cut, T_Cut, 4), (R_Fra, T_Fra, 2), (R_Lim, T_Lim, 3), (R_Nod, T_Nod, 12), (R_Pru, T_Pru, 6), (R_Sur, T_Sur, 4), (R_Tab, T_Tab, 7), (R_Tre, T_Tre, 6), (R_Bs, T_Bs, 9), (R_Mo, T_Mo, 33)]
abbrev cCut : Nat := 0
abbrev cFra : Nat := 1
abbrev cLim : Nat := 2
abbrev cNod : Nat := 3
abbrev cPru : Nat := 4
abbrev cSur : Nat := 5
abbrev cTab : Nat := 6
abbrev cTre : Nat := 7
abbrev cBs : Nat := 8
abbrev cMo : Nat := 9
abbrev c_Bs_init : ByteArray := prog_1_method_1_code
def y_Bs_init : MethodName := ⟨R_Bs, "<init>", "()V"⟩
theorem k_Bs_init : Cond.code y_Bs_init c_Bs_init 1 none ∈ zT := (mT 60 (by decide +kernel) rfl)
abbrev c_Tab_init : ByteArray := prog_8_method_1_code
def y_Tab_init : MethodName := ⟨R_Tab, "<init>", "()V"⟩
theorem k_Tab_init : Cond.code y_Tab_init c_Tab_init 1 none ∈ zT := (mT 68 (by decide +kernel) rfl)
abbrev c_Lim_init : ByteArray := prog_4_method_1_code
def y_Lim_init : MethodName := ⟨R_Lim, "<init>", "()V"⟩
theorem k_Lim_init : Cond.code y_Lim_init c_Lim_init 1 none ∈ zT := (mT 102 (by decide +kernel) rfl)
abbrev c_Sur_init : ByteArray := prog_7_method_1_code
def y_Sur_init : MethodName := ⟨R_Sur, "<init>", "(LBestSplits$Table;LBestSplits$Limits;)V"⟩
theorem k_Sur_init : Cond.code y_Sur_init c_Sur_init 3 none ∈ zT := (mT 124 (by decide +kernel) rfl)
abbrev c_Cut_init : ByteArray := prog_2_method_1_code
def y_Cut_init : MethodName := ⟨R_Cut, "<init>", "()V"⟩
theorem k_Cut_init : Cond.code y_Cut_init c_Cut_init 1 none ∈ zT := (mT 130 (by decide +kernel) rfl)
abbrev c_Fra_init : ByteArray := prog_3_method_1_code
def y_Fra_init : MethodName := ⟨R_Fra, "<init>", "()V"⟩
theorem k_Fra_init : Cond.code y_Fra_init c_Fra_init 1 none ∈ zT := (mT 136 (by decide +kernel) rfl)
abbrev c_Tre_init : ByteArray := prog_9_method_1_code
def y_Tre_init : MethodName := ⟨R_Tre, "<init>", "(LBestSplits$Table;LBestSplits$Limits;LBestSplits$Survey;)V"⟩
theorem k_Tre_init : Cond.code y_Tre_init c_Tre_init 5 none ∈ zT := (mT 189 (by decide +kernel) rfl)
abbrev c_Nod_init : ByteArray := prog_5_method_1_code
def y_Nod_init : MethodName := ⟨R_Nod, "<init>", "(I)V"⟩
theorem k_Nod_init : Cond.code y_Nod_init c_Nod_init 2 none ∈ zT := (mT 196 (by decide +kernel) rfl)
abbrev c_Pru_init : ByteArray := prog_6_method_1_code
def y_Pru_init : MethodName := ⟨R_Pru, "<init>", "(LBestSplits$Tree;)V"⟩
theorem k_Pru_init : Cond.code y_Pru_init c_Pru_init 3 none ∈ zT := (mT 278 (by decide +kernel) rfl)
abbrev c_Bs_column : ByteArray := prog_1_method_2_code
def y_Bs_column : MethodName := ⟨R_Bs, "column", "(II)I"⟩
theorem k_Bs_column : Cond.code y_Bs_column c_Bs_column 3 (some (.int)) ∈ zT := (mT 337 (by decide +kernel) rfl)
abbrev c_Bs_isColumn : ByteArray := prog_1_method_24_code
def y_Bs_isColumn : MethodName := ⟨R_Bs, "isColumn", "(I)Z"⟩
theorem k_Bs_isColumn : Cond.code y_Bs_isColumn c_Bs_isColumn 1 (some (.boolean)) ∈ zT := (mT 340 (by decide +kernel) rfl)
abbrev c_Bs_noteChange : ByteArray := prog_1_method_21_code
def y_Bs_noteChange : MethodName := ⟨R_Bs, "noteChange", "()V"⟩
theorem k_Bs_noteChange : Cond.code y_Bs_noteChange c_Bs_noteChange 1 none ∈ zT := (mT 344 (by decide +kernel) rfl)
abbrev c_Tab_changeSort : ByteArray := prog_8_method_2_code
def y_Tab_changeSort : MethodName := ⟨R_Tab, "changeSort", "(II)I"⟩
theorem k_Tab_changeSort : Cond.code y_Tab_changeSort c_Tab_changeSort 4 (some (.int)) ∈ zT := (mT 348 (by decide +kernel) rfl)
abbrev c_Bs_row : ByteArray := prog_1_method_3_code
def y_Bs_row : MethodName := ⟨R_Bs, "row", "(IIIII)I"⟩
theorem k_Bs_row : Cond.code y_Bs_row c_Bs_row 6 (some (.int)) ∈ zT := (mT 353 (by decide +kernel) rfl)
abbrev c_Bs_ask : ByteArray := prog_1_method_23_code
def y_Bs_ask : MethodName := ⟨R_Bs, "ask", "(IIII)V"⟩
theorem k_Bs_ask : Cond.code y_Bs_ask c_Bs_ask 5 none ∈ zT := (mT 357 (by decide +kernel) rfl)
abbrev c_Tab_takes : ByteArray := prog_8_method_3_code
def y_Tab_takes : MethodName := ⟨R_Tab, "takes", "([I)Z"⟩
theorem k_Tab_takes : Cond.code y_Tab_takes c_Tab_takes 4 (some (.boolean)) ∈ zT := (mT 361 (by decide +kernel) rfl)
abbrev c_Bs_isClass : ByteArray := prog_1_method_25_code
def y_Bs_isClass : MethodName := ⟨R_Bs, "isClass", "(I)Z"⟩
theorem k_Bs_isClass : Cond.code y_Bs_isClass c_Bs_isClass 1 (some (.boolean)) ∈ zT := (mT 364 (by decide +kernel) rfl)
abbrev c_Tab_add : ByteArray := prog_8_method_6_code
def y_Tab_add : MethodName := ⟨R_Tab, "add", "([II)I"⟩
theorem k_Tab_add : Cond.code y_Tab_add c_Tab_add 5 (some (.int)) ∈ zT := (mT 368 (by decide +kernel) rfl)
abbrev c_Tab_enterKnown : ByteArray := prog_8_method_7_code
def y_Tab_enterKnown : MethodName := ⟨R_Tab, "enterKnown", "(III)V"⟩
theorem k_Tab_enterKnown : Cond.code y_Tab_enterKnown c_Tab_enterKnown 6 none ∈ zT := (mT 373 (by decide +kernel) rfl)
abbrev c_Tab_lastNumber : ByteArray := prog_8_method_9_code
def y_Tab_lastNumber : MethodName := ⟨R_Tab, "lastNumber", "(I)I"⟩
theorem k_Tab_lastNumber : Cond.code y_Tab_lastNumber c_Tab_lastNumber 2 (some (.int)) ∈ zT := (mT 377 (by decide +kernel) rfl)
abbrev c_Tab_isLeftOf : ByteArray := prog_8_method_10_code
def y_Tab_isLeftOf : MethodName := ⟨R_Tab, "isLeftOf", "(III)Z"⟩
theorem k_Tab_isLeftOf : Cond.code y_Tab_isLeftOf c_Tab_isLeftOf 4 (some (.boolean)) ∈ zT := (mT 381 (by decide +kernel) rfl)
abbrev c_Bs_clear : ByteArray := prog_1_method_4_code
def y_Bs_clear : MethodName := ⟨R_Bs, "clear", "()I"⟩
theorem k_Bs_clear : Cond.code y_Bs_clear c_Bs_clear 1 (some (.int)) ∈ zT := (mT 385 (by decide +kernel) rfl)
abbrev c_Tab_removeAll : ByteArray := prog_8_method_8_code
def y_Tab_removeAll : MethodName := ⟨R_Tab, "removeAll", "()I"⟩
theorem k_Tab_removeAll : Cond.code y_Tab_removeAll c_Tab_removeAll 4 (some (.int)) ∈ zT := (mT 389 (by decide +kernel) rfl)
abbrev c_Bs_settings : ByteArray := prog_1_method_5_code
def y_Bs_settings : MethodName := ⟨R_Bs, "settings", "(III)I"⟩
theorem k_Bs_settings : Cond.code y_Bs_settings c_Bs_settings 4 (some (.int)) ∈ zT := (mT 393 (by decide +kernel) rfl)
abbrev c_Bs_nodes : ByteArray := prog_1_method_6_code
def y_Bs_nodes : MethodName := ⟨R_Bs, "nodes", "()I"⟩
theorem k_Bs_nodes : Cond.code y_Bs_nodes c_Bs_nodes 1 (some (.int)) ∈ zT := (mT 397 (by decide +kernel) rfl)
abbrev c_Bs_growIfChanged : ByteArray := prog_1_method_22_code
def y_Bs_growIfChanged : MethodName := ⟨R_Bs, "growIfChanged", "()V"⟩
theorem k_Bs_growIfChanged : Cond.code y_Bs_growIfChanged c_Bs_growIfChanged 1 none ∈ zT := (mT 401 (by decide +kernel) rfl)
abbrev c_Tab_allRows : ByteArray := prog_8_method_5_code
def y_Tab_allRows : MethodName := ⟨R_Tab, "allRows", "()I"⟩
theorem k_Tab_allRows : Cond.code y_Tab_allRows c_Tab_allRows 1 (some (.int)) ∈ zT := (mT 405 (by decide +kernel) rfl)
abbrev c_Tre_grow : ByteArray := prog_9_method_3_code
def y_Tre_grow : MethodName := ⟨R_Tre, "grow", "(I)V"⟩
theorem k_Tre_grow : Cond.code y_Tre_grow c_Tre_grow 3 none ∈ zT := (mT 409 (by decide +kernel) rfl)
abbrev c_Tre_begin : ByteArray := prog_9_method_4_code
def y_Tre_begin : MethodName := ⟨R_Tre, "begin", "(LBestSplits$Node;II)V"⟩
theorem k_Tre_begin : Cond.code y_Tre_begin c_Tre_begin 4 none ∈ zT := (mT 413 (by decide +kernel) rfl)
abbrev c_Tab_labelOf : ByteArray := prog_8_method_19_code
def y_Tab_labelOf : MethodName := ⟨R_Tab, "labelOf", "(I)I"⟩
theorem k_Tab_labelOf : Cond.code y_Tab_labelOf c_Tab_labelOf 4 (some (.int)) ∈ zT := (mT 417 (by decide +kernel) rfl)
abbrev c_Tab_countOf : ByteArray := prog_8_method_17_code
def y_Tab_countOf : MethodName := ⟨R_Tab, "countOf", "(II)I"⟩
theorem k_Tab_countOf : Cond.code y_Tab_countOf c_Tab_countOf 3 (some (.int)) ∈ zT := (mT 421 (by decide +kernel) rfl)
abbrev c_Int_bitCount : ByteArray := prog_12_method_49_code
def y_Int_bitCount : MethodName := ⟨R_Int, "bitCount", "(I)I"⟩
theorem k_Int_bitCount : Cond.code y_Int_bitCount c_Int_bitCount 1 (some (.int)) ∈ zT := (mT 424 (by decide +kernel) rfl)
abbrev c_Tre_partIfDue : ByteArray := prog_9_method_5_code
def y_Tre_partIfDue : MethodName := ⟨R_Tre, "partIfDue", "(LBestSplits$Node;)V"⟩
theorem k_Tre_partIfDue : Cond.code y_Tre_partIfDue c_Tre_partIfDue 6 none ∈ zT := (mT 433 (by decide +kernel) rfl)
abbrev c_Sur_look : ByteArray := prog_7_method_2_code
def y_Sur_look : MethodName := ⟨R_Sur, "look", "(I)I"⟩
theorem k_Sur_look : Cond.code y_Sur_look c_Sur_look 6 (some (.int)) ∈ zT := (mT 437 (by decide +kernel) rfl)
abbrev c_Tab_canCut : ByteArray := prog_8_method_12_code
def y_Tab_canCut : MethodName := ⟨R_Tab, "canCut", "(III)Z"⟩
theorem k_Tab_canCut : Cond.code y_Tab_canCut c_Tab_canCut 4 (some (.boolean)) ∈ zT := (mT 441 (by decide +kernel) rfl)
abbrev c_Tab_isGrouping : ByteArray := prog_8_method_14_code
def y_Tab_isGrouping : MethodName := ⟨R_Tab, "isGrouping", "(III)Z"⟩
theorem k_Tab_isGrouping : Cond.code y_Tab_isGrouping c_Tab_isGrouping 6 (some (.boolean)) ∈ zT := (mT 445 (by decide +kernel) rfl)
abbrev c_Tab_isStep : ByteArray := prog_8_method_13_code
def y_Tab_isStep : MethodName := ⟨R_Tab, "isStep", "(III)Z"⟩
theorem k_Tab_isStep : Cond.code y_Tab_isStep c_Tab_isStep 6 (some (.boolean)) ∈ zT := (mT 449 (by decide +kernel) rfl)
abbrev c_Sur_measure : ByteArray := prog_7_method_4_code
def y_Sur_measure : MethodName := ⟨R_Sur, "measure", "(IIII)Z"⟩
theorem k_Sur_measure : Cond.code y_Sur_measure c_Sur_measure 12 (some (.boolean)) ∈ zT := (mT 453 (by decide +kernel) rfl)
abbrev c_Tab_unknownOf : ByteArray := prog_8_method_15_code
def y_Tab_unknownOf : MethodName := ⟨R_Tab, "unknownOf", "(II)I"⟩
theorem k_Tab_unknownOf : Cond.code y_Tab_unknownOf c_Tab_unknownOf 3 (some (.int)) ∈ zT := (mT 457 (by decide +kernel) rfl)
abbrev c_Tab_leftOf : ByteArray := prog_8_method_16_code
def y_Tab_leftOf : MethodName := ⟨R_Tab, "leftOf", "(IIII)I"⟩
theorem k_Tab_leftOf : Cond.code y_Tab_leftOf c_Tab_leftOf 6 (some (.int)) ∈ zT := (mT 461 (by decide +kernel) rfl)
abbrev c_Tab_squaresOf : ByteArray := prog_8_method_18_code
def y_Tab_squaresOf : MethodName := ⟨R_Tab, "squaresOf", "(I)I"⟩
theorem k_Tab_squaresOf : Cond.code y_Tab_squaresOf c_Tab_squaresOf 5 (some (.int)) ∈ zT := (mT 466 (by decide +kernel) rfl)
abbrev c_Cut_become : ByteArray := prog_2_method_2_code
def y_Cut_become : MethodName := ⟨R_Cut, "become", "(III)V"⟩
theorem k_Cut_become : Cond.code y_Cut_become c_Cut_become 4 none ∈ zT := (mT 470 (by decide +kernel) rfl)
abbrev c_Fra_become : ByteArray := prog_3_method_2_code
def y_Fra_become : MethodName := ⟨R_Fra, "become", "(II)V"⟩
theorem k_Fra_become : Cond.code y_Fra_become c_Fra_become 3 none ∈ zT := (mT 474 (by decide +kernel) rfl)
abbrev c_Sur_keepIfBetter : ByteArray := prog_7_method_3_code
def y_Sur_keepIfBetter : MethodName := ⟨R_Sur, "keepIfBetter", "(Z)V"⟩
theorem k_Sur_keepIfBetter : Cond.code y_Sur_keepIfBetter c_Sur_keepIfBetter 2 none ∈ zT := (mT 478 (by decide +kernel) rfl)
abbrev c_Fra_compareWith : ByteArray := prog_3_method_4_code
def y_Fra_compareWith : MethodName := ⟨R_Fra, "compareWith", "(LBestSplits$Fraction;)I"⟩
theorem k_Fra_compareWith : Cond.code y_Fra_compareWith c_Fra_compareWith 2 (some (.int)) ∈ zT := (mT 482 (by decide +kernel) rfl)
abbrev c_Lon_compare : ByteArray := prog_13_method_42_code
def y_Lon_compare : MethodName := ⟨R_Lon, "compare", "(JJ)I"⟩
theorem k_Lon_compare : Cond.code y_Lon_compare c_Lon_compare 4 (some (.int)) ∈ zT := (mT 485 (by decide +kernel) rfl)
abbrev c_Cut_becomeAs : ByteArray := prog_2_method_3_code
def y_Cut_becomeAs : MethodName := ⟨R_Cut, "becomeAs", "(LBestSplits$Cut;)V"⟩
theorem k_Cut_becomeAs : Cond.code y_Cut_becomeAs c_Cut_becomeAs 2 none ∈ zT := (mT 489 (by decide +kernel) rfl)
abbrev c_Fra_becomeAs : ByteArray := prog_3_method_3_code
def y_Fra_becomeAs : MethodName := ⟨R_Fra, "becomeAs", "(LBestSplits$Fraction;)V"⟩
theorem k_Fra_becomeAs : Cond.code y_Fra_becomeAs c_Fra_becomeAs 2 none ∈ zT := (mT 494 (by decide +kernel) rfl)
abbrev c_Fra_isAboveHundredths : ByteArray := prog_3_method_5_code
def y_Fra_isAboveHundredths : MethodName := ⟨R_Fra, "isAboveHundredths", "(I)Z"⟩
theorem k_Fra_isAboveHundredths : Cond.code y_Fra_isAboveHundredths c_Fra_isAboveHundredths 2 (some (.boolean)) ∈ zT := (mT 498 (by decide +kernel) rfl)
abbrev c_Pru_cutBackToRoot : ByteArray := prog_6_method_3_code
def y_Pru_cutBackToRoot : MethodName := ⟨R_Pru, "cutBackToRoot", "()V"⟩
theorem k_Pru_cutBackToRoot : Cond.code y_Pru_cutBackToRoot c_Pru_cutBackToRoot 3 none ∈ zT := (mT 505 (by decide +kernel) rfl)
abbrev c_Tre_find : ByteArray := prog_9_method_2_code
def y_Tre_find : MethodName := ⟨R_Tre, "find", "(I)LBestSplits$Node;"⟩
theorem k_Tre_find : Cond.code y_Tre_find c_Tre_find 2 (some (.object "BestSplits$Node")) ∈ zT := (mT 509 (by decide +kernel) rfl)
abbrev c_Nod_beginStages : ByteArray := prog_5_method_6_code
def y_Nod_beginStages : MethodName := ⟨R_Nod, "beginStages", "()V"⟩
theorem k_Nod_beginStages : Cond.code y_Nod_beginStages c_Nod_beginStages 1 none ∈ zT := (mT 513 (by decide +kernel) rfl)
abbrev c_Nod_isUnparted : ByteArray := prog_5_method_2_code
def y_Nod_isUnparted : MethodName := ⟨R_Nod, "isUnparted", "()Z"⟩
theorem k_Nod_isUnparted : Cond.code y_Nod_isUnparted c_Nod_isUnparted 1 (some (.boolean)) ∈ zT := (mT 517 (by decide +kernel) rfl)
abbrev c_Pru_recordStage : ByteArray := prog_6_method_4_code
def y_Pru_recordStage : MethodName := ⟨R_Pru, "recordStage", "(I)Z"⟩
theorem k_Pru_recordStage : Cond.code y_Pru_recordStage c_Pru_recordStage 4 (some (.boolean)) ∈ zT := (mT 521 (by decide +kernel) rfl)
abbrev c_Nod_sumUp : ByteArray := prog_5_method_7_code
def y_Nod_sumUp : MethodName := ⟨R_Nod, "sumUp", "(I)V"⟩
theorem k_Nod_sumUp : Cond.code y_Nod_sumUp c_Nod_sumUp 2 none ∈ zT := (mT 525 (by decide +kernel) rfl)
abbrev c_Nod_stateAt : ByteArray := prog_5_method_5_code
def y_Nod_stateAt : MethodName := ⟨R_Nod, "stateAt", "(I)I"⟩
theorem k_Nod_stateAt : Cond.code y_Nod_stateAt c_Nod_stateAt 2 (some (.int)) ∈ zT := (mT 529 (by decide +kernel) rfl)
abbrev c_Pru_findAlpha : ByteArray := prog_6_method_5_code
def y_Pru_findAlpha : MethodName := ⟨R_Pru, "findAlpha", "(ILBestSplits$Fraction;)V"⟩
theorem k_Pru_findAlpha : Cond.code y_Pru_findAlpha c_Pru_findAlpha 6 none ∈ zT := (mT 533 (by decide +kernel) rfl)
abbrev c_Pru_weigh : ByteArray := prog_6_method_7_code
def y_Pru_weigh : MethodName := ⟨R_Pru, "weigh", "(LBestSplits$Node;)V"⟩
theorem k_Pru_weigh : Cond.code y_Pru_weigh c_Pru_weigh 2 none ∈ zT := (mT 537 (by decide +kernel) rfl)
abbrev c_Pru_cutBack : ByteArray := prog_6_method_6_code
def y_Pru_cutBack : MethodName := ⟨R_Pru, "cutBack", "(ILBestSplits$Fraction;)V"⟩
theorem k_Pru_cutBack : Cond.code y_Pru_cutBack c_Pru_cutBack 5 none ∈ zT := (mT 544 (by decide +kernel) rfl)
abbrev c_Nod_loseThoseBelow : ByteArray := prog_5_method_8_code
def y_Nod_loseThoseBelow : MethodName := ⟨R_Nod, "loseThoseBelow", "(I)V"⟩
theorem k_Nod_loseThoseBelow : Cond.code y_Nod_loseThoseBelow c_Nod_loseThoseBelow 2 none ∈ zT := (mT 548 (by decide +kernel) rfl)
abbrev c_Mat_min : ByteArray := prog_14_method_69_code
def y_Mat_min : MethodName := ⟨R_Mat, "min", "(II)I"⟩
theorem k_Mat_min : Cond.code y_Mat_min c_Mat_min 2 (some (.int)) ∈ zT := (mT 551 (by decide +kernel) rfl)
abbrev c_Bs_node : ByteArray := prog_1_method_7_code
def y_Bs_node : MethodName := ⟨R_Bs, "node", "(II)I"⟩
theorem k_Bs_node : Cond.code y_Bs_node c_Bs_node 4 (some (.int)) ∈ zT := (mT 555 (by decide +kernel) rfl)
abbrev c_Nod_cutDetail : ByteArray := prog_5_method_3_code
def y_Nod_cutDetail : MethodName := ⟨R_Nod, "cutDetail", "(I)I"⟩
theorem k_Nod_cutDetail : Cond.code y_Nod_cutDetail c_Nod_cutDetail 2 (some (.int)) ∈ zT := (mT 560 (by decide +kernel) rfl)
abbrev c_Nod_ownDetail : ByteArray := prog_5_method_4_code
def y_Nod_ownDetail : MethodName := ⟨R_Nod, "ownDetail", "(I)I"⟩
theorem k_Nod_ownDetail : Cond.code y_Nod_ownDetail c_Nod_ownDetail 2 (some (.int)) ∈ zT := (mT 564 (by decide +kernel) rfl)
abbrev c_Bs_count : ByteArray := prog_1_method_8_code
def y_Bs_count : MethodName := ⟨R_Bs, "count", "(II)I"⟩
theorem k_Bs_count : Cond.code y_Bs_count c_Bs_count 4 (some (.int)) ∈ zT := (mT 569 (by decide +kernel) rfl)
abbrev c_Bs_gain : ByteArray := prog_1_method_9_code
def y_Bs_gain : MethodName := ⟨R_Bs, "gain", "(II)I"⟩
theorem k_Bs_gain : Cond.code y_Bs_gain c_Bs_gain 4 (some (.int)) ∈ zT := (mT 574 (by decide +kernel) rfl)
abbrev c_Bs_isPart : ByteArray := prog_1_method_26_code
def y_Bs_isPart : MethodName := ⟨R_Bs, "isPart", "(I)Z"⟩
theorem k_Bs_isPart : Cond.code y_Bs_isPart c_Bs_isPart 1 (some (.boolean)) ∈ zT := (mT 577 (by decide +kernel) rfl)
abbrev c_Fra_inLowestTerms : ByteArray := prog_3_method_6_code
def y_Fra_inLowestTerms : MethodName := ⟨R_Fra, "inLowestTerms", "(I)I"⟩
theorem k_Fra_inLowestTerms : Cond.code y_Fra_inLowestTerms c_Fra_inLowestTerms 4 (some (.int)) ∈ zT := (mT 582 (by decide +kernel) rfl)
abbrev c_Fra_greatestCommonDivisor : ByteArray := prog_3_method_7_code
def y_Fra_greatestCommonDivisor : MethodName := ⟨R_Fra, "greatestCommonDivisor", "()I"⟩
theorem k_Fra_greatestCommonDivisor : Cond.code y_Fra_greatestCommonDivisor c_Fra_greatestCommonDivisor 5 (some (.int)) ∈ zT := (mT 586 (by decide +kernel) rfl)
abbrev c_Bs_leaf : ByteArray := prog_1_method_10_code
def y_Bs_leaf : MethodName := ⟨R_Bs, "leaf", "(IIII)I"⟩
theorem k_Bs_leaf : Cond.code y_Bs_leaf c_Bs_leaf 5 (some (.int)) ∈ zT := (mT 590 (by decide +kernel) rfl)
abbrev c_Tre_whereComes : ByteArray := prog_9_method_6_code
def y_Tre_whereComes : MethodName := ⟨R_Tre, "whereComes", "([I)LBestSplits$Node;"⟩
theorem k_Tre_whereComes : Cond.code y_Tre_whereComes c_Tre_whereComes 5 (some (.object "BestSplits$Node")) ∈ zT := (mT 594 (by decide +kernel) rfl)
abbrev c_Tab_goesLeft : ByteArray := prog_8_method_11_code
def y_Tab_goesLeft : MethodName := ⟨R_Tab, "goesLeft", "([ILBestSplits$Cut;)Z"⟩
theorem k_Tab_goesLeft : Cond.code y_Tab_goesLeft c_Tab_goesLeft 4 (some (.boolean)) ∈ zT := (mT 598 (by decide +kernel) rfl)
abbrev c_Bs_leafOf : ByteArray := prog_1_method_11_code
def y_Bs_leafOf : MethodName := ⟨R_Bs, "leafOf", "(I)I"⟩
theorem k_Bs_leafOf : Cond.code y_Bs_leafOf c_Bs_leafOf 2 (some (.int)) ∈ zT := (mT 602 (by decide +kernel) rfl)
abbrev c_Tab_has : ByteArray := prog_8_method_4_code
def y_Tab_has : MethodName := ⟨R_Tab, "has", "(I)Z"⟩
theorem k_Tab_has : Cond.code y_Tab_has c_Tab_has 2 (some (.boolean)) ∈ zT := (mT 606 (by decide +kernel) rfl)
abbrev c_Bs_cuts : ByteArray := prog_1_method_12_code
def y_Bs_cuts : MethodName := ⟨R_Bs, "cuts", "()I"⟩
theorem k_Bs_cuts : Cond.code y_Bs_cuts c_Bs_cuts 1 (some (.int)) ∈ zT := (mT 610 (by decide +kernel) rfl)
abbrev c_Bs_cutGain : ByteArray := prog_1_method_13_code
def y_Bs_cutGain : MethodName := ⟨R_Bs, "cutGain", "(IIII)I"⟩
theorem k_Bs_cutGain : Cond.code y_Bs_cutGain c_Bs_cutGain 6 (some (.int)) ∈ zT := (mT 615 (by decide +kernel) rfl)
abbrev c_Bs_stages : ByteArray := prog_1_method_14_code
def y_Bs_stages : MethodName := ⟨R_Bs, "stages", "()I"⟩
theorem k_Bs_stages : Cond.code y_Bs_stages c_Bs_stages 1 (some (.int)) ∈ zT := (mT 621 (by decide +kernel) rfl)
abbrev c_Bs_alpha : ByteArray := prog_1_method_15_code
def y_Bs_alpha : MethodName := ⟨R_Bs, "alpha", "(II)I"⟩
theorem k_Bs_alpha : Cond.code y_Bs_alpha c_Bs_alpha 3 (some (.int)) ∈ zT := (mT 625 (by decide +kernel) rfl)
abbrev c_Pru_has : ByteArray := prog_6_method_2_code
def y_Pru_has : MethodName := ⟨R_Pru, "has", "(I)Z"⟩
theorem k_Pru_has : Cond.code y_Pru_has c_Pru_has 2 (some (.boolean)) ∈ zT := (mT 629 (by decide +kernel) rfl)
abbrev c_Bs_leaves : ByteArray := prog_1_method_16_code
def y_Bs_leaves : MethodName := ⟨R_Bs, "leaves", "(I)I"⟩
theorem k_Bs_leaves : Cond.code y_Bs_leaves c_Bs_leaves 2 (some (.int)) ∈ zT := (mT 633 (by decide +kernel) rfl)
abbrev c_Bs_wrong : ByteArray := prog_1_method_17_code
def y_Bs_wrong : MethodName := ⟨R_Bs, "wrong", "(I)I"⟩
theorem k_Bs_wrong : Cond.code y_Bs_wrong c_Bs_wrong 2 (some (.int)) ∈ zT := (mT 637 (by decide +kernel) rfl)
abbrev c_Bs_state : ByteArray := prog_1_method_18_code
def y_Bs_state : MethodName := ⟨R_Bs, "state", "(II)I"⟩
theorem k_Bs_state : Cond.code y_Bs_state c_Bs_state 4 (some (.int)) ∈ zT := (mT 641 (by decide +kernel) rfl)
abbrev c_Bs_leftOut : ByteArray := prog_1_method_19_code
def y_Bs_leftOut : MethodName := ⟨R_Bs, "leftOut", "()I"⟩
theorem k_Bs_leftOut : Cond.code y_Bs_leftOut c_Bs_leftOut 2 (some (.int)) ∈ zT := (mT 646 (by decide +kernel) rfl)
abbrev c_Bs_isMistakenByOthers : ByteArray := prog_1_method_20_code
def y_Bs_isMistakenByOthers : MethodName := ⟨R_Bs, "isMistakenByOthers", "(I)Z"⟩
theorem k_Bs_isMistakenByOthers : Cond.code y_Bs_isMistakenByOthers c_Bs_isMistakenByOthers 2 (some (.boolean)) ∈ zT := (mT 650 (by decide +kernel) rfl)
abbrev c_Mo_init : ByteArray := prog_11_method_1_code
def y_Mo_init : MethodName := ⟨R_Mo, "<init>", "()V"⟩
theorem k_Mo_init : Cond.code y_Mo_init c_Mo_init 1 none ∈ zT := (mT 655 (by decide +kernel) rfl)
abbrev c_Mo_column : ByteArray := prog_11_method_3_code
def y_Mo_column : MethodName := ⟨R_Mo, "column", "(II)I"⟩
theorem k_Mo_column : Cond.code y_Mo_column c_Mo_column 4 (some (.int)) ∈ zT := (mT 761 (by decide +kernel) rfl)
abbrev c_Mo_row : ByteArray := prog_11_method_4_code
def y_Mo_row : MethodName := ⟨R_Mo, "row", "(IIIII)I"⟩
theorem k_Mo_row : Cond.code y_Mo_row c_Mo_row 6 (some (.int)) ∈ zT := (mT 765 (by decide +kernel) rfl)
abbrev c_Mo_isValue : ByteArray := prog_11_method_2_code
def y_Mo_isValue : MethodName := ⟨R_Mo, "isValue", "(II)Z"⟩
theorem k_Mo_isValue : Cond.code y_Mo_isValue c_Mo_isValue 3 (some (.boolean)) ∈ zT := (mT 769 (by decide +kernel) rfl)
abbrev c_Mo_clear : ByteArray := prog_11_method_5_code
def y_Mo_clear : MethodName := ⟨R_Mo, "clear", "()I"⟩
theorem k_Mo_clear : Cond.code y_Mo_clear c_Mo_clear 2 (some (.int)) ∈ zT := (mT 773 (by decide +kernel) rfl)
abbrev c_Mo_settings : ByteArray := prog_11_method_6_code
def y_Mo_settings : MethodName := ⟨R_Mo, "settings", "(III)I"⟩
theorem k_Mo_settings : Cond.code y_Mo_settings c_Mo_settings 4 (some (.int)) ∈ zT := (mT 777 (by decide +kernel) rfl)
abbrev c_Mo_nodes : ByteArray := prog_11_method_25_code
def y_Mo_nodes : MethodName := ⟨R_Mo, "nodes", "()I"⟩
theorem k_Mo_nodes : Cond.code y_Mo_nodes c_Mo_nodes 1 (some (.int)) ∈ zT := (mT 781 (by decide +kernel) rfl)
abbrev c_Mo_build : ByteArray := prog_11_method_24_code
def y_Mo_build : MethodName := ⟨R_Mo, "build", "()V"⟩
theorem k_Mo_build : Cond.code y_Mo_build c_Mo_build 1 none ∈ zT := (mT 785 (by decide +kernel) rfl)
abbrev c_Mo_grow : ByteArray := prog_11_method_23_code
def y_Mo_grow : MethodName := ⟨R_Mo, "grow", "(I)V"⟩
theorem k_Mo_grow : Cond.code y_Mo_grow c_Mo_grow 5 none ∈ zT := (mT 789 (by decide +kernel) rfl)
abbrev c_Mo_add : ByteArray := prog_11_method_21_code
def y_Mo_add : MethodName := ⟨R_Mo, "add", "(II)V"⟩
theorem k_Mo_add : Cond.code y_Mo_add c_Mo_add 3 none ∈ zT := (mT 793 (by decide +kernel) rfl)
abbrev c_Mo_isMixed : ByteArray := prog_11_method_22_code
def y_Mo_isMixed : MethodName := ⟨R_Mo, "isMixed", "(I)Z"⟩
theorem k_Mo_isMixed : Cond.code y_Mo_isMixed c_Mo_isMixed 2 (some (.boolean)) ∈ zT := (mT 797 (by decide +kernel) rfl)
abbrev c_Mo_wrongOf : ByteArray := prog_11_method_11_code
def y_Mo_wrongOf : MethodName := ⟨R_Mo, "wrongOf", "(I)I"⟩
theorem k_Mo_wrongOf : Cond.code y_Mo_wrongOf c_Mo_wrongOf 2 (some (.int)) ∈ zT := (mT 801 (by decide +kernel) rfl)
abbrev c_Mo_many : ByteArray := prog_11_method_7_code
def y_Mo_many : MethodName := ⟨R_Mo, "many", "(I)I"⟩
theorem k_Mo_many : Cond.code y_Mo_many c_Mo_many 4 (some (.int)) ∈ zT := (mT 805 (by decide +kernel) rfl)
abbrev c_Mo_labelOf : ByteArray := prog_11_method_10_code
def y_Mo_labelOf : MethodName := ⟨R_Mo, "labelOf", "(I)I"⟩
theorem k_Mo_labelOf : Cond.code y_Mo_labelOf c_Mo_labelOf 4 (some (.int)) ∈ zT := (mT 809 (by decide +kernel) rfl)
abbrev c_Mo_of : ByteArray := prog_11_method_8_code
def y_Mo_of : MethodName := ⟨R_Mo, "of", "(II)I"⟩
theorem k_Mo_of : Cond.code y_Mo_of c_Mo_of 5 (some (.int)) ∈ zT := (mT 813 (by decide +kernel) rfl)
abbrev c_Mo_findBest : ByteArray := prog_11_method_20_code
def y_Mo_findBest : MethodName := ⟨R_Mo, "findBest", "(I)Z"⟩
theorem k_Mo_findBest : Cond.code y_Mo_findBest c_Mo_findBest 6 (some (.boolean)) ∈ zT := (mT 817 (by decide +kernel) rfl)
abbrev c_Mo_may : ByteArray := prog_11_method_19_code
def y_Mo_may : MethodName := ⟨R_Mo, "may", "(IIII)Z"⟩
theorem k_Mo_may : Cond.code y_Mo_may c_Mo_may 13 (some (.boolean)) ∈ zT := (mT 821 (by decide +kernel) rfl)
abbrev c_Mo_isCut : ByteArray := prog_11_method_17_code
def y_Mo_isCut : MethodName := ⟨R_Mo, "isCut", "(IIII)Z"⟩
theorem k_Mo_isCut : Cond.code y_Mo_isCut c_Mo_isCut 6 (some (.boolean)) ∈ zT := (mT 825 (by decide +kernel) rfl)
abbrev c_Mo_hasValue : ByteArray := prog_11_method_16_code
def y_Mo_hasValue : MethodName := ⟨R_Mo, "hasValue", "(III)Z"⟩
theorem k_Mo_hasValue : Cond.code y_Mo_hasValue c_Mo_hasValue 5 (some (.boolean)) ∈ zT := (mT 829 (by decide +kernel) rfl)
abbrev c_Mo_greatest : ByteArray := prog_11_method_15_code
def y_Mo_greatest : MethodName := ⟨R_Mo, "greatest", "(II)I"⟩
theorem k_Mo_greatest : Cond.code y_Mo_greatest c_Mo_greatest 5 (some (.int)) ∈ zT := (mT 833 (by decide +kernel) rfl)
abbrev c_Mo_kindsOf : ByteArray := prog_11_method_14_code
def y_Mo_kindsOf : MethodName := ⟨R_Mo, "kindsOf", "(II)I"⟩
theorem k_Mo_kindsOf : Cond.code y_Mo_kindsOf c_Mo_kindsOf 5 (some (.int)) ∈ zT := (mT 837 (by decide +kernel) rfl)
abbrev c_Mo_leftOf : ByteArray := prog_11_method_18_code
def y_Mo_leftOf : MethodName := ⟨R_Mo, "leftOf", "(IIII)I"⟩
theorem k_Mo_leftOf : Cond.code y_Mo_leftOf c_Mo_leftOf 7 (some (.int)) ∈ zT := (mT 841 (by decide +kernel) rfl)
abbrev c_Mo_goesLeft : ByteArray := prog_11_method_12_code
def y_Mo_goesLeft : MethodName := ⟨R_Mo, "goesLeft", "(IIII)Z"⟩
theorem k_Mo_goesLeft : Cond.code y_Mo_goesLeft c_Mo_goesLeft 6 (some (.boolean)) ∈ zT := (mT 845 (by decide +kernel) rfl)
abbrev c_Mo_isLeft : ByteArray := prog_11_method_13_code
def y_Mo_isLeft : MethodName := ⟨R_Mo, "isLeft", "(IIII)Z"⟩
theorem k_Mo_isLeft : Cond.code y_Mo_isLeft c_Mo_isLeft 5 (some (.boolean)) ∈ zT := (mT 849 (by decide +kernel) rfl)
abbrev c_Mo_squares : ByteArray := prog_11_method_9_code
def y_Mo_squares : MethodName := ⟨R_Mo, "squares", "(I)J"⟩
theorem k_Mo_squares : Cond.code y_Mo_squares c_Mo_squares 7 (some (.long)) ∈ zT := (mT 853 (by decide +kernel) rfl)
abbrev c_Mo_findStages : ByteArray := prog_11_method_39_code
def y_Mo_findStages : MethodName := ⟨R_Mo, "findStages", "()V"⟩
theorem k_Mo_findStages : Cond.code y_Mo_findStages c_Mo_findStages 2 none ∈ zT := (mT 858 (by decide +kernel) rfl)
abbrev c_Mo_nextStage : ByteArray := prog_11_method_40_code
def y_Mo_nextStage : MethodName := ⟨R_Mo, "nextStage", "()V"⟩
theorem k_Mo_nextStage : Cond.code y_Mo_nextStage c_Mo_nextStage 11 none ∈ zT := (mT 862 (by decide +kernel) rfl)
abbrev c_Mo_look : ByteArray := prog_11_method_38_code
def y_Mo_look : MethodName := ⟨R_Mo, "look", "(II)V"⟩
theorem k_Mo_look : Cond.code y_Mo_look c_Mo_look 5 none ∈ zT := (mT 867 (by decide +kernel) rfl)
abbrev c_Mo_node : ByteArray := prog_11_method_27_code
def y_Mo_node : MethodName := ⟨R_Mo, "node", "(II)I"⟩
theorem k_Mo_node : Cond.code y_Mo_node c_Mo_node 3 (some (.int)) ∈ zT := (mT 871 (by decide +kernel) rfl)
abbrev c_Mo_isNode : ByteArray := prog_11_method_26_code
def y_Mo_isNode : MethodName := ⟨R_Mo, "isNode", "(I)Z"⟩
theorem k_Mo_isNode : Cond.code y_Mo_isNode c_Mo_isNode 2 (some (.boolean)) ∈ zT := (mT 875 (by decide +kernel) rfl)
abbrev c_Mo_count : ByteArray := prog_11_method_28_code
def y_Mo_count : MethodName := ⟨R_Mo, "count", "(II)I"⟩
theorem k_Mo_count : Cond.code y_Mo_count c_Mo_count 3 (some (.int)) ∈ zT := (mT 879 (by decide +kernel) rfl)
abbrev c_Mo_gain : ByteArray := prog_11_method_31_code
def y_Mo_gain : MethodName := ⟨R_Mo, "gain", "(II)I"⟩
theorem k_Mo_gain : Cond.code y_Mo_gain c_Mo_gain 3 (some (.int)) ∈ zT := (mT 883 (by decide +kernel) rfl)
abbrev c_Mo_lowest : ByteArray := prog_11_method_30_code
def y_Mo_lowest : MethodName := ⟨R_Mo, "lowest", "(JJI)I"⟩
theorem k_Mo_lowest : Cond.code y_Mo_lowest c_Mo_lowest 7 (some (.int)) ∈ zT := (mT 886 (by decide +kernel) rfl)
abbrev c_Mo_common : ByteArray := prog_11_method_29_code
def y_Mo_common : MethodName := ⟨R_Mo, "common", "(JJ)J"⟩
theorem k_Mo_common : Cond.code y_Mo_common c_Mo_common 10 (some (.long)) ∈ zT := (mT 889 (by decide +kernel) rfl)
abbrev c_Mo_leaf : ByteArray := prog_11_method_33_code
def y_Mo_leaf : MethodName := ⟨R_Mo, "leaf", "(IIII)I"⟩
theorem k_Mo_leaf : Cond.code y_Mo_leaf c_Mo_leaf 5 (some (.int)) ∈ zT := (mT 893 (by decide +kernel) rfl)
abbrev c_Mo_comesTo : ByteArray := prog_11_method_32_code
def y_Mo_comesTo : MethodName := ⟨R_Mo, "comesTo", "()I"⟩
theorem k_Mo_comesTo : Cond.code y_Mo_comesTo c_Mo_comesTo 2 (some (.int)) ∈ zT := (mT 897 (by decide +kernel) rfl)
abbrev c_Mo_leafOf : ByteArray := prog_11_method_35_code
def y_Mo_leafOf : MethodName := ⟨R_Mo, "leafOf", "(I)I"⟩
theorem k_Mo_leafOf : Cond.code y_Mo_leafOf c_Mo_leafOf 2 (some (.int)) ∈ zT := (mT 901 (by decide +kernel) rfl)
abbrev c_Mo_leafFor : ByteArray := prog_11_method_34_code
def y_Mo_leafFor : MethodName := ⟨R_Mo, "leafFor", "(I)I"⟩
theorem k_Mo_leafFor : Cond.code y_Mo_leafFor c_Mo_leafFor 3 (some (.int)) ∈ zT := (mT 905 (by decide +kernel) rfl)
abbrev c_Mo_cuts : ByteArray := prog_11_method_36_code
def y_Mo_cuts : MethodName := ⟨R_Mo, "cuts", "()I"⟩
theorem k_Mo_cuts : Cond.code y_Mo_cuts c_Mo_cuts 5 (some (.int)) ∈ zT := (mT 909 (by decide +kernel) rfl)
abbrev c_Mo_cutGain : ByteArray := prog_11_method_37_code
def y_Mo_cutGain : MethodName := ⟨R_Mo, "cutGain", "(IIII)I"⟩
theorem k_Mo_cutGain : Cond.code y_Mo_cutGain c_Mo_cutGain 5 (some (.int)) ∈ zT := (mT 913 (by decide +kernel) rfl)
abbrev c_Mo_stages : ByteArray := prog_11_method_41_code
def y_Mo_stages : MethodName := ⟨R_Mo, "stages", "()I"⟩
theorem k_Mo_stages : Cond.code y_Mo_stages c_Mo_stages 1 (some (.int)) ∈ zT := (mT 917 (by decide +kernel) rfl)
abbrev c_Mo_alpha : ByteArray := prog_11_method_43_code
def y_Mo_alpha : MethodName := ⟨R_Mo, "alpha", "(II)I"⟩
theorem k_Mo_alpha : Cond.code y_Mo_alpha c_Mo_alpha 3 (some (.int)) ∈ zT := (mT 921 (by decide +kernel) rfl)
abbrev c_Mo_isStage : ByteArray := prog_11_method_42_code
def y_Mo_isStage : MethodName := ⟨R_Mo, "isStage", "(I)Z"⟩
theorem k_Mo_isStage : Cond.code y_Mo_isStage c_Mo_isStage 2 (some (.boolean)) ∈ zT := (mT 925 (by decide +kernel) rfl)
abbrev c_Mo_leaves : ByteArray := prog_11_method_44_code
def y_Mo_leaves : MethodName := ⟨R_Mo, "leaves", "(I)I"⟩
theorem k_Mo_leaves : Cond.code y_Mo_leaves c_Mo_leaves 2 (some (.int)) ∈ zT := (mT 929 (by decide +kernel) rfl)
abbrev c_Mo_wrong : ByteArray := prog_11_method_45_code
def y_Mo_wrong : MethodName := ⟨R_Mo, "wrong", "(I)I"⟩
theorem k_Mo_wrong : Cond.code y_Mo_wrong c_Mo_wrong 2 (some (.int)) ∈ zT := (mT 933 (by decide +kernel) rfl)
abbrev c_Mo_state : ByteArray := prog_11_method_46_code
def y_Mo_state : MethodName := ⟨R_Mo, "state", "(II)I"⟩
theorem k_Mo_state : Cond.code y_Mo_state c_Mo_state 3 (some (.int)) ∈ zT := (mT 937 (by decide +kernel) rfl)
abbrev c_Mo_leftOut : ByteArray := prog_11_method_47_code
def y_Mo_leftOut : MethodName := ⟨R_Mo, "leftOut", "()I"⟩
theorem k_Mo_leftOut : Cond.code y_Mo_leftOut c_Mo_leftOut 3 (some (.int)) ∈ zT := (mT 941 (by decide +kernel) rfl)
abbrev c_Law_law : ByteArray := code
def y_Law_law : MethodName := ⟨R_Law, "law", "([I)Z"⟩
theorem zT_good : ∀ w ∈ zT, ((w.onTables && w.keeps) = true ∨ ∃ ty, w = .arrayClass ty) := fun w hw => good_of_word (List.mem_filter.mp hw).2
/-- words of the nest, and of arrays of references: they are kept, but by rows of their own -/
def zN : List Cond := [(Cond.methodLinkNest "BestSplits" (11 : Nat) y_Tab_init "BestSplits"), (Cond.arrayOver (FieldType.array FieldType.int)), (Cond.methodLinkNest "BestSplits" (18 : Nat) y_Lim_init "BestSplits"), (Cond.methodLinkNest "BestSplits$Survey" (11 : Nat) y_Cut_init "BestSplits"), (Cond.methodLinkNest "BestSplits$Cut" (9 : Nat) y_Fra_init "BestSplits"), (Cond.arrayOver (FieldType.object "BestSplits$Node")), (Cond.methodLinkNest "BestSplits$Node" (11 : Nat) y_Cut_init "BestSplits"), (Cond.fieldLinkNest "BestSplits$Pruning" (64 : Nat) "BestSplits$Tree" "root" "LBestSplits$Node;" "BestSplits"), (Cond.arrayOver (FieldType.object "BestSplits$Fraction")), (Cond.methodLinkNest "BestSplits$Pruning" (24 : Nat) y_Fra_init "BestSplits"), (Cond.methodLinkNest "BestSplits$Table" (36 : Nat) y_Bs_isColumn "BestSplits"), (Cond.methodLinkNest "BestSplits$Table" (40 : Nat) y_Bs_isClass "BestSplits")]
theorem mN {w : Cond} (i : Nat) (h : zN[i]? = some w) : w ∈ zN := List.mem_of_getElem? h
theorem zN_in : ∀ w ∈ zN, w ∈ lw_tbl := fun w hw => by
  have hp : zN = [66, 71, 100, 128, 134, 192, 199, 260, 281, 282, 349, 369].filterMap (fun i => lw_tbl[i]?) := by decide +kernel
  rw [hp] at hw
  obtain ⟨i, -, hi⟩ := List.mem_filterMap.mp hw
  exact List.mem_of_getElem? hi
end
section
/-! V: a walk over ONE pool: f says what lies at each address; fNo: nothing of ours. L, H, locs, ls are hidden. Numbers are Int: iv z, jv z. -/
abbrev xG : Type := va_G × (Nat → ClassId)
abbrev xF : Type := Nat → va_E
abbrev xT : Type := Program × Launch × Env × Room × State × MethodId × Array Value × List Frame × Method × Code × (Nat → Prop) × Heap × Nat × (State → Prop)
def iv (z : Int) : Int32 := Int32.ofInt z
def jv (z : Int) : Int64 := Int64.ofInt z
def ir (z : Int) : Prop := -2147483648 ≤ z ∧ z ≤ 2147483647
def jr (z : Int) : Prop := -9223372036854775808 ≤ z ∧ z ≤ 9223372036854775807
theorem iv_toInt {z : Int} (h : ir z) : (iv z).toInt = z := Int32.toInt_ofInt_of_le (by have := h.1; omega) (by have := h.2; omega)
theorem jv_toInt {z : Int} (h : jr z) : (jv z).toInt = z := Int64.toInt_ofInt_of_le (by have := h.1; omega) (by have := h.2; omega)
theorem iv_of (x : Int32) : ∃ z, ir z ∧ x = iv z := ⟨x.toInt, ⟨by have := x.le_toInt; omega, by have := x.toInt_lt; omega⟩, (Int32.ofInt_toInt x).symm⟩
theorem iv_lt {a b : Int} (ha : ir a) (hb : ir b) : iv a < iv b ↔ a < b := by rw [Int32.lt_iff_toInt_lt, iv_toInt ha, iv_toInt hb]
theorem iv_le {a b : Int} (ha : ir a) (hb : ir b) : iv a ≤ iv b ↔ a ≤ b := by rw [Int32.le_iff_toInt_le, iv_toInt ha, iv_toInt hb]
theorem iv_eq {a b : Int} (ha : ir a) (hb : ir b) : iv a = iv b ↔ a = b := ⟨fun h => by rw [← iv_toInt ha, ← iv_toInt hb, h], fun h => by rw [h]⟩
theorem iv_add (a b : Int) : iv a + iv b = iv (a + b) := (Int32.ofInt_add a b).symm
theorem iv_sub (a b : Int) : iv a - iv b = iv (a - b) := (Int32.ofInt_sub a b).symm
theorem iv_mul (a b : Int) : iv a * iv b = iv (a * b) := (Int32.ofInt_mul a b).symm
theorem iv_neg (a : Int) : - iv a = iv (-a) := (Int32.ofInt_neg a).symm
theorem jv_add (a b : Int) : jv a + jv b = jv (a + b) := (Int64.ofInt_add a b).symm
theorem jv_sub (a b : Int) : jv a - jv b = jv (a - b) := (Int64.ofInt_sub a b).symm
theorem jv_mul (a b : Int) : jv a * jv b = jv (a * b) := (Int64.ofInt_mul a b).symm
theorem iv_nat (n : Nat) : iv (n : Int) = nI n := Int32.ofInt_eq_ofNat
theorem iv_in {z : Int} {k n : Nat} (hz : z = k) (hk : k < n) (hn : n < 2147483648) : vp_in (iv z) n ∧ (iv z).toNatClampNeg = k := by
  subst hz
  rw [iv_nat]
  exact ⟨vp_in_nI hk (by omega), nI_clamp (by omega)⟩
theorem ir_n {n : Nat} (h : n < 2147483648) : ir n := ⟨by omega, by omega⟩
theorem ir_0 : ir 0 := ⟨by decide, by decide⟩
theorem iv_long {a : Int} (h : ir a) : (iv a).toInt64 = jv a := Int64.toInt_inj.mp (by rw [Int32.toInt_toInt64, iv_toInt h, jv_toInt ⟨by have := h.1; omega, by have := h.2; omega⟩])
theorem jv_cmp {a b : Int} (ha : jr a) (hb : jr b) : lg_cmp (jv a) (jv b) = iv (if b < a then 1 else if a = b then 0 else -1) := by
  have e1 : jv b < jv a ↔ b < a := by rw [Int64.lt_iff_toInt_lt, jv_toInt ha, jv_toInt hb]
  have e2 : jv a = jv b ↔ a = b := ⟨fun h => by rw [← jv_toInt ha, ← jv_toInt hb, h], fun h => by rw [h]⟩
  by_cases h1 : b < a
  · simp only [lg_cmp, e1, h1, if_true]; rfl
  · by_cases h2 : a = b
    · simp only [lg_cmp, e1, e2, h2, if_true]; simp; rfl
    · simp only [lg_cmp, e1, e2, h1, h2, if_false]; rfl
def fNo : va_E := .inr (999, [])
abbrev eO (ci : Nat) (fs : List Value) : va_E := .inr (ci, fs)
def eJ (G : xG) (n : Nat) (g : Nat → Int) : va_E := .inl (G.2 0, n, .inl (fun j => iv (g j)))
def eR (G : xG) (t n : Nat) (g : Nat → Option Nat) : va_E := .inl (G.2 t, n, .inr (.inr (.inr (.inr g))))
def xt (G : xG) : List (ClassId × FieldType) := [(G.2 0, .int), (G.2 1, .array .int), (G.2 2, .object "BestSplits$Node"), (G.2 3, .object "BestSplits$Fraction"), (G.2 4, .long)]
def vW (L : List Nat) (f : xF) : Prop := ∀ a, a ∉ L → f a = fNo
theorem vW.mem {L : List Nat} {f : xF} (h : vW L f) {a : Nat} (ha : f a ≠ fNo) : a ∈ L := Classical.byContradiction fun q => ha (h a q)
theorem vW.up {L : List Nat} {f : xF} (h : vW L f) {a : Nat} (ha : a ∈ L) (x : va_E) : vW L (va_up f a x) := fun b hb => by
  rw [va_up_ne _ _ (fun q => hb (by rw [q]; exact ha))]
  exact h b hb
theorem vW.push {L : List Nat} {f : xF} (h : vW L f) (a : Nat) (x : va_E) : vW (L ++ [a]) (va_up f a x) := fun b hb => by
  have h1 : b ∉ L := fun q => hb (List.mem_append_left _ q)
  have h2 : b ≠ a := fun q => hb (by rw [q]; simp)
  rw [va_up_ne _ _ h2]
  exact h b h1
theorem pl_get {L : List Nat} {f : xF} {a : Nat} (h : a ∈ L) : ∃ k : Nat, (va_pl L f)[k]? = some (a, f a) := by
  have := va_pl_get (X := []) (f := f) h
  simpa using this
theorem pl_set {A : Nat → Prop} {L : List Nat} {f : xF} {a k : Nat} {x : va_E} (hD : va_D A (va_pl L f)) (h : a ∈ L) (hk : (va_pl L f)[k]? = some (a, f a)) : (va_pl L f).set k (a, x) = va_pl L (va_up f a x) := by
  have := va_pl_set (X := []) (e := x) (by simpa using hD) h (by simpa using hk)
  simpa using this
theorem eO_ne {ci : Nat} {fs : List Value} (h : ci < 999) : (eO ci fs : va_E) ≠ fNo := fun q => by
  have : ci = 999 := congrArg (fun (x : va_E) => match x with | .inr y => y.1 | .inl _ => 0) q
  omega
theorem eJ_ne {G : xG} {n : Nat} {g : Nat → Int} : eJ G n g ≠ fNo := fun q => by cases q
theorem eR_ne {G : xG} {t n : Nat} {g : Nat → Option Nat} : eR G t n g ≠ fNo := fun q => by cases q
theorem eJ_up {G : xG} {n : Nat} (g : Nat → Int) (k : Nat) (z : Int) : (.inl (G.2 0, n, .inl (upd (fun j => iv (g j)) k (iv z))) : va_E) = eJ G n (va_up g k z) := by
  have : upd (fun j => iv (g j)) k (iv z) = fun j => iv (va_up g k z j) := by
    funext j
    by_cases h : j = k
    · subst h; simp [upd, va_up]
    · simp [upd, va_up, h]
  rw [this]; rfl
def vV (G : xG) (X : xT) (kc ks pc : Nat) (lv : List (Nat × Value)) (st : List Value) (f : xF) : Prop := match X with
  | (p, l, e, R, s, m, args, below, meth, c, A, H0, n0, Q) => ∀ (L : List Nat) (H : Heap) (locs : List Loc) (ls : Array Slot), vW L f → va_P G.1 zCl (va_pl L f) H → va_D A (va_pl L f) → va_S A H0 H locs → lv_has ls n0 lv → W p l e R s m args below meth c H locs kc ks Q (F0 m pc ls st)
def xOk (G : xG) (X : xT) (cc : ByteArray) (y : MethodName) (nL : Nat) (rm : Room) : Prop := match X with
  | (p, l, e, R, s, m, args, below, meth, c, A, H0, n0, Q) => p.tables.exec = Jvm.exec ∧ c.code = cc ∧ n0 = nL ∧ c.maxLocals = nL ∧ s.vm.findClass y.cls = some m.cls ∧ (∀ w ∈ zT, w.before args s = true) ∧ (∀ w ∈ zN, va_Nw w s) ∧ va_K G.1 zCl (xt G) s ∧ (∀ q, H0.size ≤ q → A q) ∧ R = rm ∧ meth.name = y.name
/-- what the tables say of a field by a place of the pool: it may be read -/
def FldA (own : String) (idx ci k : Nat) : Prop := ∃ (C : String) (T : u_T) (N : Nat), zCl[ci]? = some (C, T, N) ∧ k < N ∧ ci < 999 ∧ (∀ w ∈ u_ws C T N, w ∈ zT) ∧ (T k).1 = C ∧ (Cond.fieldLink own idx C (T k).2.1 (T k).2.2.1 ∈ zT ∨ ∃ host, Cond.fieldLinkNest own idx C (T k).2.1 (T k).2.2.1 host ∈ zN)
/-- it may be written -/
def PutA (own : String) (idx ci k : Nat) (ty : FieldType) : Prop := ∃ (C : String) (T : u_T) (N : Nat) (ty0 : Nat → FieldType), zCl[ci]? = some (C, T, N) ∧ k < N ∧ ci < 999 ∧ (∀ w ∈ u_ws C T N, w ∈ zT) ∧ (T k).1 = C ∧ (∀ k, k < N → parseFieldDescriptor (T k).2.2.1 = some (ty0 k)) ∧ (∀ a, a < N → ∀ b, b < N → a ≠ b → (T a).2.1 ≠ (T b).2.1) ∧ parseFieldDescriptor (T k).2.2.1 = some ty ∧
  ((T k).2.2.2 = false ∧ (Cond.fieldLink own idx C (T k).2.1 (T k).2.2.1 ∈ zT ∨ ∃ host, Cond.fieldLinkNest own idx C (T k).2.1 (T k).2.2.1 host ∈ zN))
/-- a final one, in its own constructor -/
def PutF (own : String) (idx ci k : Nat) (ty : FieldType) : Prop := ∃ (C : String) (T : u_T) (N : Nat) (ty0 : Nat → FieldType), zCl[ci]? = some (C, T, N) ∧ k < N ∧ ci < 999 ∧ (∀ w ∈ u_ws C T N, w ∈ zT) ∧ (T k).1 = C ∧ (∀ k, k < N → parseFieldDescriptor (T k).2.2.1 = some (ty0 k)) ∧ (∀ a, a < N → ∀ b, b < N → a ≠ b → (T a).2.1 ≠ (T b).2.1) ∧ parseFieldDescriptor (T k).2.2.1 = some ty ∧
  (T k).2.2.2 = true ∧ Cond.fieldLink own idx C (T k).2.1 (T k).2.2.1 ∈ zT ∧ C = own
/-- a class's objects may be made; fs: what a new one holds -/
def NewA (own : String) (idx ci N : Nat) (fs : List Value) : Prop := ∃ (C : String) (T : u_T) (ty0 : Nat → FieldType), zCl[ci]? = some (C, T, N) ∧ ci < 999 ∧ (∀ w ∈ u_ws C T N, w ∈ zT) ∧ (∀ k, k < N → parseFieldDescriptor (T k).2.2.1 = some (ty0 k)) ∧ (∀ j, j < N → defaultValue (ty0 j) = vp_V fs j) ∧ Cond.classLink own idx C ∈ zT ∧ Cond.instantiable C N ∈ zT ∧ Cond.initialized C ∈ zT
def CalD (y : MethodName) (n : Nat) : Prop := y.cls ≠ "java/lang/invoke/MethodHandle" ∧ y.cls ≠ "java/lang/invoke/VarHandle" ∧ (parseMethodDescriptor y.desc).map (fun d => d.parameters.length) = some n
def CalL (own : String) (idx : Nat) (y : MethodName) : Prop := Cond.methodLink own idx y ∈ zT ∨ ∃ host, Cond.methodLinkNest own idx y host ∈ zN
def CalV (own : String) (idx : Nat) (y : MethodName) (cw : Cond) (n ci : Nat) : Prop := cw ∈ zT ∧ CalL own idx y ∧ Cond.instanceMethod y ∈ zT ∧ Cond.selects y.cls y y ∈ zT ∧ Cond.initialized y.cls ∈ zT ∧ CalD y n ∧ ci < 999 ∧ ∃ (T : u_T) (N : Nat), zCl[ci]? = some (y.cls, T, N)
def CalS (own : String) (idx : Nat) (y : MethodName) (cw : Cond) (n : Nat) : Prop := cw ∈ zT ∧ CalL own idx y ∧ Cond.static y ∈ zT ∧ Cond.initialized y.cls ∈ zT ∧ CalD y n
def CalI (own : String) (idx : Nat) (y : MethodName) (cw : Cond) (n : Nat) : Prop := cw ∈ zT ∧ CalL own idx y ∧ Cond.instanceMethod y ∈ zT ∧ y.name = "<init>" ∧ Cond.initialized y.cls ∈ zT ∧ CalD y n
theorem aoA_moved {t : FieldType} {u U : State} (hvm : u.vm.Alike U.vm) (h : va_Nw (.arrayOver (.array t)) u) : va_Nw (.arrayOver (.array t)) U := by
  sorry
theorem zN_warm {s U : State} (hW : s.WarmedH U.vm) (h : ∀ w ∈ zN, va_Nw w s) : ∀ w ∈ zN, va_Nw w U := fun w hw => by
  have h0 := h w hw
  simp only [zN, List.mem_cons, List.not_mem_nil, or_false] at hw
  rcases hw with rfl | rfl | rfl | rfl | rfl | rfl | rfl | rfl | rfl | rfl | rfl | rfl <;> first | exact va_Nw.warmM hW h0 | exact va_Nw.warmF hW h0 | exact va_AO.moved hW.alike h0 | exact aoA_moved hW.alike h0
theorem zN_same {s U : State} (h9 : s.vm = U.vm) (h : ∀ w ∈ zN, va_Nw w s) : ∀ w ∈ zN, va_Nw w U := fun w hw => by
  have h0 := h w hw
  simp only [zN, List.mem_cons, List.not_mem_nil, or_false] at hw
  rcases hw with rfl | rfl | rfl | rfl | rfl | rfl | rfl | rfl | rfl | rfl | rfl | rfl <;> first | exact va_Nw.same rfl h9 h0 | exact va_AO.moved (h9 ▸ Vm.Alike.refl s.vm) h0 | exact aoA_moved (h9 ▸ Vm.Alike.refl s.vm) h0
theorem lw_goodIn {cw : Cond} (h : cw ∈ zT) : GoodIn zT (cw :: zT) := fun w hw => by
  have h1 : w ∈ zT := by
    rcases List.mem_cons.mp hw with rfl | q
    · exact h
    · exact q
  exact ⟨h1, zT_good w h1⟩
section VV
variable {G : xG} {X : xT} {cc : ByteArray} {y : MethodName} {nL : Nat} {rm : Room} {kc ks pc : Nat} {lv lv' : List (Nat × Value)} {st : List Value} {f : xF}
theorem v_iconst (h : xOk G X cc y nL rm) (z : Int) (hdg : decode cc pc = .ok (.iconst z, 1)) (k : vV G X kc ks (pc + 1) lv (.int (iv z) :: st) f) : vV G X kc ks pc lv st f := by
  obtain ⟨p, l, e, R, s, m, args, below, meth, c, A, H0, n0, Q⟩ := X
  obtain ⟨hx, hb, rfl, h⟩ := h
  exact fun L H locs ls h1 h2 h3 h4 h5 => lv_iconst hx hb hdg rfl (k L H locs ls h1 h2 h3 h4 h5)
theorem v_bipush (h : xOk G X cc y nL rm) (z : Int) (hdg : decode cc pc = .ok (.bipush z, 2)) (hz : (Int8.ofInt z).toInt32 = iv z) (k : vV G X kc ks (pc + 2) lv (.int (iv z) :: st) f) : vV G X kc ks pc lv st f := by
  obtain ⟨p, l, e, R, s, m, args, below, meth, c, A, H0, n0, Q⟩ := X
  obtain ⟨hx, hb, rfl, h⟩ := h
  exact fun L H locs ls h1 h2 h3 h4 h5 => lv_bipush hx hb hdg hz (k L H locs ls h1 h2 h3 h4 h5)
theorem v_sipush (h : xOk G X cc y nL rm) (z : Int) (hdg : decode cc pc = .ok (.sipush z, 3)) (hz : (Int16.ofInt z).toInt32 = iv z) (k : vV G X kc ks (pc + 3) lv (.int (iv z) :: st) f) : vV G X kc ks pc lv st f := by
  obtain ⟨p, l, e, R, s, m, args, below, meth, c, A, H0, n0, Q⟩ := X
  obtain ⟨hx, hb, rfl, h⟩ := h
  exact fun L H locs ls h1 h2 h3 h4 h5 => lv_sipush hx hb hdg hz (k L H locs ls h1 h2 h3 h4 h5)
theorem v_iadd (h : xOk G X cc y nL rm) {a b : Int} (hdg : decode cc pc = .ok (.iadd, 1)) (k : vV G X kc ks (pc + 1) lv (.int (iv (a + b)) :: st) f) : vV G X kc ks pc lv (.int (iv b) :: .int (iv a) :: st) f := by
  obtain ⟨p, l, e, R, s, m, args, below, meth, c, A, H0, n0, Q⟩ := X
  obtain ⟨hx, hb, rfl, h⟩ := h
  exact fun L H locs ls h1 h2 h3 h4 h5 => lv_iadd hx hb hdg (by rw [iv_add]; exact k L H locs ls h1 h2 h3 h4 h5)
theorem v_isub (h : xOk G X cc y nL rm) {a b : Int} (hdg : decode cc pc = .ok (.isub, 1)) (k : vV G X kc ks (pc + 1) lv (.int (iv (a - b)) :: st) f) : vV G X kc ks pc lv (.int (iv b) :: .int (iv a) :: st) f := by
  obtain ⟨p, l, e, R, s, m, args, below, meth, c, A, H0, n0, Q⟩ := X
  obtain ⟨hx, hb, rfl, h⟩ := h
  exact fun L H locs ls h1 h2 h3 h4 h5 => lv_isub hx hb hdg (by rw [iv_sub]; exact k L H locs ls h1 h2 h3 h4 h5)
theorem v_imul (h : xOk G X cc y nL rm) {a b : Int} (hdg : decode cc pc = .ok (.imul, 1)) (k : vV G X kc ks (pc + 1) lv (.int (iv (a * b)) :: st) f) : vV G X kc ks pc lv (.int (iv b) :: .int (iv a) :: st) f := by
  obtain ⟨p, l, e, R, s, m, args, below, meth, c, A, H0, n0, Q⟩ := X
  obtain ⟨hx, hb, rfl, h⟩ := h
  exact fun L H locs ls h1 h2 h3 h4 h5 => lv_imul hx hb hdg (by rw [iv_mul]; exact k L H locs ls h1 h2 h3 h4 h5)
theorem v_ladd (h : xOk G X cc y nL rm) {a b : Int} (hdg : decode cc pc = .ok (.ladd, 1)) (k : vV G X kc ks (pc + 1) lv (.long (jv (a + b)) :: st) f) : vV G X kc ks pc lv (.long (jv b) :: .long (jv a) :: st) f := by
  obtain ⟨p, l, e, R, s, m, args, below, meth, c, A, H0, n0, Q⟩ := X
  obtain ⟨hx, hb, rfl, h⟩ := h
  exact fun L H locs ls h1 h2 h3 h4 h5 => lv_ladd hx hb hdg (by rw [jv_add]; exact k L H locs ls h1 h2 h3 h4 h5)
theorem v_lsub (h : xOk G X cc y nL rm) {a b : Int} (hdg : decode cc pc = .ok (.lsub, 1)) (k : vV G X kc ks (pc + 1) lv (.long (jv (a - b)) :: st) f) : vV G X kc ks pc lv (.long (jv b) :: .long (jv a) :: st) f := by
  obtain ⟨p, l, e, R, s, m, args, below, meth, c, A, H0, n0, Q⟩ := X
  obtain ⟨hx, hb, rfl, h⟩ := h
  exact fun L H locs ls h1 h2 h3 h4 h5 => lv_lsub hx hb hdg (by rw [jv_sub]; exact k L H locs ls h1 h2 h3 h4 h5)
theorem v_lmul (h : xOk G X cc y nL rm) {a b : Int} (hdg : decode cc pc = .ok (.lmul, 1)) (k : vV G X kc ks (pc + 1) lv (.long (jv (a * b)) :: st) f) : vV G X kc ks pc lv (.long (jv b) :: .long (jv a) :: st) f := by
  obtain ⟨p, l, e, R, s, m, args, below, meth, c, A, H0, n0, Q⟩ := X
  obtain ⟨hx, hb, rfl, h⟩ := h
  exact fun L H locs ls h1 h2 h3 h4 h5 => lv_lmul hx hb hdg (by rw [jv_mul]; exact k L H locs ls h1 h2 h3 h4 h5)
theorem v_ineg (h : xOk G X cc y nL rm) {a : Int} (hdg : decode cc pc = .ok (.ineg, 1)) (k : vV G X kc ks (pc + 1) lv (.int (iv (-a)) :: st) f) : vV G X kc ks pc lv (.int (iv a) :: st) f := by
  obtain ⟨p, l, e, R, s, m, args, below, meth, c, A, H0, n0, Q⟩ := X
  obtain ⟨hx, hb, rfl, h⟩ := h
  exact fun L H locs ls h1 h2 h3 h4 h5 => lv_ineg hx hb hdg (by rw [iv_neg]; exact k L H locs ls h1 h2 h3 h4 h5)
theorem v_iand (h : xOk G X cc y nL rm) {a b z : Int} (hdg : decode cc pc = .ok (.iand, 1)) (hz : iv a &&& iv b = iv z) (k : vV G X kc ks (pc + 1) lv (.int (iv z) :: st) f) : vV G X kc ks pc lv (.int (iv b) :: .int (iv a) :: st) f := by
  obtain ⟨p, l, e, R, s, m, args, below, meth, c, A, H0, n0, Q⟩ := X
  obtain ⟨hx, hb, rfl, h⟩ := h
  exact fun L H locs ls h1 h2 h3 h4 h5 => lv_iand hx hb hdg (by rw [hz]; exact k L H locs ls h1 h2 h3 h4 h5)
theorem v_ior (h : xOk G X cc y nL rm) {a b z : Int} (hdg : decode cc pc = .ok (.ior, 1)) (hz : iv a ||| iv b = iv z) (k : vV G X kc ks (pc + 1) lv (.int (iv z) :: st) f) : vV G X kc ks pc lv (.int (iv b) :: .int (iv a) :: st) f := by
  obtain ⟨p, l, e, R, s, m, args, below, meth, c, A, H0, n0, Q⟩ := X
  obtain ⟨hx, hb, rfl, h⟩ := h
  exact fun L H locs ls h1 h2 h3 h4 h5 => lv_ior hx hb hdg (by rw [hz]; exact k L H locs ls h1 h2 h3 h4 h5)
theorem v_ixor (h : xOk G X cc y nL rm) {a b z : Int} (hdg : decode cc pc = .ok (.ixor, 1)) (hz : iv a ^^^ iv b = iv z) (k : vV G X kc ks (pc + 1) lv (.int (iv z) :: st) f) : vV G X kc ks pc lv (.int (iv b) :: .int (iv a) :: st) f := by
  obtain ⟨p, l, e, R, s, m, args, below, meth, c, A, H0, n0, Q⟩ := X
  obtain ⟨hx, hb, rfl, h⟩ := h
  exact fun L H locs ls h1 h2 h3 h4 h5 => lv_ixor hx hb hdg (by rw [hz]; exact k L H locs ls h1 h2 h3 h4 h5)
theorem v_ishl (h : xOk G X cc y nL rm) {a b z : Int} (hdg : decode cc pc = .ok (.ishl, 1)) (hz : iv a <<< (iv b &&& 31) = iv z) (k : vV G X kc ks (pc + 1) lv (.int (iv z) :: st) f) : vV G X kc ks pc lv (.int (iv b) :: .int (iv a) :: st) f := by
  obtain ⟨p, l, e, R, s, m, args, below, meth, c, A, H0, n0, Q⟩ := X
  obtain ⟨hx, hb, rfl, h⟩ := h
  exact fun L H locs ls h1 h2 h3 h4 h5 => lv_ishl hx hb hdg (by rw [hz]; exact k L H locs ls h1 h2 h3 h4 h5)
theorem v_ishr (h : xOk G X cc y nL rm) {a b z : Int} (hdg : decode cc pc = .ok (.ishr, 1)) (hz : iv a >>> (iv b &&& 31) = iv z) (k : vV G X kc ks (pc + 1) lv (.int (iv z) :: st) f) : vV G X kc ks pc lv (.int (iv b) :: .int (iv a) :: st) f := by
  obtain ⟨p, l, e, R, s, m, args, below, meth, c, A, H0, n0, Q⟩ := X
  obtain ⟨hx, hb, rfl, h⟩ := h
  exact fun L H locs ls h1 h2 h3 h4 h5 => lv_ishr hx hb hdg (by rw [hz]; exact k L H locs ls h1 h2 h3 h4 h5)
theorem v_iushr (h : xOk G X cc y nL rm) {a b z : Int} (hdg : decode cc pc = .ok (.iushr, 1)) (hz : ((iv a).toUInt32 >>> ((iv b).toUInt32 &&& Int32.toUInt32 31)).toInt32 = iv z) (k : vV G X kc ks (pc + 1) lv (.int (iv z) :: st) f) : vV G X kc ks pc lv (.int (iv b) :: .int (iv a) :: st) f := by
  obtain ⟨p, l, e, R, s, m, args, below, meth, c, A, H0, n0, Q⟩ := X
  obtain ⟨hx, hb, rfl, h⟩ := h
  exact fun L H locs ls h1 h2 h3 h4 h5 => lv_iushr hx hb hdg hz (k L H locs ls h1 h2 h3 h4 h5)
theorem v_idiv (h : xOk G X cc y nL rm) {a b z : Int} (hdg : decode cc pc = .ok (.idiv, 1)) (hne : ¬ iv b = 0) (hz : iv a / iv b = iv z) (k : vV G X kc ks (pc + 1) lv (.int (iv z) :: st) f) : vV G X kc ks pc lv (.int (iv b) :: .int (iv a) :: st) f := by
  obtain ⟨p, l, e, R, s, m, args, below, meth, c, A, H0, n0, Q⟩ := X
  obtain ⟨hx, hb, rfl, h⟩ := h
  exact fun L H locs ls h1 h2 h3 h4 h5 => lv_idiv hx hb hdg hne (by rw [hz]; exact k L H locs ls h1 h2 h3 h4 h5)
theorem v_irem (h : xOk G X cc y nL rm) {a b z : Int} (hdg : decode cc pc = .ok (.irem, 1)) (hne : ¬ iv b = 0) (hz : iv a - iv a / iv b * iv b = iv z) (k : vV G X kc ks (pc + 1) lv (.int (iv z) :: st) f) : vV G X kc ks pc lv (.int (iv b) :: .int (iv a) :: st) f := by
  obtain ⟨p, l, e, R, s, m, args, below, meth, c, A, H0, n0, Q⟩ := X
  obtain ⟨hx, hb, rfl, h⟩ := h
  exact fun L H locs ls h1 h2 h3 h4 h5 => lv_irem hx hb hdg hne (by rw [hz]; exact k L H locs ls h1 h2 h3 h4 h5)
theorem v_i2l (h : xOk G X cc y nL rm) {a : Int} (hdg : decode cc pc = .ok (.i2l, 1)) (ha : ir a) (k : vV G X kc ks (pc + 1) lv (.long (jv a) :: st) f) : vV G X kc ks pc lv (.int (iv a) :: st) f := by
  obtain ⟨p, l, e, R, s, m, args, below, meth, c, A, H0, n0, Q⟩ := X
  obtain ⟨hx, hb, rfl, h⟩ := h
  intro L H locs ls h1 h2 h3 h4 h5
  exact lv_i2l hx hb hdg (iv_long ha) (k L H locs ls h1 h2 h3 h4 h5)
theorem v_lcmp (h : xOk G X cc y nL rm) {a b : Int} (hdg : decode cc pc = .ok (.lcmp, 1)) (ha : jr a) (hc : jr b) (k : vV G X kc ks (pc + 1) lv (.int (iv (if b < a then 1 else if a = b then 0 else -1)) :: st) f) : vV G X kc ks pc lv (.long (jv b) :: .long (jv a) :: st) f := by
  obtain ⟨p, l, e, R, s, m, args, below, meth, c, A, H0, n0, Q⟩ := X
  obtain ⟨hx, hb, rfl, h⟩ := h
  intro L H locs ls h1 h2 h3 h4 h5
  exact W.lcmp hx hb hdg (by rw [jv_cmp ha hc]; exact k L H locs ls h1 h2 h3 h4 h5)
theorem v_dup (h : xOk G X cc y nL rm) {va : Value} (hdg : decode cc pc = .ok (.dup, 1)) (hva : va.category = 1) (k : vV G X kc ks (pc + 1) lv (va :: va :: st) f) : vV G X kc ks pc lv (va :: st) f := by
  obtain ⟨p, l, e, R, s, m, args, below, meth, c, A, H0, n0, Q⟩ := X
  obtain ⟨hx, hb, rfl, h⟩ := h
  exact fun L H locs ls h1 h2 h3 h4 h5 => lv_dup hx hb hdg hva (k L H locs ls h1 h2 h3 h4 h5)
theorem v_pop (h : xOk G X cc y nL rm) {va : Value} (hdg : decode cc pc = .ok (.pop, 1)) (hva : va.category = 1) (k : vV G X kc ks (pc + 1) lv st f) : vV G X kc ks pc lv (va :: st) f := by
  obtain ⟨p, l, e, R, s, m, args, below, meth, c, A, H0, n0, Q⟩ := X
  obtain ⟨hx, hb, rfl, h⟩ := h
  exact fun L H locs ls h1 h2 h3 h4 h5 => lv_pop hx hb hdg hva (k L H locs ls h1 h2 h3 h4 h5)
theorem v_dup_x1 (h : xOk G X cc y nL rm) {va vb : Value} (hdg : decode cc pc = .ok (.dup_x1, 1)) (hva : va.category = 1) (hvb : vb.category = 1) (k : vV G X kc ks (pc + 1) lv (va :: vb :: va :: st) f) : vV G X kc ks pc lv (va :: vb :: st) f := by
  obtain ⟨p, l, e, R, s, m, args, below, meth, c, A, H0, n0, Q⟩ := X
  obtain ⟨hx, hb, rfl, h⟩ := h
  exact fun L H locs ls h1 h2 h3 h4 h5 => lv_dup_x1 hx hb hdg hva hvb (k L H locs ls h1 h2 h3 h4 h5)
theorem v_dup2_11 (h : xOk G X cc y nL rm) {va vb : Value} (hdg : decode cc pc = .ok (.dup2, 1)) (hva : va.category = 1) (hvb : vb.category = 1) (k : vV G X kc ks (pc + 1) lv (va :: vb :: va :: vb :: st) f) : vV G X kc ks pc lv (va :: vb :: st) f := by
  obtain ⟨p, l, e, R, s, m, args, below, meth, c, A, H0, n0, Q⟩ := X
  obtain ⟨hx, hb, rfl, h⟩ := h
  exact fun L H locs ls h1 h2 h3 h4 h5 => lv_dup2_11 hx hb hdg hva hvb (k L H locs ls h1 h2 h3 h4 h5)
theorem v_dup2_2 (h : xOk G X cc y nL rm) {va : Value} (hdg : decode cc pc = .ok (.dup2, 1)) (hva : va.category = 2) (k : vV G X kc ks (pc + 1) lv (va :: va :: st) f) : vV G X kc ks pc lv (va :: st) f := by
  obtain ⟨p, l, e, R, s, m, args, below, meth, c, A, H0, n0, Q⟩ := X
  obtain ⟨hx, hb, rfl, h⟩ := h
  exact fun L H locs ls h1 h2 h3 h4 h5 => lv_dup2_2 hx hb hdg hva (k L H locs ls h1 h2 h3 h4 h5)
theorem v_null (h : xOk G X cc y nL rm) (hdg : decode cc pc = .ok (.aconst_null, 1)) (k : vV G X kc ks (pc + 1) lv (.null :: st) f) : vV G X kc ks pc lv st f := by
  obtain ⟨p, l, e, R, s, m, args, below, meth, c, A, H0, n0, Q⟩ := X
  obtain ⟨hx, hb, rfl, h⟩ := h
  exact fun L H locs ls h1 h2 h3 h4 h5 => lv_null hx hb hdg (k L H locs ls h1 h2 h3 h4 h5)
theorem v_iload_n (h : xOk G X cc y nL rm) {k0 : Fin 4} {x : Int32} (hdg : decode cc pc = .ok (.iload_n k0, 1)) (j : Nat) (hl : lv[j]? = some ((k0 : Nat), .int x)) (k : vV G X kc ks (pc + 1) lv (.int x :: st) f) : vV G X kc ks pc lv st f := by
  obtain ⟨p, l, e, R, s, m, args, below, meth, c, A, H0, n0, Q⟩ := X
  obtain ⟨hx, hb, rfl, h⟩ := h
  exact fun L H locs ls h1 h2 h3 h4 h5 => lv_iload_n hx hb hdg rfl (lv_at h5 j hl) (k L H locs ls h1 h2 h3 h4 h5)
theorem v_iload (h : xOk G X cc y nL rm) {i : Nat} {x : Int32} (hdg : decode cc pc = .ok (.iload i, 2)) (j : Nat) (hl : lv[j]? = some (i, .int x)) (k : vV G X kc ks (pc + 2) lv (.int x :: st) f) : vV G X kc ks pc lv st f := by
  obtain ⟨p, l, e, R, s, m, args, below, meth, c, A, H0, n0, Q⟩ := X
  obtain ⟨hx, hb, rfl, h⟩ := h
  exact fun L H locs ls h1 h2 h3 h4 h5 => lv_iload hx hb hdg (lv_at h5 j hl) (k L H locs ls h1 h2 h3 h4 h5)
theorem v_lload_n (h : xOk G X cc y nL rm) {k0 : Fin 4} {x : Int64} (hdg : decode cc pc = .ok (.lload_n k0, 1)) (j : Nat) (hl : lv[j]? = some ((k0 : Nat), .long x)) (k : vV G X kc ks (pc + 1) lv (.long x :: st) f) : vV G X kc ks pc lv st f := by
  obtain ⟨p, l, e, R, s, m, args, below, meth, c, A, H0, n0, Q⟩ := X
  obtain ⟨hx, hb, rfl, h⟩ := h
  exact fun L H locs ls h1 h2 h3 h4 h5 => lv_lload_n hx hb hdg rfl (lv_at h5 j hl) (k L H locs ls h1 h2 h3 h4 h5)
theorem v_lload (h : xOk G X cc y nL rm) {i : Nat} {x : Int64} (hdg : decode cc pc = .ok (.lload i, 2)) (j : Nat) (hl : lv[j]? = some (i, .long x)) (k : vV G X kc ks (pc + 2) lv (.long x :: st) f) : vV G X kc ks pc lv st f := by
  obtain ⟨p, l, e, R, s, m, args, below, meth, c, A, H0, n0, Q⟩ := X
  obtain ⟨hx, hb, rfl, h⟩ := h
  exact fun L H locs ls h1 h2 h3 h4 h5 => lv_lload hx hb hdg (lv_at h5 j hl) (k L H locs ls h1 h2 h3 h4 h5)
theorem v_aload_n (h : xOk G X cc y nL rm) {k0 : Fin 4} {x : Nat} (hdg : decode cc pc = .ok (.aload_n k0, 1)) (j : Nat) (hl : lv[j]? = some ((k0 : Nat), .ref x)) (k : vV G X kc ks (pc + 1) lv (.ref x :: st) f) : vV G X kc ks pc lv st f := by
  obtain ⟨p, l, e, R, s, m, args, below, meth, c, A, H0, n0, Q⟩ := X
  obtain ⟨hx, hb, rfl, h⟩ := h
  exact fun L H locs ls h1 h2 h3 h4 h5 => lv_aload_n hx hb hdg rfl (lv_at h5 j hl) (k L H locs ls h1 h2 h3 h4 h5)
theorem v_aload (h : xOk G X cc y nL rm) {i : Nat} {x : Nat} (hdg : decode cc pc = .ok (.aload i, 2)) (j : Nat) (hl : lv[j]? = some (i, .ref x)) (k : vV G X kc ks (pc + 2) lv (.ref x :: st) f) : vV G X kc ks pc lv st f := by
  obtain ⟨p, l, e, R, s, m, args, below, meth, c, A, H0, n0, Q⟩ := X
  obtain ⟨hx, hb, rfl, h⟩ := h
  exact fun L H locs ls h1 h2 h3 h4 h5 => lv_aload hx hb hdg (lv_at h5 j hl) (k L H locs ls h1 h2 h3 h4 h5)
theorem v_aload_nN (h : xOk G X cc y nL rm) {k0 : Fin 4} (hdg : decode cc pc = .ok (.aload_n k0, 1)) (j : Nat) (hl : lv[j]? = some ((k0 : Nat), .null)) (k : vV G X kc ks (pc + 1) lv (.null :: st) f) : vV G X kc ks pc lv st f := by
  obtain ⟨p, l, e, R, s, m, args, below, meth, c, A, H0, n0, Q⟩ := X
  obtain ⟨hx, hb, rfl, h⟩ := h
  exact fun L H locs ls h1 h2 h3 h4 h5 => lv_aload_nN hx hb hdg rfl (lv_at h5 j hl) (k L H locs ls h1 h2 h3 h4 h5)
theorem v_aloadN (h : xOk G X cc y nL rm) {i : Nat} (hdg : decode cc pc = .ok (.aload i, 2)) (j : Nat) (hl : lv[j]? = some (i, .null)) (k : vV G X kc ks (pc + 2) lv (.null :: st) f) : vV G X kc ks pc lv st f := by
  obtain ⟨p, l, e, R, s, m, args, below, meth, c, A, H0, n0, Q⟩ := X
  obtain ⟨hx, hb, rfl, h⟩ := h
  exact fun L H locs ls h1 h2 h3 h4 h5 => lv_aloadN hx hb hdg (lv_at h5 j hl) (k L H locs ls h1 h2 h3 h4 h5)
theorem v_istore_n (h : xOk G X cc y nL rm) {k0 : Fin 4} {i : Nat} {x : Int32} (hdg : decode cc pc = .ok (.istore_n k0, 1)) (hi : (k0 : Nat) = i) (hn : i < nL) (hl : (i, Value.int x) :: lv.filter (fun q => !(q.1 == i) && !(q.1 + 1 == i && q.2.category == 2)) = lv') (k : vV G X kc ks (pc + 1) lv' st f) : vV G X kc ks pc lv (Value.int x :: st) f := by
  obtain ⟨p, l, e, R, s, m, args, below, meth, c, A, H0, n0, Q⟩ := X
  obtain ⟨hx, hb, rfl, h⟩ := h
  exact fun L H locs ls h1 h2 h3 h4 h5 => lv_istore_n hx hb hdg hi h5 hn hl (fun ls h5 => k L H locs ls h1 h2 h3 h4 h5)
theorem v_istore (h : xOk G X cc y nL rm) {i : Nat} {x : Int32} (hdg : decode cc pc = .ok (.istore i, 2)) (hn : i < nL) (hl : (i, Value.int x) :: lv.filter (fun q => !(q.1 == i) && !(q.1 + 1 == i && q.2.category == 2)) = lv') (k : vV G X kc ks (pc + 2) lv' st f) : vV G X kc ks pc lv (Value.int x :: st) f := by
  obtain ⟨p, l, e, R, s, m, args, below, meth, c, A, H0, n0, Q⟩ := X
  obtain ⟨hx, hb, rfl, h⟩ := h
  exact fun L H locs ls h1 h2 h3 h4 h5 => lv_istore hx hb hdg h5 hn hl (fun ls h5 => k L H locs ls h1 h2 h3 h4 h5)
theorem v_lstore_n (h : xOk G X cc y nL rm) {k0 : Fin 4} {i : Nat} {x : Int64} (hdg : decode cc pc = .ok (.lstore_n k0, 1)) (hi : (k0 : Nat) = i) (hn : i + 1 < nL) (hl : (i, Value.long x) :: lv.filter (fun q => !(q.1 == i) && (!(q.1 == i + 1) && !(q.1 + 1 == i && q.2.category == 2))) = lv') (k : vV G X kc ks (pc + 1) lv' st f) : vV G X kc ks pc lv (Value.long x :: st) f := by
  obtain ⟨p, l, e, R, s, m, args, below, meth, c, A, H0, n0, Q⟩ := X
  obtain ⟨hx, hb, rfl, h⟩ := h
  exact fun L H locs ls h1 h2 h3 h4 h5 => lv_lstore_n hx hb hdg hi h5 hn hl (fun ls h5 => k L H locs ls h1 h2 h3 h4 h5)
theorem v_lstore (h : xOk G X cc y nL rm) {i : Nat} {x : Int64} (hdg : decode cc pc = .ok (.lstore i, 2)) (hn : i + 1 < nL) (hl : (i, Value.long x) :: lv.filter (fun q => !(q.1 == i) && (!(q.1 == i + 1) && !(q.1 + 1 == i && q.2.category == 2))) = lv') (k : vV G X kc ks (pc + 2) lv' st f) : vV G X kc ks pc lv (Value.long x :: st) f := by
  obtain ⟨p, l, e, R, s, m, args, below, meth, c, A, H0, n0, Q⟩ := X
  obtain ⟨hx, hb, rfl, h⟩ := h
  exact fun L H locs ls h1 h2 h3 h4 h5 => lv_lstore hx hb hdg h5 hn hl (fun ls h5 => k L H locs ls h1 h2 h3 h4 h5)
theorem v_astore_n (h : xOk G X cc y nL rm) {k0 : Fin 4} {i : Nat} {x : Nat} (hdg : decode cc pc = .ok (.astore_n k0, 1)) (hi : (k0 : Nat) = i) (hn : i < nL) (hl : (i, Value.ref x) :: lv.filter (fun q => !(q.1 == i) && !(q.1 + 1 == i && q.2.category == 2)) = lv') (k : vV G X kc ks (pc + 1) lv' st f) : vV G X kc ks pc lv (Value.ref x :: st) f := by
  obtain ⟨p, l, e, R, s, m, args, below, meth, c, A, H0, n0, Q⟩ := X
  obtain ⟨hx, hb, rfl, h⟩ := h
  exact fun L H locs ls h1 h2 h3 h4 h5 => lv_astore_n hx hb hdg hi h5 hn hl (fun ls h5 => k L H locs ls h1 h2 h3 h4 h5)
theorem v_astore (h : xOk G X cc y nL rm) {i : Nat} {x : Nat} (hdg : decode cc pc = .ok (.astore i, 2)) (hn : i < nL) (hl : (i, Value.ref x) :: lv.filter (fun q => !(q.1 == i) && !(q.1 + 1 == i && q.2.category == 2)) = lv') (k : vV G X kc ks (pc + 2) lv' st f) : vV G X kc ks pc lv (Value.ref x :: st) f := by
  obtain ⟨p, l, e, R, s, m, args, below, meth, c, A, H0, n0, Q⟩ := X
  obtain ⟨hx, hb, rfl, h⟩ := h
  exact fun L H locs ls h1 h2 h3 h4 h5 => lv_astore hx hb hdg h5 hn hl (fun ls h5 => k L H locs ls h1 h2 h3 h4 h5)
theorem v_astore_nN (h : xOk G X cc y nL rm) {k0 : Fin 4} {i : Nat} (hdg : decode cc pc = .ok (.astore_n k0, 1)) (hi : (k0 : Nat) = i) (hn : i < nL) (hl : (i, Value.null) :: lv.filter (fun q => !(q.1 == i) && !(q.1 + 1 == i && q.2.category == 2)) = lv') (k : vV G X kc ks (pc + 1) lv' st f) : vV G X kc ks pc lv (.null :: st) f := by
  obtain ⟨p, l, e, R, s, m, args, below, meth, c, A, H0, n0, Q⟩ := X
  obtain ⟨hx, hb, rfl, h⟩ := h
  exact fun L H locs ls h1 h2 h3 h4 h5 => lv_astore_nN hx hb hdg hi h5 hn hl (fun ls h5 => k L H locs ls h1 h2 h3 h4 h5)
theorem v_astoreN (h : xOk G X cc y nL rm) {i : Nat} (hdg : decode cc pc = .ok (.astore i, 2)) (hn : i < nL) (hl : (i, Value.null) :: lv.filter (fun q => !(q.1 == i) && !(q.1 + 1 == i && q.2.category == 2)) = lv') (k : vV G X kc ks (pc + 2) lv' st f) : vV G X kc ks pc lv (.null :: st) f := by
  obtain ⟨p, l, e, R, s, m, args, below, meth, c, A, H0, n0, Q⟩ := X
  obtain ⟨hx, hb, rfl, h⟩ := h
  exact fun L H locs ls h1 h2 h3 h4 h5 => lv_astoreN hx hb hdg h5 hn hl (fun ls h5 => k L H locs ls h1 h2 h3 h4 h5)
theorem v_iinc (h : xOk G X cc y nL rm) {i : Nat} {n a : Int} (hdg : decode cc pc = .ok (.iinc i n, 3)) (j : Nat) (hk : lv[j]? = some (i, .int (iv a))) (hn : i < nL) (hl : (i, Value.int (iv (a + n))) :: lv.filter (fun q => !(q.1 == i) && !(q.1 + 1 == i && q.2.category == 2)) = lv') (k : vV G X kc ks (pc + 3) lv' st f) : vV G X kc ks pc lv st f := by
  obtain ⟨p, l, e, R, s, m, args, below, meth, c, A, H0, n0, Q⟩ := X
  obtain ⟨hx, hb, rfl, h⟩ := h
  exact fun L H locs ls h1 h2 h3 h4 h5 => lv_iinc hx hb hdg h5 hk (iv_add a n) hn hl (fun ls h5 => k L H locs ls h1 h2 h3 h4 h5)
theorem v_lv (ks' : List Nat) (hl : lv_pick lv ks' = lv') (k : vV G X kc ks pc lv' st f) : vV G X kc ks pc lv st f := by
  obtain ⟨p, l, e, R, s, m, args, below, meth, c, A, H0, n0, Q⟩ := X
  exact fun L H locs ls h1 h2 h3 h4 h5 => k L H locs ls h1 h2 h3 h4 (lv_sub h5 ks' hl)
theorem v_eq {st' : List Value} (h : st = st') (k : vV G X kc ks pc lv st' f) : vV G X kc ks pc lv st f := h ▸ k
theorem v_top {x x' : Int32} (h : x = x') (k : vV G X kc ks pc lv (.int x' :: st) f) : vV G X kc ks pc lv (.int x :: st) f := h ▸ k
theorem v_f {f' : xF} (h : f = f') (k : vV G X kc ks pc lv st f') : vV G X kc ks pc lv st f := h ▸ k
theorem v_widen {kc' ks' : Nat} (h1 : kc ≤ kc') (h2 : ks ≤ ks') (k : vV G X kc' ks' pc lv st f) : vV G X kc ks pc lv st f := by
  obtain ⟨p, l, e, R, s, m, args, below, meth, c, A, H0, n0, Q⟩ := X
  exact fun L H locs ls a1 a2 a3 a4 a5 => W.widen h1 h2 (k L H locs ls a1 a2 a3 a4 a5)
theorem v_icmp_eq (h : xOk G X cc y nL rm) {a b : Int} {off : Int} {tgt : Nat} (hdg : decode cc pc = .ok (.if_icmp .eq off, 3)) (ht : (pc : Int) + off = (tgt : Int)) (ha0 : ir a) (hb0 : ir b) (kt : a = b → vV G X kc ks tgt lv st f) (kf : ¬ a = b → vV G X kc ks (pc + 3) lv st f) : vV G X kc ks pc lv (.int (iv b) :: .int (iv a) :: st) f := by
  obtain ⟨p, l, e, R, s, m, args, below, meth, c, A, H0, n0, Q⟩ := X
  obtain ⟨hx, hb, rfl, h⟩ := h
  exact fun L H locs ls h1 h2 h3 h4 h5 => lv_icmp_eq hx hb hdg ht (fun q => kt ((iv_eq ha0 hb0).mp q) L H locs ls h1 h2 h3 h4 h5) (fun q => kf (fun q9 => q ((iv_eq ha0 hb0).mpr q9)) L H locs ls h1 h2 h3 h4 h5)
theorem v_if_eq (h : xOk G X cc y nL rm) {a : Int} {off : Int} {tgt : Nat} (hdg : decode cc pc = .ok (.ifCond .eq off, 3)) (ht : (pc : Int) + off = (tgt : Int)) (ha0 : ir a) (kt : a = 0 → vV G X kc ks tgt lv st f) (kf : ¬ a = 0 → vV G X kc ks (pc + 3) lv st f) : vV G X kc ks pc lv (.int (iv a) :: st) f := by
  obtain ⟨p, l, e, R, s, m, args, below, meth, c, A, H0, n0, Q⟩ := X
  obtain ⟨hx, hb, rfl, h⟩ := h
  have hb0 : ir 0 := ir_0
  have e0 : (0 : Int32) = iv 0 := rfl
  exact fun L H locs ls h1 h2 h3 h4 h5 => lv_if_eq hx hb hdg ht (fun q => kt ((iv_eq ha0 hb0).mp q) L H locs ls h1 h2 h3 h4 h5) (fun q => kf (fun q9 => q ((iv_eq ha0 hb0).mpr q9)) L H locs ls h1 h2 h3 h4 h5)
theorem v_icmp_ne (h : xOk G X cc y nL rm) {a b : Int} {off : Int} {tgt : Nat} (hdg : decode cc pc = .ok (.if_icmp .ne off, 3)) (ht : (pc : Int) + off = (tgt : Int)) (ha0 : ir a) (hb0 : ir b) (kt : ¬ a = b → vV G X kc ks tgt lv st f) (kf : a = b → vV G X kc ks (pc + 3) lv st f) : vV G X kc ks pc lv (.int (iv b) :: .int (iv a) :: st) f := by
  obtain ⟨p, l, e, R, s, m, args, below, meth, c, A, H0, n0, Q⟩ := X
  obtain ⟨hx, hb, rfl, h⟩ := h
  exact fun L H locs ls h1 h2 h3 h4 h5 => lv_icmp_ne hx hb hdg ht (fun q => kt (fun q9 => q ((iv_eq ha0 hb0).mpr q9)) L H locs ls h1 h2 h3 h4 h5) (fun q => kf ((iv_eq ha0 hb0).mp q) L H locs ls h1 h2 h3 h4 h5)
theorem v_if_ne (h : xOk G X cc y nL rm) {a : Int} {off : Int} {tgt : Nat} (hdg : decode cc pc = .ok (.ifCond .ne off, 3)) (ht : (pc : Int) + off = (tgt : Int)) (ha0 : ir a) (kt : ¬ a = 0 → vV G X kc ks tgt lv st f) (kf : a = 0 → vV G X kc ks (pc + 3) lv st f) : vV G X kc ks pc lv (.int (iv a) :: st) f := by
  obtain ⟨p, l, e, R, s, m, args, below, meth, c, A, H0, n0, Q⟩ := X
  obtain ⟨hx, hb, rfl, h⟩ := h
  have hb0 : ir 0 := ir_0
  have e0 : (0 : Int32) = iv 0 := rfl
  exact fun L H locs ls h1 h2 h3 h4 h5 => lv_if_ne hx hb hdg ht (fun q => kt (fun q9 => q ((iv_eq ha0 hb0).mpr q9)) L H locs ls h1 h2 h3 h4 h5) (fun q => kf ((iv_eq ha0 hb0).mp q) L H locs ls h1 h2 h3 h4 h5)
theorem v_icmp_lt (h : xOk G X cc y nL rm) {a b : Int} {off : Int} {tgt : Nat} (hdg : decode cc pc = .ok (.if_icmp .lt off, 3)) (ht : (pc : Int) + off = (tgt : Int)) (ha0 : ir a) (hb0 : ir b) (kt : a < b → vV G X kc ks tgt lv st f) (kf : b ≤ a → vV G X kc ks (pc + 3) lv st f) : vV G X kc ks pc lv (.int (iv b) :: .int (iv a) :: st) f := by
  obtain ⟨p, l, e, R, s, m, args, below, meth, c, A, H0, n0, Q⟩ := X
  obtain ⟨hx, hb, rfl, h⟩ := h
  exact fun L H locs ls h1 h2 h3 h4 h5 => lv_icmp_lt hx hb hdg ht (fun q => kt ((iv_lt ha0 hb0).mp q) L H locs ls h1 h2 h3 h4 h5) (fun q => kf (by have := mt (iv_lt ha0 hb0).mpr q; omega) L H locs ls h1 h2 h3 h4 h5)
theorem v_if_lt (h : xOk G X cc y nL rm) {a : Int} {off : Int} {tgt : Nat} (hdg : decode cc pc = .ok (.ifCond .lt off, 3)) (ht : (pc : Int) + off = (tgt : Int)) (ha0 : ir a) (kt : a < 0 → vV G X kc ks tgt lv st f) (kf : 0 ≤ a → vV G X kc ks (pc + 3) lv st f) : vV G X kc ks pc lv (.int (iv a) :: st) f := by
  obtain ⟨p, l, e, R, s, m, args, below, meth, c, A, H0, n0, Q⟩ := X
  obtain ⟨hx, hb, rfl, h⟩ := h
  have hb0 : ir 0 := ir_0
  have e0 : (0 : Int32) = iv 0 := rfl
  exact fun L H locs ls h1 h2 h3 h4 h5 => lv_if_lt hx hb hdg ht (fun q => kt ((iv_lt ha0 hb0).mp q) L H locs ls h1 h2 h3 h4 h5) (fun q => kf (by have := mt (iv_lt ha0 hb0).mpr q; omega) L H locs ls h1 h2 h3 h4 h5)
theorem v_icmp_ge (h : xOk G X cc y nL rm) {a b : Int} {off : Int} {tgt : Nat} (hdg : decode cc pc = .ok (.if_icmp .ge off, 3)) (ht : (pc : Int) + off = (tgt : Int)) (ha0 : ir a) (hb0 : ir b) (kt : b ≤ a → vV G X kc ks tgt lv st f) (kf : a < b → vV G X kc ks (pc + 3) lv st f) : vV G X kc ks pc lv (.int (iv b) :: .int (iv a) :: st) f := by
  obtain ⟨p, l, e, R, s, m, args, below, meth, c, A, H0, n0, Q⟩ := X
  obtain ⟨hx, hb, rfl, h⟩ := h
  exact fun L H locs ls h1 h2 h3 h4 h5 => lv_icmp_ge hx hb hdg ht (fun q => kt ((iv_le hb0 ha0).mp q) L H locs ls h1 h2 h3 h4 h5) (fun q => kf (by have := mt (iv_le hb0 ha0).mpr q; omega) L H locs ls h1 h2 h3 h4 h5)
theorem v_if_ge (h : xOk G X cc y nL rm) {a : Int} {off : Int} {tgt : Nat} (hdg : decode cc pc = .ok (.ifCond .ge off, 3)) (ht : (pc : Int) + off = (tgt : Int)) (ha0 : ir a) (kt : 0 ≤ a → vV G X kc ks tgt lv st f) (kf : a < 0 → vV G X kc ks (pc + 3) lv st f) : vV G X kc ks pc lv (.int (iv a) :: st) f := by
  obtain ⟨p, l, e, R, s, m, args, below, meth, c, A, H0, n0, Q⟩ := X
  obtain ⟨hx, hb, rfl, h⟩ := h
  have hb0 : ir 0 := ir_0
  have e0 : (0 : Int32) = iv 0 := rfl
  exact fun L H locs ls h1 h2 h3 h4 h5 => lv_if_ge hx hb hdg ht (fun q => kt ((iv_le hb0 ha0).mp q) L H locs ls h1 h2 h3 h4 h5) (fun q => kf (by have := mt (iv_le hb0 ha0).mpr q; omega) L H locs ls h1 h2 h3 h4 h5)
theorem v_icmp_gt (h : xOk G X cc y nL rm) {a b : Int} {off : Int} {tgt : Nat} (hdg : decode cc pc = .ok (.if_icmp .gt off, 3)) (ht : (pc : Int) + off = (tgt : Int)) (ha0 : ir a) (hb0 : ir b) (kt : b < a → vV G X kc ks tgt lv st f) (kf : a ≤ b → vV G X kc ks (pc + 3) lv st f) : vV G X kc ks pc lv (.int (iv b) :: .int (iv a) :: st) f := by
  obtain ⟨p, l, e, R, s, m, args, below, meth, c, A, H0, n0, Q⟩ := X
  obtain ⟨hx, hb, rfl, h⟩ := h
  exact fun L H locs ls h1 h2 h3 h4 h5 => lv_icmp_gt hx hb hdg ht (fun q => kt ((iv_lt hb0 ha0).mp q) L H locs ls h1 h2 h3 h4 h5) (fun q => kf (by have := mt (iv_lt hb0 ha0).mpr q; omega) L H locs ls h1 h2 h3 h4 h5)
theorem v_if_gt (h : xOk G X cc y nL rm) {a : Int} {off : Int} {tgt : Nat} (hdg : decode cc pc = .ok (.ifCond .gt off, 3)) (ht : (pc : Int) + off = (tgt : Int)) (ha0 : ir a) (kt : 0 < a → vV G X kc ks tgt lv st f) (kf : a ≤ 0 → vV G X kc ks (pc + 3) lv st f) : vV G X kc ks pc lv (.int (iv a) :: st) f := by
  obtain ⟨p, l, e, R, s, m, args, below, meth, c, A, H0, n0, Q⟩ := X
  obtain ⟨hx, hb, rfl, h⟩ := h
  have hb0 : ir 0 := ir_0
  have e0 : (0 : Int32) = iv 0 := rfl
  exact fun L H locs ls h1 h2 h3 h4 h5 => lv_if_gt hx hb hdg ht (fun q => kt ((iv_lt hb0 ha0).mp q) L H locs ls h1 h2 h3 h4 h5) (fun q => kf (by have := mt (iv_lt hb0 ha0).mpr q; omega) L H locs ls h1 h2 h3 h4 h5)
theorem v_icmp_le (h : xOk G X cc y nL rm) {a b : Int} {off : Int} {tgt : Nat} (hdg : decode cc pc = .ok (.if_icmp .le off, 3)) (ht : (pc : Int) + off = (tgt : Int)) (ha0 : ir a) (hb0 : ir b) (kt : a ≤ b → vV G X kc ks tgt lv st f) (kf : b < a → vV G X kc ks (pc + 3) lv st f) : vV G X kc ks pc lv (.int (iv b) :: .int (iv a) :: st) f := by
  obtain ⟨p, l, e, R, s, m, args, below, meth, c, A, H0, n0, Q⟩ := X
  obtain ⟨hx, hb, rfl, h⟩ := h
  exact fun L H locs ls h1 h2 h3 h4 h5 => lv_icmp_le hx hb hdg ht (fun q => kt ((iv_le ha0 hb0).mp q) L H locs ls h1 h2 h3 h4 h5) (fun q => kf (by have := mt (iv_le ha0 hb0).mpr q; omega) L H locs ls h1 h2 h3 h4 h5)
theorem v_if_le (h : xOk G X cc y nL rm) {a : Int} {off : Int} {tgt : Nat} (hdg : decode cc pc = .ok (.ifCond .le off, 3)) (ht : (pc : Int) + off = (tgt : Int)) (ha0 : ir a) (kt : a ≤ 0 → vV G X kc ks tgt lv st f) (kf : 0 < a → vV G X kc ks (pc + 3) lv st f) : vV G X kc ks pc lv (.int (iv a) :: st) f := by
  obtain ⟨p, l, e, R, s, m, args, below, meth, c, A, H0, n0, Q⟩ := X
  obtain ⟨hx, hb, rfl, h⟩ := h
  have hb0 : ir 0 := ir_0
  have e0 : (0 : Int32) = iv 0 := rfl
  exact fun L H locs ls h1 h2 h3 h4 h5 => lv_if_le hx hb hdg ht (fun q => kt ((iv_le ha0 hb0).mp q) L H locs ls h1 h2 h3 h4 h5) (fun q => kf (by have := mt (iv_le ha0 hb0).mpr q; omega) L H locs ls h1 h2 h3 h4 h5)
theorem v_goto (h : xOk G X cc y nL rm) {off : Int} {tgt : Nat} (hdg : decode cc pc = .ok (.goto off, 3)) (ht : (pc : Int) + off = (tgt : Int)) (k : vV G X kc ks tgt lv st f) : vV G X kc ks pc lv st f := by
  obtain ⟨p, l, e, R, s, m, args, below, meth, c, A, H0, n0, Q⟩ := X
  obtain ⟨hx, hb, rfl, h⟩ := h
  exact fun L H locs ls h1 h2 h3 h4 h5 => lv_goto hx hb hdg ht (k L H locs ls h1 h2 h3 h4 h5)
theorem v_ifnonnull (h : xOk G X cc y nL rm) {x : Nat} {off : Int} {tgt : Nat} (hdg : decode cc pc = .ok (.ifnonnull off, 3)) (ht : (pc : Int) + off = (tgt : Int)) (k : vV G X kc ks tgt lv st f) : vV G X kc ks pc lv (.ref x :: st) f := by
  obtain ⟨p, l, e, R, s, m, args, below, meth, c, A, H0, n0, Q⟩ := X
  obtain ⟨hx, hb, rfl, h⟩ := h
  exact fun L H locs ls h1 h2 h3 h4 h5 => lv_ifnonnull hx hb hdg ht (k L H locs ls h1 h2 h3 h4 h5)
theorem v_ifnull (h : xOk G X cc y nL rm) {x : Nat} {off : Int} (hdg : decode cc pc = .ok (.ifnull off, 3)) (k : vV G X kc ks (pc + 3) lv st f) : vV G X kc ks pc lv (.ref x :: st) f := by
  obtain ⟨p, l, e, R, s, m, args, below, meth, c, A, H0, n0, Q⟩ := X
  obtain ⟨hx, hb, rfl, h⟩ := h
  exact fun L H locs ls h1 h2 h3 h4 h5 => lv_ifnull hx hb hdg (k L H locs ls h1 h2 h3 h4 h5)
theorem v_ifnullN (h : xOk G X cc y nL rm) {off : Int} {tgt : Nat} (hdg : decode cc pc = .ok (.ifnull off, 3)) (ht : (pc : Int) + off = (tgt : Int)) (k : vV G X kc ks tgt lv st f) : vV G X kc ks pc lv (.null :: st) f := by
  obtain ⟨p, l, e, R, s, m, args, below, meth, c, A, H0, n0, Q⟩ := X
  obtain ⟨hx, hb, rfl, h⟩ := h
  exact fun L H locs ls h1 h2 h3 h4 h5 => lv_ifnullN hx hb hdg ht (k L H locs ls h1 h2 h3 h4 h5)
theorem v_ifnonnullN (h : xOk G X cc y nL rm) {off : Int} (hdg : decode cc pc = .ok (.ifnonnull off, 3)) (k : vV G X kc ks (pc + 3) lv st f) : vV G X kc ks pc lv (.null :: st) f := by
  obtain ⟨p, l, e, R, s, m, args, below, meth, c, A, H0, n0, Q⟩ := X
  obtain ⟨hx, hb, rfl, h⟩ := h
  exact fun L H locs ls h1 h2 h3 h4 h5 => lv_ifnonnullN hx hb hdg (k L H locs ls h1 h2 h3 h4 h5)
theorem v_tableOut (h : xOk G X cc y nL rm) {dflt lo hi a : Int} {offs : Array Int} {len : Nat} {tgt : Nat} (hdg : decode cc pc = .ok (.tableswitch dflt lo hi offs, len)) (ha : ir a) (hq : a < lo ∨ hi < a) (ht : (pc : Int) + dflt = (tgt : Int)) (k : vV G X kc ks tgt lv st f) : vV G X kc ks pc lv (.int (iv a) :: st) f := by
  obtain ⟨p, l, e, R, s, m, args, below, meth, c, A, H0, n0, Q⟩ := X
  obtain ⟨hx, hb, rfl, h⟩ := h
  intro L H locs ls h1 h2 h3 h4 h5
  exact lv_tableOut hx hb hdg (by rw [iv_toInt ha]; exact hq) ht (k L H locs ls h1 h2 h3 h4 h5)
theorem v_tableIn (h : xOk G X cc y nL rm) {dflt lo hi a : Int} {offs : Array Int} {len : Nat} {off : Int} {tgt : Nat} (hdg : decode cc pc = .ok (.tableswitch dflt lo hi offs, len)) (ha : ir a) (hq1 : lo ≤ a) (hq2 : a ≤ hi) (ho : offs[(a - lo).toNat]? = some off) (ht : (pc : Int) + off = (tgt : Int)) (k : vV G X kc ks tgt lv st f) : vV G X kc ks pc lv (.int (iv a) :: st) f := by
  obtain ⟨p, l, e, R, s, m, args, below, meth, c, A, H0, n0, Q⟩ := X
  obtain ⟨hx, hb, rfl, h⟩ := h
  intro L H locs ls h1 h2 h3 h4 h5
  exact lv_tableIn hx hb hdg (by rw [iv_toInt ha]; omega) (by rw [iv_toInt ha]; omega) (by rw [iv_toInt ha]; exact ho) ht (k L H locs ls h1 h2 h3 h4 h5)
theorem v_get (h : xOk G X cc y nL rm) {idx ci kf a : Nat} {fs : List Value} {v : Value} (hF : FldA y.cls idx ci kf) (hdg : decode cc pc = .ok (.getfield idx, 3)) (he : f a = eO ci fs) (hv : fs[kf]? = some v) (k : vV G X kc ks (pc + 3) lv (v :: st) f) : vV G X kc ks pc lv (.ref a :: st) f := by
  obtain ⟨p, l, e, R, s, m, args, below, meth, c, A, H0, n0, Q⟩ := X
  obtain ⟨hx, hb, rfl, hml, hown, hts, hN, hK, hA, hR, hnm⟩ := h
  obtain ⟨C, T, N, hc, hk, h9, hin, hC, hl⟩ := hF
  intro L H locs ls h1 h2 h3 h4 h5
  have hm : a ∈ L := h1.mem (by rw [he]; exact eO_ne h9)
  obtain ⟨q0, hq0⟩ := pl_get (f := f) hm
  rw [he] at hq0
  rcases hl with hl | ⟨host, hl⟩
  · exact va_get (D := G.1) (ci := ci) (v := v) (C := C) (T := T) (N := N) hx hb hts hin hown hK h2 q0 hq0 hc kf hk (hts _ hl) (fun _ q9 => by rw [hC] at q9; exact q9) hv hdg (k L H locs ls h1 h2 h3 h4 h5)
  · exact va_getN (D := G.1) (ci := ci) (v := v) (C := C) (T := T) (N := N) hx hb hts hin hown hK h2 q0 hq0 hc kf hk (va_Nw.use rfl (hN _ hl)) (fun _ q9 => by rw [hC] at q9; exact q9) hv hdg (k L H locs ls h1 h2 h3 h4 h5)
theorem v_put (h : xOk G X cc y nL rm) {idx ci kf a : Nat} {ty : FieldType} {fs fs' : List Value} {v : Value} (hF : PutA y.cls idx ci kf ty) (hdg : decode cc pc = .ok (.putfield idx, 3)) (he : f a = eO ci fs) (hn : narrow ty v = v) (hfit : fits ty v = true) (hl : kf < fs.length) (hs : fs.set kf v = fs') (k : vV G X kc ks (pc + 3) lv st (va_up f a (eO ci fs'))) : vV G X kc ks pc lv (v :: .ref a :: st) f := by
  obtain ⟨p, l, e, R, s, m, args, below, meth, c, A, H0, n0, Q⟩ := X
  obtain ⟨hx, hb, rfl, hml, hown, hts, hN, hK, hA, hR, hnm⟩ := h
  obtain ⟨C, T, N, ty0, hc, hk, h9, hin, hC, hty, hnms, hd, hfin, hlk⟩ := hF
  subst hs
  intro L H locs ls h1 h2 h3 h4 h5
  have hm : a ∈ L := h1.mem (by rw [he]; exact eO_ne h9)
  obtain ⟨q0, hq0⟩ := pl_get (f := f) hm
  have hset := pl_set (x := eO ci (fs.set kf v)) h3 hm hq0
  rw [he] at hq0
  rcases hlk with hlk | ⟨host, hlk⟩
  · exact va_put (D := G.1) (ci := ci) (v := v) (ty := ty) (C := C) (T := T) (N := N) hx hb hts hin ty0 hty hnms hown hK h2 h3 h4 q0 hq0 hc kf hk (hts _ hlk) (fun _ q9 => by rw [hC] at q9; exact q9) hfin hd hn hfit hl hdg (fun H1 locs1 a1 a2 a3 => by rw [hset] at a1 a2; exact k L H1 locs1 ls (h1.up hm _) a1 a2 a3 h5)
  · exact va_putN (D := G.1) (ci := ci) (v := v) (ty := ty) (C := C) (T := T) (N := N) hx hb hts hin ty0 hty hnms hown hK h2 h3 h4 q0 hq0 hc kf hk (va_Nw.use rfl (hN _ hlk)) (fun _ q9 => by rw [hC] at q9; exact q9) hfin hd hn hfit hl hdg (fun H1 locs1 a1 a2 a3 => by rw [hset] at a1 a2; exact k L H1 locs1 ls (h1.up hm _) a1 a2 a3 h5)
theorem v_putF (h : xOk G X cc y nL rm) {idx ci kf a : Nat} {ty : FieldType} {fs fs' : List Value} {v : Value} (hF : PutF y.cls idx ci kf ty) (hy : y.name = "<init>") (hdg : decode cc pc = .ok (.putfield idx, 3)) (he : f a = eO ci fs) (hn : narrow ty v = v) (hfit : fits ty v = true) (hl : kf < fs.length) (hs : fs.set kf v = fs') (k : vV G X kc ks (pc + 3) lv st (va_up f a (eO ci fs'))) : vV G X kc ks pc lv (v :: .ref a :: st) f := by
  obtain ⟨p, l, e, R, s, m, args, below, meth, c, A, H0, n0, Q⟩ := X
  obtain ⟨hx, hb, rfl, hml, hown, hts, hN, hK, hA, hR, hnm⟩ := h
  obtain ⟨C, T, N, ty0, hc, hk, h9, hin, hC, hty, hnms, hd, hfin, hlk, hCo⟩ := hF
  subst hs
  intro L H locs ls h1 h2 h3 h4 h5
  have hm : a ∈ L := h1.mem (by rw [he]; exact eO_ne h9)
  obtain ⟨q0, hq0⟩ := pl_get (f := f) hm
  have hset := pl_set (x := eO ci (fs.set kf v)) h3 hm hq0
  rw [he] at hq0
  exact va_putF (D := G.1) (ci := ci) (v := v) (ty := ty) (C := C) (T := T) (N := N) hx hb hts hin ty0 hty hnms hown hK h2 h3 h4 q0 hq0 hc kf hk (hts _ hlk) (fun _ q9 => by rw [hC] at q9; exact q9) hfin (hnm.trans hy) (hC.trans hCo) hd hn hfit hl hdg (fun H1 locs1 a1 a2 a3 => by rw [hset] at a1 a2; exact k L H1 locs1 ls (h1.up hm _) a1 a2 a3 h5)
theorem v_iald (h : xOk G X cc y nL rm) {a n : Nat} {g : Nat → Int} {z : Int} (hdg : decode cc pc = .ok (.iaload, 1)) (he : f a = eJ G n g) (hn : n < 2147483648) (i : Nat) (hi : z = i) (hin : i < n) (k : vV G X kc ks (pc + 1) lv (.int (iv (g i)) :: st) f) : vV G X kc ks pc lv (.int (iv z) :: .ref a :: st) f := by
  obtain ⟨p, l, e, R, s, m, args, below, meth, c, A, H0, n0, Q⟩ := X
  obtain ⟨hx, hb, rfl, hml, hown, hts, hN, hK, hA, hR, hnm⟩ := h
  intro L H locs ls h1 h2 h3 h4 h5
  have hm : a ∈ L := h1.mem (by rw [he]; exact eJ_ne)
  obtain ⟨q0, hq0⟩ := pl_get (f := f) hm
  rw [he] at hq0
  obtain ⟨b1, b2⟩ := iv_in hi hin hn
  exact va_iald (D := G.1) hx hb hK h2 q0 0 hq0 rfl b1 hdg (by rw [b2]; exact k L H locs ls h1 h2 h3 h4 h5)
theorem v_iast (h : xOk G X cc y nL rm) {a n : Nat} {g : Nat → Int} {z x : Int} (hdg : decode cc pc = .ok (.iastore, 1)) (he : f a = eJ G n g) (hn : n < 2147483648) (i : Nat) (hi : z = i) (hin : i < n) (k : vV G X kc ks (pc + 1) lv st (va_up f a (eJ G n (va_up g i x)))) : vV G X kc ks pc lv (.int (iv x) :: .int (iv z) :: .ref a :: st) f := by
  obtain ⟨p, l, e, R, s, m, args, below, meth, c, A, H0, n0, Q⟩ := X
  obtain ⟨hx, hb, rfl, hml, hown, hts, hN, hK, hA, hR, hnm⟩ := h
  intro L H locs ls h1 h2 h3 h4 h5
  have hm : a ∈ L := h1.mem (by rw [he]; exact eJ_ne)
  obtain ⟨q0, hq0⟩ := pl_get (f := f) hm
  have hset := pl_set (x := eJ G n (va_up g i x)) h3 hm hq0
  rw [he] at hq0
  obtain ⟨b1, b2⟩ := iv_in hi hin hn
  exact va_iast (D := G.1) hx hb hK h2 h3 h4 q0 0 hq0 rfl b1 hdg (fun H1 locs1 a1 a2 a3 => by rw [b2, eJ_up, hset] at a1 a2; exact k L H1 locs1 ls (h1.up hm _) a1 a2 a3 h5)
theorem v_alenJ (h : xOk G X cc y nL rm) {a n : Nat} {g : Nat → Int} (hdg : decode cc pc = .ok (.arraylength, 1)) (he : f a = eJ G n g) (k : vV G X kc ks (pc + 1) lv (.int (iv n) :: st) f) : vV G X kc ks pc lv (.ref a :: st) f := by
  obtain ⟨p, l, e, R, s, m, args, below, meth, c, A, H0, n0, Q⟩ := X
  obtain ⟨hx, hb, rfl, hml, hown, hts, hN, hK, hA, hR, hnm⟩ := h
  intro L H locs ls h1 h2 h3 h4 h5
  have hm : a ∈ L := h1.mem (by rw [he]; exact eJ_ne)
  obtain ⟨q0, hq0⟩ := pl_get (f := f) hm
  rw [he] at hq0
  exact va_alen (D := G.1) hx hb hK h2 q0 0 hq0 rfl (by rw [iv_nat]; rfl) hdg (k L H locs ls h1 h2 h3 h4 h5)
theorem v_aald (h : xOk G X cc y nL rm) {a t n : Nat} {C : String} {g : Nat → Option Nat} {z : Int} (hdg : decode cc pc = .ok (.aaload, 1)) (he : f a = eR G t n g) (ht : (xt G)[t]? = some (G.2 t, .object C)) (hn : n < 2147483648) (i : Nat) (hi : z = i) (hin : i < n) {q : Nat} (hq : g i = some q) (k : vV G X kc ks (pc + 1) lv (.ref q :: st) f) : vV G X kc ks pc lv (.int (iv z) :: .ref a :: st) f := by
  obtain ⟨p, l, e, R, s, m, args, below, meth, c, A, H0, n0, Q⟩ := X
  obtain ⟨hx, hb, rfl, hml, hown, hts, hN, hK, hA, hR, hnm⟩ := h
  intro L H locs ls h1 h2 h3 h4 h5
  have hm : a ∈ L := h1.mem (by rw [he]; exact eR_ne)
  obtain ⟨q0, hq0⟩ := pl_get (f := f) hm
  rw [he] at hq0
  obtain ⟨b1, b2⟩ := iv_in hi hin hn
  exact va_aldq (D := G.1) hx hb hK h2 q0 t hq0 ht b1 hdg (by rw [b2, hq]; exact k L H locs ls h1 h2 h3 h4 h5)
theorem v_aaldA (h : xOk G X cc y nL rm) {a t n : Nat} {ty : FieldType} {g : Nat → Option Nat} {z : Int} (hdg : decode cc pc = .ok (.aaload, 1)) (he : f a = eR G t n g) (ht : (xt G)[t]? = some (G.2 t, .array ty)) (hn : n < 2147483648) (i : Nat) (hi : z = i) (hin : i < n) {q : Nat} (hq : g i = some q) (k : vV G X kc ks (pc + 1) lv (.ref q :: st) f) : vV G X kc ks pc lv (.int (iv z) :: .ref a :: st) f := by
  obtain ⟨p, l, e, R, s, m, args, below, meth, c, A, H0, n0, Q⟩ := X
  obtain ⟨hx, hb, rfl, hml, hown, hts, hN, hK, hA, hR, hnm⟩ := h
  intro L H locs ls h1 h2 h3 h4 h5
  have hm : a ∈ L := h1.mem (by rw [he]; exact eR_ne)
  obtain ⟨q0, hq0⟩ := pl_get (f := f) hm
  rw [he] at hq0
  obtain ⟨b1, b2⟩ := iv_in hi hin hn
  have hlt : (iv z).toNatClampNeg < n := by rw [b2]; exact hin
  exact W.aald (v := va_rf (g (iv z).toNatClampNeg)) (ty := .array ty) hx hb (h2 q0 _ hq0) ((hK.2 t _ ht).1 n (fun j => va_rf (g j))) rfl (fun q => by cases q) (by show ¬ (iv z < 0 ∨ (arrV _ _ _).slots.size ≤ _); rw [arrV_size]; exact b1) (by show (arrV _ _ _).slots[_]? = _; rw [arrV_read _ _ hlt]) rfl rfl hdg (by rw [b2, hq]; exact k L H locs ls h1 h2 h3 h4 h5)
theorem v_objInit (h : xOk G X cc y nL rm) {idx a : Nat} (hdg : decode cc pc = .ok (.invokespecial idx, 3)) (hl : Cond.methodLink y.cls idx Lib.objectInit ∈ zT) (hi : Cond.instanceMethod Lib.objectInit ∈ zT) (hc : Cond.code Lib.objectInit ⟨#[0xb1]⟩ 1 none ∈ zT) (hr1 : 1 ≤ rm.frames) (hr2 : (st.map fun v => v.category).sum + 12 ≤ rm.locals) (k : vV G X kc ks (pc + 3) lv st f) : vV G X kc ks pc lv (.ref a :: st) f := by
  obtain ⟨p, l, e, R, s, m, args, below, meth, c, A, H0, n0, Q⟩ := X
  obtain ⟨hx, hb, rfl, hml, hown, hts, hN, hK, hA, rfl, hnm⟩ := h
  intro L H locs ls h1 h2 h3 h4 h5
  refine W.objInit hx hb hown (hts _ hl) (hts _ hi) (hts _ hc) rfl (by rw [hml]; exact h5.1) rfl hdg hr1 (Nat.le_trans (Nat.le_of_eq ?_) hr2) ?_
  · simp [JFrame.monitorRoom]
  · exact k L H locs ls h1 h2 h3 h4 h5
end VV

/-! contracts: a method by what it does to f -/
def mPre (G : xG) (L : List Nat) (f : xF) (sz : Nat) : State → Prop := fun U => U.heap.size = sz ∧ va_P G.1 zCl (va_pl L f) U.heap ∧ va_K G.1 zCl (xt G) U ∧ (∀ w ∈ zN, va_Nw w U) ∧ va_D (fun _ => True) (va_pl L f)
def mPost (G : xG) (A : Nat → Prop) (f' : xF) (t : State) : Prop := ∃ L' : List Nat, vW L' f' ∧ va_P G.1 zCl (va_pl L' f') t.heap ∧ va_K G.1 zCl (xt G) t ∧ va_D A (va_pl L' f')
def mI (l : Launch) (G : xG) (y : MethodName) (cw : Cond) (rm : Room) (av : List Value) (f : xF) (post : Int → xF → Prop) : Prop := ∀ (L : List Nat) (sz : Nat), vW L f → Met l y (cw :: zT) rm (va_Pc av (mPre G L f sz)) (va_Qi (fun r f' => ∃ z, ir z ∧ r = iv z ∧ post z f') (mPost G (va_A (va_pl L f) sz)) (va_A (va_pl L f) sz)) rm.cells rm.slots (va_A (va_pl L f) sz)
def mV (l : Launch) (G : xG) (y : MethodName) (cw : Cond) (rm : Room) (av : List Value) (f : xF) (post : xF → Prop) : Prop := ∀ (L : List Nat) (sz : Nat), vW L f → Met l y (cw :: zT) rm (va_Pc av (mPre G L f sz)) (va_Qv post (mPost G (va_A (va_pl L f) sz)) (va_A (va_pl L f) sz)) rm.cells rm.slots (va_A (va_pl L f) sz)
def mR (l : Launch) (G : xG) (y : MethodName) (cw : Cond) (rm : Room) (av : List Value) (f : xF) (post : Option Nat → xF → Prop) : Prop := ∀ (L : List Nat) (sz : Nat), vW L f → Met l y (cw :: zT) rm (va_Pc av (mPre G L f sz)) (va_Qq post (mPost G (va_A (va_pl L f) sz)) (va_A (va_pl L f) sz)) rm.cells rm.slots (va_A (va_pl L f) sz)
theorem mPre_blind {G : xG} {L : List Nat} {f : xF} {sz : Nat} {av : List Value} : FrameBlind (va_Pc av (mPre G L f sz)) := fun a U g mk q => by
  obtain ⟨q0, q1, qP, qK, qN, qD⟩ := q
  exact ⟨q0, q1, qP, va_K.moved (u := U) (U := U.calling g mk a) (Vm.Alike.refl U.vm) qK, zN_same (s := U) (U := U.calling g mk a) rfl qN, qD⟩
theorem mI_of {l : Launch} {G : xG} {y : MethodName} {cc : ByteArray} {nL : Nat} {rt : FieldType} {rm : Room} {av : List Value} {f : xF} {post : Int → xF → Prop} (hy : plainName y.cls = true) (hlen : (lg_sl av).length ≤ nL) (body : ∀ X : xT, xOk G X cc y nL rm → (∀ (pc : Nat) (lv : List (Nat × Value)) (z : Int) (f' : xF), decode cc pc = .ok (.ireturn, 1) → ir z → post z f' → narrow rt (.int (iv z)) = .int (iv z) → vV G X rm.cells rm.slots pc lv [.int (iv z)] f') → vV G X 0 0 0 (lv_args 0 av) [] f) : mI l G y (.code y cc nL (some rt)) rm av f post := by
  intro L sz hw
  refine Met.ofW (cc := cc) (maxL := nL) (ret := some rt) hy rfl ?_
  intro p e s m args below meth c s₁ B hml hv
  obtain ⟨rfl, hsz, hP, hK, hN, hD0⟩ := hv
  have hts := atoms_spec (ws := .code y cc nL (some rt) :: zT) B.pre
  have hown : s.vm.findClass y.cls = some m.cls := findClass_of_methodNamed B.named
  subst hsz
  have hD := hD0.self (sz := s.heap.size)
  have hl := lv_entry av (n := nL) hlen
  have hlocks := B.notSynchronized
  rw [lg_entry_eq]
  refine body (p, l, e, rm, s, m, av.toArray, below, meth, c, va_A (va_pl L f) s.heap.size, s.heap, nL, MQ below (va_Qi (fun r f' => ∃ z, ir z ∧ r = iv z ∧ post z f') (mPost G (va_A (va_pl L f) s.heap.size)) (va_A (va_pl L f) s.heap.size)) av.toArray s rm.cells rm.slots (va_A (va_pl L f) s.heap.size)) ⟨B.exec, B.bytes, rfl, hml, hown, fun w hw => hts w (List.mem_cons_of_mem _ hw), hN, hK, fun q h => Or.inr h, rfl, (name_of_methodNamed B.named B.method).1⟩ ?_ L s.heap [] _ hw hP hD va_S.rf hl
  · intro pc lv z f' hd hz hp hn L' H locs ls h1 h2 h3 h4 h5
    exact W.zret (v := iv z) B.exec B.bytes B.returns hn (fun t ht hW => ⟨⟨iv z, f', rfl, ⟨z, hz, rfl, hp⟩, L', h1, by rw [ht]; exact h2, va_K.moved hW.alike hK, h3⟩, h4.F ht⟩) h4.2.2 hd
theorem mV_of {l : Launch} {G : xG} {y : MethodName} {cc : ByteArray} {nL : Nat} {rm : Room} {av : List Value} {f : xF} {post : xF → Prop} (hy : plainName y.cls = true) (hlen : (lg_sl av).length ≤ nL) (body : ∀ X : xT, xOk G X cc y nL rm → (∀ (pc : Nat) (lv : List (Nat × Value)) (f' : xF), decode cc pc = .ok (.return_, 1) → post f' → vV G X rm.cells rm.slots pc lv [] f') → vV G X 0 0 0 (lv_args 0 av) [] f) : mV l G y (.code y cc nL (none)) rm av f post := by
  intro L sz hw
  refine Met.ofW (cc := cc) (maxL := nL) (ret := none) hy rfl ?_
  intro p e s m args below meth c s₁ B hml hv
  obtain ⟨rfl, hsz, hP, hK, hN, hD0⟩ := hv
  have hts := atoms_spec (ws := .code y cc nL (none) :: zT) B.pre
  have hown : s.vm.findClass y.cls = some m.cls := findClass_of_methodNamed B.named
  subst hsz
  have hD := hD0.self (sz := s.heap.size)
  have hl := lv_entry av (n := nL) hlen
  have hlocks := B.notSynchronized
  rw [lg_entry_eq]
  refine body (p, l, e, rm, s, m, av.toArray, below, meth, c, va_A (va_pl L f) s.heap.size, s.heap, nL, MQ below (va_Qv post (mPost G (va_A (va_pl L f) s.heap.size)) (va_A (va_pl L f) s.heap.size)) av.toArray s rm.cells rm.slots (va_A (va_pl L f) s.heap.size)) ⟨B.exec, B.bytes, rfl, hml, hown, fun w hw => hts w (List.mem_cons_of_mem _ hw), hN, hK, fun q h => Or.inr h, rfl, (name_of_methodNamed B.named B.method).1⟩ ?_ L s.heap [] _ hw hP hD va_S.rf hl
  · intro pc lv f' hd hp L' H locs ls h1 h2 h3 h4 h5
    exact W.vret B.exec B.bytes B.returns (fun t ht hW => ⟨⟨f', rfl, hp, L', h1, by rw [ht]; exact h2, va_K.moved hW.alike hK, h3⟩, h4.F ht⟩) h4.2.2 hd
theorem mR_of {l : Launch} {G : xG} {y : MethodName} {cc : ByteArray} {nL : Nat} {rt : FieldType} (hrt : (∃ n, rt = .object n) ∨ ∃ t, rt = .array t) {rm : Room} {av : List Value} {f : xF} {post : Option Nat → xF → Prop} (hy : plainName y.cls = true) (hlen : (lg_sl av).length ≤ nL) (body : ∀ X : xT, xOk G X cc y nL rm → (∀ (pc : Nat) (lv : List (Nat × Value)) (r : Option Nat) (f' : xF), decode cc pc = .ok (.areturn, 1) → post r f' → vV G X rm.cells rm.slots pc lv [va_rf r] f') → vV G X 0 0 0 (lv_args 0 av) [] f) : mR l G y (.code y cc nL (some rt)) rm av f post := by
  intro L sz hw
  refine Met.ofW (cc := cc) (maxL := nL) (ret := some rt) hy rfl ?_
  intro p e s m args below meth c s₁ B hml hv
  obtain ⟨rfl, hsz, hP, hK, hN, hD0⟩ := hv
  have hts := atoms_spec (ws := .code y cc nL (some rt) :: zT) B.pre
  have hown : s.vm.findClass y.cls = some m.cls := findClass_of_methodNamed B.named
  subst hsz
  have hD := hD0.self (sz := s.heap.size)
  have hl := lv_entry av (n := nL) hlen
  have hlocks := B.notSynchronized
  rw [lg_entry_eq]
  refine body (p, l, e, rm, s, m, av.toArray, below, meth, c, va_A (va_pl L f) s.heap.size, s.heap, nL, MQ below (va_Qq post (mPost G (va_A (va_pl L f) s.heap.size)) (va_A (va_pl L f) s.heap.size)) av.toArray s rm.cells rm.slots (va_A (va_pl L f) s.heap.size)) ⟨B.exec, B.bytes, rfl, hml, hown, fun w hw => hts w (List.mem_cons_of_mem _ hw), hN, hK, fun q h => Or.inr h, rfl, (name_of_methodNamed B.named B.method).1⟩ ?_ L s.heap [] _ hw hP hD va_S.rf hl
  · intro pc lv r f' hd hp L' H locs ls h1 h2 h3 h4 h5
    exact W.aret (v := va_rf r) B.exec B.bytes B.returns hrt (va_rf_or r) (fun t ht hW => ⟨⟨r, f', rfl, hp, L', h1, by rw [ht]; exact h2, va_K.moved hW.alike hK, h3⟩, h4.F ht⟩) h4.2.2 hd
section VC
variable {G : xG} {X : xT} {cc : ByteArray} {y : MethodName} {nL : Nat} {rm : Room} {kc ks pc : Nat} {lv lv' : List (Nat × Value)} {st : List Value} {f : xF}
theorem v_callVI (h : xOk G X cc y nL rm) {y2 : MethodName} {bytes : ByteArray} {maxL idx n : Nat} {rt : FieldType} {rmc : Room} {b : Nat} {As : List Value} {post : Int → xF → Prop} {ci : Nat} {fs : List Value} (he : f b = eO ci fs) (hM : ∀ l, mI l G y2 (.code y2 bytes maxL (some rt)) rmc (.ref b :: As) f post) (hC : CalV y.cls idx y2 (.code y2 bytes maxL (some rt)) n ci) (hdg : decode cc pc = .ok (.invokevirtual idx, 3)) (hn : As.length = n) (hroom : rmc.frames + 1 ≤ rm.frames ∧ 8 + (maxL + 11) + rmc.locals ≤ rm.locals) (hcap : kc + rmc.cells ≤ rm.cells ∧ ks + rmc.slots ≤ rm.slots) (hst : (st.map fun v => v.category).sum ≤ 8) (kk : ∀ (z : Int) (f' : xF), ir z → post z f' → vV G X (kc + rmc.cells) (ks + rmc.slots) (pc + 3) lv (.int (iv z) :: st) f') : vV G X kc ks pc lv (As.reverse ++ .ref b :: st) f := by
  obtain ⟨p, l, e, R, s, m, args, below, meth, c, A, H0, n0, Q⟩ := X
  obtain ⟨hx, hb, rfl, hml, hown, hts, hN, hK, hA, rfl, hnm⟩ := h
  obtain ⟨c1, c2, c3, c4, c5, c6, c7, T, N, c8⟩ := hC
  intro L H locs ls h1 h2 h3 h4 h5
  have hm : b ∈ L := h1.mem (by rw [he]; exact eO_ne c7)
  obtain ⟨q0, hq0⟩ := pl_get (f := f) hm
  rw [he] at hq0
  have hF : ∀ q, va_A (va_pl L f) H.size q → A q := fun q hq => by
    rcases hq with ⟨k9, e9, h9⟩ | h9
    · exact h3.2 k9 (q, e9) h9
    · exact hA q (Nat.le_trans h4.1 h9)
  have hM0 := hM l L H.size h1
  have hp : PreV s H y2.cls b (va_Pc (.ref b :: As) (mPre G L f H.size)) As := ⟨mPre_blind, va_recv hK h2 (q0 := q0) c8 hq0, fun U hU hW => ⟨rfl, by rw [hU], by rw [hU]; exact h2, va_K.moved hW.alike hK, zN_warm hW hN, h3.weaken (fun _ _ _ _ => trivial)⟩⟩
  rcases c2 with c2 | ⟨host, c2⟩
  · refine va_calli (va_runV (As := As) (rest := st) (C := y2.cls) (b := b) ⟨hx, hb, hml, hown, hts⟩ hM0 ⟨callB_of n hts (lw_goodIn c1) rfl rfl rfl (hts _ c5) (hts _ c2) c6 hroom, hts _ c3, hts _ c4⟩ hp rfl hn h5.1 rfl (lv_room hst) hdg hcap) h4 (fun q _ h9 => hF q h9) hF (fun r f' t H1 locs1 ht hvm hw hB hz1 hk1 hS1 => by
    obtain ⟨z, hz, rfl, hp⟩ := hw
    obtain ⟨L', w1, w2, w3, w4⟩ := hB
    exact kk z f' hz hp L' H1 locs1 ls w1 (by rw [← ht]; exact w2) (w4.weaken (fun _ q _ h => hF q.1 h)) hS1 h5)
  · refine va_calli (va_runVN (As := As) (rest := st) (C := y2.cls) (b := b) ⟨hx, hb, hml, hown, hts⟩ hM0 ⟨va_cnB n hts (lw_goodIn c1) rfl rfl rfl (hN _ c2) (hts _ c5) c6 hroom, hts _ c3, hts _ c4⟩ hp rfl hn h5.1 rfl (lv_room hst) hdg hcap) h4 (fun q _ h9 => hF q h9) hF (fun r f' t H1 locs1 ht hvm hw hB hz1 hk1 hS1 => by
    obtain ⟨z, hz, rfl, hp⟩ := hw
    obtain ⟨L', w1, w2, w3, w4⟩ := hB
    exact kk z f' hz hp L' H1 locs1 ls w1 (by rw [← ht]; exact w2) (w4.weaken (fun _ q _ h => hF q.1 h)) hS1 h5)
theorem v_callVV (h : xOk G X cc y nL rm) {y2 : MethodName} {bytes : ByteArray} {maxL idx n : Nat} {rmc : Room} {b : Nat} {As : List Value} {post : xF → Prop} {ci : Nat} {fs : List Value} (he : f b = eO ci fs) (hM : ∀ l, mV l G y2 (.code y2 bytes maxL (none)) rmc (.ref b :: As) f post) (hC : CalV y.cls idx y2 (.code y2 bytes maxL (none)) n ci) (hdg : decode cc pc = .ok (.invokevirtual idx, 3)) (hn : As.length = n) (hroom : rmc.frames + 1 ≤ rm.frames ∧ 8 + (maxL + 11) + rmc.locals ≤ rm.locals) (hcap : kc + rmc.cells ≤ rm.cells ∧ ks + rmc.slots ≤ rm.slots) (hst : (st.map fun v => v.category).sum ≤ 8) (kk : ∀ (f' : xF), post f' → vV G X (kc + rmc.cells) (ks + rmc.slots) (pc + 3) lv st f') : vV G X kc ks pc lv (As.reverse ++ .ref b :: st) f := by
  obtain ⟨p, l, e, R, s, m, args, below, meth, c, A, H0, n0, Q⟩ := X
  obtain ⟨hx, hb, rfl, hml, hown, hts, hN, hK, hA, rfl, hnm⟩ := h
  obtain ⟨c1, c2, c3, c4, c5, c6, c7, T, N, c8⟩ := hC
  intro L H locs ls h1 h2 h3 h4 h5
  have hm : b ∈ L := h1.mem (by rw [he]; exact eO_ne c7)
  obtain ⟨q0, hq0⟩ := pl_get (f := f) hm
  rw [he] at hq0
  have hF : ∀ q, va_A (va_pl L f) H.size q → A q := fun q hq => by
    rcases hq with ⟨k9, e9, h9⟩ | h9
    · exact h3.2 k9 (q, e9) h9
    · exact hA q (Nat.le_trans h4.1 h9)
  have hM0 := hM l L H.size h1
  have hp : PreV s H y2.cls b (va_Pc (.ref b :: As) (mPre G L f H.size)) As := ⟨mPre_blind, va_recv hK h2 (q0 := q0) c8 hq0, fun U hU hW => ⟨rfl, by rw [hU], by rw [hU]; exact h2, va_K.moved hW.alike hK, zN_warm hW hN, h3.weaken (fun _ _ _ _ => trivial)⟩⟩
  rcases c2 with c2 | ⟨host, c2⟩
  · refine va_callv (va_runV (As := As) (rest := st) (C := y2.cls) (b := b) ⟨hx, hb, hml, hown, hts⟩ hM0 ⟨callB_of n hts (lw_goodIn c1) rfl rfl rfl (hts _ c5) (hts _ c2) c6 hroom, hts _ c3, hts _ c4⟩ hp rfl hn h5.1 rfl (lv_room hst) hdg hcap) h4 (fun q _ h9 => hF q h9) hF (fun f' t H1 locs1 ht hvm hw hB hz1 hk1 hS1 => by
    obtain ⟨L', w1, w2, w3, w4⟩ := hB
    exact kk f' hw L' H1 locs1 ls w1 (by rw [← ht]; exact w2) (w4.weaken (fun _ q _ h => hF q.1 h)) hS1 h5)
  · refine va_callv (va_runVN (As := As) (rest := st) (C := y2.cls) (b := b) ⟨hx, hb, hml, hown, hts⟩ hM0 ⟨va_cnB n hts (lw_goodIn c1) rfl rfl rfl (hN _ c2) (hts _ c5) c6 hroom, hts _ c3, hts _ c4⟩ hp rfl hn h5.1 rfl (lv_room hst) hdg hcap) h4 (fun q _ h9 => hF q h9) hF (fun f' t H1 locs1 ht hvm hw hB hz1 hk1 hS1 => by
    obtain ⟨L', w1, w2, w3, w4⟩ := hB
    exact kk f' hw L' H1 locs1 ls w1 (by rw [← ht]; exact w2) (w4.weaken (fun _ q _ h => hF q.1 h)) hS1 h5)
theorem v_callVR (h : xOk G X cc y nL rm) {y2 : MethodName} {bytes : ByteArray} {maxL idx n : Nat} {rt : FieldType} {rmc : Room} {b : Nat} {As : List Value} {post : Option Nat → xF → Prop} {ci : Nat} {fs : List Value} (he : f b = eO ci fs) (hM : ∀ l, mR l G y2 (.code y2 bytes maxL (some rt)) rmc (.ref b :: As) f post) (hC : CalV y.cls idx y2 (.code y2 bytes maxL (some rt)) n ci) (hdg : decode cc pc = .ok (.invokevirtual idx, 3)) (hn : As.length = n) (hroom : rmc.frames + 1 ≤ rm.frames ∧ 8 + (maxL + 11) + rmc.locals ≤ rm.locals) (hcap : kc + rmc.cells ≤ rm.cells ∧ ks + rmc.slots ≤ rm.slots) (hst : (st.map fun v => v.category).sum ≤ 8) (kk : ∀ (r : Option Nat) (f' : xF), post r f' → vV G X (kc + rmc.cells) (ks + rmc.slots) (pc + 3) lv (va_rf r :: st) f') : vV G X kc ks pc lv (As.reverse ++ .ref b :: st) f := by
  obtain ⟨p, l, e, R, s, m, args, below, meth, c, A, H0, n0, Q⟩ := X
  obtain ⟨hx, hb, rfl, hml, hown, hts, hN, hK, hA, rfl, hnm⟩ := h
  obtain ⟨c1, c2, c3, c4, c5, c6, c7, T, N, c8⟩ := hC
  intro L H locs ls h1 h2 h3 h4 h5
  have hm : b ∈ L := h1.mem (by rw [he]; exact eO_ne c7)
  obtain ⟨q0, hq0⟩ := pl_get (f := f) hm
  rw [he] at hq0
  have hF : ∀ q, va_A (va_pl L f) H.size q → A q := fun q hq => by
    rcases hq with ⟨k9, e9, h9⟩ | h9
    · exact h3.2 k9 (q, e9) h9
    · exact hA q (Nat.le_trans h4.1 h9)
  have hM0 := hM l L H.size h1
  have hp : PreV s H y2.cls b (va_Pc (.ref b :: As) (mPre G L f H.size)) As := ⟨mPre_blind, va_recv hK h2 (q0 := q0) c8 hq0, fun U hU hW => ⟨rfl, by rw [hU], by rw [hU]; exact h2, va_K.moved hW.alike hK, zN_warm hW hN, h3.weaken (fun _ _ _ _ => trivial)⟩⟩
  rcases c2 with c2 | ⟨host, c2⟩
  · refine va_callq (va_runV (As := As) (rest := st) (C := y2.cls) (b := b) ⟨hx, hb, hml, hown, hts⟩ hM0 ⟨callB_of n hts (lw_goodIn c1) rfl rfl rfl (hts _ c5) (hts _ c2) c6 hroom, hts _ c3, hts _ c4⟩ hp rfl hn h5.1 rfl (lv_room hst) hdg hcap) h4 (fun q _ h9 => hF q h9) hF (fun r f' t H1 locs1 ht hvm hw hB hz1 hk1 hS1 => by
    obtain ⟨L', w1, w2, w3, w4⟩ := hB
    exact kk r f' hw L' H1 locs1 ls w1 (by rw [← ht]; exact w2) (w4.weaken (fun _ q _ h => hF q.1 h)) hS1 h5)
  · refine va_callq (va_runVN (As := As) (rest := st) (C := y2.cls) (b := b) ⟨hx, hb, hml, hown, hts⟩ hM0 ⟨va_cnB n hts (lw_goodIn c1) rfl rfl rfl (hN _ c2) (hts _ c5) c6 hroom, hts _ c3, hts _ c4⟩ hp rfl hn h5.1 rfl (lv_room hst) hdg hcap) h4 (fun q _ h9 => hF q h9) hF (fun r f' t H1 locs1 ht hvm hw hB hz1 hk1 hS1 => by
    obtain ⟨L', w1, w2, w3, w4⟩ := hB
    exact kk r f' hw L' H1 locs1 ls w1 (by rw [← ht]; exact w2) (w4.weaken (fun _ q _ h => hF q.1 h)) hS1 h5)
theorem v_callSI (h : xOk G X cc y nL rm) {y2 : MethodName} {bytes : ByteArray} {maxL idx n : Nat} {rt : FieldType} {rmc : Room} {As : List Value} {post : Int → xF → Prop} (hM : ∀ l, mI l G y2 (.code y2 bytes maxL (some rt)) rmc As f post) (hC : CalS y.cls idx y2 (.code y2 bytes maxL (some rt)) n) (hdg : decode cc pc = .ok (.invokestatic idx, 3)) (hn : As.length = n) (hroom : rmc.frames + 1 ≤ rm.frames ∧ 8 + (maxL + 11) + rmc.locals ≤ rm.locals) (hcap : kc + rmc.cells ≤ rm.cells ∧ ks + rmc.slots ≤ rm.slots) (hst : (st.map fun v => v.category).sum ≤ 8) (kk : ∀ (z : Int) (f' : xF), ir z → post z f' → vV G X (kc + rmc.cells) (ks + rmc.slots) (pc + 3) lv (.int (iv z) :: st) f') : vV G X kc ks pc lv (As.reverse ++ st) f := by
  obtain ⟨p, l, e, R, s, m, args, below, meth, c, A, H0, n0, Q⟩ := X
  obtain ⟨hx, hb, rfl, hml, hown, hts, hN, hK, hA, rfl, hnm⟩ := h
  obtain ⟨c1, c2, c3, c5, c6⟩ := hC
  intro L H locs ls h1 h2 h3 h4 h5
  have hF : ∀ q, va_A (va_pl L f) H.size q → A q := fun q hq => by
    rcases hq with ⟨k9, e9, h9⟩ | h9
    · exact h3.2 k9 (q, e9) h9
    · exact hA q (Nat.le_trans h4.1 h9)
  have hM0 := hM l L H.size h1
  have hp : PreS s H (va_Pc As (mPre G L f H.size)) As := ⟨mPre_blind, fun U hU hW => ⟨rfl, by rw [hU], by rw [hU]; exact h2, va_K.moved hW.alike hK, zN_warm hW hN, h3.weaken (fun _ _ _ _ => trivial)⟩⟩
  rcases c2 with c2 | ⟨host, c2⟩
  · refine va_calli (va_runS (As := As) (rest := st) ⟨hx, hb, hml, hown, hts⟩ hM0 ⟨callB_of n hts (lw_goodIn c1) rfl rfl rfl (hts _ c5) (hts _ c2) c6 hroom, hts _ c3⟩ hp rfl hn h5.1 rfl (lv_room hst) hdg hcap) h4 (fun q _ h9 => hF q h9) hF (fun r f' t H1 locs1 ht hvm hw hB hz1 hk1 hS1 => by
    obtain ⟨z, hz, rfl, hp⟩ := hw
    obtain ⟨L', w1, w2, w3, w4⟩ := hB
    exact kk z f' hz hp L' H1 locs1 ls w1 (by rw [← ht]; exact w2) (w4.weaken (fun _ q _ h => hF q.1 h)) hS1 h5)
  · refine va_calli (va_runSN (As := As) (rest := st) ⟨hx, hb, hml, hown, hts⟩ hM0 ⟨va_cnB n hts (lw_goodIn c1) rfl rfl rfl (hN _ c2) (hts _ c5) c6 hroom, hts _ c3, trivial⟩ hp rfl hn h5.1 rfl (lv_room hst) hdg hcap) h4 (fun q _ h9 => hF q h9) hF (fun r f' t H1 locs1 ht hvm hw hB hz1 hk1 hS1 => by
    obtain ⟨z, hz, rfl, hp⟩ := hw
    obtain ⟨L', w1, w2, w3, w4⟩ := hB
    exact kk z f' hz hp L' H1 locs1 ls w1 (by rw [← ht]; exact w2) (w4.weaken (fun _ q _ h => hF q.1 h)) hS1 h5)
theorem v_callSV (h : xOk G X cc y nL rm) {y2 : MethodName} {bytes : ByteArray} {maxL idx n : Nat} {rmc : Room} {As : List Value} {post : xF → Prop} (hM : ∀ l, mV l G y2 (.code y2 bytes maxL (none)) rmc As f post) (hC : CalS y.cls idx y2 (.code y2 bytes maxL (none)) n) (hdg : decode cc pc = .ok (.invokestatic idx, 3)) (hn : As.length = n) (hroom : rmc.frames + 1 ≤ rm.frames ∧ 8 + (maxL + 11) + rmc.locals ≤ rm.locals) (hcap : kc + rmc.cells ≤ rm.cells ∧ ks + rmc.slots ≤ rm.slots) (hst : (st.map fun v => v.category).sum ≤ 8) (kk : ∀ (f' : xF), post f' → vV G X (kc + rmc.cells) (ks + rmc.slots) (pc + 3) lv st f') : vV G X kc ks pc lv (As.reverse ++ st) f := by
  obtain ⟨p, l, e, R, s, m, args, below, meth, c, A, H0, n0, Q⟩ := X
  obtain ⟨hx, hb, rfl, hml, hown, hts, hN, hK, hA, rfl, hnm⟩ := h
  obtain ⟨c1, c2, c3, c5, c6⟩ := hC
  intro L H locs ls h1 h2 h3 h4 h5
  have hF : ∀ q, va_A (va_pl L f) H.size q → A q := fun q hq => by
    rcases hq with ⟨k9, e9, h9⟩ | h9
    · exact h3.2 k9 (q, e9) h9
    · exact hA q (Nat.le_trans h4.1 h9)
  have hM0 := hM l L H.size h1
  have hp : PreS s H (va_Pc As (mPre G L f H.size)) As := ⟨mPre_blind, fun U hU hW => ⟨rfl, by rw [hU], by rw [hU]; exact h2, va_K.moved hW.alike hK, zN_warm hW hN, h3.weaken (fun _ _ _ _ => trivial)⟩⟩
  rcases c2 with c2 | ⟨host, c2⟩
  · refine va_callv (va_runS (As := As) (rest := st) ⟨hx, hb, hml, hown, hts⟩ hM0 ⟨callB_of n hts (lw_goodIn c1) rfl rfl rfl (hts _ c5) (hts _ c2) c6 hroom, hts _ c3⟩ hp rfl hn h5.1 rfl (lv_room hst) hdg hcap) h4 (fun q _ h9 => hF q h9) hF (fun f' t H1 locs1 ht hvm hw hB hz1 hk1 hS1 => by
    obtain ⟨L', w1, w2, w3, w4⟩ := hB
    exact kk f' hw L' H1 locs1 ls w1 (by rw [← ht]; exact w2) (w4.weaken (fun _ q _ h => hF q.1 h)) hS1 h5)
  · refine va_callv (va_runSN (As := As) (rest := st) ⟨hx, hb, hml, hown, hts⟩ hM0 ⟨va_cnB n hts (lw_goodIn c1) rfl rfl rfl (hN _ c2) (hts _ c5) c6 hroom, hts _ c3, trivial⟩ hp rfl hn h5.1 rfl (lv_room hst) hdg hcap) h4 (fun q _ h9 => hF q h9) hF (fun f' t H1 locs1 ht hvm hw hB hz1 hk1 hS1 => by
    obtain ⟨L', w1, w2, w3, w4⟩ := hB
    exact kk f' hw L' H1 locs1 ls w1 (by rw [← ht]; exact w2) (w4.weaken (fun _ q _ h => hF q.1 h)) hS1 h5)
theorem v_callSR (h : xOk G X cc y nL rm) {y2 : MethodName} {bytes : ByteArray} {maxL idx n : Nat} {rt : FieldType} {rmc : Room} {As : List Value} {post : Option Nat → xF → Prop} (hM : ∀ l, mR l G y2 (.code y2 bytes maxL (some rt)) rmc As f post) (hC : CalS y.cls idx y2 (.code y2 bytes maxL (some rt)) n) (hdg : decode cc pc = .ok (.invokestatic idx, 3)) (hn : As.length = n) (hroom : rmc.frames + 1 ≤ rm.frames ∧ 8 + (maxL + 11) + rmc.locals ≤ rm.locals) (hcap : kc + rmc.cells ≤ rm.cells ∧ ks + rmc.slots ≤ rm.slots) (hst : (st.map fun v => v.category).sum ≤ 8) (kk : ∀ (r : Option Nat) (f' : xF), post r f' → vV G X (kc + rmc.cells) (ks + rmc.slots) (pc + 3) lv (va_rf r :: st) f') : vV G X kc ks pc lv (As.reverse ++ st) f := by
  obtain ⟨p, l, e, R, s, m, args, below, meth, c, A, H0, n0, Q⟩ := X
  obtain ⟨hx, hb, rfl, hml, hown, hts, hN, hK, hA, rfl, hnm⟩ := h
  obtain ⟨c1, c2, c3, c5, c6⟩ := hC
  intro L H locs ls h1 h2 h3 h4 h5
  have hF : ∀ q, va_A (va_pl L f) H.size q → A q := fun q hq => by
    rcases hq with ⟨k9, e9, h9⟩ | h9
    · exact h3.2 k9 (q, e9) h9
    · exact hA q (Nat.le_trans h4.1 h9)
  have hM0 := hM l L H.size h1
  have hp : PreS s H (va_Pc As (mPre G L f H.size)) As := ⟨mPre_blind, fun U hU hW => ⟨rfl, by rw [hU], by rw [hU]; exact h2, va_K.moved hW.alike hK, zN_warm hW hN, h3.weaken (fun _ _ _ _ => trivial)⟩⟩
  rcases c2 with c2 | ⟨host, c2⟩
  · refine va_callq (va_runS (As := As) (rest := st) ⟨hx, hb, hml, hown, hts⟩ hM0 ⟨callB_of n hts (lw_goodIn c1) rfl rfl rfl (hts _ c5) (hts _ c2) c6 hroom, hts _ c3⟩ hp rfl hn h5.1 rfl (lv_room hst) hdg hcap) h4 (fun q _ h9 => hF q h9) hF (fun r f' t H1 locs1 ht hvm hw hB hz1 hk1 hS1 => by
    obtain ⟨L', w1, w2, w3, w4⟩ := hB
    exact kk r f' hw L' H1 locs1 ls w1 (by rw [← ht]; exact w2) (w4.weaken (fun _ q _ h => hF q.1 h)) hS1 h5)
  · refine va_callq (va_runSN (As := As) (rest := st) ⟨hx, hb, hml, hown, hts⟩ hM0 ⟨va_cnB n hts (lw_goodIn c1) rfl rfl rfl (hN _ c2) (hts _ c5) c6 hroom, hts _ c3, trivial⟩ hp rfl hn h5.1 rfl (lv_room hst) hdg hcap) h4 (fun q _ h9 => hF q h9) hF (fun r f' t H1 locs1 ht hvm hw hB hz1 hk1 hS1 => by
    obtain ⟨L', w1, w2, w3, w4⟩ := hB
    exact kk r f' hw L' H1 locs1 ls w1 (by rw [← ht]; exact w2) (w4.weaken (fun _ q _ h => hF q.1 h)) hS1 h5)
theorem v_callN (h : xOk G X cc y nL rm) {y2 : MethodName} {bytes : ByteArray} {maxL idx n : Nat} {rmc : Room} {b : Nat} {As : List Value} {post : xF → Prop} (hM : ∀ l, mV l G y2 (.code y2 bytes maxL (none)) rmc (.ref b :: As) f post) (hC : CalI y.cls idx y2 (.code y2 bytes maxL (none)) n) (hdg : decode cc pc = .ok (.invokespecial idx, 3)) (hn : As.length = n) (hroom : rmc.frames + 1 ≤ rm.frames ∧ 8 + (maxL + 11) + rmc.locals ≤ rm.locals) (hcap : kc + rmc.cells ≤ rm.cells ∧ ks + rmc.slots ≤ rm.slots) (hst : (st.map fun v => v.category).sum ≤ 8) (kk : ∀ (f' : xF), post f' → vV G X (kc + rmc.cells) (ks + rmc.slots) (pc + 3) lv st f') : vV G X kc ks pc lv (As.reverse ++ .ref b :: st) f := by
  obtain ⟨p, l, e, R, s, m, args, below, meth, c, A, H0, n0, Q⟩ := X
  obtain ⟨hx, hb, rfl, hml, hown, hts, hN, hK, hA, rfl, hnm⟩ := h
  obtain ⟨c1, c2, c3, c4, c5, c6⟩ := hC
  intro L H locs ls h1 h2 h3 h4 h5
  have hF : ∀ q, va_A (va_pl L f) H.size q → A q := fun q hq => by
    rcases hq with ⟨k9, e9, h9⟩ | h9
    · exact h3.2 k9 (q, e9) h9
    · exact hA q (Nat.le_trans h4.1 h9)
  have hM0 := hM l L H.size h1
  have hp : PreS s H (va_Pc (.ref b :: As) (mPre G L f H.size)) (.ref b :: As) := ⟨mPre_blind, fun U hU hW => ⟨rfl, by rw [hU], by rw [hU]; exact h2, va_K.moved hW.alike hK, zN_warm hW hN, h3.weaken (fun _ _ _ _ => trivial)⟩⟩
  rcases c2 with c2 | ⟨host, c2⟩
  · refine va_callv (va_runI (As := As) (rest := st) (b := b) ⟨hx, hb, hml, hown, hts⟩ hM0 ⟨callB_of n hts (lw_goodIn c1) rfl rfl rfl (hts _ c5) (hts _ c2) c6 hroom, c4, hts _ c3⟩ hp rfl hn h5.1 rfl (lv_room hst) hdg hcap) h4 (fun q _ h9 => hF q h9) hF (fun f' t H1 locs1 ht hvm hw hB hz1 hk1 hS1 => by
    obtain ⟨L', w1, w2, w3, w4⟩ := hB
    exact kk f' hw L' H1 locs1 ls w1 (by rw [← ht]; exact w2) (w4.weaken (fun _ q _ h => hF q.1 h)) hS1 h5)
  · refine va_callv (va_runIN (As := As) (rest := st) (b := b) ⟨hx, hb, hml, hown, hts⟩ hM0 ⟨va_cnB n hts (lw_goodIn c1) rfl rfl rfl (hN _ c2) (hts _ c5) c6 hroom, c4, hts _ c3⟩ hp rfl hn h5.1 rfl (lv_room hst) hdg hcap) h4 (fun q _ h9 => hF q h9) hF (fun f' t H1 locs1 ht hvm hw hB hz1 hk1 hS1 => by
    obtain ⟨L', w1, w2, w3, w4⟩ := hB
    exact kk f' hw L' H1 locs1 ls w1 (by rw [← ht]; exact w2) (w4.weaken (fun _ q _ h => hF q.1 h)) hS1 h5)
theorem v_new (h : xOk G X cc y nL rm) {idx ci N : Nat} {fs : List Value} (hNw : NewA y.cls idx ci N fs) (hdg : decode cc pc = .ok (.new idx, 3)) (hcap : kc + 1 ≤ rm.cells ∧ ks + N ≤ rm.slots) (kk : ∀ q, f q = fNo → vV G X (kc + 1) (ks + N) (pc + 3) lv (.ref q :: st) (va_up f q (eO ci fs))) : vV G X kc ks pc lv st f := by
  obtain ⟨p, l, e, R, s, m, args, below, meth, c, A, H0, n0, Q⟩ := X
  obtain ⟨hx, hb, rfl, hml, hown, hts, hN, hK, hA, rfl, hnm⟩ := h
  obtain ⟨C, T, ty0, c1, c2, c3, c4, c5, c6, c7, c8⟩ := hNw
  intro L H locs ls h1 h2 h3 h4 h5
  refine va_new (D := G.1) (ci := ci) (fs := fs) (C := C) (T := T) (N := N) hx hb hts c3 ty0 c4 hown (hts _ c6) (hts _ c7) (hts _ c8) hK h2 h3 h4 hA c1 c5 hcap.1 hcap.2 hdg (fun q H1 a1 a2 a3 => ?_)
  have hq : q ∉ L := fun hm => by
    obtain ⟨i, hi⟩ := pl_get (f := f) hm
    have hi2 : i < (va_pl L f).length := (List.getElem?_eq_some_iff.mp hi).1
    have e1 : (va_pl L f ++ [(q, (.inr (ci, fs) : va_E))])[i]? = some (q, f q) := by rw [List.getElem?_append_left hi2]; exact hi
    have e2 : (va_pl L f ++ [(q, (.inr (ci, fs) : va_E))])[(va_pl L f).length]? = some (q, .inr (ci, fs)) := by simp
    have := a2.1 _ _ _ _ e1 e2 rfl
    omega
  rw [va_pl_push hq] at a1 a2
  exact kk q (h1 q hq) (L ++ [q]) H1 locs ls (h1.push q _) a1 a2 a3 h5
end VC

/-! THE OVERLAY: the pool's cells that have a number: ad i is the address of number i (i < M); σ says what lies there; f0 the rest -/
def adOk (ad : Nat → Nat) (M : Nat) : Prop := ∀ i j, i < M → j < M → ad i = ad j → i = j
noncomputable def ov (f0 : xF) (ad : Nat → Nat) (M : Nat) (σ : xF) : xF := fun q => if h : ∃ i, i < M ∧ ad i = q then σ (Classical.choose h) else f0 q
theorem ov_at {f0 : xF} {ad : Nat → Nat} {M : Nat} {σ : xF} (hj : adOk ad M) {i : Nat} (hi : i < M) : ov f0 ad M σ (ad i) = σ i := by
  have h : ∃ j, j < M ∧ ad j = ad i := ⟨i, hi, rfl⟩
  have hc := Classical.choose_spec h
  unfold ov
  rw [dif_pos h, hj _ _ hc.1 hi hc.2]
theorem ov_out {f0 : xF} {ad : Nat → Nat} {M : Nat} {σ : xF} {q : Nat} (h : ¬ ∃ i, i < M ∧ ad i = q) : ov f0 ad M σ q = f0 q := by
  unfold ov
  rw [dif_neg h]
theorem ov_up {f0 : xF} {ad : Nat → Nat} {M : Nat} {σ : xF} (hj : adOk ad M) {i : Nat} (hi : i < M) (e : va_E) : va_up (ov f0 ad M σ) (ad i) e = ov f0 ad M (va_up σ i e) := by
  funext q
  by_cases hq : ∃ j, j < M ∧ ad j = q
  · obtain ⟨j, hjM, rfl⟩ := hq
    rw [ov_at hj hjM]
    by_cases hji : j = i
    · subst hji
      rw [va_up_self, va_up_self]
    · rw [va_up_ne _ _ (fun h => hji (hj _ _ hjM hi h)), va_up_ne _ _ hji, ov_at hj hjM]
  · have hq1 : q ≠ ad i := fun h => hq ⟨i, hi, h.symm⟩
    rw [va_up_ne _ _ hq1, ov_out hq, ov_out hq]
def gI (l : Launch) (G : xG) (f0 : xF) (ad : Nat → Nat) (M : Nat) (y : MethodName) (cw : Cond) (rm : Room) (av : List Value) (σ : xF) (post : Int → xF → Prop) : Prop := mI l G y cw rm av (ov f0 ad M σ) (fun z f' => ∃ σ', f' = ov f0 ad M σ' ∧ post z σ')
def gVo (l : Launch) (G : xG) (f0 : xF) (ad : Nat → Nat) (M : Nat) (y : MethodName) (cw : Cond) (rm : Room) (av : List Value) (σ : xF) (post : xF → Prop) : Prop := mV l G y cw rm av (ov f0 ad M σ) (fun f' => ∃ σ', f' = ov f0 ad M σ' ∧ post σ')
def gR (l : Launch) (G : xG) (f0 : xF) (ad : Nat → Nat) (M : Nat) (y : MethodName) (cw : Cond) (rm : Room) (av : List Value) (σ : xF) (post : Option Nat → xF → Prop) : Prop := mR l G y cw rm av (ov f0 ad M σ) (fun r f' => ∃ σ', f' = ov f0 ad M σ' ∧ post r σ')
section GV
variable {G : xG} {X : xT} {cc : ByteArray} {y : MethodName} {nL : Nat} {rm : Room} {kc ks pc : Nat} {lv lv' : List (Nat × Value)} {st : List Value} {f0 : xF} {ad : Nat → Nat} {M : Nat} {σ : xF}
theorem g_get (h : xOk G X cc y nL rm) (hj : adOk ad M) {idx ci kf i : Nat} {fs : List Value} {v : Value} (hF : FldA y.cls idx ci kf) (hdg : decode cc pc = .ok (.getfield idx, 3)) (hi : i < M) (he : σ i = eO ci fs) (hv : fs[kf]? = some v) (k : vV G X kc ks (pc + 3) lv (v :: st) (ov f0 ad M σ)) : vV G X kc ks pc lv (.ref (ad i) :: st) (ov f0 ad M σ) :=
  v_get h hF hdg ((ov_at hj hi).trans he) hv k
theorem g_put (h : xOk G X cc y nL rm) (hj : adOk ad M) {idx ci kf i : Nat} {ty : FieldType} {fs fs' : List Value} {v : Value} (hF : PutA y.cls idx ci kf ty) (hdg : decode cc pc = .ok (.putfield idx, 3)) (hi : i < M) (he : σ i = eO ci fs) (hn : narrow ty v = v) (hfit : fits ty v = true) (hl : kf < fs.length) (hs : fs.set kf v = fs') (k : vV G X kc ks (pc + 3) lv st (ov f0 ad M (va_up σ i (eO ci fs')))) : vV G X kc ks pc lv (v :: .ref (ad i) :: st) (ov f0 ad M σ) :=
  v_put h hF hdg ((ov_at hj hi).trans he) hn hfit hl hs (v_f (ov_up hj hi _) k)
theorem g_iald (h : xOk G X cc y nL rm) (hj : adOk ad M) {i n : Nat} {g : Nat → Int} {z : Int} (hdg : decode cc pc = .ok (.iaload, 1)) (hi : i < M) (he : σ i = eJ G n g) (hn : n < 2147483648) (q : Nat) (hz : z = q) (hq : q < n) (k : vV G X kc ks (pc + 1) lv (.int (iv (g q)) :: st) (ov f0 ad M σ)) : vV G X kc ks pc lv (.int (iv z) :: .ref (ad i) :: st) (ov f0 ad M σ) :=
  v_iald h hdg ((ov_at hj hi).trans he) hn q hz hq k
theorem g_iast (h : xOk G X cc y nL rm) (hj : adOk ad M) {i n : Nat} {g : Nat → Int} {z x : Int} (hdg : decode cc pc = .ok (.iastore, 1)) (hi : i < M) (he : σ i = eJ G n g) (hn : n < 2147483648) (q : Nat) (hz : z = q) (hq : q < n) (k : vV G X kc ks (pc + 1) lv st (ov f0 ad M (va_up σ i (eJ G n (va_up g q x))))) : vV G X kc ks pc lv (.int (iv x) :: .int (iv z) :: .ref (ad i) :: st) (ov f0 ad M σ) :=
  v_iast h hdg ((ov_at hj hi).trans he) hn q hz hq (v_f (ov_up hj hi _) k)
theorem g_alenJ (h : xOk G X cc y nL rm) (hj : adOk ad M) {i n : Nat} {g : Nat → Int} (hdg : decode cc pc = .ok (.arraylength, 1)) (hi : i < M) (he : σ i = eJ G n g) (k : vV G X kc ks (pc + 1) lv (.int (iv n) :: st) (ov f0 ad M σ)) : vV G X kc ks pc lv (.ref (ad i) :: st) (ov f0 ad M σ) :=
  v_alenJ h hdg ((ov_at hj hi).trans he) k
theorem g_aald (h : xOk G X cc y nL rm) (hj : adOk ad M) {i t n : Nat} {C : String} {g : Nat → Option Nat} {z : Int} (hdg : decode cc pc = .ok (.aaload, 1)) (hi : i < M) (he : σ i = eR G t n g) (ht : (xt G)[t]? = some (G.2 t, .object C)) (hn : n < 2147483648) (q : Nat) (hz : z = q) (hq : q < n) {r : Nat} (hr : g q = some r) (k : vV G X kc ks (pc + 1) lv (.ref r :: st) (ov f0 ad M σ)) : vV G X kc ks pc lv (.int (iv z) :: .ref (ad i) :: st) (ov f0 ad M σ) :=
  v_aald h hdg ((ov_at hj hi).trans he) ht hn q hz hq hr k
theorem g_aaldA (h : xOk G X cc y nL rm) (hj : adOk ad M) {i t n : Nat} {ty : FieldType} {g : Nat → Option Nat} {z : Int} (hdg : decode cc pc = .ok (.aaload, 1)) (hi : i < M) (he : σ i = eR G t n g) (ht : (xt G)[t]? = some (G.2 t, .array ty)) (hn : n < 2147483648) (q : Nat) (hz : z = q) (hq : q < n) {r : Nat} (hr : g q = some r) (k : vV G X kc ks (pc + 1) lv (.ref r :: st) (ov f0 ad M σ)) : vV G X kc ks pc lv (.int (iv z) :: .ref (ad i) :: st) (ov f0 ad M σ) :=
  v_aaldA h hdg ((ov_at hj hi).trans he) ht hn q hz hq hr k
theorem g_callVI (h : xOk G X cc y nL rm) (hj : adOk ad M) {y2 : MethodName} {bytes : ByteArray} {maxL idx n : Nat} {rt : FieldType} {rmc : Room} {i : Nat} {As : List Value} {post : Int → xF → Prop} {ci : Nat} {fs : List Value} (hi : i < M) (he : σ i = eO ci fs) (hM : ∀ l, gI l G f0 ad M y2 (.code y2 bytes maxL (some rt)) rmc (.ref (ad i) :: As) σ post) (hC : CalV y.cls idx y2 (.code y2 bytes maxL (some rt)) n ci) (hdg : decode cc pc = .ok (.invokevirtual idx, 3)) (hn : As.length = n) (hroom : rmc.frames + 1 ≤ rm.frames ∧ 8 + (maxL + 11) + rmc.locals ≤ rm.locals) (hcap : kc + rmc.cells ≤ rm.cells ∧ ks + rmc.slots ≤ rm.slots) (hst : (st.map fun v => v.category).sum ≤ 8) (kk : ∀ (z : Int) (σ' : xF), ir z → post z σ' → vV G X (kc + rmc.cells) (ks + rmc.slots) (pc + 3) lv (.int (iv z) :: st) (ov f0 ad M σ')) : vV G X kc ks pc lv (As.reverse ++ .ref (ad i) :: st) (ov f0 ad M σ) :=
  v_callVI h ((ov_at hj hi).trans he) hM hC hdg hn hroom hcap hst (fun z f' hz hp => by obtain ⟨σ', rfl, hp⟩ := hp; exact kk z σ' hz hp)
theorem g_callVV (h : xOk G X cc y nL rm) (hj : adOk ad M) {y2 : MethodName} {bytes : ByteArray} {maxL idx n : Nat} {rmc : Room} {i : Nat} {As : List Value} {post : xF → Prop} {ci : Nat} {fs : List Value} (hi : i < M) (he : σ i = eO ci fs) (hM : ∀ l, gVo l G f0 ad M y2 (.code y2 bytes maxL none) rmc (.ref (ad i) :: As) σ post) (hC : CalV y.cls idx y2 (.code y2 bytes maxL none) n ci) (hdg : decode cc pc = .ok (.invokevirtual idx, 3)) (hn : As.length = n) (hroom : rmc.frames + 1 ≤ rm.frames ∧ 8 + (maxL + 11) + rmc.locals ≤ rm.locals) (hcap : kc + rmc.cells ≤ rm.cells ∧ ks + rmc.slots ≤ rm.slots) (hst : (st.map fun v => v.category).sum ≤ 8) (kk : ∀ (σ' : xF), post σ' → vV G X (kc + rmc.cells) (ks + rmc.slots) (pc + 3) lv st (ov f0 ad M σ')) : vV G X kc ks pc lv (As.reverse ++ .ref (ad i) :: st) (ov f0 ad M σ) :=
  v_callVV h ((ov_at hj hi).trans he) hM hC hdg hn hroom hcap hst (fun f' hp => by obtain ⟨σ', rfl, hp⟩ := hp; exact kk σ' hp)
theorem g_callVR (h : xOk G X cc y nL rm) (hj : adOk ad M) {y2 : MethodName} {bytes : ByteArray} {maxL idx n : Nat} {rt : FieldType} {rmc : Room} {i : Nat} {As : List Value} {post : Option Nat → xF → Prop} {ci : Nat} {fs : List Value} (hi : i < M) (he : σ i = eO ci fs) (hM : ∀ l, gR l G f0 ad M y2 (.code y2 bytes maxL (some rt)) rmc (.ref (ad i) :: As) σ post) (hC : CalV y.cls idx y2 (.code y2 bytes maxL (some rt)) n ci) (hdg : decode cc pc = .ok (.invokevirtual idx, 3)) (hn : As.length = n) (hroom : rmc.frames + 1 ≤ rm.frames ∧ 8 + (maxL + 11) + rmc.locals ≤ rm.locals) (hcap : kc + rmc.cells ≤ rm.cells ∧ ks + rmc.slots ≤ rm.slots) (hst : (st.map fun v => v.category).sum ≤ 8) (kk : ∀ (r : Option Nat) (σ' : xF), post r σ' → vV G X (kc + rmc.cells) (ks + rmc.slots) (pc + 3) lv (va_rf r :: st) (ov f0 ad M σ')) : vV G X kc ks pc lv (As.reverse ++ .ref (ad i) :: st) (ov f0 ad M σ) :=
  v_callVR h ((ov_at hj hi).trans he) hM hC hdg hn hroom hcap hst (fun r f' hp => by obtain ⟨σ', rfl, hp⟩ := hp; exact kk r σ' hp)
theorem g_callSI (h : xOk G X cc y nL rm) {y2 : MethodName} {bytes : ByteArray} {maxL idx n : Nat} {rt : FieldType} {rmc : Room} {As : List Value} {post : Int → Prop} (hM : ∀ l f, mI l G y2 (.code y2 bytes maxL (some rt)) rmc As f (fun z f' => f' = f ∧ post z)) (hC : CalS y.cls idx y2 (.code y2 bytes maxL (some rt)) n) (hdg : decode cc pc = .ok (.invokestatic idx, 3)) (hn : As.length = n) (hroom : rmc.frames + 1 ≤ rm.frames ∧ 8 + (maxL + 11) + rmc.locals ≤ rm.locals) (hcap : kc + rmc.cells ≤ rm.cells ∧ ks + rmc.slots ≤ rm.slots) (hst : (st.map fun v => v.category).sum ≤ 8) {f : xF} (kk : ∀ z : Int, ir z → post z → vV G X (kc + rmc.cells) (ks + rmc.slots) (pc + 3) lv (.int (iv z) :: st) f) : vV G X kc ks pc lv (As.reverse ++ st) f :=
  v_callSI h (fun l => hM l f) hC hdg hn hroom hcap hst (fun z f' hz hp => by obtain ⟨rfl, hp⟩ := hp; exact kk z hz hp)
end GV
end
section
/-! BITS OF NUMBERS: pop k m, how many of the k lowest bits of m are set; the JDK's bitCount counts them -/
def pop : Nat → Nat → Nat
  | 0, _ => 0
  | k + 1, m => m % 2 + pop k (m / 2)
theorem pop_add (j : Nat) : ∀ k m, pop (k + j) m = pop k m + pop j (m / 2 ^ k)
  | 0, m => by simp [pop]
  | k + 1, m => by
    have h := pop_add j k (m / 2)
    rw [show k + 1 + j = (k + j) + 1 by omega]
    show m % 2 + pop (k + j) (m / 2) = m % 2 + pop k (m / 2) + pop j (m / 2 ^ (k + 1))
    rw [h, Nat.div_div_eq_div_mul, show 2 * 2 ^ k = 2 ^ (k + 1) by rw [Nat.pow_succ, Nat.mul_comm]]
    omega
theorem pop_le : ∀ k m, pop k m ≤ k
  | 0, _ => Nat.le_refl 0
  | k + 1, m => by
    have h := pop_le k (m / 2)
    have h2 : m % 2 < 2 := Nat.mod_lt _ (by decide)
    show m % 2 + pop k (m / 2) ≤ k + 1
    omega
theorem pop_bit (k m : Nat) : pop (k + 1) m = pop k m + (if m.testBit k = true then 1 else 0) := by
  rw [pop_add 1 k m, Nat.testBit_eq_decide_div_mod_eq]
  have h : pop 1 (m / 2 ^ k) = m / 2 ^ k % 2 := by simp [pop]
  rw [h]
  have h2 : m / 2 ^ k % 2 < 2 := Nat.mod_lt _ (by decide)
  by_cases h3 : m / 2 ^ k % 2 = 1
  · simp [h3]
  · have : m / 2 ^ k % 2 = 0 := by omega
    simp [this]
theorem pop_mod : ∀ k m, pop k (m % 2 ^ k) = pop k m
  | 0, _ => rfl
  | k + 1, m => by
    have h := pop_mod k (m / 2)
    show m % 2 ^ (k + 1) % 2 + pop k (m % 2 ^ (k + 1) / 2) = m % 2 + pop k (m / 2)
    have e1 : m % 2 ^ (k + 1) % 2 = m % 2 := Nat.mod_mod_of_dvd m ⟨2 ^ k, by rw [Nat.pow_succ, Nat.mul_comm]⟩
    have e2 : m % 2 ^ (k + 1) / 2 = m / 2 % 2 ^ k := by rw [Nat.pow_succ, Nat.mod_mul_left_div_self]
    rw [e1, e2, h]
theorem and_split (x c : Nat) : x &&& c = ((x % 256) &&& (c % 256)) + 256 * ((x / 256) &&& (c / 256)) := by
  have h1 : (x &&& c) % 256 = (x % 256) &&& (c % 256) := Nat.and_mod_two_pow (a := x) (b := c) (n := 8)
  have h2 : (x &&& c) / 256 = (x / 256) &&& (c / 256) := Nat.and_div_two_pow (a := x) (b := c) (n := 8)
  have h3 := Nat.div_add_mod (x &&& c) 256
  omega
theorem by_1 : ∀ b, b < 256 → ∀ t, t < 2 → ((b / 2 + 128 * t) &&& 85) = ((b / 2) &&& 85) := by decide +kernel
theorem by_2 : ∀ b, b < 256 → ∀ t, t < 4 → ((b / 4 + 64 * t) &&& 51) = ((b / 4) &&& 51) := by decide +kernel
theorem by_3 : ∀ b, b < 69 → ∀ t, t < 16 → ((b + b / 16 + 16 * t) % 256 &&& 15) = (b + b / 16) % 16 := by decide +kernel
def by_s1 (b : Nat) : Nat := b - ((b / 2) &&& 85)
def by_s2 (b : Nat) : Nat := (by_s1 b &&& 51) + ((by_s1 b / 4) &&& 51)
theorem by_s : ∀ b, b < 256 → ((b / 2) &&& 85) ≤ b ∧ by_s1 b < 256 ∧ by_s2 b < 69 ∧ by_s2 b % 16 < 5 ∧ (by_s2 b + by_s2 b / 16) % 16 = pop 8 b := by decide +kernel
theorem and_w (b r c C : Nat) (hb : b < 256) (hc : c < 256) : (b + 256 * r) &&& (c + 256 * C) = (b &&& c) + 256 * (r &&& C) := by
  rw [and_split]
  have e1 : (b + 256 * r) % 256 = b := by omega
  have e2 : (b + 256 * r) / 256 = r := by omega
  have e3 : (c + 256 * C) % 256 = c := by omega
  have e4 : (c + 256 * C) / 256 = C := by omega
  rw [e1, e2, e3, e4]
theorem sh1_w (b r C : Nat) (hb : b < 256) : ((b + 256 * r) / 2) &&& (85 + 256 * C) = ((b / 2) &&& 85) + 256 * ((r / 2) &&& C) := by
  have e : (b + 256 * r) / 2 = (b / 2 + 128 * (r % 2)) + 256 * (r / 2) := by omega
  rw [e, and_w _ _ _ _ (by omega) (by decide), by_1 b hb _ (Nat.mod_lt _ (by decide))]
theorem sh2_w (b r C : Nat) (hb : b < 256) : ((b + 256 * r) / 4) &&& (51 + 256 * C) = ((b / 4) &&& 51) + 256 * ((r / 4) &&& C) := by
  have e : (b + 256 * r) / 4 = (b / 4 + 64 * (r % 4)) + 256 * (r / 4) := by omega
  rw [e, and_w _ _ _ _ (by omega) (by decide), by_2 b hb _ (Nat.mod_lt _ (by decide))]
theorem bc_1 (b0 b1 b2 : Nat) (h0 : b0 < 256) (h1 : b1 < 256) (h2 : b2 < 256) : (b0 + 256 * (b1 + 256 * b2)) - (((b0 + 256 * (b1 + 256 * b2)) / 2) &&& 1431655765) = by_s1 b0 + 256 * (by_s1 b1 + 256 * by_s1 b2) := by
  have e : (1431655765 : Nat) = 85 + 256 * (85 + 256 * (85 + 256 * 85)) := by decide
  have e2 : b2 = b2 + 256 * 0 := by omega
  have q : ((b0 + 256 * (b1 + 256 * b2)) / 2) &&& 1431655765 = ((b0 / 2) &&& 85) + 256 * (((b1 / 2) &&& 85) + 256 * ((b2 / 2) &&& 85)) := by
    rw [e, sh1_w _ _ _ h0, sh1_w _ _ _ h1]
    rw [show (b2 / 2) &&& (85 + 256 * 85) = ((b2 / 2) &&& 85) by
      have := sh1_w b2 0 85 h2
      simpa using this]
  rw [q]
  have a0 := (by_s b0 h0).1
  have a1 := (by_s b1 h1).1
  have a2 := (by_s b2 h2).1
  unfold by_s1
  omega
theorem bc_2 (a0 a1 a2 : Nat) (h0 : a0 < 256) (h1 : a1 < 256) (h2 : a2 < 256) : ((a0 + 256 * (a1 + 256 * a2)) &&& 858993459) + (((a0 + 256 * (a1 + 256 * a2)) / 4) &&& 858993459) = ((a0 &&& 51) + ((a0 / 4) &&& 51)) + 256 * (((a1 &&& 51) + ((a1 / 4) &&& 51)) + 256 * ((a2 &&& 51) + ((a2 / 4) &&& 51))) := by
  have e : (858993459 : Nat) = 51 + 256 * (51 + 256 * (51 + 256 * 51)) := by decide
  have q : ((a0 + 256 * (a1 + 256 * a2)) / 4) &&& 858993459 = ((a0 / 4) &&& 51) + 256 * (((a1 / 4) &&& 51) + 256 * ((a2 / 4) &&& 51)) := by
    rw [e, sh2_w _ _ _ h0, sh2_w _ _ _ h1]
    rw [show (a2 / 4) &&& (51 + 256 * 51) = ((a2 / 4) &&& 51) by
      have := sh2_w a2 0 51 h2
      simpa using this]
  have p : (a0 + 256 * (a1 + 256 * a2)) &&& 858993459 = (a0 &&& 51) + 256 * ((a1 &&& 51) + 256 * (a2 &&& 51)) := by
    rw [e, and_w _ _ _ _ h0 (by decide), and_w _ _ _ _ h1 (by decide)]
    rw [show a2 &&& (51 + 256 * 51) = (a2 &&& 51) by
      have := and_w a2 0 51 51 h2 (by decide)
      simpa using this]
  rw [q, p]
  omega
theorem bc_3w (b r C : Nat) (hb : b < 69) (hr : r % 16 < 5) : ((b + 256 * r) + (b + 256 * r) / 16) &&& (15 + 256 * C) = (b + b / 16) % 16 + 256 * ((r + r / 16) &&& C) := by
  have e : (b + 256 * r) + (b + 256 * r) / 16 = (b + b / 16 + 16 * (r % 16)) + 256 * (r + r / 16) := by omega
  have hlt : b + b / 16 + 16 * (r % 16) < 256 := by omega
  rw [e, and_w _ _ _ _ hlt (by decide)]
  have := by_3 b hb (r % 16) (by omega)
  rw [Nat.mod_eq_of_lt hlt] at this
  rw [this]
theorem bc_3 (b0 b1 b2 : Nat) (h0 : b0 < 69) (h1 : b1 < 69) (h2 : b2 < 69) (g1 : b1 % 16 < 5) (g2 : b2 % 16 < 5) : ((b0 + 256 * (b1 + 256 * b2)) + (b0 + 256 * (b1 + 256 * b2)) / 16) &&& 252645135 = (b0 + b0 / 16) % 16 + 256 * ((b1 + b1 / 16) % 16 + 256 * ((b2 + b2 / 16) % 16)) := by
  have e : (252645135 : Nat) = 15 + 256 * (15 + 256 * (15 + 256 * 15)) := by decide
  rw [e, bc_3w _ _ _ h0 (by omega), bc_3w _ _ _ h1 g2]
  rw [show (b2 + b2 / 16) &&& (15 + 256 * 15) = (b2 + b2 / 16) % 16 by
    have := bc_3w b2 0 15 h2 (by decide)
    simpa using this]
/-- the JDK's way to count, for numbers of 24 bits -/
theorem bc_all (m : Nat) (hm : m < 16777216) : ∃ a b c : Nat, m - ((m / 2) &&& 1431655765) = a ∧ ((m / 2) &&& 1431655765) ≤ m ∧ (a &&& 858993459) + ((a / 4) &&& 858993459) = b ∧ (b + b / 16) &&& 252645135 = c ∧ a < 16777216 ∧ b < 16777216 ∧ c < 16777216 ∧ ((c + c / 256) + (c + c / 256) / 65536) % 64 = pop 24 m := by
  obtain ⟨b0, b1, b2, h0, h1, h2, rfl⟩ : ∃ b0 b1 b2, b0 < 256 ∧ b1 < 256 ∧ b2 < 256 ∧ m = b0 + 256 * (b1 + 256 * b2) := ⟨m % 256, m / 256 % 256, m / 65536, by omega, by omega, by omega, by omega⟩
  have s0 := by_s b0 h0
  have s1 := by_s b1 h1
  have s2 := by_s b2 h2
  have q1 := bc_1 b0 b1 b2 h0 h1 h2
  have q2 := bc_2 (by_s1 b0) (by_s1 b1) (by_s1 b2) s0.2.1 s1.2.1 s2.2.1
  have q3 := bc_3 (by_s2 b0) (by_s2 b1) (by_s2 b2) s0.2.2.1 s1.2.2.1 s2.2.2.1 s1.2.2.2.1 s2.2.2.2.1
  have p0 := pop_le 8 b0
  have p1 := pop_le 8 b1
  have p2 := pop_le 8 b2
  have hpop : pop 24 (b0 + 256 * (b1 + 256 * b2)) = pop 8 b0 + pop 8 b1 + pop 8 b2 := by
    rw [show (24 : Nat) = 8 + 16 by decide, pop_add, show (16 : Nat) = 8 + 8 by decide, pop_add]
    have e1 : pop 8 (b0 + 256 * (b1 + 256 * b2)) = pop 8 b0 := by
      rw [← pop_mod 8 (b0 + 256 * (b1 + 256 * b2))]
      have : (b0 + 256 * (b1 + 256 * b2)) % 2 ^ 8 = b0 := by omega
      rw [this]
    have e2 : (b0 + 256 * (b1 + 256 * b2)) / 2 ^ 8 = b1 + 256 * b2 := by omega
    have e3 : pop 8 (b1 + 256 * b2) = pop 8 b1 := by
      rw [← pop_mod 8 (b1 + 256 * b2)]
      have : (b1 + 256 * b2) % 2 ^ 8 = b1 := by omega
      rw [this]
    have e4 : (b1 + 256 * b2) / 2 ^ 8 = b2 := by omega
    rw [e1, e2, e3, e4]
    omega
  refine ⟨_, _, _, q1, ?_, rfl, rfl, ?_, ?_, ?_, ?_⟩
  · have a0 := s0.1
    have e : ((b0 + 256 * (b1 + 256 * b2)) / 2) &&& 1431655765 ≤ (b0 + 256 * (b1 + 256 * b2)) / 2 := Nat.and_le_left
    omega
  · have := s0.2.1; have := s1.2.1; have := s2.2.1; omega
  · rw [q2]
    have a0 : by_s2 b0 < 69 := s0.2.2.1
    have a1 : by_s2 b1 < 69 := s1.2.2.1
    have a2 : by_s2 b2 < 69 := s2.2.2.1
    unfold by_s2 at a0 a1 a2
    omega
  · rw [q2]
    have := q3
    unfold by_s2 at this
    rw [this]
    omega
  · rw [q2]
    have h := q3
    unfold by_s2 at h
    rw [h]
    have e0 := s0.2.2.2.2
    have e1 := s1.2.2.2.2
    have e2 := s2.2.2.2.2
    unfold by_s2 at e0 e1 e2
    rw [e0, e1, e2, hpop]
    clear h e0 e1 e2 hpop q1 q2 q3 s0 s1 s2 h0 h1 h2 hm
    generalize pop 8 b0 = x at *
    generalize pop 8 b1 = y at *
    generalize pop 8 b2 = z at *
    have g1 : (x + 256 * (y + 256 * z)) / 256 = y + 256 * z := by omega
    rw [g1]
    have g2 : (x + 256 * (y + 256 * z) + (y + 256 * z)) / 65536 = z := by omega
    rw [g2]
    omega
theorem iv_bv (n : Nat) : (iv (n : Int)).toBitVec = BitVec.ofNat 32 n := by rw [iv_nat]; rfl
theorem iv_and (a b : Nat) : iv (a : Int) &&& iv (b : Int) = iv ((a &&& b : Nat) : Int) := by
  apply Int32.toBitVec_inj.1
  rw [Int32.toBitVec_and, iv_bv, iv_bv, iv_bv]
  apply BitVec.eq_of_getLsbD_eq
  intro i hi
  simp [hi]
theorem iv_or (a b : Nat) : iv (a : Int) ||| iv (b : Int) = iv ((a ||| b : Nat) : Int) := by
  apply Int32.toBitVec_inj.1
  rw [Int32.toBitVec_or, iv_bv, iv_bv, iv_bv]
  apply BitVec.eq_of_getLsbD_eq
  intro i hi
  simp [hi]
theorem iv_xor (a b : Nat) : iv (a : Int) ^^^ iv (b : Int) = iv ((a ^^^ b : Nat) : Int) := by
  apply Int32.toBitVec_inj.1
  rw [Int32.toBitVec_xor, iv_bv, iv_bv, iv_bv]
  apply BitVec.eq_of_getLsbD_eq
  intro i hi
  simp [hi]
theorem iv_m1 : (iv (-1)).toBitVec = BitVec.allOnes 32 := by decide +kernel
theorem iv_notbv (b : Nat) : (iv (-1 - (b : Int))).toBitVec = ~~~ (BitVec.ofNat 32 b) := by
  rw [← iv_sub, Int32.toBitVec_sub, iv_m1, iv_bv, BitVec.allOnes_sub_eq_not]
theorem iv_not (b : Nat) : iv (b : Int) ^^^ iv (-1) = iv (-1 - (b : Int)) := by
  apply Int32.toBitVec_inj.1
  rw [Int32.toBitVec_xor, iv_notbv, iv_m1, iv_bv, BitVec.xor_allOnes]
theorem iv_andnot (a b : Nat) : iv (a : Int) &&& iv (-1 - (b : Int)) = iv ((a ^^^ (a &&& b) : Nat) : Int) := by
  apply Int32.toBitVec_inj.1
  rw [Int32.toBitVec_and, iv_notbv, iv_bv, iv_bv]
  apply BitVec.eq_of_getLsbD_eq
  intro i hi
  simp only [BitVec.getLsbD_and, BitVec.getLsbD_not, BitVec.getLsbD_ofNat, Nat.testBit_xor, Nat.testBit_and, hi, decide_true, Bool.true_and]
  cases a.testBit i <;> cases b.testBit i <;> rfl
theorem iv_shl1 : ∀ n : Nat, n < 31 → iv 1 <<< (iv (n : Int) &&& 31) = iv ((2 ^ n : Nat) : Int) := by decide +kernel
theorem iv_low : ∀ m : Nat, m < 64 → iv (m : Int) &&& iv (-(m : Int)) = iv ((m &&& (4294967296 - m) : Nat) : Int) := by decide +kernel
theorem iv_shl_a : ∀ n : Nat, n < 32 → ((iv (n : Int) &&& 31).toBitVec.smod 32).toNat = n := by decide +kernel
theorem iv_shr (m : Nat) (hm : m < 2147483648) (n : Nat) (hn : n < 32) : iv (m : Int) >>> (iv (n : Int) &&& 31) = iv ((m / 2 ^ n : Nat) : Int) := by
  rw [iv_nat m, iv_nat (m / 2 ^ n)]
  exact pk_shrN (by omega) _ n (iv_shl_a n hn)
theorem iv_ushr_a : ∀ n : Nat, n < 32 → (((iv (n : Int)).toUInt32 &&& Int32.toUInt32 31).toBitVec % 32).toNat = n := by decide +kernel
theorem iv_ushr (m : Nat) (hm : m < 2147483648) (n : Nat) (hn : n < 32) : ((iv (m : Int)).toUInt32 >>> ((iv (n : Int)).toUInt32 &&& Int32.toUInt32 31)).toInt32 = iv ((m / 2 ^ n : Nat) : Int) := by
  rw [iv_nat m, iv_nat (m / 2 ^ n)]
  exact pk_ushrN (by omega) _ n (iv_ushr_a n hn)
theorem iv_ne0 {b : Int} (h : ir b) (h0 : b ≠ 0) : ¬ iv b = 0 := fun q => h0 ((iv_eq h ir_0).mp q)
theorem iv_div (a b : Nat) (ha : a < 2147483648) (h0 : 0 < b) (hb : b < 2147483648) : iv (a : Int) / iv (b : Int) = iv ((a / b : Nat) : Int) := by
  rw [iv_nat, iv_nat, iv_nat]
  exact pk_div (by omega) h0 (by omega)
theorem iv_rem (a b : Nat) (ha : a < 2147483648) (h0 : 0 < b) (hb : b < 2147483648) : iv (a : Int) - iv (a : Int) / iv (b : Int) * iv (b : Int) = iv ((a % b : Nat) : Int) := by
  rw [iv_nat, iv_nat, iv_nat]
  exact pk_rem (by omega) h0 (by omega)
/-- how many of the 24 lowest bits are set, as a name that nothing unfolds -/
theorem cnt_ex : ∃ g : Nat → Nat, ∀ m, g m = pop 24 m := ⟨pop 24, fun _ => rfl⟩
noncomputable def cnt : Nat → Nat := Classical.choose cnt_ex
theorem cnt_eq (m : Nat) : cnt m = pop 24 m := Classical.choose_spec cnt_ex m
theorem cnt_le (m : Nat) : cnt m ≤ 24 := by rw [cnt_eq]; exact pop_le 24 m
end
section
theorem d_Lim_init_0 : decode c_Lim_init 0 = .ok (.aload_n 0, 1) := by decide +kernel
theorem d_Lim_init_1 : decode c_Lim_init 1 = .ok (.invokespecial 1, 3) := by decide +kernel
theorem d_Lim_init_4 : decode c_Lim_init 4 = .ok (.aload_n 0, 1) := by decide +kernel
theorem d_Lim_init_5 : decode c_Lim_init 5 = .ok (.iconst 3, 1) := by decide +kernel
theorem d_Lim_init_6 : decode c_Lim_init 6 = .ok (.putfield 7, 3) := by decide +kernel
theorem d_Lim_init_9 : decode c_Lim_init 9 = .ok (.aload_n 0, 1) := by decide +kernel
theorem d_Lim_init_10 : decode c_Lim_init 10 = .ok (.iconst 1, 1) := by decide +kernel
theorem d_Lim_init_11 : decode c_Lim_init 11 = .ok (.putfield 13, 3) := by decide +kernel
theorem d_Lim_init_14 : decode c_Lim_init 14 = .ok (.aload_n 0, 1) := by decide +kernel
theorem d_Lim_init_15 : decode c_Lim_init 15 = .ok (.iconst 0, 1) := by decide +kernel
theorem d_Lim_init_16 : decode c_Lim_init 16 = .ok (.putfield 16, 3) := by decide +kernel
theorem d_Lim_init_19 : decode c_Lim_init 19 = .ok (.return_, 1) := by decide +kernel
theorem d_Sur_init_0 : decode c_Sur_init 0 = .ok (.aload_n 0, 1) := by decide +kernel
theorem d_Sur_init_1 : decode c_Sur_init 1 = .ok (.invokespecial 3, 3) := by decide +kernel
theorem d_Sur_init_4 : decode c_Sur_init 4 = .ok (.aload_n 0, 1) := by decide +kernel
theorem d_Sur_init_5 : decode c_Sur_init 5 = .ok (.new 9, 3) := by decide +kernel
theorem d_Sur_init_8 : decode c_Sur_init 8 = .ok (.dup, 1) := by decide +kernel
theorem d_Sur_init_9 : decode c_Sur_init 9 = .ok (.invokespecial 11, 3) := by decide +kernel
theorem d_Sur_init_12 : decode c_Sur_init 12 = .ok (.putfield 12, 3) := by decide +kernel
theorem d_Sur_init_15 : decode c_Sur_init 15 = .ok (.aload_n 0, 1) := by decide +kernel
theorem d_Sur_init_16 : decode c_Sur_init 16 = .ok (.new 9, 3) := by decide +kernel
theorem d_Sur_init_19 : decode c_Sur_init 19 = .ok (.dup, 1) := by decide +kernel
theorem d_Sur_init_20 : decode c_Sur_init 20 = .ok (.invokespecial 11, 3) := by decide +kernel
theorem d_Sur_init_23 : decode c_Sur_init 23 = .ok (.putfield 18, 3) := by decide +kernel
theorem d_Sur_init_26 : decode c_Sur_init 26 = .ok (.aload_n 0, 1) := by decide +kernel
theorem d_Sur_init_27 : decode c_Sur_init 27 = .ok (.aload_n 1, 1) := by decide +kernel
theorem d_Sur_init_28 : decode c_Sur_init 28 = .ok (.putfield 21, 3) := by decide +kernel
theorem d_Sur_init_31 : decode c_Sur_init 31 = .ok (.aload_n 0, 1) := by decide +kernel
theorem d_Sur_init_32 : decode c_Sur_init 32 = .ok (.aload_n 2, 1) := by decide +kernel
theorem d_Sur_init_33 : decode c_Sur_init 33 = .ok (.putfield 25, 3) := by decide +kernel
theorem d_Sur_init_36 : decode c_Sur_init 36 = .ok (.return_, 1) := by decide +kernel
theorem d_Cut_init_0 : decode c_Cut_init 0 = .ok (.aload_n 0, 1) := by decide +kernel
theorem d_Cut_init_1 : decode c_Cut_init 1 = .ok (.invokespecial 1, 3) := by decide +kernel
theorem d_Cut_init_4 : decode c_Cut_init 4 = .ok (.aload_n 0, 1) := by decide +kernel
theorem d_Cut_init_5 : decode c_Cut_init 5 = .ok (.new 7, 3) := by decide +kernel
theorem d_Cut_init_8 : decode c_Cut_init 8 = .ok (.dup, 1) := by decide +kernel
theorem d_Cut_init_9 : decode c_Cut_init 9 = .ok (.invokespecial 9, 3) := by decide +kernel
theorem d_Cut_init_12 : decode c_Cut_init 12 = .ok (.putfield 10, 3) := by decide +kernel
theorem d_Cut_init_15 : decode c_Cut_init 15 = .ok (.return_, 1) := by decide +kernel
theorem d_Fra_init_0 : decode c_Fra_init 0 = .ok (.aload_n 0, 1) := by decide +kernel
theorem d_Fra_init_1 : decode c_Fra_init 1 = .ok (.invokespecial 3, 3) := by decide +kernel
theorem d_Fra_init_4 : decode c_Fra_init 4 = .ok (.aload_n 0, 1) := by decide +kernel
theorem d_Fra_init_5 : decode c_Fra_init 5 = .ok (.iconst 0, 1) := by decide +kernel
theorem d_Fra_init_6 : decode c_Fra_init 6 = .ok (.putfield 9, 3) := by decide +kernel
theorem d_Fra_init_9 : decode c_Fra_init 9 = .ok (.aload_n 0, 1) := by decide +kernel
theorem d_Fra_init_10 : decode c_Fra_init 10 = .ok (.iconst 1, 1) := by decide +kernel
theorem d_Fra_init_11 : decode c_Fra_init 11 = .ok (.putfield 15, 3) := by decide +kernel
theorem d_Fra_init_14 : decode c_Fra_init 14 = .ok (.return_, 1) := by decide +kernel
theorem d_Tre_init_0 : decode c_Tre_init 0 = .ok (.aload_n 0, 1) := by decide +kernel
theorem d_Tre_init_1 : decode c_Tre_init 1 = .ok (.invokespecial 3, 3) := by decide +kernel
theorem d_Tre_init_4 : decode c_Tre_init 4 = .ok (.aload_n 0, 1) := by decide +kernel
theorem d_Tre_init_5 : decode c_Tre_init 5 = .ok (.bipush 47, 2) := by decide +kernel
theorem d_Tre_init_7 : decode c_Tre_init 7 = .ok (.anewarray 9, 3) := by decide +kernel
theorem d_Tre_init_10 : decode c_Tre_init 10 = .ok (.putfield 11, 3) := by decide +kernel
theorem d_Tre_init_13 : decode c_Tre_init 13 = .ok (.aload_n 0, 1) := by decide +kernel
theorem d_Tre_init_14 : decode c_Tre_init 14 = .ok (.aload_n 1, 1) := by decide +kernel
theorem d_Tre_init_15 : decode c_Tre_init 15 = .ok (.putfield 17, 3) := by decide +kernel
theorem d_Tre_init_18 : decode c_Tre_init 18 = .ok (.aload_n 0, 1) := by decide +kernel
theorem d_Tre_init_19 : decode c_Tre_init 19 = .ok (.aload_n 2, 1) := by decide +kernel
theorem d_Tre_init_20 : decode c_Tre_init 20 = .ok (.putfield 21, 3) := by decide +kernel
theorem d_Tre_init_23 : decode c_Tre_init 23 = .ok (.aload_n 0, 1) := by decide +kernel
theorem d_Tre_init_24 : decode c_Tre_init 24 = .ok (.aload_n 3, 1) := by decide +kernel
theorem d_Tre_init_25 : decode c_Tre_init 25 = .ok (.putfield 25, 3) := by decide +kernel
theorem d_Tre_init_28 : decode c_Tre_init 28 = .ok (.iconst 0, 1) := by decide +kernel
theorem d_Tre_init_29 : decode c_Tre_init 29 = .ok (.istore 4, 2) := by decide +kernel
theorem d_Tre_init_31 : decode c_Tre_init 31 = .ok (.iload 4, 2) := by decide +kernel
theorem d_Tre_init_33 : decode c_Tre_init 33 = .ok (.bipush 47, 2) := by decide +kernel
theorem d_Tre_init_35 : decode c_Tre_init 35 = .ok (.if_icmp .ge 25, 3) := by decide +kernel
theorem d_Tre_init_38 : decode c_Tre_init 38 = .ok (.aload_n 0, 1) := by decide +kernel
theorem d_Tre_init_39 : decode c_Tre_init 39 = .ok (.getfield 11, 3) := by decide +kernel
theorem d_Tre_init_42 : decode c_Tre_init 42 = .ok (.iload 4, 2) := by decide +kernel
theorem d_Tre_init_44 : decode c_Tre_init 44 = .ok (.new 9, 3) := by decide +kernel
theorem d_Tre_init_47 : decode c_Tre_init 47 = .ok (.dup, 1) := by decide +kernel
theorem d_Tre_init_48 : decode c_Tre_init 48 = .ok (.iload 4, 2) := by decide +kernel
theorem d_Tre_init_50 : decode c_Tre_init 50 = .ok (.invokespecial 29, 3) := by decide +kernel
theorem d_Tre_init_53 : decode c_Tre_init 53 = .ok (.aastore, 1) := by decide +kernel
theorem d_Tre_init_54 : decode c_Tre_init 54 = .ok (.iinc 4 1, 3) := by decide +kernel
theorem d_Tre_init_57 : decode c_Tre_init 57 = .ok (.goto (-26), 3) := by decide +kernel
theorem d_Tre_init_60 : decode c_Tre_init 60 = .ok (.aload_n 0, 1) := by decide +kernel
theorem d_Tre_init_61 : decode c_Tre_init 61 = .ok (.aload_n 0, 1) := by decide +kernel
theorem d_Tre_init_62 : decode c_Tre_init 62 = .ok (.getfield 11, 3) := by decide +kernel
theorem d_Tre_init_65 : decode c_Tre_init 65 = .ok (.iconst 0, 1) := by decide +kernel
theorem d_Tre_init_66 : decode c_Tre_init 66 = .ok (.aaload, 1) := by decide +kernel
theorem d_Tre_init_67 : decode c_Tre_init 67 = .ok (.putfield 32, 3) := by decide +kernel
theorem d_Tre_init_70 : decode c_Tre_init 70 = .ok (.aload_n 0, 1) := by decide +kernel
theorem d_Tre_init_71 : decode c_Tre_init 71 = .ok (.iconst 1, 1) := by decide +kernel
theorem d_Tre_init_72 : decode c_Tre_init 72 = .ok (.putfield 36, 3) := by decide +kernel
theorem d_Tre_init_75 : decode c_Tre_init 75 = .ok (.return_, 1) := by decide +kernel
theorem d_Nod_init_0 : decode c_Nod_init 0 = .ok (.aload_n 0, 1) := by decide +kernel
theorem d_Nod_init_1 : decode c_Nod_init 1 = .ok (.invokespecial 3, 3) := by decide +kernel
theorem d_Nod_init_4 : decode c_Nod_init 4 = .ok (.aload_n 0, 1) := by decide +kernel
theorem d_Nod_init_5 : decode c_Nod_init 5 = .ok (.new 9, 3) := by decide +kernel
theorem d_Nod_init_8 : decode c_Nod_init 8 = .ok (.dup, 1) := by decide +kernel
theorem d_Nod_init_9 : decode c_Nod_init 9 = .ok (.invokespecial 11, 3) := by decide +kernel
theorem d_Nod_init_12 : decode c_Nod_init 12 = .ok (.putfield 12, 3) := by decide +kernel
theorem d_Nod_init_15 : decode c_Nod_init 15 = .ok (.aload_n 0, 1) := by decide +kernel
theorem d_Nod_init_16 : decode c_Nod_init 16 = .ok (.iload_n 1, 1) := by decide +kernel
theorem d_Nod_init_17 : decode c_Nod_init 17 = .ok (.putfield 18, 3) := by decide +kernel
theorem d_Nod_init_20 : decode c_Nod_init 20 = .ok (.return_, 1) := by decide +kernel
theorem d_Pru_init_0 : decode c_Pru_init 0 = .ok (.aload_n 0, 1) := by decide +kernel
theorem d_Pru_init_1 : decode c_Pru_init 1 = .ok (.invokespecial 3, 3) := by decide +kernel
theorem d_Pru_init_4 : decode c_Pru_init 4 = .ok (.aload_n 0, 1) := by decide +kernel
theorem d_Pru_init_5 : decode c_Pru_init 5 = .ok (.bipush 24, 2) := by decide +kernel
theorem d_Pru_init_7 : decode c_Pru_init 7 = .ok (.anewarray 9, 3) := by decide +kernel
theorem d_Pru_init_10 : decode c_Pru_init 10 = .ok (.putfield 11, 3) := by decide +kernel
theorem d_Pru_init_13 : decode c_Pru_init 13 = .ok (.aload_n 0, 1) := by decide +kernel
theorem d_Pru_init_14 : decode c_Pru_init 14 = .ok (.bipush 24, 2) := by decide +kernel
theorem d_Pru_init_16 : decode c_Pru_init 16 = .ok (.newarray .int, 2) := by decide +kernel
theorem d_Pru_init_18 : decode c_Pru_init 18 = .ok (.putfield 17, 3) := by decide +kernel
theorem d_Pru_init_21 : decode c_Pru_init 21 = .ok (.aload_n 0, 1) := by decide +kernel
theorem d_Pru_init_22 : decode c_Pru_init 22 = .ok (.bipush 24, 2) := by decide +kernel
theorem d_Pru_init_24 : decode c_Pru_init 24 = .ok (.newarray .int, 2) := by decide +kernel
theorem d_Pru_init_26 : decode c_Pru_init 26 = .ok (.putfield 21, 3) := by decide +kernel
theorem d_Pru_init_29 : decode c_Pru_init 29 = .ok (.aload_n 0, 1) := by decide +kernel
theorem d_Pru_init_30 : decode c_Pru_init 30 = .ok (.new 9, 3) := by decide +kernel
theorem d_Pru_init_33 : decode c_Pru_init 33 = .ok (.dup, 1) := by decide +kernel
theorem d_Pru_init_34 : decode c_Pru_init 34 = .ok (.invokespecial 24, 3) := by decide +kernel
theorem d_Pru_init_37 : decode c_Pru_init 37 = .ok (.putfield 25, 3) := by decide +kernel
theorem d_Pru_init_40 : decode c_Pru_init 40 = .ok (.aload_n 0, 1) := by decide +kernel
theorem d_Pru_init_41 : decode c_Pru_init 41 = .ok (.aload_n 1, 1) := by decide +kernel
theorem d_Pru_init_42 : decode c_Pru_init 42 = .ok (.putfield 29, 3) := by decide +kernel
theorem d_Pru_init_45 : decode c_Pru_init 45 = .ok (.iconst 0, 1) := by decide +kernel
theorem d_Pru_init_46 : decode c_Pru_init 46 = .ok (.istore_n 2, 1) := by decide +kernel
theorem d_Pru_init_47 : decode c_Pru_init 47 = .ok (.iload_n 2, 1) := by decide +kernel
theorem d_Pru_init_48 : decode c_Pru_init 48 = .ok (.bipush 24, 2) := by decide +kernel
theorem d_Pru_init_50 : decode c_Pru_init 50 = .ok (.if_icmp .ge 22, 3) := by decide +kernel
theorem d_Pru_init_53 : decode c_Pru_init 53 = .ok (.aload_n 0, 1) := by decide +kernel
theorem d_Pru_init_54 : decode c_Pru_init 54 = .ok (.getfield 11, 3) := by decide +kernel
theorem d_Pru_init_57 : decode c_Pru_init 57 = .ok (.iload_n 2, 1) := by decide +kernel
theorem d_Pru_init_58 : decode c_Pru_init 58 = .ok (.new 9, 3) := by decide +kernel
theorem d_Pru_init_61 : decode c_Pru_init 61 = .ok (.dup, 1) := by decide +kernel
theorem d_Pru_init_62 : decode c_Pru_init 62 = .ok (.invokespecial 24, 3) := by decide +kernel
theorem d_Pru_init_65 : decode c_Pru_init 65 = .ok (.aastore, 1) := by decide +kernel
theorem d_Pru_init_66 : decode c_Pru_init 66 = .ok (.iinc 2 1, 3) := by decide +kernel
theorem d_Pru_init_69 : decode c_Pru_init 69 = .ok (.goto (-22), 3) := by decide +kernel
theorem d_Pru_init_72 : decode c_Pru_init 72 = .ok (.aload_n 0, 1) := by decide +kernel
theorem d_Pru_init_73 : decode c_Pru_init 73 = .ok (.iconst 0, 1) := by decide +kernel
theorem d_Pru_init_74 : decode c_Pru_init 74 = .ok (.putfield 33, 3) := by decide +kernel
theorem d_Pru_init_77 : decode c_Pru_init 77 = .ok (.return_, 1) := by decide +kernel
theorem d_Tre_grow_0 : decode c_Tre_grow 0 = .ok (.aload_n 0, 1) := by decide +kernel
theorem d_Tre_grow_1 : decode c_Tre_grow 1 = .ok (.aload_n 0, 1) := by decide +kernel
theorem d_Tre_grow_2 : decode c_Tre_grow 2 = .ok (.getfield 32, 3) := by decide +kernel
theorem d_Tre_grow_5 : decode c_Tre_grow 5 = .ok (.iload_n 1, 1) := by decide +kernel
theorem d_Tre_grow_6 : decode c_Tre_grow 6 = .ok (.iconst 0, 1) := by decide +kernel
theorem d_Tre_grow_7 : decode c_Tre_grow 7 = .ok (.invokevirtual 40, 3) := by decide +kernel
theorem d_Tre_grow_10 : decode c_Tre_grow 10 = .ok (.aload_n 0, 1) := by decide +kernel
theorem d_Tre_grow_11 : decode c_Tre_grow 11 = .ok (.iconst 1, 1) := by decide +kernel
theorem d_Tre_grow_12 : decode c_Tre_grow 12 = .ok (.putfield 36, 3) := by decide +kernel
theorem d_Tre_grow_15 : decode c_Tre_grow 15 = .ok (.iconst 0, 1) := by decide +kernel
theorem d_Tre_grow_16 : decode c_Tre_grow 16 = .ok (.istore_n 2, 1) := by decide +kernel
theorem d_Tre_grow_17 : decode c_Tre_grow 17 = .ok (.iload_n 2, 1) := by decide +kernel
theorem d_Tre_grow_18 : decode c_Tre_grow 18 = .ok (.aload_n 0, 1) := by decide +kernel
theorem d_Tre_grow_19 : decode c_Tre_grow 19 = .ok (.getfield 36, 3) := by decide +kernel
theorem d_Tre_grow_22 : decode c_Tre_grow 22 = .ok (.if_icmp .ge 25, 3) := by decide +kernel
theorem d_Tre_grow_25 : decode c_Tre_grow 25 = .ok (.iload_n 2, 1) := by decide +kernel
theorem d_Tre_grow_26 : decode c_Tre_grow 26 = .ok (.bipush 47, 2) := by decide +kernel
theorem d_Tre_grow_28 : decode c_Tre_grow 28 = .ok (.if_icmp .ge 19, 3) := by decide +kernel
theorem d_Tre_grow_31 : decode c_Tre_grow 31 = .ok (.aload_n 0, 1) := by decide +kernel
theorem d_Tre_grow_32 : decode c_Tre_grow 32 = .ok (.aload_n 0, 1) := by decide +kernel
theorem d_Tre_grow_33 : decode c_Tre_grow 33 = .ok (.getfield 11, 3) := by decide +kernel
theorem d_Tre_grow_36 : decode c_Tre_grow 36 = .ok (.iload_n 2, 1) := by decide +kernel
theorem d_Tre_grow_37 : decode c_Tre_grow 37 = .ok (.aaload, 1) := by decide +kernel
theorem d_Tre_grow_38 : decode c_Tre_grow 38 = .ok (.invokevirtual 44, 3) := by decide +kernel
theorem d_Tre_grow_41 : decode c_Tre_grow 41 = .ok (.iinc 2 1, 3) := by decide +kernel
theorem d_Tre_grow_44 : decode c_Tre_grow 44 = .ok (.goto (-27), 3) := by decide +kernel
theorem d_Tre_grow_47 : decode c_Tre_grow 47 = .ok (.return_, 1) := by decide +kernel
theorem d_Tre_begin_0 : decode c_Tre_begin 0 = .ok (.aload_n 1, 1) := by decide +kernel
theorem d_Tre_begin_1 : decode c_Tre_begin 1 = .ok (.iload_n 2, 1) := by decide +kernel
theorem d_Tre_begin_2 : decode c_Tre_begin 2 = .ok (.putfield 48, 3) := by decide +kernel
theorem d_Tre_begin_5 : decode c_Tre_begin 5 = .ok (.aload_n 1, 1) := by decide +kernel
theorem d_Tre_begin_6 : decode c_Tre_begin 6 = .ok (.iload_n 3, 1) := by decide +kernel
theorem d_Tre_begin_7 : decode c_Tre_begin 7 = .ok (.putfield 51, 3) := by decide +kernel
theorem d_Tre_begin_10 : decode c_Tre_begin 10 = .ok (.aload_n 1, 1) := by decide +kernel
theorem d_Tre_begin_11 : decode c_Tre_begin 11 = .ok (.aload_n 0, 1) := by decide +kernel
theorem d_Tre_begin_12 : decode c_Tre_begin 12 = .ok (.getfield 17, 3) := by decide +kernel
theorem d_Tre_begin_15 : decode c_Tre_begin 15 = .ok (.iload_n 2, 1) := by decide +kernel
theorem d_Tre_begin_16 : decode c_Tre_begin 16 = .ok (.invokevirtual 54, 3) := by decide +kernel
theorem d_Tre_begin_19 : decode c_Tre_begin 19 = .ok (.putfield 60, 3) := by decide +kernel
theorem d_Tre_begin_22 : decode c_Tre_begin 22 = .ok (.aload_n 1, 1) := by decide +kernel
theorem d_Tre_begin_23 : decode c_Tre_begin 23 = .ok (.iload_n 2, 1) := by decide +kernel
theorem d_Tre_begin_24 : decode c_Tre_begin 24 = .ok (.invokestatic 63, 3) := by decide +kernel
theorem d_Tre_begin_27 : decode c_Tre_begin 27 = .ok (.aload_n 0, 1) := by decide +kernel
theorem d_Tre_begin_28 : decode c_Tre_begin 28 = .ok (.getfield 17, 3) := by decide +kernel
theorem d_Tre_begin_31 : decode c_Tre_begin 31 = .ok (.iload_n 2, 1) := by decide +kernel
theorem d_Tre_begin_32 : decode c_Tre_begin 32 = .ok (.aload_n 1, 1) := by decide +kernel
theorem d_Tre_begin_33 : decode c_Tre_begin 33 = .ok (.getfield 60, 3) := by decide +kernel
theorem d_Tre_begin_36 : decode c_Tre_begin 36 = .ok (.invokevirtual 68, 3) := by decide +kernel
theorem d_Tre_begin_39 : decode c_Tre_begin 39 = .ok (.isub, 1) := by decide +kernel
theorem d_Tre_begin_40 : decode c_Tre_begin 40 = .ok (.putfield 72, 3) := by decide +kernel
theorem d_Tre_begin_43 : decode c_Tre_begin 43 = .ok (.aload_n 1, 1) := by decide +kernel
theorem d_Tre_begin_44 : decode c_Tre_begin 44 = .ok (.aconst_null, 1) := by decide +kernel
theorem d_Tre_begin_45 : decode c_Tre_begin 45 = .ok (.putfield 75, 3) := by decide +kernel
theorem d_Tre_begin_48 : decode c_Tre_begin 48 = .ok (.aload_n 1, 1) := by decide +kernel
theorem d_Tre_begin_49 : decode c_Tre_begin 49 = .ok (.aconst_null, 1) := by decide +kernel
theorem d_Tre_begin_50 : decode c_Tre_begin 50 = .ok (.putfield 78, 3) := by decide +kernel
theorem d_Tre_begin_53 : decode c_Tre_begin 53 = .ok (.return_, 1) := by decide +kernel
theorem d_Int_bitCount_0 : decode c_Int_bitCount 0 = .ok (.iload_n 0, 1) := by decide +kernel
theorem d_Int_bitCount_1 : decode c_Int_bitCount 1 = .ok (.iload_n 0, 1) := by decide +kernel
theorem d_Int_bitCount_2 : decode c_Int_bitCount 2 = .ok (.iconst 1, 1) := by decide +kernel
theorem d_Int_bitCount_3 : decode c_Int_bitCount 3 = .ok (.iushr, 1) := by decide +kernel
theorem d_Int_bitCount_4 : decode c_Int_bitCount 4 = .ok (.ldc_w 265, 3) := by decide +kernel
theorem d_Int_bitCount_7 : decode c_Int_bitCount 7 = .ok (.iand, 1) := by decide +kernel
theorem d_Int_bitCount_8 : decode c_Int_bitCount 8 = .ok (.isub, 1) := by decide +kernel
theorem d_Int_bitCount_9 : decode c_Int_bitCount 9 = .ok (.istore_n 0, 1) := by decide +kernel
theorem d_Int_bitCount_10 : decode c_Int_bitCount 10 = .ok (.iload_n 0, 1) := by decide +kernel
theorem d_Int_bitCount_11 : decode c_Int_bitCount 11 = .ok (.ldc_w 266, 3) := by decide +kernel
theorem d_Int_bitCount_14 : decode c_Int_bitCount 14 = .ok (.iand, 1) := by decide +kernel
theorem d_Int_bitCount_15 : decode c_Int_bitCount 15 = .ok (.iload_n 0, 1) := by decide +kernel
theorem d_Int_bitCount_16 : decode c_Int_bitCount 16 = .ok (.iconst 2, 1) := by decide +kernel
theorem d_Int_bitCount_17 : decode c_Int_bitCount 17 = .ok (.iushr, 1) := by decide +kernel
theorem d_Int_bitCount_18 : decode c_Int_bitCount 18 = .ok (.ldc_w 266, 3) := by decide +kernel
theorem d_Int_bitCount_21 : decode c_Int_bitCount 21 = .ok (.iand, 1) := by decide +kernel
theorem d_Int_bitCount_22 : decode c_Int_bitCount 22 = .ok (.iadd, 1) := by decide +kernel
theorem d_Int_bitCount_23 : decode c_Int_bitCount 23 = .ok (.istore_n 0, 1) := by decide +kernel
theorem d_Int_bitCount_24 : decode c_Int_bitCount 24 = .ok (.iload_n 0, 1) := by decide +kernel
theorem d_Int_bitCount_25 : decode c_Int_bitCount 25 = .ok (.iload_n 0, 1) := by decide +kernel
theorem d_Int_bitCount_26 : decode c_Int_bitCount 26 = .ok (.iconst 4, 1) := by decide +kernel
theorem d_Int_bitCount_27 : decode c_Int_bitCount 27 = .ok (.iushr, 1) := by decide +kernel
theorem d_Int_bitCount_28 : decode c_Int_bitCount 28 = .ok (.iadd, 1) := by decide +kernel
theorem d_Int_bitCount_29 : decode c_Int_bitCount 29 = .ok (.ldc_w 267, 3) := by decide +kernel
theorem d_Int_bitCount_32 : decode c_Int_bitCount 32 = .ok (.iand, 1) := by decide +kernel
theorem d_Int_bitCount_33 : decode c_Int_bitCount 33 = .ok (.istore_n 0, 1) := by decide +kernel
theorem d_Int_bitCount_34 : decode c_Int_bitCount 34 = .ok (.iload_n 0, 1) := by decide +kernel
theorem d_Int_bitCount_35 : decode c_Int_bitCount 35 = .ok (.iload_n 0, 1) := by decide +kernel
theorem d_Int_bitCount_36 : decode c_Int_bitCount 36 = .ok (.bipush 8, 2) := by decide +kernel
theorem d_Int_bitCount_38 : decode c_Int_bitCount 38 = .ok (.iushr, 1) := by decide +kernel
theorem d_Int_bitCount_39 : decode c_Int_bitCount 39 = .ok (.iadd, 1) := by decide +kernel
theorem d_Int_bitCount_40 : decode c_Int_bitCount 40 = .ok (.istore_n 0, 1) := by decide +kernel
theorem d_Int_bitCount_41 : decode c_Int_bitCount 41 = .ok (.iload_n 0, 1) := by decide +kernel
theorem d_Int_bitCount_42 : decode c_Int_bitCount 42 = .ok (.iload_n 0, 1) := by decide +kernel
theorem d_Int_bitCount_43 : decode c_Int_bitCount 43 = .ok (.bipush 16, 2) := by decide +kernel
theorem d_Int_bitCount_45 : decode c_Int_bitCount 45 = .ok (.iushr, 1) := by decide +kernel
theorem d_Int_bitCount_46 : decode c_Int_bitCount 46 = .ok (.iadd, 1) := by decide +kernel
theorem d_Int_bitCount_47 : decode c_Int_bitCount 47 = .ok (.istore_n 0, 1) := by decide +kernel
theorem d_Int_bitCount_48 : decode c_Int_bitCount 48 = .ok (.iload_n 0, 1) := by decide +kernel
theorem d_Int_bitCount_49 : decode c_Int_bitCount 49 = .ok (.bipush 63, 2) := by decide +kernel
theorem d_Int_bitCount_51 : decode c_Int_bitCount 51 = .ok (.iand, 1) := by decide +kernel
theorem d_Int_bitCount_52 : decode c_Int_bitCount 52 = .ok (.ireturn, 1) := by decide +kernel
theorem d_Tre_partIfDue_0 : decode c_Tre_partIfDue 0 = .ok (.aload_n 1, 1) := by decide +kernel
theorem d_Tre_partIfDue_1 : decode c_Tre_partIfDue 1 = .ok (.getfield 72, 3) := by decide +kernel
theorem d_Tre_partIfDue_4 : decode c_Tre_partIfDue 4 = .ok (.ifCond .eq 28, 3) := by decide +kernel
theorem d_Tre_partIfDue_7 : decode c_Tre_partIfDue 7 = .ok (.aload_n 1, 1) := by decide +kernel
theorem d_Tre_partIfDue_8 : decode c_Tre_partIfDue 8 = .ok (.getfield 51, 3) := by decide +kernel
theorem d_Tre_partIfDue_11 : decode c_Tre_partIfDue 11 = .ok (.aload_n 0, 1) := by decide +kernel
theorem d_Tre_partIfDue_12 : decode c_Tre_partIfDue 12 = .ok (.getfield 21, 3) := by decide +kernel
theorem d_Tre_partIfDue_15 : decode c_Tre_partIfDue 15 = .ok (.getfield 81, 3) := by decide +kernel
theorem d_Tre_partIfDue_18 : decode c_Tre_partIfDue 18 = .ok (.if_icmp .ge 14, 3) := by decide +kernel
theorem d_Tre_partIfDue_21 : decode c_Tre_partIfDue 21 = .ok (.aload_n 0, 1) := by decide +kernel
theorem d_Tre_partIfDue_22 : decode c_Tre_partIfDue 22 = .ok (.getfield 36, 3) := by decide +kernel
theorem d_Tre_partIfDue_25 : decode c_Tre_partIfDue 25 = .ok (.iconst 2, 1) := by decide +kernel
theorem d_Tre_partIfDue_26 : decode c_Tre_partIfDue 26 = .ok (.iadd, 1) := by decide +kernel
theorem d_Tre_partIfDue_27 : decode c_Tre_partIfDue 27 = .ok (.bipush 47, 2) := by decide +kernel
theorem d_Tre_partIfDue_29 : decode c_Tre_partIfDue 29 = .ok (.if_icmp .le 4, 3) := by decide +kernel
theorem d_Tre_partIfDue_32 : decode c_Tre_partIfDue 32 = .ok (.return_, 1) := by decide +kernel
theorem d_Tre_partIfDue_33 : decode c_Tre_partIfDue 33 = .ok (.aload_n 0, 1) := by decide +kernel
theorem d_Tre_partIfDue_34 : decode c_Tre_partIfDue 34 = .ok (.getfield 25, 3) := by decide +kernel
theorem d_Tre_partIfDue_37 : decode c_Tre_partIfDue 37 = .ok (.aload_n 1, 1) := by decide +kernel
theorem d_Tre_partIfDue_38 : decode c_Tre_partIfDue 38 = .ok (.getfield 48, 3) := by decide +kernel
theorem d_Tre_partIfDue_41 : decode c_Tre_partIfDue 41 = .ok (.invokevirtual 84, 3) := by decide +kernel
theorem d_Tre_partIfDue_44 : decode c_Tre_partIfDue 44 = .ok (.ifCond .eq 26, 3) := by decide +kernel
theorem d_Tre_partIfDue_47 : decode c_Tre_partIfDue 47 = .ok (.aload_n 0, 1) := by decide +kernel
theorem d_Tre_partIfDue_48 : decode c_Tre_partIfDue 48 = .ok (.getfield 25, 3) := by decide +kernel
theorem d_Tre_partIfDue_51 : decode c_Tre_partIfDue 51 = .ok (.getfield 89, 3) := by decide +kernel
theorem d_Tre_partIfDue_54 : decode c_Tre_partIfDue 54 = .ok (.getfield 93, 3) := by decide +kernel
theorem d_Tre_partIfDue_57 : decode c_Tre_partIfDue 57 = .ok (.aload_n 0, 1) := by decide +kernel
theorem d_Tre_partIfDue_58 : decode c_Tre_partIfDue 58 = .ok (.getfield 21, 3) := by decide +kernel
theorem d_Tre_partIfDue_61 : decode c_Tre_partIfDue 61 = .ok (.getfield 99, 3) := by decide +kernel
theorem d_Tre_partIfDue_64 : decode c_Tre_partIfDue 64 = .ok (.invokevirtual 102, 3) := by decide +kernel
theorem d_Tre_partIfDue_67 : decode c_Tre_partIfDue 67 = .ok (.ifCond .ne 4, 3) := by decide +kernel
theorem d_Tre_partIfDue_70 : decode c_Tre_partIfDue 70 = .ok (.return_, 1) := by decide +kernel
theorem d_Tre_partIfDue_71 : decode c_Tre_partIfDue 71 = .ok (.aload_n 1, 1) := by decide +kernel
theorem d_Tre_partIfDue_72 : decode c_Tre_partIfDue 72 = .ok (.getfield 108, 3) := by decide +kernel
theorem d_Tre_partIfDue_75 : decode c_Tre_partIfDue 75 = .ok (.astore_n 2, 1) := by decide +kernel
theorem d_Tre_partIfDue_76 : decode c_Tre_partIfDue 76 = .ok (.aload_n 2, 1) := by decide +kernel
theorem d_Tre_partIfDue_77 : decode c_Tre_partIfDue 77 = .ok (.aload_n 0, 1) := by decide +kernel
theorem d_Tre_partIfDue_78 : decode c_Tre_partIfDue 78 = .ok (.getfield 25, 3) := by decide +kernel
theorem d_Tre_partIfDue_81 : decode c_Tre_partIfDue 81 = .ok (.getfield 89, 3) := by decide +kernel
theorem d_Tre_partIfDue_84 : decode c_Tre_partIfDue 84 = .ok (.invokevirtual 111, 3) := by decide +kernel
theorem d_Tre_partIfDue_87 : decode c_Tre_partIfDue 87 = .ok (.aload_n 0, 1) := by decide +kernel
theorem d_Tre_partIfDue_88 : decode c_Tre_partIfDue 88 = .ok (.getfield 17, 3) := by decide +kernel
theorem d_Tre_partIfDue_91 : decode c_Tre_partIfDue 91 = .ok (.aload_n 1, 1) := by decide +kernel
theorem d_Tre_partIfDue_92 : decode c_Tre_partIfDue 92 = .ok (.getfield 48, 3) := by decide +kernel
theorem d_Tre_partIfDue_95 : decode c_Tre_partIfDue 95 = .ok (.aload_n 2, 1) := by decide +kernel
theorem d_Tre_partIfDue_96 : decode c_Tre_partIfDue 96 = .ok (.getfield 115, 3) := by decide +kernel
theorem d_Tre_partIfDue_99 : decode c_Tre_partIfDue 99 = .ok (.aload_n 2, 1) := by decide +kernel
theorem d_Tre_partIfDue_100 : decode c_Tre_partIfDue 100 = .ok (.getfield 118, 3) := by decide +kernel
theorem d_Tre_partIfDue_103 : decode c_Tre_partIfDue 103 = .ok (.aload_n 2, 1) := by decide +kernel
theorem d_Tre_partIfDue_104 : decode c_Tre_partIfDue 104 = .ok (.getfield 121, 3) := by decide +kernel
theorem d_Tre_partIfDue_107 : decode c_Tre_partIfDue 107 = .ok (.invokevirtual 124, 3) := by decide +kernel
theorem d_Tre_partIfDue_110 : decode c_Tre_partIfDue 110 = .ok (.istore_n 3, 1) := by decide +kernel
theorem d_Tre_partIfDue_111 : decode c_Tre_partIfDue 111 = .ok (.aload_n 0, 1) := by decide +kernel
theorem d_Tre_partIfDue_112 : decode c_Tre_partIfDue 112 = .ok (.getfield 11, 3) := by decide +kernel
theorem d_Tre_partIfDue_115 : decode c_Tre_partIfDue 115 = .ok (.aload_n 0, 1) := by decide +kernel
theorem d_Tre_partIfDue_116 : decode c_Tre_partIfDue 116 = .ok (.getfield 36, 3) := by decide +kernel
theorem d_Tre_partIfDue_119 : decode c_Tre_partIfDue 119 = .ok (.aaload, 1) := by decide +kernel
theorem d_Tre_partIfDue_120 : decode c_Tre_partIfDue 120 = .ok (.astore 4, 2) := by decide +kernel
theorem d_Tre_partIfDue_122 : decode c_Tre_partIfDue 122 = .ok (.aload_n 0, 1) := by decide +kernel
theorem d_Tre_partIfDue_123 : decode c_Tre_partIfDue 123 = .ok (.getfield 11, 3) := by decide +kernel
theorem d_Tre_partIfDue_126 : decode c_Tre_partIfDue 126 = .ok (.aload_n 0, 1) := by decide +kernel
theorem d_Tre_partIfDue_127 : decode c_Tre_partIfDue 127 = .ok (.getfield 36, 3) := by decide +kernel
theorem d_Tre_partIfDue_130 : decode c_Tre_partIfDue 130 = .ok (.iconst 1, 1) := by decide +kernel
theorem d_Tre_partIfDue_131 : decode c_Tre_partIfDue 131 = .ok (.iadd, 1) := by decide +kernel
theorem d_Tre_partIfDue_132 : decode c_Tre_partIfDue 132 = .ok (.aaload, 1) := by decide +kernel
theorem d_Tre_partIfDue_133 : decode c_Tre_partIfDue 133 = .ok (.astore 5, 2) := by decide +kernel
theorem d_Tre_partIfDue_135 : decode c_Tre_partIfDue 135 = .ok (.aload_n 0, 1) := by decide +kernel
theorem d_Tre_partIfDue_136 : decode c_Tre_partIfDue 136 = .ok (.aload 4, 2) := by decide +kernel
theorem d_Tre_partIfDue_138 : decode c_Tre_partIfDue 138 = .ok (.iload_n 3, 1) := by decide +kernel
theorem d_Tre_partIfDue_139 : decode c_Tre_partIfDue 139 = .ok (.aload_n 1, 1) := by decide +kernel
theorem d_Tre_partIfDue_140 : decode c_Tre_partIfDue 140 = .ok (.getfield 51, 3) := by decide +kernel
theorem d_Tre_partIfDue_143 : decode c_Tre_partIfDue 143 = .ok (.iconst 1, 1) := by decide +kernel
theorem d_Tre_partIfDue_144 : decode c_Tre_partIfDue 144 = .ok (.iadd, 1) := by decide +kernel
theorem d_Tre_partIfDue_145 : decode c_Tre_partIfDue 145 = .ok (.invokevirtual 40, 3) := by decide +kernel
theorem d_Tre_partIfDue_148 : decode c_Tre_partIfDue 148 = .ok (.aload_n 0, 1) := by decide +kernel
theorem d_Tre_partIfDue_149 : decode c_Tre_partIfDue 149 = .ok (.aload 5, 2) := by decide +kernel
theorem d_Tre_partIfDue_151 : decode c_Tre_partIfDue 151 = .ok (.aload_n 1, 1) := by decide +kernel
theorem d_Tre_partIfDue_152 : decode c_Tre_partIfDue 152 = .ok (.getfield 48, 3) := by decide +kernel
theorem d_Tre_partIfDue_155 : decode c_Tre_partIfDue 155 = .ok (.iload_n 3, 1) := by decide +kernel
theorem d_Tre_partIfDue_156 : decode c_Tre_partIfDue 156 = .ok (.iconst (-1), 1) := by decide +kernel
theorem d_Tre_partIfDue_157 : decode c_Tre_partIfDue 157 = .ok (.ixor, 1) := by decide +kernel
theorem d_Tre_partIfDue_158 : decode c_Tre_partIfDue 158 = .ok (.iand, 1) := by decide +kernel
theorem d_Tre_partIfDue_159 : decode c_Tre_partIfDue 159 = .ok (.aload_n 1, 1) := by decide +kernel
theorem d_Tre_partIfDue_160 : decode c_Tre_partIfDue 160 = .ok (.getfield 51, 3) := by decide +kernel
theorem d_Tre_partIfDue_163 : decode c_Tre_partIfDue 163 = .ok (.iconst 1, 1) := by decide +kernel
theorem d_Tre_partIfDue_164 : decode c_Tre_partIfDue 164 = .ok (.iadd, 1) := by decide +kernel
theorem d_Tre_partIfDue_165 : decode c_Tre_partIfDue 165 = .ok (.invokevirtual 40, 3) := by decide +kernel
theorem d_Tre_partIfDue_168 : decode c_Tre_partIfDue 168 = .ok (.aload_n 1, 1) := by decide +kernel
theorem d_Tre_partIfDue_169 : decode c_Tre_partIfDue 169 = .ok (.aload 4, 2) := by decide +kernel
theorem d_Tre_partIfDue_171 : decode c_Tre_partIfDue 171 = .ok (.putfield 75, 3) := by decide +kernel
theorem d_Tre_partIfDue_174 : decode c_Tre_partIfDue 174 = .ok (.aload_n 1, 1) := by decide +kernel
theorem d_Tre_partIfDue_175 : decode c_Tre_partIfDue 175 = .ok (.aload 5, 2) := by decide +kernel
theorem d_Tre_partIfDue_177 : decode c_Tre_partIfDue 177 = .ok (.putfield 78, 3) := by decide +kernel
theorem d_Tre_partIfDue_180 : decode c_Tre_partIfDue 180 = .ok (.aload_n 0, 1) := by decide +kernel
theorem d_Tre_partIfDue_181 : decode c_Tre_partIfDue 181 = .ok (.dup, 1) := by decide +kernel
theorem d_Tre_partIfDue_182 : decode c_Tre_partIfDue 182 = .ok (.getfield 36, 3) := by decide +kernel
theorem d_Tre_partIfDue_185 : decode c_Tre_partIfDue 185 = .ok (.iconst 2, 1) := by decide +kernel
theorem d_Tre_partIfDue_186 : decode c_Tre_partIfDue 186 = .ok (.iadd, 1) := by decide +kernel
theorem d_Tre_partIfDue_187 : decode c_Tre_partIfDue 187 = .ok (.putfield 36, 3) := by decide +kernel
theorem d_Tre_partIfDue_190 : decode c_Tre_partIfDue 190 = .ok (.return_, 1) := by decide +kernel
theorem d_Sur_look_0 : decode c_Sur_look 0 = .ok (.iconst 0, 1) := by decide +kernel
theorem d_Sur_look_1 : decode c_Sur_look 1 = .ok (.istore_n 2, 1) := by decide +kernel
theorem d_Sur_look_2 : decode c_Sur_look 2 = .ok (.iconst 0, 1) := by decide +kernel
theorem d_Sur_look_3 : decode c_Sur_look 3 = .ok (.istore_n 3, 1) := by decide +kernel
theorem d_Sur_look_4 : decode c_Sur_look 4 = .ok (.iload_n 3, 1) := by decide +kernel
theorem d_Sur_look_5 : decode c_Sur_look 5 = .ok (.iconst 4, 1) := by decide +kernel
theorem d_Sur_look_6 : decode c_Sur_look 6 = .ok (.if_icmp .ge 86, 3) := by decide +kernel
theorem d_Sur_look_9 : decode c_Sur_look 9 = .ok (.iconst 0, 1) := by decide +kernel
theorem d_Sur_look_10 : decode c_Sur_look 10 = .ok (.istore 4, 2) := by decide +kernel
theorem d_Sur_look_12 : decode c_Sur_look 12 = .ok (.iload 4, 2) := by decide +kernel
theorem d_Sur_look_14 : decode c_Sur_look 14 = .ok (.bipush 100, 2) := by decide +kernel
theorem d_Sur_look_16 : decode c_Sur_look 16 = .ok (.if_icmp .gt 70, 3) := by decide +kernel
theorem d_Sur_look_19 : decode c_Sur_look 19 = .ok (.aload_n 0, 1) := by decide +kernel
theorem d_Sur_look_20 : decode c_Sur_look 20 = .ok (.getfield 21, 3) := by decide +kernel
theorem d_Sur_look_23 : decode c_Sur_look 23 = .ok (.iload_n 1, 1) := by decide +kernel
theorem d_Sur_look_24 : decode c_Sur_look 24 = .ok (.iload_n 3, 1) := by decide +kernel
theorem d_Sur_look_25 : decode c_Sur_look 25 = .ok (.iload 4, 2) := by decide +kernel
theorem d_Sur_look_27 : decode c_Sur_look 27 = .ok (.invokevirtual 29, 3) := by decide +kernel
theorem d_Sur_look_30 : decode c_Sur_look 30 = .ok (.ifCond .ne 6, 3) := by decide +kernel
theorem d_Sur_look_33 : decode c_Sur_look 33 = .ok (.goto 47, 3) := by decide +kernel
theorem d_Sur_look_36 : decode c_Sur_look 36 = .ok (.iconst 0, 1) := by decide +kernel
theorem d_Sur_look_37 : decode c_Sur_look 37 = .ok (.istore 5, 2) := by decide +kernel
theorem d_Sur_look_39 : decode c_Sur_look 39 = .ok (.iload 5, 2) := by decide +kernel
theorem d_Sur_look_41 : decode c_Sur_look 41 = .ok (.iconst 1, 1) := by decide +kernel
theorem d_Sur_look_42 : decode c_Sur_look 42 = .ok (.if_icmp .gt 38, 3) := by decide +kernel
theorem d_Sur_look_45 : decode c_Sur_look 45 = .ok (.aload_n 0, 1) := by decide +kernel
theorem d_Sur_look_46 : decode c_Sur_look 46 = .ok (.iload_n 1, 1) := by decide +kernel
theorem d_Sur_look_47 : decode c_Sur_look 47 = .ok (.iload_n 3, 1) := by decide +kernel
theorem d_Sur_look_48 : decode c_Sur_look 48 = .ok (.iload 4, 2) := by decide +kernel
theorem d_Sur_look_50 : decode c_Sur_look 50 = .ok (.iload 5, 2) := by decide +kernel
theorem d_Sur_look_52 : decode c_Sur_look 52 = .ok (.invokevirtual 35, 3) := by decide +kernel
theorem d_Sur_look_55 : decode c_Sur_look 55 = .ok (.ifCond .eq 19, 3) := by decide +kernel
theorem d_Sur_look_58 : decode c_Sur_look 58 = .ok (.aload_n 0, 1) := by decide +kernel
theorem d_Sur_look_59 : decode c_Sur_look 59 = .ok (.iload_n 2, 1) := by decide +kernel
theorem d_Sur_look_60 : decode c_Sur_look 60 = .ok (.ifCond .ne 7, 3) := by decide +kernel
theorem d_Sur_look_63 : decode c_Sur_look 63 = .ok (.iconst 1, 1) := by decide +kernel
theorem d_Sur_look_64 : decode c_Sur_look 64 = .ok (.goto 4, 3) := by decide +kernel
theorem d_Sur_look_67 : decode c_Sur_look 67 = .ok (.iconst 0, 1) := by decide +kernel
theorem d_Sur_look_68 : decode c_Sur_look 68 = .ok (.invokevirtual 39, 3) := by decide +kernel
theorem d_Sur_look_71 : decode c_Sur_look 71 = .ok (.iinc 2 1, 3) := by decide +kernel
theorem d_Sur_look_74 : decode c_Sur_look 74 = .ok (.iinc 5 1, 3) := by decide +kernel
theorem d_Sur_look_77 : decode c_Sur_look 77 = .ok (.goto (-38), 3) := by decide +kernel
theorem d_Sur_look_80 : decode c_Sur_look 80 = .ok (.iinc 4 1, 3) := by decide +kernel
theorem d_Sur_look_83 : decode c_Sur_look 83 = .ok (.goto (-71), 3) := by decide +kernel
theorem d_Sur_look_86 : decode c_Sur_look 86 = .ok (.iinc 3 1, 3) := by decide +kernel
theorem d_Sur_look_89 : decode c_Sur_look 89 = .ok (.goto (-85), 3) := by decide +kernel
theorem d_Sur_look_92 : decode c_Sur_look 92 = .ok (.iload_n 2, 1) := by decide +kernel
theorem d_Sur_look_93 : decode c_Sur_look 93 = .ok (.ireturn, 1) := by decide +kernel
theorem d_Sur_measure_0 : decode c_Sur_measure 0 = .ok (.iload 4, 2) := by decide +kernel
theorem d_Sur_measure_2 : decode c_Sur_measure 2 = .ok (.iconst 1, 1) := by decide +kernel
theorem d_Sur_measure_3 : decode c_Sur_measure 3 = .ok (.if_icmp .ne 17, 3) := by decide +kernel
theorem d_Sur_measure_6 : decode c_Sur_measure 6 = .ok (.aload_n 0, 1) := by decide +kernel
theorem d_Sur_measure_7 : decode c_Sur_measure 7 = .ok (.getfield 21, 3) := by decide +kernel
theorem d_Sur_measure_10 : decode c_Sur_measure 10 = .ok (.iload_n 1, 1) := by decide +kernel
theorem d_Sur_measure_11 : decode c_Sur_measure 11 = .ok (.iload_n 2, 1) := by decide +kernel
theorem d_Sur_measure_12 : decode c_Sur_measure 12 = .ok (.invokevirtual 57, 3) := by decide +kernel
theorem d_Sur_measure_15 : decode c_Sur_measure 15 = .ok (.ifCond .ne 5, 3) := by decide +kernel
theorem d_Sur_measure_18 : decode c_Sur_measure 18 = .ok (.iconst 0, 1) := by decide +kernel
theorem d_Sur_measure_19 : decode c_Sur_measure 19 = .ok (.ireturn, 1) := by decide +kernel
theorem d_Sur_measure_20 : decode c_Sur_measure 20 = .ok (.aload_n 0, 1) := by decide +kernel
theorem d_Sur_measure_21 : decode c_Sur_measure 21 = .ok (.getfield 21, 3) := by decide +kernel
theorem d_Sur_measure_24 : decode c_Sur_measure 24 = .ok (.iload_n 1, 1) := by decide +kernel
theorem d_Sur_measure_25 : decode c_Sur_measure 25 = .ok (.iload_n 2, 1) := by decide +kernel
theorem d_Sur_measure_26 : decode c_Sur_measure 26 = .ok (.iload_n 3, 1) := by decide +kernel
theorem d_Sur_measure_27 : decode c_Sur_measure 27 = .ok (.iload 4, 2) := by decide +kernel
theorem d_Sur_measure_29 : decode c_Sur_measure 29 = .ok (.invokevirtual 61, 3) := by decide +kernel
theorem d_Sur_measure_32 : decode c_Sur_measure 32 = .ok (.istore 5, 2) := by decide +kernel
theorem d_Sur_measure_34 : decode c_Sur_measure 34 = .ok (.iload_n 1, 1) := by decide +kernel
theorem d_Sur_measure_35 : decode c_Sur_measure 35 = .ok (.iload 5, 2) := by decide +kernel
theorem d_Sur_measure_37 : decode c_Sur_measure 37 = .ok (.iconst (-1), 1) := by decide +kernel
theorem d_Sur_measure_38 : decode c_Sur_measure 38 = .ok (.ixor, 1) := by decide +kernel
theorem d_Sur_measure_39 : decode c_Sur_measure 39 = .ok (.iand, 1) := by decide +kernel
theorem d_Sur_measure_40 : decode c_Sur_measure 40 = .ok (.istore 6, 2) := by decide +kernel
theorem d_Sur_measure_42 : decode c_Sur_measure 42 = .ok (.iload 5, 2) := by decide +kernel
theorem d_Sur_measure_44 : decode c_Sur_measure 44 = .ok (.invokestatic 65, 3) := by decide +kernel
theorem d_Sur_measure_47 : decode c_Sur_measure 47 = .ok (.istore 7, 2) := by decide +kernel
theorem d_Sur_measure_49 : decode c_Sur_measure 49 = .ok (.iload 6, 2) := by decide +kernel
theorem d_Sur_measure_51 : decode c_Sur_measure 51 = .ok (.invokestatic 65, 3) := by decide +kernel
theorem d_Sur_measure_54 : decode c_Sur_measure 54 = .ok (.istore 8, 2) := by decide +kernel
theorem d_Sur_measure_56 : decode c_Sur_measure 56 = .ok (.iload 7, 2) := by decide +kernel
theorem d_Sur_measure_58 : decode c_Sur_measure 58 = .ok (.aload_n 0, 1) := by decide +kernel
theorem d_Sur_measure_59 : decode c_Sur_measure 59 = .ok (.getfield 25, 3) := by decide +kernel
theorem d_Sur_measure_62 : decode c_Sur_measure 62 = .ok (.getfield 71, 3) := by decide +kernel
theorem d_Sur_measure_65 : decode c_Sur_measure 65 = .ok (.if_icmp .lt 15, 3) := by decide +kernel
theorem d_Sur_measure_68 : decode c_Sur_measure 68 = .ok (.iload 8, 2) := by decide +kernel
theorem d_Sur_measure_70 : decode c_Sur_measure 70 = .ok (.aload_n 0, 1) := by decide +kernel
theorem d_Sur_measure_71 : decode c_Sur_measure 71 = .ok (.getfield 25, 3) := by decide +kernel
theorem d_Sur_measure_74 : decode c_Sur_measure 74 = .ok (.getfield 71, 3) := by decide +kernel
theorem d_Sur_measure_77 : decode c_Sur_measure 77 = .ok (.if_icmp .ge 5, 3) := by decide +kernel
theorem d_Sur_measure_80 : decode c_Sur_measure 80 = .ok (.iconst 0, 1) := by decide +kernel
theorem d_Sur_measure_81 : decode c_Sur_measure 81 = .ok (.ireturn, 1) := by decide +kernel
theorem d_Sur_measure_82 : decode c_Sur_measure 82 = .ok (.iload 7, 2) := by decide +kernel
theorem d_Sur_measure_84 : decode c_Sur_measure 84 = .ok (.iload 8, 2) := by decide +kernel
theorem d_Sur_measure_86 : decode c_Sur_measure 86 = .ok (.iadd, 1) := by decide +kernel
theorem d_Sur_measure_87 : decode c_Sur_measure 87 = .ok (.istore 9, 2) := by decide +kernel
theorem d_Sur_measure_89 : decode c_Sur_measure 89 = .ok (.aload_n 0, 1) := by decide +kernel
theorem d_Sur_measure_90 : decode c_Sur_measure 90 = .ok (.getfield 21, 3) := by decide +kernel
theorem d_Sur_measure_93 : decode c_Sur_measure 93 = .ok (.iload 5, 2) := by decide +kernel
theorem d_Sur_measure_95 : decode c_Sur_measure 95 = .ok (.invokevirtual 77, 3) := by decide +kernel
theorem d_Sur_measure_98 : decode c_Sur_measure 98 = .ok (.iload 8, 2) := by decide +kernel
theorem d_Sur_measure_100 : decode c_Sur_measure 100 = .ok (.imul, 1) := by decide +kernel
theorem d_Sur_measure_101 : decode c_Sur_measure 101 = .ok (.aload_n 0, 1) := by decide +kernel
theorem d_Sur_measure_102 : decode c_Sur_measure 102 = .ok (.getfield 21, 3) := by decide +kernel
theorem d_Sur_measure_105 : decode c_Sur_measure 105 = .ok (.iload 6, 2) := by decide +kernel
theorem d_Sur_measure_107 : decode c_Sur_measure 107 = .ok (.invokevirtual 77, 3) := by decide +kernel
theorem d_Sur_measure_110 : decode c_Sur_measure 110 = .ok (.iload 7, 2) := by decide +kernel
theorem d_Sur_measure_112 : decode c_Sur_measure 112 = .ok (.imul, 1) := by decide +kernel
theorem d_Sur_measure_113 : decode c_Sur_measure 113 = .ok (.iadd, 1) := by decide +kernel
theorem d_Sur_measure_114 : decode c_Sur_measure 114 = .ok (.istore 10, 2) := by decide +kernel
theorem d_Sur_measure_116 : decode c_Sur_measure 116 = .ok (.aload_n 0, 1) := by decide +kernel
theorem d_Sur_measure_117 : decode c_Sur_measure 117 = .ok (.getfield 21, 3) := by decide +kernel
theorem d_Sur_measure_120 : decode c_Sur_measure 120 = .ok (.iload_n 1, 1) := by decide +kernel
theorem d_Sur_measure_121 : decode c_Sur_measure 121 = .ok (.invokevirtual 77, 3) := by decide +kernel
theorem d_Sur_measure_124 : decode c_Sur_measure 124 = .ok (.iload 7, 2) := by decide +kernel
theorem d_Sur_measure_126 : decode c_Sur_measure 126 = .ok (.imul, 1) := by decide +kernel
theorem d_Sur_measure_127 : decode c_Sur_measure 127 = .ok (.iload 8, 2) := by decide +kernel
theorem d_Sur_measure_129 : decode c_Sur_measure 129 = .ok (.imul, 1) := by decide +kernel
theorem d_Sur_measure_130 : decode c_Sur_measure 130 = .ok (.istore 11, 2) := by decide +kernel
theorem d_Sur_measure_132 : decode c_Sur_measure 132 = .ok (.aload_n 0, 1) := by decide +kernel
theorem d_Sur_measure_133 : decode c_Sur_measure 133 = .ok (.getfield 12, 3) := by decide +kernel
theorem d_Sur_measure_136 : decode c_Sur_measure 136 = .ok (.iload_n 2, 1) := by decide +kernel
theorem d_Sur_measure_137 : decode c_Sur_measure 137 = .ok (.iload_n 3, 1) := by decide +kernel
theorem d_Sur_measure_138 : decode c_Sur_measure 138 = .ok (.iload 4, 2) := by decide +kernel
theorem d_Sur_measure_140 : decode c_Sur_measure 140 = .ok (.invokevirtual 80, 3) := by decide +kernel
theorem d_Sur_measure_143 : decode c_Sur_measure 143 = .ok (.aload_n 0, 1) := by decide +kernel
theorem d_Sur_measure_144 : decode c_Sur_measure 144 = .ok (.getfield 12, 3) := by decide +kernel
theorem d_Sur_measure_147 : decode c_Sur_measure 147 = .ok (.getfield 43, 3) := by decide +kernel
theorem d_Sur_measure_150 : decode c_Sur_measure 150 = .ok (.iload 10, 2) := by decide +kernel
theorem d_Sur_measure_152 : decode c_Sur_measure 152 = .ok (.iload 9, 2) := by decide +kernel
theorem d_Sur_measure_154 : decode c_Sur_measure 154 = .ok (.imul, 1) := by decide +kernel
theorem d_Sur_measure_155 : decode c_Sur_measure 155 = .ok (.iload 11, 2) := by decide +kernel
theorem d_Sur_measure_157 : decode c_Sur_measure 157 = .ok (.isub, 1) := by decide +kernel
theorem d_Sur_measure_158 : decode c_Sur_measure 158 = .ok (.iload 7, 2) := by decide +kernel
theorem d_Sur_measure_160 : decode c_Sur_measure 160 = .ok (.iload 8, 2) := by decide +kernel
theorem d_Sur_measure_162 : decode c_Sur_measure 162 = .ok (.imul, 1) := by decide +kernel
theorem d_Sur_measure_163 : decode c_Sur_measure 163 = .ok (.iload 9, 2) := by decide +kernel
theorem d_Sur_measure_165 : decode c_Sur_measure 165 = .ok (.imul, 1) := by decide +kernel
theorem d_Sur_measure_166 : decode c_Sur_measure 166 = .ok (.invokevirtual 84, 3) := by decide +kernel
theorem d_Sur_measure_169 : decode c_Sur_measure 169 = .ok (.iconst 1, 1) := by decide +kernel
theorem d_Sur_measure_170 : decode c_Sur_measure 170 = .ok (.ireturn, 1) := by decide +kernel
theorem d_Cut_become_0 : decode c_Cut_become 0 = .ok (.aload_n 0, 1) := by decide +kernel
theorem d_Cut_become_1 : decode c_Cut_become 1 = .ok (.iload_n 1, 1) := by decide +kernel
theorem d_Cut_become_2 : decode c_Cut_become 2 = .ok (.putfield 16, 3) := by decide +kernel
theorem d_Cut_become_5 : decode c_Cut_become 5 = .ok (.aload_n 0, 1) := by decide +kernel
theorem d_Cut_become_6 : decode c_Cut_become 6 = .ok (.iload_n 2, 1) := by decide +kernel
theorem d_Cut_become_7 : decode c_Cut_become 7 = .ok (.putfield 20, 3) := by decide +kernel
theorem d_Cut_become_10 : decode c_Cut_become 10 = .ok (.aload_n 0, 1) := by decide +kernel
theorem d_Cut_become_11 : decode c_Cut_become 11 = .ok (.iload_n 3, 1) := by decide +kernel
theorem d_Cut_become_12 : decode c_Cut_become 12 = .ok (.putfield 23, 3) := by decide +kernel
theorem d_Cut_become_15 : decode c_Cut_become 15 = .ok (.return_, 1) := by decide +kernel
theorem d_Fra_become_0 : decode c_Fra_become 0 = .ok (.aload_n 0, 1) := by decide +kernel
theorem d_Fra_become_1 : decode c_Fra_become 1 = .ok (.iload_n 1, 1) := by decide +kernel
theorem d_Fra_become_2 : decode c_Fra_become 2 = .ok (.putfield 9, 3) := by decide +kernel
theorem d_Fra_become_5 : decode c_Fra_become 5 = .ok (.aload_n 0, 1) := by decide +kernel
theorem d_Fra_become_6 : decode c_Fra_become 6 = .ok (.iload_n 2, 1) := by decide +kernel
theorem d_Fra_become_7 : decode c_Fra_become 7 = .ok (.putfield 15, 3) := by decide +kernel
theorem d_Fra_become_10 : decode c_Fra_become 10 = .ok (.return_, 1) := by decide +kernel
theorem d_Sur_keepIfBetter_0 : decode c_Sur_keepIfBetter 0 = .ok (.iload_n 1, 1) := by decide +kernel
theorem d_Sur_keepIfBetter_1 : decode c_Sur_keepIfBetter 1 = .ok (.ifCond .ne 23, 3) := by decide +kernel
theorem d_Sur_keepIfBetter_4 : decode c_Sur_keepIfBetter 4 = .ok (.aload_n 0, 1) := by decide +kernel
theorem d_Sur_keepIfBetter_5 : decode c_Sur_keepIfBetter 5 = .ok (.getfield 12, 3) := by decide +kernel
theorem d_Sur_keepIfBetter_8 : decode c_Sur_keepIfBetter 8 = .ok (.getfield 43, 3) := by decide +kernel
theorem d_Sur_keepIfBetter_11 : decode c_Sur_keepIfBetter 11 = .ok (.aload_n 0, 1) := by decide +kernel
theorem d_Sur_keepIfBetter_12 : decode c_Sur_keepIfBetter 12 = .ok (.getfield 18, 3) := by decide +kernel
theorem d_Sur_keepIfBetter_15 : decode c_Sur_keepIfBetter 15 = .ok (.getfield 43, 3) := by decide +kernel
theorem d_Sur_keepIfBetter_18 : decode c_Sur_keepIfBetter 18 = .ok (.invokevirtual 47, 3) := by decide +kernel
theorem d_Sur_keepIfBetter_21 : decode c_Sur_keepIfBetter 21 = .ok (.ifCond .le 14, 3) := by decide +kernel
theorem d_Sur_keepIfBetter_24 : decode c_Sur_keepIfBetter 24 = .ok (.aload_n 0, 1) := by decide +kernel
theorem d_Sur_keepIfBetter_25 : decode c_Sur_keepIfBetter 25 = .ok (.getfield 18, 3) := by decide +kernel
theorem d_Sur_keepIfBetter_28 : decode c_Sur_keepIfBetter 28 = .ok (.aload_n 0, 1) := by decide +kernel
theorem d_Sur_keepIfBetter_29 : decode c_Sur_keepIfBetter 29 = .ok (.getfield 12, 3) := by decide +kernel
theorem d_Sur_keepIfBetter_32 : decode c_Sur_keepIfBetter 32 = .ok (.invokevirtual 53, 3) := by decide +kernel
theorem d_Sur_keepIfBetter_35 : decode c_Sur_keepIfBetter 35 = .ok (.return_, 1) := by decide +kernel
theorem d_Fra_compareWith_0 : decode c_Fra_compareWith 0 = .ok (.aload_n 0, 1) := by decide +kernel
theorem d_Fra_compareWith_1 : decode c_Fra_compareWith 1 = .ok (.getfield 9, 3) := by decide +kernel
theorem d_Fra_compareWith_4 : decode c_Fra_compareWith 4 = .ok (.i2l, 1) := by decide +kernel
theorem d_Fra_compareWith_5 : decode c_Fra_compareWith 5 = .ok (.aload_n 1, 1) := by decide +kernel
theorem d_Fra_compareWith_6 : decode c_Fra_compareWith 6 = .ok (.getfield 15, 3) := by decide +kernel
theorem d_Fra_compareWith_9 : decode c_Fra_compareWith 9 = .ok (.i2l, 1) := by decide +kernel
theorem d_Fra_compareWith_10 : decode c_Fra_compareWith 10 = .ok (.lmul, 1) := by decide +kernel
theorem d_Fra_compareWith_11 : decode c_Fra_compareWith 11 = .ok (.aload_n 1, 1) := by decide +kernel
theorem d_Fra_compareWith_12 : decode c_Fra_compareWith 12 = .ok (.getfield 9, 3) := by decide +kernel
theorem d_Fra_compareWith_15 : decode c_Fra_compareWith 15 = .ok (.i2l, 1) := by decide +kernel
theorem d_Fra_compareWith_16 : decode c_Fra_compareWith 16 = .ok (.aload_n 0, 1) := by decide +kernel
theorem d_Fra_compareWith_17 : decode c_Fra_compareWith 17 = .ok (.getfield 15, 3) := by decide +kernel
theorem d_Fra_compareWith_20 : decode c_Fra_compareWith 20 = .ok (.i2l, 1) := by decide +kernel
theorem d_Fra_compareWith_21 : decode c_Fra_compareWith 21 = .ok (.lmul, 1) := by decide +kernel
theorem d_Fra_compareWith_22 : decode c_Fra_compareWith 22 = .ok (.invokestatic 18, 3) := by decide +kernel
theorem d_Fra_compareWith_25 : decode c_Fra_compareWith 25 = .ok (.ireturn, 1) := by decide +kernel
theorem d_Lon_compare_0 : decode c_Lon_compare 0 = .ok (.lload_n 0, 1) := by decide +kernel
theorem d_Lon_compare_1 : decode c_Lon_compare 1 = .ok (.lload_n 2, 1) := by decide +kernel
theorem d_Lon_compare_2 : decode c_Lon_compare 2 = .ok (.lcmp, 1) := by decide +kernel
theorem d_Lon_compare_3 : decode c_Lon_compare 3 = .ok (.ifCond .ge 7, 3) := by decide +kernel
theorem d_Lon_compare_6 : decode c_Lon_compare 6 = .ok (.iconst (-1), 1) := by decide +kernel
theorem d_Lon_compare_7 : decode c_Lon_compare 7 = .ok (.goto 14, 3) := by decide +kernel
theorem d_Lon_compare_10 : decode c_Lon_compare 10 = .ok (.lload_n 0, 1) := by decide +kernel
theorem d_Lon_compare_11 : decode c_Lon_compare 11 = .ok (.lload_n 2, 1) := by decide +kernel
theorem d_Lon_compare_12 : decode c_Lon_compare 12 = .ok (.lcmp, 1) := by decide +kernel
theorem d_Lon_compare_13 : decode c_Lon_compare 13 = .ok (.ifCond .ne 7, 3) := by decide +kernel
theorem d_Lon_compare_16 : decode c_Lon_compare 16 = .ok (.iconst 0, 1) := by decide +kernel
theorem d_Lon_compare_17 : decode c_Lon_compare 17 = .ok (.goto 4, 3) := by decide +kernel
theorem d_Lon_compare_20 : decode c_Lon_compare 20 = .ok (.iconst 1, 1) := by decide +kernel
theorem d_Lon_compare_21 : decode c_Lon_compare 21 = .ok (.ireturn, 1) := by decide +kernel
theorem d_Cut_becomeAs_0 : decode c_Cut_becomeAs 0 = .ok (.aload_n 0, 1) := by decide +kernel
theorem d_Cut_becomeAs_1 : decode c_Cut_becomeAs 1 = .ok (.aload_n 1, 1) := by decide +kernel
theorem d_Cut_becomeAs_2 : decode c_Cut_becomeAs 2 = .ok (.getfield 16, 3) := by decide +kernel
theorem d_Cut_becomeAs_5 : decode c_Cut_becomeAs 5 = .ok (.aload_n 1, 1) := by decide +kernel
theorem d_Cut_becomeAs_6 : decode c_Cut_becomeAs 6 = .ok (.getfield 20, 3) := by decide +kernel
theorem d_Cut_becomeAs_9 : decode c_Cut_becomeAs 9 = .ok (.aload_n 1, 1) := by decide +kernel
theorem d_Cut_becomeAs_10 : decode c_Cut_becomeAs 10 = .ok (.getfield 23, 3) := by decide +kernel
theorem d_Cut_becomeAs_13 : decode c_Cut_becomeAs 13 = .ok (.invokevirtual 26, 3) := by decide +kernel
theorem d_Cut_becomeAs_16 : decode c_Cut_becomeAs 16 = .ok (.aload_n 0, 1) := by decide +kernel
theorem d_Cut_becomeAs_17 : decode c_Cut_becomeAs 17 = .ok (.getfield 10, 3) := by decide +kernel
theorem d_Cut_becomeAs_20 : decode c_Cut_becomeAs 20 = .ok (.aload_n 1, 1) := by decide +kernel
theorem d_Cut_becomeAs_21 : decode c_Cut_becomeAs 21 = .ok (.getfield 10, 3) := by decide +kernel
theorem d_Cut_becomeAs_24 : decode c_Cut_becomeAs 24 = .ok (.invokevirtual 30, 3) := by decide +kernel
theorem d_Cut_becomeAs_27 : decode c_Cut_becomeAs 27 = .ok (.return_, 1) := by decide +kernel
theorem d_Fra_becomeAs_0 : decode c_Fra_becomeAs 0 = .ok (.aload_n 0, 1) := by decide +kernel
theorem d_Fra_becomeAs_1 : decode c_Fra_becomeAs 1 = .ok (.aload_n 1, 1) := by decide +kernel
theorem d_Fra_becomeAs_2 : decode c_Fra_becomeAs 2 = .ok (.getfield 9, 3) := by decide +kernel
theorem d_Fra_becomeAs_5 : decode c_Fra_becomeAs 5 = .ok (.putfield 9, 3) := by decide +kernel
theorem d_Fra_becomeAs_8 : decode c_Fra_becomeAs 8 = .ok (.aload_n 0, 1) := by decide +kernel
theorem d_Fra_becomeAs_9 : decode c_Fra_becomeAs 9 = .ok (.aload_n 1, 1) := by decide +kernel
theorem d_Fra_becomeAs_10 : decode c_Fra_becomeAs 10 = .ok (.getfield 15, 3) := by decide +kernel
theorem d_Fra_becomeAs_13 : decode c_Fra_becomeAs 13 = .ok (.putfield 15, 3) := by decide +kernel
theorem d_Fra_becomeAs_16 : decode c_Fra_becomeAs 16 = .ok (.return_, 1) := by decide +kernel
theorem d_Fra_isAboveHundredths_0 : decode c_Fra_isAboveHundredths 0 = .ok (.ldc2_w 24, 3) := by decide +kernel
theorem d_Fra_isAboveHundredths_3 : decode c_Fra_isAboveHundredths 3 = .ok (.aload_n 0, 1) := by decide +kernel
theorem d_Fra_isAboveHundredths_4 : decode c_Fra_isAboveHundredths 4 = .ok (.getfield 9, 3) := by decide +kernel
theorem d_Fra_isAboveHundredths_7 : decode c_Fra_isAboveHundredths 7 = .ok (.i2l, 1) := by decide +kernel
theorem d_Fra_isAboveHundredths_8 : decode c_Fra_isAboveHundredths 8 = .ok (.lmul, 1) := by decide +kernel
theorem d_Fra_isAboveHundredths_9 : decode c_Fra_isAboveHundredths 9 = .ok (.iload_n 1, 1) := by decide +kernel
theorem d_Fra_isAboveHundredths_10 : decode c_Fra_isAboveHundredths 10 = .ok (.i2l, 1) := by decide +kernel
theorem d_Fra_isAboveHundredths_11 : decode c_Fra_isAboveHundredths 11 = .ok (.aload_n 0, 1) := by decide +kernel
theorem d_Fra_isAboveHundredths_12 : decode c_Fra_isAboveHundredths 12 = .ok (.getfield 15, 3) := by decide +kernel
theorem d_Fra_isAboveHundredths_15 : decode c_Fra_isAboveHundredths 15 = .ok (.i2l, 1) := by decide +kernel
theorem d_Fra_isAboveHundredths_16 : decode c_Fra_isAboveHundredths 16 = .ok (.lmul, 1) := by decide +kernel
theorem d_Fra_isAboveHundredths_17 : decode c_Fra_isAboveHundredths 17 = .ok (.lcmp, 1) := by decide +kernel
theorem d_Fra_isAboveHundredths_18 : decode c_Fra_isAboveHundredths 18 = .ok (.ifCond .le 7, 3) := by decide +kernel
theorem d_Fra_isAboveHundredths_21 : decode c_Fra_isAboveHundredths 21 = .ok (.iconst 1, 1) := by decide +kernel
theorem d_Fra_isAboveHundredths_22 : decode c_Fra_isAboveHundredths 22 = .ok (.goto 4, 3) := by decide +kernel
theorem d_Fra_isAboveHundredths_25 : decode c_Fra_isAboveHundredths 25 = .ok (.iconst 0, 1) := by decide +kernel
theorem d_Fra_isAboveHundredths_26 : decode c_Fra_isAboveHundredths 26 = .ok (.ireturn, 1) := by decide +kernel
theorem d_Pru_cutBackToRoot_0 : decode c_Pru_cutBackToRoot 0 = .ok (.iconst 0, 1) := by decide +kernel
theorem d_Pru_cutBackToRoot_1 : decode c_Pru_cutBackToRoot 1 = .ok (.istore_n 1, 1) := by decide +kernel
theorem d_Pru_cutBackToRoot_2 : decode c_Pru_cutBackToRoot 2 = .ok (.iload_n 1, 1) := by decide +kernel
theorem d_Pru_cutBackToRoot_3 : decode c_Pru_cutBackToRoot 3 = .ok (.aload_n 0, 1) := by decide +kernel
theorem d_Pru_cutBackToRoot_4 : decode c_Pru_cutBackToRoot 4 = .ok (.getfield 29, 3) := by decide +kernel
theorem d_Pru_cutBackToRoot_7 : decode c_Pru_cutBackToRoot 7 = .ok (.getfield 37, 3) := by decide +kernel
theorem d_Pru_cutBackToRoot_10 : decode c_Pru_cutBackToRoot 10 = .ok (.if_icmp .ge 26, 3) := by decide +kernel
theorem d_Pru_cutBackToRoot_13 : decode c_Pru_cutBackToRoot 13 = .ok (.aload_n 0, 1) := by decide +kernel
theorem d_Pru_cutBackToRoot_14 : decode c_Pru_cutBackToRoot 14 = .ok (.getfield 29, 3) := by decide +kernel
theorem d_Pru_cutBackToRoot_17 : decode c_Pru_cutBackToRoot 17 = .ok (.iload_n 1, 1) := by decide +kernel
theorem d_Pru_cutBackToRoot_18 : decode c_Pru_cutBackToRoot 18 = .ok (.invokevirtual 40, 3) := by decide +kernel
theorem d_Pru_cutBackToRoot_21 : decode c_Pru_cutBackToRoot 21 = .ok (.astore_n 2, 1) := by decide +kernel
theorem d_Pru_cutBackToRoot_22 : decode c_Pru_cutBackToRoot 22 = .ok (.aload_n 2, 1) := by decide +kernel
theorem d_Pru_cutBackToRoot_23 : decode c_Pru_cutBackToRoot 23 = .ok (.ifnull 7, 3) := by decide +kernel
theorem d_Pru_cutBackToRoot_26 : decode c_Pru_cutBackToRoot 26 = .ok (.aload_n 2, 1) := by decide +kernel
theorem d_Pru_cutBackToRoot_27 : decode c_Pru_cutBackToRoot 27 = .ok (.invokevirtual 44, 3) := by decide +kernel
theorem d_Pru_cutBackToRoot_30 : decode c_Pru_cutBackToRoot 30 = .ok (.iinc 1 1, 3) := by decide +kernel
theorem d_Pru_cutBackToRoot_33 : decode c_Pru_cutBackToRoot 33 = .ok (.goto (-31), 3) := by decide +kernel
theorem d_Pru_cutBackToRoot_36 : decode c_Pru_cutBackToRoot 36 = .ok (.aload_n 0, 1) := by decide +kernel
theorem d_Pru_cutBackToRoot_37 : decode c_Pru_cutBackToRoot 37 = .ok (.iconst 0, 1) := by decide +kernel
theorem d_Pru_cutBackToRoot_38 : decode c_Pru_cutBackToRoot 38 = .ok (.putfield 33, 3) := by decide +kernel
theorem d_Pru_cutBackToRoot_41 : decode c_Pru_cutBackToRoot 41 = .ok (.iconst 1, 1) := by decide +kernel
theorem d_Pru_cutBackToRoot_42 : decode c_Pru_cutBackToRoot 42 = .ok (.istore_n 1, 1) := by decide +kernel
theorem d_Pru_cutBackToRoot_43 : decode c_Pru_cutBackToRoot 43 = .ok (.iconst 0, 1) := by decide +kernel
theorem d_Pru_cutBackToRoot_44 : decode c_Pru_cutBackToRoot 44 = .ok (.istore_n 2, 1) := by decide +kernel
theorem d_Pru_cutBackToRoot_45 : decode c_Pru_cutBackToRoot 45 = .ok (.iload_n 2, 1) := by decide +kernel
theorem d_Pru_cutBackToRoot_46 : decode c_Pru_cutBackToRoot 46 = .ok (.bipush 24, 2) := by decide +kernel
theorem d_Pru_cutBackToRoot_48 : decode c_Pru_cutBackToRoot 48 = .ok (.if_icmp .ge 57, 3) := by decide +kernel
theorem d_Pru_cutBackToRoot_51 : decode c_Pru_cutBackToRoot 51 = .ok (.iload_n 1, 1) := by decide +kernel
theorem d_Pru_cutBackToRoot_52 : decode c_Pru_cutBackToRoot 52 = .ok (.ifCond .eq 53, 3) := by decide +kernel
theorem d_Pru_cutBackToRoot_55 : decode c_Pru_cutBackToRoot 55 = .ok (.aload_n 0, 1) := by decide +kernel
theorem d_Pru_cutBackToRoot_56 : decode c_Pru_cutBackToRoot 56 = .ok (.iload_n 2, 1) := by decide +kernel
theorem d_Pru_cutBackToRoot_57 : decode c_Pru_cutBackToRoot 57 = .ok (.invokevirtual 49, 3) := by decide +kernel
theorem d_Pru_cutBackToRoot_60 : decode c_Pru_cutBackToRoot 60 = .ok (.istore_n 1, 1) := by decide +kernel
theorem d_Pru_cutBackToRoot_61 : decode c_Pru_cutBackToRoot 61 = .ok (.iload_n 1, 1) := by decide +kernel
theorem d_Pru_cutBackToRoot_62 : decode c_Pru_cutBackToRoot 62 = .ok (.ifCond .eq 37, 3) := by decide +kernel
theorem d_Pru_cutBackToRoot_65 : decode c_Pru_cutBackToRoot 65 = .ok (.iload_n 2, 1) := by decide +kernel
theorem d_Pru_cutBackToRoot_66 : decode c_Pru_cutBackToRoot 66 = .ok (.iconst 1, 1) := by decide +kernel
theorem d_Pru_cutBackToRoot_67 : decode c_Pru_cutBackToRoot 67 = .ok (.iadd, 1) := by decide +kernel
theorem d_Pru_cutBackToRoot_68 : decode c_Pru_cutBackToRoot 68 = .ok (.bipush 24, 2) := by decide +kernel
theorem d_Pru_cutBackToRoot_70 : decode c_Pru_cutBackToRoot 70 = .ok (.if_icmp .ge 29, 3) := by decide +kernel
theorem d_Pru_cutBackToRoot_73 : decode c_Pru_cutBackToRoot 73 = .ok (.aload_n 0, 1) := by decide +kernel
theorem d_Pru_cutBackToRoot_74 : decode c_Pru_cutBackToRoot 74 = .ok (.iload_n 2, 1) := by decide +kernel
theorem d_Pru_cutBackToRoot_75 : decode c_Pru_cutBackToRoot 75 = .ok (.aload_n 0, 1) := by decide +kernel
theorem d_Pru_cutBackToRoot_76 : decode c_Pru_cutBackToRoot 76 = .ok (.getfield 11, 3) := by decide +kernel
theorem d_Pru_cutBackToRoot_79 : decode c_Pru_cutBackToRoot 79 = .ok (.iload_n 2, 1) := by decide +kernel
theorem d_Pru_cutBackToRoot_80 : decode c_Pru_cutBackToRoot 80 = .ok (.iconst 1, 1) := by decide +kernel
theorem d_Pru_cutBackToRoot_81 : decode c_Pru_cutBackToRoot 81 = .ok (.iadd, 1) := by decide +kernel
theorem d_Pru_cutBackToRoot_82 : decode c_Pru_cutBackToRoot 82 = .ok (.aaload, 1) := by decide +kernel
theorem d_Pru_cutBackToRoot_83 : decode c_Pru_cutBackToRoot 83 = .ok (.invokevirtual 53, 3) := by decide +kernel
theorem d_Pru_cutBackToRoot_86 : decode c_Pru_cutBackToRoot 86 = .ok (.aload_n 0, 1) := by decide +kernel
theorem d_Pru_cutBackToRoot_87 : decode c_Pru_cutBackToRoot 87 = .ok (.iload_n 2, 1) := by decide +kernel
theorem d_Pru_cutBackToRoot_88 : decode c_Pru_cutBackToRoot 88 = .ok (.aload_n 0, 1) := by decide +kernel
theorem d_Pru_cutBackToRoot_89 : decode c_Pru_cutBackToRoot 89 = .ok (.getfield 11, 3) := by decide +kernel
theorem d_Pru_cutBackToRoot_92 : decode c_Pru_cutBackToRoot 92 = .ok (.iload_n 2, 1) := by decide +kernel
theorem d_Pru_cutBackToRoot_93 : decode c_Pru_cutBackToRoot 93 = .ok (.iconst 1, 1) := by decide +kernel
theorem d_Pru_cutBackToRoot_94 : decode c_Pru_cutBackToRoot 94 = .ok (.iadd, 1) := by decide +kernel
theorem d_Pru_cutBackToRoot_95 : decode c_Pru_cutBackToRoot 95 = .ok (.aaload, 1) := by decide +kernel
theorem d_Pru_cutBackToRoot_96 : decode c_Pru_cutBackToRoot 96 = .ok (.invokevirtual 57, 3) := by decide +kernel
theorem d_Pru_cutBackToRoot_99 : decode c_Pru_cutBackToRoot 99 = .ok (.iinc 2 1, 3) := by decide +kernel
theorem d_Pru_cutBackToRoot_102 : decode c_Pru_cutBackToRoot 102 = .ok (.goto (-57), 3) := by decide +kernel
theorem d_Pru_cutBackToRoot_105 : decode c_Pru_cutBackToRoot 105 = .ok (.return_, 1) := by decide +kernel
theorem d_Tre_find_0 : decode c_Tre_find 0 = .ok (.iload_n 1, 1) := by decide +kernel
theorem d_Tre_find_1 : decode c_Tre_find 1 = .ok (.ifCond .lt 26, 3) := by decide +kernel
theorem d_Tre_find_4 : decode c_Tre_find 4 = .ok (.iload_n 1, 1) := by decide +kernel
theorem d_Tre_find_5 : decode c_Tre_find 5 = .ok (.aload_n 0, 1) := by decide +kernel
theorem d_Tre_find_6 : decode c_Tre_find 6 = .ok (.getfield 36, 3) := by decide +kernel
theorem d_Tre_find_9 : decode c_Tre_find 9 = .ok (.if_icmp .ge 18, 3) := by decide +kernel
theorem d_Tre_find_12 : decode c_Tre_find 12 = .ok (.iload_n 1, 1) := by decide +kernel
theorem d_Tre_find_13 : decode c_Tre_find 13 = .ok (.bipush 47, 2) := by decide +kernel
theorem d_Tre_find_15 : decode c_Tre_find 15 = .ok (.if_icmp .ge 12, 3) := by decide +kernel
theorem d_Tre_find_18 : decode c_Tre_find 18 = .ok (.aload_n 0, 1) := by decide +kernel
theorem d_Tre_find_19 : decode c_Tre_find 19 = .ok (.getfield 11, 3) := by decide +kernel
theorem d_Tre_find_22 : decode c_Tre_find 22 = .ok (.iload_n 1, 1) := by decide +kernel
theorem d_Tre_find_23 : decode c_Tre_find 23 = .ok (.aaload, 1) := by decide +kernel
theorem d_Tre_find_24 : decode c_Tre_find 24 = .ok (.goto 4, 3) := by decide +kernel
theorem d_Tre_find_27 : decode c_Tre_find 27 = .ok (.aconst_null, 1) := by decide +kernel
theorem d_Tre_find_28 : decode c_Tre_find 28 = .ok (.areturn, 1) := by decide +kernel
theorem d_Nod_beginStages_0 : decode c_Nod_beginStages 0 = .ok (.aload_n 0, 1) := by decide +kernel
theorem d_Nod_beginStages_1 : decode c_Nod_beginStages 1 = .ok (.aload_n 0, 1) := by decide +kernel
theorem d_Nod_beginStages_2 : decode c_Nod_beginStages 2 = .ok (.invokevirtual 60, 3) := by decide +kernel
theorem d_Nod_beginStages_5 : decode c_Nod_beginStages 5 = .ok (.ifCond .eq 7, 3) := by decide +kernel
theorem d_Nod_beginStages_8 : decode c_Nod_beginStages 8 = .ok (.iconst 0, 1) := by decide +kernel
theorem d_Nod_beginStages_9 : decode c_Nod_beginStages 9 = .ok (.goto 5, 3) := by decide +kernel
theorem d_Nod_beginStages_12 : decode c_Nod_beginStages 12 = .ok (.bipush 24, 2) := by decide +kernel
theorem d_Nod_beginStages_14 : decode c_Nod_beginStages 14 = .ok (.putfield 57, 3) := by decide +kernel
theorem d_Nod_beginStages_17 : decode c_Nod_beginStages 17 = .ok (.aload_n 0, 1) := by decide +kernel
theorem d_Nod_beginStages_18 : decode c_Nod_beginStages 18 = .ok (.bipush 24, 2) := by decide +kernel
theorem d_Nod_beginStages_20 : decode c_Nod_beginStages 20 = .ok (.putfield 54, 3) := by decide +kernel
theorem d_Nod_beginStages_23 : decode c_Nod_beginStages 23 = .ok (.return_, 1) := by decide +kernel
theorem d_Nod_isUnparted_0 : decode c_Nod_isUnparted 0 = .ok (.aload_n 0, 1) := by decide +kernel
theorem d_Nod_isUnparted_1 : decode c_Nod_isUnparted 1 = .ok (.getfield 22, 3) := by decide +kernel
theorem d_Nod_isUnparted_4 : decode c_Nod_isUnparted 4 = .ok (.ifnull 10, 3) := by decide +kernel
theorem d_Nod_isUnparted_7 : decode c_Nod_isUnparted 7 = .ok (.aload_n 0, 1) := by decide +kernel
theorem d_Nod_isUnparted_8 : decode c_Nod_isUnparted 8 = .ok (.getfield 26, 3) := by decide +kernel
theorem d_Nod_isUnparted_11 : decode c_Nod_isUnparted 11 = .ok (.ifnonnull 7, 3) := by decide +kernel
theorem d_Nod_isUnparted_14 : decode c_Nod_isUnparted 14 = .ok (.iconst 1, 1) := by decide +kernel
theorem d_Nod_isUnparted_15 : decode c_Nod_isUnparted 15 = .ok (.goto 4, 3) := by decide +kernel
theorem d_Nod_isUnparted_18 : decode c_Nod_isUnparted 18 = .ok (.iconst 0, 1) := by decide +kernel
theorem d_Nod_isUnparted_19 : decode c_Nod_isUnparted 19 = .ok (.ireturn, 1) := by decide +kernel
theorem d_Pru_recordStage_0 : decode c_Pru_recordStage 0 = .ok (.aload_n 0, 1) := by decide +kernel
theorem d_Pru_recordStage_1 : decode c_Pru_recordStage 1 = .ok (.getfield 29, 3) := by decide +kernel
theorem d_Pru_recordStage_4 : decode c_Pru_recordStage 4 = .ok (.getfield 37, 3) := by decide +kernel
theorem d_Pru_recordStage_7 : decode c_Pru_recordStage 7 = .ok (.iconst 1, 1) := by decide +kernel
theorem d_Pru_recordStage_8 : decode c_Pru_recordStage 8 = .ok (.isub, 1) := by decide +kernel
theorem d_Pru_recordStage_9 : decode c_Pru_recordStage 9 = .ok (.istore_n 2, 1) := by decide +kernel
theorem d_Pru_recordStage_10 : decode c_Pru_recordStage 10 = .ok (.iload_n 2, 1) := by decide +kernel
theorem d_Pru_recordStage_11 : decode c_Pru_recordStage 11 = .ok (.ifCond .lt 27, 3) := by decide +kernel
theorem d_Pru_recordStage_14 : decode c_Pru_recordStage 14 = .ok (.aload_n 0, 1) := by decide +kernel
theorem d_Pru_recordStage_15 : decode c_Pru_recordStage 15 = .ok (.getfield 29, 3) := by decide +kernel
theorem d_Pru_recordStage_18 : decode c_Pru_recordStage 18 = .ok (.iload_n 2, 1) := by decide +kernel
theorem d_Pru_recordStage_19 : decode c_Pru_recordStage 19 = .ok (.invokevirtual 40, 3) := by decide +kernel
theorem d_Pru_recordStage_22 : decode c_Pru_recordStage 22 = .ok (.astore_n 3, 1) := by decide +kernel
theorem d_Pru_recordStage_23 : decode c_Pru_recordStage 23 = .ok (.aload_n 3, 1) := by decide +kernel
theorem d_Pru_recordStage_24 : decode c_Pru_recordStage 24 = .ok (.ifnull 8, 3) := by decide +kernel
theorem d_Pru_recordStage_27 : decode c_Pru_recordStage 27 = .ok (.aload_n 3, 1) := by decide +kernel
theorem d_Pru_recordStage_28 : decode c_Pru_recordStage 28 = .ok (.iload_n 1, 1) := by decide +kernel
theorem d_Pru_recordStage_29 : decode c_Pru_recordStage 29 = .ok (.invokevirtual 60, 3) := by decide +kernel
theorem d_Pru_recordStage_32 : decode c_Pru_recordStage 32 = .ok (.iinc 2 (-1), 3) := by decide +kernel
theorem d_Pru_recordStage_35 : decode c_Pru_recordStage 35 = .ok (.goto (-25), 3) := by decide +kernel
theorem d_Pru_recordStage_38 : decode c_Pru_recordStage 38 = .ok (.aload_n 0, 1) := by decide +kernel
theorem d_Pru_recordStage_39 : decode c_Pru_recordStage 39 = .ok (.getfield 29, 3) := by decide +kernel
theorem d_Pru_recordStage_42 : decode c_Pru_recordStage 42 = .ok (.getfield 64, 3) := by decide +kernel
theorem d_Pru_recordStage_45 : decode c_Pru_recordStage 45 = .ok (.astore_n 2, 1) := by decide +kernel
theorem d_Pru_recordStage_46 : decode c_Pru_recordStage 46 = .ok (.aload_n 0, 1) := by decide +kernel
theorem d_Pru_recordStage_47 : decode c_Pru_recordStage 47 = .ok (.getfield 17, 3) := by decide +kernel
theorem d_Pru_recordStage_50 : decode c_Pru_recordStage 50 = .ok (.iload_n 1, 1) := by decide +kernel
theorem d_Pru_recordStage_51 : decode c_Pru_recordStage 51 = .ok (.aload_n 2, 1) := by decide +kernel
theorem d_Pru_recordStage_52 : decode c_Pru_recordStage 52 = .ok (.getfield 68, 3) := by decide +kernel
theorem d_Pru_recordStage_55 : decode c_Pru_recordStage 55 = .ok (.iastore, 1) := by decide +kernel
theorem d_Pru_recordStage_56 : decode c_Pru_recordStage 56 = .ok (.aload_n 0, 1) := by decide +kernel
theorem d_Pru_recordStage_57 : decode c_Pru_recordStage 57 = .ok (.getfield 21, 3) := by decide +kernel
theorem d_Pru_recordStage_60 : decode c_Pru_recordStage 60 = .ok (.iload_n 1, 1) := by decide +kernel
theorem d_Pru_recordStage_61 : decode c_Pru_recordStage 61 = .ok (.aload_n 2, 1) := by decide +kernel
theorem d_Pru_recordStage_62 : decode c_Pru_recordStage 62 = .ok (.getfield 71, 3) := by decide +kernel
theorem d_Pru_recordStage_65 : decode c_Pru_recordStage 65 = .ok (.iastore, 1) := by decide +kernel
theorem d_Pru_recordStage_66 : decode c_Pru_recordStage 66 = .ok (.aload_n 0, 1) := by decide +kernel
theorem d_Pru_recordStage_67 : decode c_Pru_recordStage 67 = .ok (.iload_n 1, 1) := by decide +kernel
theorem d_Pru_recordStage_68 : decode c_Pru_recordStage 68 = .ok (.iconst 1, 1) := by decide +kernel
theorem d_Pru_recordStage_69 : decode c_Pru_recordStage 69 = .ok (.iadd, 1) := by decide +kernel
theorem d_Pru_recordStage_70 : decode c_Pru_recordStage 70 = .ok (.putfield 33, 3) := by decide +kernel
theorem d_Pru_recordStage_73 : decode c_Pru_recordStage 73 = .ok (.aload_n 2, 1) := by decide +kernel
theorem d_Pru_recordStage_74 : decode c_Pru_recordStage 74 = .ok (.iload_n 1, 1) := by decide +kernel
theorem d_Pru_recordStage_75 : decode c_Pru_recordStage 75 = .ok (.invokevirtual 74, 3) := by decide +kernel
theorem d_Pru_recordStage_78 : decode c_Pru_recordStage 78 = .ok (.ifCond .ne 7, 3) := by decide +kernel
theorem d_Pru_recordStage_81 : decode c_Pru_recordStage 81 = .ok (.iconst 1, 1) := by decide +kernel
theorem d_Pru_recordStage_82 : decode c_Pru_recordStage 82 = .ok (.goto 4, 3) := by decide +kernel
theorem d_Pru_recordStage_85 : decode c_Pru_recordStage 85 = .ok (.iconst 0, 1) := by decide +kernel
theorem d_Pru_recordStage_86 : decode c_Pru_recordStage 86 = .ok (.ireturn, 1) := by decide +kernel
theorem d_Nod_sumUp_0 : decode c_Nod_sumUp 0 = .ok (.aload_n 0, 1) := by decide +kernel
theorem d_Nod_sumUp_1 : decode c_Nod_sumUp 1 = .ok (.getfield 22, 3) := by decide +kernel
theorem d_Nod_sumUp_4 : decode c_Nod_sumUp 4 = .ok (.ifnull 18, 3) := by decide +kernel
theorem d_Nod_sumUp_7 : decode c_Nod_sumUp 7 = .ok (.aload_n 0, 1) := by decide +kernel
theorem d_Nod_sumUp_8 : decode c_Nod_sumUp 8 = .ok (.getfield 26, 3) := by decide +kernel
theorem d_Nod_sumUp_11 : decode c_Nod_sumUp 11 = .ok (.ifnull 11, 3) := by decide +kernel
theorem d_Nod_sumUp_14 : decode c_Nod_sumUp 14 = .ok (.iload_n 1, 1) := by decide +kernel
theorem d_Nod_sumUp_15 : decode c_Nod_sumUp 15 = .ok (.aload_n 0, 1) := by decide +kernel
theorem d_Nod_sumUp_16 : decode c_Nod_sumUp 16 = .ok (.getfield 57, 3) := by decide +kernel
theorem d_Nod_sumUp_19 : decode c_Nod_sumUp 19 = .ok (.if_icmp .lt 19, 3) := by decide +kernel
theorem d_Nod_sumUp_22 : decode c_Nod_sumUp 22 = .ok (.aload_n 0, 1) := by decide +kernel
theorem d_Nod_sumUp_23 : decode c_Nod_sumUp 23 = .ok (.iconst 1, 1) := by decide +kernel
theorem d_Nod_sumUp_24 : decode c_Nod_sumUp 24 = .ok (.putfield 64, 3) := by decide +kernel
theorem d_Nod_sumUp_27 : decode c_Nod_sumUp 27 = .ok (.aload_n 0, 1) := by decide +kernel
theorem d_Nod_sumUp_28 : decode c_Nod_sumUp 28 = .ok (.aload_n 0, 1) := by decide +kernel
theorem d_Nod_sumUp_29 : decode c_Nod_sumUp 29 = .ok (.getfield 51, 3) := by decide +kernel
theorem d_Nod_sumUp_32 : decode c_Nod_sumUp 32 = .ok (.putfield 67, 3) := by decide +kernel
theorem d_Nod_sumUp_35 : decode c_Nod_sumUp 35 = .ok (.goto 41, 3) := by decide +kernel
theorem d_Nod_sumUp_38 : decode c_Nod_sumUp 38 = .ok (.aload_n 0, 1) := by decide +kernel
theorem d_Nod_sumUp_39 : decode c_Nod_sumUp 39 = .ok (.aload_n 0, 1) := by decide +kernel
theorem d_Nod_sumUp_40 : decode c_Nod_sumUp 40 = .ok (.getfield 22, 3) := by decide +kernel
theorem d_Nod_sumUp_43 : decode c_Nod_sumUp 43 = .ok (.getfield 64, 3) := by decide +kernel
theorem d_Nod_sumUp_46 : decode c_Nod_sumUp 46 = .ok (.aload_n 0, 1) := by decide +kernel
theorem d_Nod_sumUp_47 : decode c_Nod_sumUp 47 = .ok (.getfield 26, 3) := by decide +kernel
theorem d_Nod_sumUp_50 : decode c_Nod_sumUp 50 = .ok (.getfield 64, 3) := by decide +kernel
theorem d_Nod_sumUp_53 : decode c_Nod_sumUp 53 = .ok (.iadd, 1) := by decide +kernel
theorem d_Nod_sumUp_54 : decode c_Nod_sumUp 54 = .ok (.putfield 64, 3) := by decide +kernel
theorem d_Nod_sumUp_57 : decode c_Nod_sumUp 57 = .ok (.aload_n 0, 1) := by decide +kernel
theorem d_Nod_sumUp_58 : decode c_Nod_sumUp 58 = .ok (.aload_n 0, 1) := by decide +kernel
theorem d_Nod_sumUp_59 : decode c_Nod_sumUp 59 = .ok (.getfield 22, 3) := by decide +kernel
theorem d_Nod_sumUp_62 : decode c_Nod_sumUp 62 = .ok (.getfield 67, 3) := by decide +kernel
theorem d_Nod_sumUp_65 : decode c_Nod_sumUp 65 = .ok (.aload_n 0, 1) := by decide +kernel
theorem d_Nod_sumUp_66 : decode c_Nod_sumUp 66 = .ok (.getfield 26, 3) := by decide +kernel
theorem d_Nod_sumUp_69 : decode c_Nod_sumUp 69 = .ok (.getfield 67, 3) := by decide +kernel
theorem d_Nod_sumUp_72 : decode c_Nod_sumUp 72 = .ok (.iadd, 1) := by decide +kernel
theorem d_Nod_sumUp_73 : decode c_Nod_sumUp 73 = .ok (.putfield 67, 3) := by decide +kernel
theorem d_Nod_sumUp_76 : decode c_Nod_sumUp 76 = .ok (.return_, 1) := by decide +kernel
theorem d_Nod_stateAt_0 : decode c_Nod_stateAt 0 = .ok (.iload_n 1, 1) := by decide +kernel
theorem d_Nod_stateAt_1 : decode c_Nod_stateAt 1 = .ok (.aload_n 0, 1) := by decide +kernel
theorem d_Nod_stateAt_2 : decode c_Nod_stateAt 2 = .ok (.getfield 54, 3) := by decide +kernel
theorem d_Nod_stateAt_5 : decode c_Nod_stateAt 5 = .ok (.if_icmp .lt 5, 3) := by decide +kernel
theorem d_Nod_stateAt_8 : decode c_Nod_stateAt 8 = .ok (.iconst 2, 1) := by decide +kernel
theorem d_Nod_stateAt_9 : decode c_Nod_stateAt 9 = .ok (.ireturn, 1) := by decide +kernel
theorem d_Nod_stateAt_10 : decode c_Nod_stateAt 10 = .ok (.iload_n 1, 1) := by decide +kernel
theorem d_Nod_stateAt_11 : decode c_Nod_stateAt 11 = .ok (.aload_n 0, 1) := by decide +kernel
theorem d_Nod_stateAt_12 : decode c_Nod_stateAt 12 = .ok (.getfield 57, 3) := by decide +kernel
theorem d_Nod_stateAt_15 : decode c_Nod_stateAt 15 = .ok (.if_icmp .lt 7, 3) := by decide +kernel
theorem d_Nod_stateAt_18 : decode c_Nod_stateAt 18 = .ok (.iconst 1, 1) := by decide +kernel
theorem d_Nod_stateAt_19 : decode c_Nod_stateAt 19 = .ok (.goto 4, 3) := by decide +kernel
theorem d_Nod_stateAt_22 : decode c_Nod_stateAt 22 = .ok (.iconst 0, 1) := by decide +kernel
theorem d_Nod_stateAt_23 : decode c_Nod_stateAt 23 = .ok (.ireturn, 1) := by decide +kernel
theorem d_Pru_findAlpha_0 : decode c_Pru_findAlpha 0 = .ok (.iconst 1, 1) := by decide +kernel
theorem d_Pru_findAlpha_1 : decode c_Pru_findAlpha 1 = .ok (.istore_n 3, 1) := by decide +kernel
theorem d_Pru_findAlpha_2 : decode c_Pru_findAlpha 2 = .ok (.iconst 0, 1) := by decide +kernel
theorem d_Pru_findAlpha_3 : decode c_Pru_findAlpha 3 = .ok (.istore 4, 2) := by decide +kernel
theorem d_Pru_findAlpha_5 : decode c_Pru_findAlpha 5 = .ok (.iload 4, 2) := by decide +kernel
theorem d_Pru_findAlpha_7 : decode c_Pru_findAlpha 7 = .ok (.aload_n 0, 1) := by decide +kernel
theorem d_Pru_findAlpha_8 : decode c_Pru_findAlpha 8 = .ok (.getfield 29, 3) := by decide +kernel
theorem d_Pru_findAlpha_11 : decode c_Pru_findAlpha 11 = .ok (.getfield 37, 3) := by decide +kernel
theorem d_Pru_findAlpha_14 : decode c_Pru_findAlpha 14 = .ok (.if_icmp .ge 65, 3) := by decide +kernel
theorem d_Pru_findAlpha_17 : decode c_Pru_findAlpha 17 = .ok (.aload_n 0, 1) := by decide +kernel
theorem d_Pru_findAlpha_18 : decode c_Pru_findAlpha 18 = .ok (.getfield 29, 3) := by decide +kernel
theorem d_Pru_findAlpha_21 : decode c_Pru_findAlpha 21 = .ok (.iload 4, 2) := by decide +kernel
theorem d_Pru_findAlpha_23 : decode c_Pru_findAlpha 23 = .ok (.invokevirtual 40, 3) := by decide +kernel
theorem d_Pru_findAlpha_26 : decode c_Pru_findAlpha 26 = .ok (.astore 5, 2) := by decide +kernel
theorem d_Pru_findAlpha_28 : decode c_Pru_findAlpha 28 = .ok (.aload 5, 2) := by decide +kernel
theorem d_Pru_findAlpha_30 : decode c_Pru_findAlpha 30 = .ok (.ifnull 43, 3) := by decide +kernel
theorem d_Pru_findAlpha_33 : decode c_Pru_findAlpha 33 = .ok (.aload 5, 2) := by decide +kernel
theorem d_Pru_findAlpha_35 : decode c_Pru_findAlpha 35 = .ok (.iload_n 1, 1) := by decide +kernel
theorem d_Pru_findAlpha_36 : decode c_Pru_findAlpha 36 = .ok (.invokevirtual 74, 3) := by decide +kernel
theorem d_Pru_findAlpha_39 : decode c_Pru_findAlpha 39 = .ok (.ifCond .ne 34, 3) := by decide +kernel
theorem d_Pru_findAlpha_42 : decode c_Pru_findAlpha 42 = .ok (.aload_n 0, 1) := by decide +kernel
theorem d_Pru_findAlpha_43 : decode c_Pru_findAlpha 43 = .ok (.aload 5, 2) := by decide +kernel
theorem d_Pru_findAlpha_45 : decode c_Pru_findAlpha 45 = .ok (.invokevirtual 78, 3) := by decide +kernel
theorem d_Pru_findAlpha_48 : decode c_Pru_findAlpha 48 = .ok (.iload_n 3, 1) := by decide +kernel
theorem d_Pru_findAlpha_49 : decode c_Pru_findAlpha 49 = .ok (.ifCond .ne 14, 3) := by decide +kernel
theorem d_Pru_findAlpha_52 : decode c_Pru_findAlpha 52 = .ok (.aload_n 0, 1) := by decide +kernel
theorem d_Pru_findAlpha_53 : decode c_Pru_findAlpha 53 = .ok (.getfield 25, 3) := by decide +kernel
theorem d_Pru_findAlpha_56 : decode c_Pru_findAlpha 56 = .ok (.aload_n 2, 1) := by decide +kernel
theorem d_Pru_findAlpha_57 : decode c_Pru_findAlpha 57 = .ok (.invokevirtual 82, 3) := by decide +kernel
theorem d_Pru_findAlpha_60 : decode c_Pru_findAlpha 60 = .ok (.ifCond .ge 11, 3) := by decide +kernel
theorem d_Pru_findAlpha_63 : decode c_Pru_findAlpha 63 = .ok (.aload_n 2, 1) := by decide +kernel
theorem d_Pru_findAlpha_64 : decode c_Pru_findAlpha 64 = .ok (.aload_n 0, 1) := by decide +kernel
theorem d_Pru_findAlpha_65 : decode c_Pru_findAlpha 65 = .ok (.getfield 25, 3) := by decide +kernel
theorem d_Pru_findAlpha_68 : decode c_Pru_findAlpha 68 = .ok (.invokevirtual 86, 3) := by decide +kernel
theorem d_Pru_findAlpha_71 : decode c_Pru_findAlpha 71 = .ok (.iconst 0, 1) := by decide +kernel
theorem d_Pru_findAlpha_72 : decode c_Pru_findAlpha 72 = .ok (.istore_n 3, 1) := by decide +kernel
theorem d_Pru_findAlpha_73 : decode c_Pru_findAlpha 73 = .ok (.iinc 4 1, 3) := by decide +kernel
theorem d_Pru_findAlpha_76 : decode c_Pru_findAlpha 76 = .ok (.goto (-71), 3) := by decide +kernel
theorem d_Pru_findAlpha_79 : decode c_Pru_findAlpha 79 = .ok (.return_, 1) := by decide +kernel
theorem d_Pru_weigh_0 : decode c_Pru_weigh 0 = .ok (.aload_n 0, 1) := by decide +kernel
theorem d_Pru_weigh_1 : decode c_Pru_weigh 1 = .ok (.getfield 25, 3) := by decide +kernel
theorem d_Pru_weigh_4 : decode c_Pru_weigh 4 = .ok (.aload_n 1, 1) := by decide +kernel
theorem d_Pru_weigh_5 : decode c_Pru_weigh 5 = .ok (.getfield 96, 3) := by decide +kernel
theorem d_Pru_weigh_8 : decode c_Pru_weigh 8 = .ok (.aload_n 1, 1) := by decide +kernel
theorem d_Pru_weigh_9 : decode c_Pru_weigh 9 = .ok (.getfield 71, 3) := by decide +kernel
theorem d_Pru_weigh_12 : decode c_Pru_weigh 12 = .ok (.isub, 1) := by decide +kernel
theorem d_Pru_weigh_13 : decode c_Pru_weigh 13 = .ok (.aload_n 1, 1) := by decide +kernel
theorem d_Pru_weigh_14 : decode c_Pru_weigh 14 = .ok (.getfield 68, 3) := by decide +kernel
theorem d_Pru_weigh_17 : decode c_Pru_weigh 17 = .ok (.iconst 1, 1) := by decide +kernel
theorem d_Pru_weigh_18 : decode c_Pru_weigh 18 = .ok (.isub, 1) := by decide +kernel
theorem d_Pru_weigh_19 : decode c_Pru_weigh 19 = .ok (.invokevirtual 99, 3) := by decide +kernel
theorem d_Pru_weigh_22 : decode c_Pru_weigh 22 = .ok (.return_, 1) := by decide +kernel
theorem d_Pru_cutBack_0 : decode c_Pru_cutBack 0 = .ok (.iconst 0, 1) := by decide +kernel
theorem d_Pru_cutBack_1 : decode c_Pru_cutBack 1 = .ok (.istore_n 3, 1) := by decide +kernel
theorem d_Pru_cutBack_2 : decode c_Pru_cutBack 2 = .ok (.iload_n 3, 1) := by decide +kernel
theorem d_Pru_cutBack_3 : decode c_Pru_cutBack 3 = .ok (.aload_n 0, 1) := by decide +kernel
theorem d_Pru_cutBack_4 : decode c_Pru_cutBack 4 = .ok (.getfield 29, 3) := by decide +kernel
theorem d_Pru_cutBack_7 : decode c_Pru_cutBack 7 = .ok (.getfield 37, 3) := by decide +kernel
theorem d_Pru_cutBack_10 : decode c_Pru_cutBack 10 = .ok (.if_icmp .ge 80, 3) := by decide +kernel
theorem d_Pru_cutBack_13 : decode c_Pru_cutBack 13 = .ok (.aload_n 0, 1) := by decide +kernel
theorem d_Pru_cutBack_14 : decode c_Pru_cutBack 14 = .ok (.getfield 29, 3) := by decide +kernel
theorem d_Pru_cutBack_17 : decode c_Pru_cutBack 17 = .ok (.iload_n 3, 1) := by decide +kernel
theorem d_Pru_cutBack_18 : decode c_Pru_cutBack 18 = .ok (.invokevirtual 40, 3) := by decide +kernel
theorem d_Pru_cutBack_21 : decode c_Pru_cutBack 21 = .ok (.astore 4, 2) := by decide +kernel
theorem d_Pru_cutBack_23 : decode c_Pru_cutBack 23 = .ok (.aload 4, 2) := by decide +kernel
theorem d_Pru_cutBack_25 : decode c_Pru_cutBack 25 = .ok (.ifnonnull 6, 3) := by decide +kernel
theorem d_Pru_cutBack_28 : decode c_Pru_cutBack 28 = .ok (.goto 56, 3) := by decide +kernel
theorem d_Pru_cutBack_31 : decode c_Pru_cutBack 31 = .ok (.aload 4, 2) := by decide +kernel
theorem d_Pru_cutBack_33 : decode c_Pru_cutBack 33 = .ok (.iload_n 1, 1) := by decide +kernel
theorem d_Pru_cutBack_34 : decode c_Pru_cutBack 34 = .ok (.invokevirtual 74, 3) := by decide +kernel
theorem d_Pru_cutBack_37 : decode c_Pru_cutBack 37 = .ok (.ifCond .ne 28, 3) := by decide +kernel
theorem d_Pru_cutBack_40 : decode c_Pru_cutBack 40 = .ok (.aload_n 0, 1) := by decide +kernel
theorem d_Pru_cutBack_41 : decode c_Pru_cutBack 41 = .ok (.aload 4, 2) := by decide +kernel
theorem d_Pru_cutBack_43 : decode c_Pru_cutBack 43 = .ok (.invokevirtual 78, 3) := by decide +kernel
theorem d_Pru_cutBack_46 : decode c_Pru_cutBack 46 = .ok (.aload_n 0, 1) := by decide +kernel
theorem d_Pru_cutBack_47 : decode c_Pru_cutBack 47 = .ok (.getfield 25, 3) := by decide +kernel
theorem d_Pru_cutBack_50 : decode c_Pru_cutBack 50 = .ok (.aload_n 2, 1) := by decide +kernel
theorem d_Pru_cutBack_51 : decode c_Pru_cutBack 51 = .ok (.invokevirtual 82, 3) := by decide +kernel
theorem d_Pru_cutBack_54 : decode c_Pru_cutBack 54 = .ok (.ifCond .ne 11, 3) := by decide +kernel
theorem d_Pru_cutBack_57 : decode c_Pru_cutBack 57 = .ok (.aload 4, 2) := by decide +kernel
theorem d_Pru_cutBack_59 : decode c_Pru_cutBack 59 = .ok (.iload_n 1, 1) := by decide +kernel
theorem d_Pru_cutBack_60 : decode c_Pru_cutBack 60 = .ok (.iconst 1, 1) := by decide +kernel
theorem d_Pru_cutBack_61 : decode c_Pru_cutBack 61 = .ok (.iadd, 1) := by decide +kernel
theorem d_Pru_cutBack_62 : decode c_Pru_cutBack 62 = .ok (.putfield 90, 3) := by decide +kernel
theorem d_Pru_cutBack_65 : decode c_Pru_cutBack 65 = .ok (.aload 4, 2) := by decide +kernel
theorem d_Pru_cutBack_67 : decode c_Pru_cutBack 67 = .ok (.iload_n 1, 1) := by decide +kernel
theorem d_Pru_cutBack_68 : decode c_Pru_cutBack 68 = .ok (.iconst 1, 1) := by decide +kernel
theorem d_Pru_cutBack_69 : decode c_Pru_cutBack 69 = .ok (.iadd, 1) := by decide +kernel
theorem d_Pru_cutBack_70 : decode c_Pru_cutBack 70 = .ok (.invokevirtual 74, 3) := by decide +kernel
theorem d_Pru_cutBack_73 : decode c_Pru_cutBack 73 = .ok (.ifCond .eq 11, 3) := by decide +kernel
theorem d_Pru_cutBack_76 : decode c_Pru_cutBack 76 = .ok (.aload 4, 2) := by decide +kernel
theorem d_Pru_cutBack_78 : decode c_Pru_cutBack 78 = .ok (.iload_n 1, 1) := by decide +kernel
theorem d_Pru_cutBack_79 : decode c_Pru_cutBack 79 = .ok (.iconst 1, 1) := by decide +kernel
theorem d_Pru_cutBack_80 : decode c_Pru_cutBack 80 = .ok (.iadd, 1) := by decide +kernel
theorem d_Pru_cutBack_81 : decode c_Pru_cutBack 81 = .ok (.invokevirtual 93, 3) := by decide +kernel
theorem d_Pru_cutBack_84 : decode c_Pru_cutBack 84 = .ok (.iinc 3 1, 3) := by decide +kernel
theorem d_Pru_cutBack_87 : decode c_Pru_cutBack 87 = .ok (.goto (-85), 3) := by decide +kernel
theorem d_Pru_cutBack_90 : decode c_Pru_cutBack 90 = .ok (.return_, 1) := by decide +kernel
theorem d_Nod_loseThoseBelow_0 : decode c_Nod_loseThoseBelow 0 = .ok (.aload_n 0, 1) := by decide +kernel
theorem d_Nod_loseThoseBelow_1 : decode c_Nod_loseThoseBelow 1 = .ok (.getfield 22, 3) := by decide +kernel
theorem d_Nod_loseThoseBelow_4 : decode c_Nod_loseThoseBelow 4 = .ok (.ifnull 46, 3) := by decide +kernel
theorem d_Nod_loseThoseBelow_7 : decode c_Nod_loseThoseBelow 7 = .ok (.aload_n 0, 1) := by decide +kernel
theorem d_Nod_loseThoseBelow_8 : decode c_Nod_loseThoseBelow 8 = .ok (.getfield 26, 3) := by decide +kernel
theorem d_Nod_loseThoseBelow_11 : decode c_Nod_loseThoseBelow 11 = .ok (.ifnull 39, 3) := by decide +kernel
theorem d_Nod_loseThoseBelow_14 : decode c_Nod_loseThoseBelow 14 = .ok (.aload_n 0, 1) := by decide +kernel
theorem d_Nod_loseThoseBelow_15 : decode c_Nod_loseThoseBelow 15 = .ok (.getfield 22, 3) := by decide +kernel
theorem d_Nod_loseThoseBelow_18 : decode c_Nod_loseThoseBelow 18 = .ok (.aload_n 0, 1) := by decide +kernel
theorem d_Nod_loseThoseBelow_19 : decode c_Nod_loseThoseBelow 19 = .ok (.getfield 22, 3) := by decide +kernel
theorem d_Nod_loseThoseBelow_22 : decode c_Nod_loseThoseBelow 22 = .ok (.getfield 54, 3) := by decide +kernel
theorem d_Nod_loseThoseBelow_25 : decode c_Nod_loseThoseBelow 25 = .ok (.iload_n 1, 1) := by decide +kernel
theorem d_Nod_loseThoseBelow_26 : decode c_Nod_loseThoseBelow 26 = .ok (.invokestatic 70, 3) := by decide +kernel
theorem d_Nod_loseThoseBelow_29 : decode c_Nod_loseThoseBelow 29 = .ok (.putfield 54, 3) := by decide +kernel
theorem d_Nod_loseThoseBelow_32 : decode c_Nod_loseThoseBelow 32 = .ok (.aload_n 0, 1) := by decide +kernel
theorem d_Nod_loseThoseBelow_33 : decode c_Nod_loseThoseBelow 33 = .ok (.getfield 26, 3) := by decide +kernel
theorem d_Nod_loseThoseBelow_36 : decode c_Nod_loseThoseBelow 36 = .ok (.aload_n 0, 1) := by decide +kernel
theorem d_Nod_loseThoseBelow_37 : decode c_Nod_loseThoseBelow 37 = .ok (.getfield 26, 3) := by decide +kernel
theorem d_Nod_loseThoseBelow_40 : decode c_Nod_loseThoseBelow 40 = .ok (.getfield 54, 3) := by decide +kernel
theorem d_Nod_loseThoseBelow_43 : decode c_Nod_loseThoseBelow 43 = .ok (.iload_n 1, 1) := by decide +kernel
theorem d_Nod_loseThoseBelow_44 : decode c_Nod_loseThoseBelow 44 = .ok (.invokestatic 70, 3) := by decide +kernel
theorem d_Nod_loseThoseBelow_47 : decode c_Nod_loseThoseBelow 47 = .ok (.putfield 54, 3) := by decide +kernel
theorem d_Nod_loseThoseBelow_50 : decode c_Nod_loseThoseBelow 50 = .ok (.return_, 1) := by decide +kernel
theorem d_Mat_min_0 : decode c_Mat_min 0 = .ok (.iload_n 0, 1) := by decide +kernel
theorem d_Mat_min_1 : decode c_Mat_min 1 = .ok (.iload_n 1, 1) := by decide +kernel
theorem d_Mat_min_2 : decode c_Mat_min 2 = .ok (.if_icmp .gt 7, 3) := by decide +kernel
theorem d_Mat_min_5 : decode c_Mat_min 5 = .ok (.iload_n 0, 1) := by decide +kernel
theorem d_Mat_min_6 : decode c_Mat_min 6 = .ok (.goto 4, 3) := by decide +kernel
theorem d_Mat_min_9 : decode c_Mat_min 9 = .ok (.iload_n 1, 1) := by decide +kernel
theorem d_Mat_min_10 : decode c_Mat_min 10 = .ok (.ireturn, 1) := by decide +kernel
theorem d_Nod_cutDetail_0 : decode c_Nod_cutDetail 0 = .ok (.aload_n 0, 1) := by decide +kernel
theorem d_Nod_cutDetail_1 : decode c_Nod_cutDetail 1 = .ok (.getfield 22, 3) := by decide +kernel
theorem d_Nod_cutDetail_4 : decode c_Nod_cutDetail 4 = .ok (.ifnull 10, 3) := by decide +kernel
theorem d_Nod_cutDetail_7 : decode c_Nod_cutDetail 7 = .ok (.aload_n 0, 1) := by decide +kernel
theorem d_Nod_cutDetail_8 : decode c_Nod_cutDetail 8 = .ok (.getfield 26, 3) := by decide +kernel
theorem d_Nod_cutDetail_11 : decode c_Nod_cutDetail 11 = .ok (.ifnonnull 6, 3) := by decide +kernel
theorem d_Nod_cutDetail_14 : decode c_Nod_cutDetail 14 = .ok (.bipush (-3), 2) := by decide +kernel
theorem d_Nod_cutDetail_16 : decode c_Nod_cutDetail 16 = .ok (.ireturn, 1) := by decide +kernel
theorem d_Nod_cutDetail_17 : decode c_Nod_cutDetail 17 = .ok (.iload_n 1, 1) := by decide +kernel
theorem d_Nod_cutDetail_18 : decode c_Nod_cutDetail 18 = .ok (.tableswitch 62 0 3 #[30, 38, 46, 54], 30) := by decide +kernel
theorem d_Nod_cutDetail_48 : decode c_Nod_cutDetail 48 = .ok (.aload_n 0, 1) := by decide +kernel
theorem d_Nod_cutDetail_49 : decode c_Nod_cutDetail 49 = .ok (.getfield 12, 3) := by decide +kernel
theorem d_Nod_cutDetail_52 : decode c_Nod_cutDetail 52 = .ok (.getfield 29, 3) := by decide +kernel
theorem d_Nod_cutDetail_55 : decode c_Nod_cutDetail 55 = .ok (.ireturn, 1) := by decide +kernel
theorem d_Nod_cutDetail_56 : decode c_Nod_cutDetail 56 = .ok (.aload_n 0, 1) := by decide +kernel
theorem d_Nod_cutDetail_57 : decode c_Nod_cutDetail 57 = .ok (.getfield 12, 3) := by decide +kernel
theorem d_Nod_cutDetail_60 : decode c_Nod_cutDetail 60 = .ok (.getfield 32, 3) := by decide +kernel
theorem d_Nod_cutDetail_63 : decode c_Nod_cutDetail 63 = .ok (.ireturn, 1) := by decide +kernel
theorem d_Nod_cutDetail_64 : decode c_Nod_cutDetail 64 = .ok (.aload_n 0, 1) := by decide +kernel
theorem d_Nod_cutDetail_65 : decode c_Nod_cutDetail 65 = .ok (.getfield 12, 3) := by decide +kernel
theorem d_Nod_cutDetail_68 : decode c_Nod_cutDetail 68 = .ok (.getfield 33, 3) := by decide +kernel
theorem d_Nod_cutDetail_71 : decode c_Nod_cutDetail 71 = .ok (.ireturn, 1) := by decide +kernel
theorem d_Nod_cutDetail_72 : decode c_Nod_cutDetail 72 = .ok (.aload_n 0, 1) := by decide +kernel
theorem d_Nod_cutDetail_73 : decode c_Nod_cutDetail 73 = .ok (.getfield 22, 3) := by decide +kernel
theorem d_Nod_cutDetail_76 : decode c_Nod_cutDetail 76 = .ok (.getfield 18, 3) := by decide +kernel
theorem d_Nod_cutDetail_79 : decode c_Nod_cutDetail 79 = .ok (.ireturn, 1) := by decide +kernel
theorem d_Nod_cutDetail_80 : decode c_Nod_cutDetail 80 = .ok (.aload_n 0, 1) := by decide +kernel
theorem d_Nod_cutDetail_81 : decode c_Nod_cutDetail 81 = .ok (.getfield 26, 3) := by decide +kernel
theorem d_Nod_cutDetail_84 : decode c_Nod_cutDetail 84 = .ok (.getfield 18, 3) := by decide +kernel
theorem d_Nod_cutDetail_87 : decode c_Nod_cutDetail 87 = .ok (.ireturn, 1) := by decide +kernel
theorem d_Nod_ownDetail_0 : decode c_Nod_ownDetail 0 = .ok (.iload_n 1, 1) := by decide +kernel
theorem d_Nod_ownDetail_1 : decode c_Nod_ownDetail 1 = .ok (.tableswitch 45 5 7 #[27, 32, 40], 27) := by decide +kernel
theorem d_Nod_ownDetail_28 : decode c_Nod_ownDetail 28 = .ok (.aload_n 0, 1) := by decide +kernel
theorem d_Nod_ownDetail_29 : decode c_Nod_ownDetail 29 = .ok (.getfield 36, 3) := by decide +kernel
theorem d_Nod_ownDetail_32 : decode c_Nod_ownDetail 32 = .ok (.ireturn, 1) := by decide +kernel
theorem d_Nod_ownDetail_33 : decode c_Nod_ownDetail 33 = .ok (.aload_n 0, 1) := by decide +kernel
theorem d_Nod_ownDetail_34 : decode c_Nod_ownDetail 34 = .ok (.getfield 39, 3) := by decide +kernel
theorem d_Nod_ownDetail_37 : decode c_Nod_ownDetail 37 = .ok (.invokestatic 42, 3) := by decide +kernel
theorem d_Nod_ownDetail_40 : decode c_Nod_ownDetail 40 = .ok (.ireturn, 1) := by decide +kernel
theorem d_Nod_ownDetail_41 : decode c_Nod_ownDetail 41 = .ok (.aload_n 0, 1) := by decide +kernel
theorem d_Nod_ownDetail_42 : decode c_Nod_ownDetail 42 = .ok (.getfield 48, 3) := by decide +kernel
theorem d_Nod_ownDetail_45 : decode c_Nod_ownDetail 45 = .ok (.ireturn, 1) := by decide +kernel
theorem d_Nod_ownDetail_46 : decode c_Nod_ownDetail 46 = .ok (.aload_n 0, 1) := by decide +kernel
theorem d_Nod_ownDetail_47 : decode c_Nod_ownDetail 47 = .ok (.getfield 51, 3) := by decide +kernel
theorem d_Nod_ownDetail_50 : decode c_Nod_ownDetail 50 = .ok (.ireturn, 1) := by decide +kernel
theorem d_Fra_inLowestTerms_0 : decode c_Fra_inLowestTerms 0 = .ok (.aload_n 0, 1) := by decide +kernel
theorem d_Fra_inLowestTerms_1 : decode c_Fra_inLowestTerms 1 = .ok (.invokevirtual 26, 3) := by decide +kernel
theorem d_Fra_inLowestTerms_4 : decode c_Fra_inLowestTerms 4 = .ok (.istore_n 2, 1) := by decide +kernel
theorem d_Fra_inLowestTerms_5 : decode c_Fra_inLowestTerms 5 = .ok (.iload_n 1, 1) := by decide +kernel
theorem d_Fra_inLowestTerms_6 : decode c_Fra_inLowestTerms 6 = .ok (.ifCond .ne 10, 3) := by decide +kernel
theorem d_Fra_inLowestTerms_9 : decode c_Fra_inLowestTerms 9 = .ok (.aload_n 0, 1) := by decide +kernel
theorem d_Fra_inLowestTerms_10 : decode c_Fra_inLowestTerms 10 = .ok (.getfield 9, 3) := by decide +kernel
theorem d_Fra_inLowestTerms_13 : decode c_Fra_inLowestTerms 13 = .ok (.goto 7, 3) := by decide +kernel
theorem d_Fra_inLowestTerms_16 : decode c_Fra_inLowestTerms 16 = .ok (.aload_n 0, 1) := by decide +kernel
theorem d_Fra_inLowestTerms_17 : decode c_Fra_inLowestTerms 17 = .ok (.getfield 15, 3) := by decide +kernel
theorem d_Fra_inLowestTerms_20 : decode c_Fra_inLowestTerms 20 = .ok (.istore_n 3, 1) := by decide +kernel
theorem d_Fra_inLowestTerms_21 : decode c_Fra_inLowestTerms 21 = .ok (.iload_n 2, 1) := by decide +kernel
theorem d_Fra_inLowestTerms_22 : decode c_Fra_inLowestTerms 22 = .ok (.ifCond .ne 7, 3) := by decide +kernel
theorem d_Fra_inLowestTerms_25 : decode c_Fra_inLowestTerms 25 = .ok (.iload_n 3, 1) := by decide +kernel
theorem d_Fra_inLowestTerms_26 : decode c_Fra_inLowestTerms 26 = .ok (.goto 6, 3) := by decide +kernel
theorem d_Fra_inLowestTerms_29 : decode c_Fra_inLowestTerms 29 = .ok (.iload_n 3, 1) := by decide +kernel
theorem d_Fra_inLowestTerms_30 : decode c_Fra_inLowestTerms 30 = .ok (.iload_n 2, 1) := by decide +kernel
theorem d_Fra_inLowestTerms_31 : decode c_Fra_inLowestTerms 31 = .ok (.idiv, 1) := by decide +kernel
theorem d_Fra_inLowestTerms_32 : decode c_Fra_inLowestTerms 32 = .ok (.ireturn, 1) := by decide +kernel
theorem d_Fra_greatestCommonDivisor_0 : decode c_Fra_greatestCommonDivisor 0 = .ok (.aload_n 0, 1) := by decide +kernel
theorem d_Fra_greatestCommonDivisor_1 : decode c_Fra_greatestCommonDivisor 1 = .ok (.getfield 9, 3) := by decide +kernel
theorem d_Fra_greatestCommonDivisor_4 : decode c_Fra_greatestCommonDivisor 4 = .ok (.istore_n 1, 1) := by decide +kernel
theorem d_Fra_greatestCommonDivisor_5 : decode c_Fra_greatestCommonDivisor 5 = .ok (.aload_n 0, 1) := by decide +kernel
theorem d_Fra_greatestCommonDivisor_6 : decode c_Fra_greatestCommonDivisor 6 = .ok (.getfield 15, 3) := by decide +kernel
theorem d_Fra_greatestCommonDivisor_9 : decode c_Fra_greatestCommonDivisor 9 = .ok (.istore_n 2, 1) := by decide +kernel
theorem d_Fra_greatestCommonDivisor_10 : decode c_Fra_greatestCommonDivisor 10 = .ok (.iconst 0, 1) := by decide +kernel
theorem d_Fra_greatestCommonDivisor_11 : decode c_Fra_greatestCommonDivisor 11 = .ok (.istore_n 3, 1) := by decide +kernel
theorem d_Fra_greatestCommonDivisor_12 : decode c_Fra_greatestCommonDivisor 12 = .ok (.iload_n 3, 1) := by decide +kernel
theorem d_Fra_greatestCommonDivisor_13 : decode c_Fra_greatestCommonDivisor 13 = .ok (.bipush 64, 2) := by decide +kernel
theorem d_Fra_greatestCommonDivisor_15 : decode c_Fra_greatestCommonDivisor 15 = .ok (.if_icmp .ge 23, 3) := by decide +kernel
theorem d_Fra_greatestCommonDivisor_18 : decode c_Fra_greatestCommonDivisor 18 = .ok (.iload_n 2, 1) := by decide +kernel
theorem d_Fra_greatestCommonDivisor_19 : decode c_Fra_greatestCommonDivisor 19 = .ok (.ifCond .eq 19, 3) := by decide +kernel
theorem d_Fra_greatestCommonDivisor_22 : decode c_Fra_greatestCommonDivisor 22 = .ok (.iload_n 1, 1) := by decide +kernel
theorem d_Fra_greatestCommonDivisor_23 : decode c_Fra_greatestCommonDivisor 23 = .ok (.iload_n 2, 1) := by decide +kernel
theorem d_Fra_greatestCommonDivisor_24 : decode c_Fra_greatestCommonDivisor 24 = .ok (.irem, 1) := by decide +kernel
theorem d_Fra_greatestCommonDivisor_25 : decode c_Fra_greatestCommonDivisor 25 = .ok (.istore 4, 2) := by decide +kernel
theorem d_Fra_greatestCommonDivisor_27 : decode c_Fra_greatestCommonDivisor 27 = .ok (.iload_n 2, 1) := by decide +kernel
theorem d_Fra_greatestCommonDivisor_28 : decode c_Fra_greatestCommonDivisor 28 = .ok (.istore_n 1, 1) := by decide +kernel
theorem d_Fra_greatestCommonDivisor_29 : decode c_Fra_greatestCommonDivisor 29 = .ok (.iload 4, 2) := by decide +kernel
theorem d_Fra_greatestCommonDivisor_31 : decode c_Fra_greatestCommonDivisor 31 = .ok (.istore_n 2, 1) := by decide +kernel
theorem d_Fra_greatestCommonDivisor_32 : decode c_Fra_greatestCommonDivisor 32 = .ok (.iinc 3 1, 3) := by decide +kernel
theorem d_Fra_greatestCommonDivisor_35 : decode c_Fra_greatestCommonDivisor 35 = .ok (.goto (-23), 3) := by decide +kernel
theorem d_Fra_greatestCommonDivisor_38 : decode c_Fra_greatestCommonDivisor 38 = .ok (.iload_n 1, 1) := by decide +kernel
theorem d_Fra_greatestCommonDivisor_39 : decode c_Fra_greatestCommonDivisor 39 = .ok (.ireturn, 1) := by decide +kernel
theorem d_Tre_whereComes_0 : decode c_Tre_whereComes 0 = .ok (.aload_n 0, 1) := by decide +kernel
theorem d_Tre_whereComes_1 : decode c_Tre_whereComes 1 = .ok (.getfield 32, 3) := by decide +kernel
theorem d_Tre_whereComes_4 : decode c_Tre_whereComes 4 = .ok (.astore_n 2, 1) := by decide +kernel
theorem d_Tre_whereComes_5 : decode c_Tre_whereComes 5 = .ok (.iconst 0, 1) := by decide +kernel
theorem d_Tre_whereComes_6 : decode c_Tre_whereComes 6 = .ok (.istore_n 3, 1) := by decide +kernel
theorem d_Tre_whereComes_7 : decode c_Tre_whereComes 7 = .ok (.iload_n 3, 1) := by decide +kernel
theorem d_Tre_whereComes_8 : decode c_Tre_whereComes 8 = .ok (.iconst 5, 1) := by decide +kernel
theorem d_Tre_whereComes_9 : decode c_Tre_whereComes 9 = .ok (.if_icmp .ge 47, 3) := by decide +kernel
theorem d_Tre_whereComes_12 : decode c_Tre_whereComes 12 = .ok (.aload_n 0, 1) := by decide +kernel
theorem d_Tre_whereComes_13 : decode c_Tre_whereComes 13 = .ok (.getfield 17, 3) := by decide +kernel
theorem d_Tre_whereComes_16 : decode c_Tre_whereComes 16 = .ok (.aload_n 1, 1) := by decide +kernel
theorem d_Tre_whereComes_17 : decode c_Tre_whereComes 17 = .ok (.aload_n 2, 1) := by decide +kernel
theorem d_Tre_whereComes_18 : decode c_Tre_whereComes 18 = .ok (.getfield 108, 3) := by decide +kernel
theorem d_Tre_whereComes_21 : decode c_Tre_whereComes 21 = .ok (.invokevirtual 128, 3) := by decide +kernel
theorem d_Tre_whereComes_24 : decode c_Tre_whereComes 24 = .ok (.ifCond .eq 10, 3) := by decide +kernel
theorem d_Tre_whereComes_27 : decode c_Tre_whereComes 27 = .ok (.aload_n 2, 1) := by decide +kernel
theorem d_Tre_whereComes_28 : decode c_Tre_whereComes 28 = .ok (.getfield 75, 3) := by decide +kernel
theorem d_Tre_whereComes_31 : decode c_Tre_whereComes 31 = .ok (.goto 7, 3) := by decide +kernel
theorem d_Tre_whereComes_34 : decode c_Tre_whereComes 34 = .ok (.aload_n 2, 1) := by decide +kernel
theorem d_Tre_whereComes_35 : decode c_Tre_whereComes 35 = .ok (.getfield 78, 3) := by decide +kernel
theorem d_Tre_whereComes_38 : decode c_Tre_whereComes 38 = .ok (.astore 4, 2) := by decide +kernel
theorem d_Tre_whereComes_40 : decode c_Tre_whereComes 40 = .ok (.aload 4, 2) := by decide +kernel
theorem d_Tre_whereComes_42 : decode c_Tre_whereComes 42 = .ok (.ifnonnull 5, 3) := by decide +kernel
theorem d_Tre_whereComes_45 : decode c_Tre_whereComes 45 = .ok (.aload_n 2, 1) := by decide +kernel
theorem d_Tre_whereComes_46 : decode c_Tre_whereComes 46 = .ok (.areturn, 1) := by decide +kernel
theorem d_Tre_whereComes_47 : decode c_Tre_whereComes 47 = .ok (.aload 4, 2) := by decide +kernel
theorem d_Tre_whereComes_49 : decode c_Tre_whereComes 49 = .ok (.astore_n 2, 1) := by decide +kernel
theorem d_Tre_whereComes_50 : decode c_Tre_whereComes 50 = .ok (.iinc 3 1, 3) := by decide +kernel
theorem d_Tre_whereComes_53 : decode c_Tre_whereComes 53 = .ok (.goto (-46), 3) := by decide +kernel
theorem d_Tre_whereComes_56 : decode c_Tre_whereComes 56 = .ok (.aload_n 2, 1) := by decide +kernel
theorem d_Tre_whereComes_57 : decode c_Tre_whereComes 57 = .ok (.areturn, 1) := by decide +kernel
theorem d_Pru_has_0 : decode c_Pru_has 0 = .ok (.iload_n 1, 1) := by decide +kernel
theorem d_Pru_has_1 : decode c_Pru_has 1 = .ok (.ifCond .lt 21, 3) := by decide +kernel
theorem d_Pru_has_4 : decode c_Pru_has 4 = .ok (.iload_n 1, 1) := by decide +kernel
theorem d_Pru_has_5 : decode c_Pru_has 5 = .ok (.aload_n 0, 1) := by decide +kernel
theorem d_Pru_has_6 : decode c_Pru_has 6 = .ok (.getfield 33, 3) := by decide +kernel
theorem d_Pru_has_9 : decode c_Pru_has 9 = .ok (.if_icmp .ge 13, 3) := by decide +kernel
theorem d_Pru_has_12 : decode c_Pru_has 12 = .ok (.iload_n 1, 1) := by decide +kernel
theorem d_Pru_has_13 : decode c_Pru_has 13 = .ok (.bipush 24, 2) := by decide +kernel
theorem d_Pru_has_15 : decode c_Pru_has 15 = .ok (.if_icmp .ge 7, 3) := by decide +kernel
theorem d_Pru_has_18 : decode c_Pru_has 18 = .ok (.iconst 1, 1) := by decide +kernel
theorem d_Pru_has_19 : decode c_Pru_has 19 = .ok (.goto 4, 3) := by decide +kernel
theorem d_Pru_has_22 : decode c_Pru_has 22 = .ok (.iconst 0, 1) := by decide +kernel
theorem d_Pru_has_23 : decode c_Pru_has 23 = .ok (.ireturn, 1) := by decide +kernel
end
section
theorem d_Bs_init_0 : decode c_Bs_init 0 = .ok (.aload_n 0, 1) := by decide +kernel
theorem d_Bs_init_1 : decode c_Bs_init 1 = .ok (.invokespecial 3, 3) := by decide +kernel
theorem d_Bs_init_4 : decode c_Bs_init 4 = .ok (.aload_n 0, 1) := by decide +kernel
theorem d_Bs_init_5 : decode c_Bs_init 5 = .ok (.new 9, 3) := by decide +kernel
theorem d_Bs_init_8 : decode c_Bs_init 8 = .ok (.dup, 1) := by decide +kernel
theorem d_Bs_init_9 : decode c_Bs_init 9 = .ok (.invokespecial 11, 3) := by decide +kernel
theorem d_Bs_init_12 : decode c_Bs_init 12 = .ok (.putfield 12, 3) := by decide +kernel
theorem d_Bs_init_15 : decode c_Bs_init 15 = .ok (.aload_n 0, 1) := by decide +kernel
theorem d_Bs_init_16 : decode c_Bs_init 16 = .ok (.new 16, 3) := by decide +kernel
theorem d_Bs_init_19 : decode c_Bs_init 19 = .ok (.dup, 1) := by decide +kernel
theorem d_Bs_init_20 : decode c_Bs_init 20 = .ok (.invokespecial 18, 3) := by decide +kernel
theorem d_Bs_init_23 : decode c_Bs_init 23 = .ok (.putfield 19, 3) := by decide +kernel
theorem d_Bs_init_26 : decode c_Bs_init 26 = .ok (.aload_n 0, 1) := by decide +kernel
theorem d_Bs_init_27 : decode c_Bs_init 27 = .ok (.new 23, 3) := by decide +kernel
theorem d_Bs_init_30 : decode c_Bs_init 30 = .ok (.dup, 1) := by decide +kernel
theorem d_Bs_init_31 : decode c_Bs_init 31 = .ok (.aload_n 0, 1) := by decide +kernel
theorem d_Bs_init_32 : decode c_Bs_init 32 = .ok (.getfield 12, 3) := by decide +kernel
theorem d_Bs_init_35 : decode c_Bs_init 35 = .ok (.aload_n 0, 1) := by decide +kernel
theorem d_Bs_init_36 : decode c_Bs_init 36 = .ok (.getfield 19, 3) := by decide +kernel
theorem d_Bs_init_39 : decode c_Bs_init 39 = .ok (.invokespecial 25, 3) := by decide +kernel
theorem d_Bs_init_42 : decode c_Bs_init 42 = .ok (.putfield 28, 3) := by decide +kernel
theorem d_Bs_init_45 : decode c_Bs_init 45 = .ok (.aload_n 0, 1) := by decide +kernel
theorem d_Bs_init_46 : decode c_Bs_init 46 = .ok (.new 32, 3) := by decide +kernel
theorem d_Bs_init_49 : decode c_Bs_init 49 = .ok (.dup, 1) := by decide +kernel
theorem d_Bs_init_50 : decode c_Bs_init 50 = .ok (.aload_n 0, 1) := by decide +kernel
theorem d_Bs_init_51 : decode c_Bs_init 51 = .ok (.getfield 12, 3) := by decide +kernel
theorem d_Bs_init_54 : decode c_Bs_init 54 = .ok (.aload_n 0, 1) := by decide +kernel
theorem d_Bs_init_55 : decode c_Bs_init 55 = .ok (.getfield 19, 3) := by decide +kernel
theorem d_Bs_init_58 : decode c_Bs_init 58 = .ok (.aload_n 0, 1) := by decide +kernel
theorem d_Bs_init_59 : decode c_Bs_init 59 = .ok (.getfield 28, 3) := by decide +kernel
theorem d_Bs_init_62 : decode c_Bs_init 62 = .ok (.invokespecial 34, 3) := by decide +kernel
theorem d_Bs_init_65 : decode c_Bs_init 65 = .ok (.putfield 37, 3) := by decide +kernel
theorem d_Bs_init_68 : decode c_Bs_init 68 = .ok (.aload_n 0, 1) := by decide +kernel
theorem d_Bs_init_69 : decode c_Bs_init 69 = .ok (.new 32, 3) := by decide +kernel
theorem d_Bs_init_72 : decode c_Bs_init 72 = .ok (.dup, 1) := by decide +kernel
theorem d_Bs_init_73 : decode c_Bs_init 73 = .ok (.aload_n 0, 1) := by decide +kernel
theorem d_Bs_init_74 : decode c_Bs_init 74 = .ok (.getfield 12, 3) := by decide +kernel
theorem d_Bs_init_77 : decode c_Bs_init 77 = .ok (.aload_n 0, 1) := by decide +kernel
theorem d_Bs_init_78 : decode c_Bs_init 78 = .ok (.getfield 19, 3) := by decide +kernel
theorem d_Bs_init_81 : decode c_Bs_init 81 = .ok (.aload_n 0, 1) := by decide +kernel
theorem d_Bs_init_82 : decode c_Bs_init 82 = .ok (.getfield 28, 3) := by decide +kernel
theorem d_Bs_init_85 : decode c_Bs_init 85 = .ok (.invokespecial 34, 3) := by decide +kernel
theorem d_Bs_init_88 : decode c_Bs_init 88 = .ok (.putfield 41, 3) := by decide +kernel
theorem d_Bs_init_91 : decode c_Bs_init 91 = .ok (.aload_n 0, 1) := by decide +kernel
theorem d_Bs_init_92 : decode c_Bs_init 92 = .ok (.new 44, 3) := by decide +kernel
theorem d_Bs_init_95 : decode c_Bs_init 95 = .ok (.dup, 1) := by decide +kernel
theorem d_Bs_init_96 : decode c_Bs_init 96 = .ok (.aload_n 0, 1) := by decide +kernel
theorem d_Bs_init_97 : decode c_Bs_init 97 = .ok (.getfield 37, 3) := by decide +kernel
theorem d_Bs_init_100 : decode c_Bs_init 100 = .ok (.invokespecial 46, 3) := by decide +kernel
theorem d_Bs_init_103 : decode c_Bs_init 103 = .ok (.putfield 49, 3) := by decide +kernel
theorem d_Bs_init_106 : decode c_Bs_init 106 = .ok (.aload_n 0, 1) := by decide +kernel
theorem d_Bs_init_107 : decode c_Bs_init 107 = .ok (.iconst 4, 1) := by decide +kernel
theorem d_Bs_init_108 : decode c_Bs_init 108 = .ok (.newarray .int, 2) := by decide +kernel
theorem d_Bs_init_110 : decode c_Bs_init 110 = .ok (.putfield 53, 3) := by decide +kernel
theorem d_Bs_init_113 : decode c_Bs_init 113 = .ok (.aload_n 0, 1) := by decide +kernel
theorem d_Bs_init_114 : decode c_Bs_init 114 = .ok (.iconst 1, 1) := by decide +kernel
theorem d_Bs_init_115 : decode c_Bs_init 115 = .ok (.putfield 57, 3) := by decide +kernel
theorem d_Bs_init_118 : decode c_Bs_init 118 = .ok (.aload_n 0, 1) := by decide +kernel
theorem d_Bs_init_119 : decode c_Bs_init 119 = .ok (.iconst (-1), 1) := by decide +kernel
theorem d_Bs_init_120 : decode c_Bs_init 120 = .ok (.putfield 61, 3) := by decide +kernel
theorem d_Bs_init_123 : decode c_Bs_init 123 = .ok (.return_, 1) := by decide +kernel
theorem d_Tab_init_0 : decode c_Tab_init 0 = .ok (.aload_n 0, 1) := by decide +kernel
theorem d_Tab_init_1 : decode c_Tab_init 1 = .ok (.invokespecial 3, 3) := by decide +kernel
theorem d_Tab_init_4 : decode c_Tab_init 4 = .ok (.aload_n 0, 1) := by decide +kernel
theorem d_Tab_init_5 : decode c_Tab_init 5 = .ok (.bipush 24, 2) := by decide +kernel
theorem d_Tab_init_7 : decode c_Tab_init 7 = .ok (.iconst 4, 1) := by decide +kernel
theorem d_Tab_init_8 : decode c_Tab_init 8 = .ok (.multianewarray 9 2, 4) := by decide +kernel
theorem d_Tab_init_12 : decode c_Tab_init 12 = .ok (.putfield 11, 3) := by decide +kernel
theorem d_Tab_init_15 : decode c_Tab_init 15 = .ok (.aload_n 0, 1) := by decide +kernel
theorem d_Tab_init_16 : decode c_Tab_init 16 = .ok (.bipush 24, 2) := by decide +kernel
theorem d_Tab_init_18 : decode c_Tab_init 18 = .ok (.newarray .int, 2) := by decide +kernel
theorem d_Tab_init_20 : decode c_Tab_init 20 = .ok (.putfield 16, 3) := by decide +kernel
theorem d_Tab_init_23 : decode c_Tab_init 23 = .ok (.aload_n 0, 1) := by decide +kernel
theorem d_Tab_init_24 : decode c_Tab_init 24 = .ok (.iconst 0, 1) := by decide +kernel
theorem d_Tab_init_25 : decode c_Tab_init 25 = .ok (.putfield 20, 3) := by decide +kernel
theorem d_Tab_init_28 : decode c_Tab_init 28 = .ok (.aload_n 0, 1) := by decide +kernel
theorem d_Tab_init_29 : decode c_Tab_init 29 = .ok (.iconst 4, 1) := by decide +kernel
theorem d_Tab_init_30 : decode c_Tab_init 30 = .ok (.newarray .int, 2) := by decide +kernel
theorem d_Tab_init_32 : decode c_Tab_init 32 = .ok (.putfield 24, 3) := by decide +kernel
theorem d_Tab_init_35 : decode c_Tab_init 35 = .ok (.aload_n 0, 1) := by decide +kernel
theorem d_Tab_init_36 : decode c_Tab_init 36 = .ok (.iconst 3, 1) := by decide +kernel
theorem d_Tab_init_37 : decode c_Tab_init 37 = .ok (.newarray .int, 2) := by decide +kernel
theorem d_Tab_init_39 : decode c_Tab_init 39 = .ok (.putfield 27, 3) := by decide +kernel
theorem d_Tab_init_42 : decode c_Tab_init 42 = .ok (.aload_n 0, 1) := by decide +kernel
theorem d_Tab_init_43 : decode c_Tab_init 43 = .ok (.iconst 4, 1) := by decide +kernel
theorem d_Tab_init_44 : decode c_Tab_init 44 = .ok (.newarray .int, 2) := by decide +kernel
theorem d_Tab_init_46 : decode c_Tab_init 46 = .ok (.putfield 30, 3) := by decide +kernel
theorem d_Tab_init_49 : decode c_Tab_init 49 = .ok (.aload_n 0, 1) := by decide +kernel
theorem d_Tab_init_50 : decode c_Tab_init 50 = .ok (.iconst 4, 1) := by decide +kernel
theorem d_Tab_init_51 : decode c_Tab_init 51 = .ok (.bipush 101, 2) := by decide +kernel
theorem d_Tab_init_53 : decode c_Tab_init 53 = .ok (.multianewarray 9 2, 4) := by decide +kernel
theorem d_Tab_init_57 : decode c_Tab_init 57 = .ok (.putfield 33, 3) := by decide +kernel
theorem d_Tab_init_60 : decode c_Tab_init 60 = .ok (.return_, 1) := by decide +kernel
theorem d_Bs_column_0 : decode c_Bs_column 0 = .ok (.iload_n 1, 1) := by decide +kernel
theorem d_Bs_column_1 : decode c_Bs_column 1 = .ok (.invokestatic 65, 3) := by decide +kernel
theorem d_Bs_column_4 : decode c_Bs_column 4 = .ok (.ifCond .ne 5, 3) := by decide +kernel
theorem d_Bs_column_7 : decode c_Bs_column 7 = .ok (.iconst (-1), 1) := by decide +kernel
theorem d_Bs_column_8 : decode c_Bs_column 8 = .ok (.ireturn, 1) := by decide +kernel
theorem d_Bs_column_9 : decode c_Bs_column 9 = .ok (.iload_n 2, 1) := by decide +kernel
theorem d_Bs_column_10 : decode c_Bs_column 10 = .ok (.ifCond .eq 11, 3) := by decide +kernel
theorem d_Bs_column_13 : decode c_Bs_column 13 = .ok (.iload_n 2, 1) := by decide +kernel
theorem d_Bs_column_14 : decode c_Bs_column 14 = .ok (.iconst 1, 1) := by decide +kernel
theorem d_Bs_column_15 : decode c_Bs_column 15 = .ok (.if_icmp .eq 6, 3) := by decide +kernel
theorem d_Bs_column_18 : decode c_Bs_column 18 = .ok (.bipush (-2), 2) := by decide +kernel
theorem d_Bs_column_20 : decode c_Bs_column 20 = .ok (.ireturn, 1) := by decide +kernel
theorem d_Bs_column_21 : decode c_Bs_column 21 = .ok (.aload_n 0, 1) := by decide +kernel
theorem d_Bs_column_22 : decode c_Bs_column 22 = .ok (.getfield 12, 3) := by decide +kernel
theorem d_Bs_column_25 : decode c_Bs_column 25 = .ok (.getfield 69, 3) := by decide +kernel
theorem d_Bs_column_28 : decode c_Bs_column 28 = .ok (.ifCond .le 6, 3) := by decide +kernel
theorem d_Bs_column_31 : decode c_Bs_column 31 = .ok (.bipush (-3), 2) := by decide +kernel
theorem d_Bs_column_33 : decode c_Bs_column 33 = .ok (.ireturn, 1) := by decide +kernel
theorem d_Bs_column_34 : decode c_Bs_column 34 = .ok (.aload_n 0, 1) := by decide +kernel
theorem d_Bs_column_35 : decode c_Bs_column 35 = .ok (.invokevirtual 72, 3) := by decide +kernel
theorem d_Bs_column_38 : decode c_Bs_column 38 = .ok (.aload_n 0, 1) := by decide +kernel
theorem d_Bs_column_39 : decode c_Bs_column 39 = .ok (.getfield 12, 3) := by decide +kernel
theorem d_Bs_column_42 : decode c_Bs_column 42 = .ok (.iload_n 1, 1) := by decide +kernel
theorem d_Bs_column_43 : decode c_Bs_column 43 = .ok (.iload_n 2, 1) := by decide +kernel
theorem d_Bs_column_44 : decode c_Bs_column 44 = .ok (.invokevirtual 75, 3) := by decide +kernel
theorem d_Bs_column_47 : decode c_Bs_column 47 = .ok (.ireturn, 1) := by decide +kernel
theorem d_Bs_isColumn_0 : decode c_Bs_isColumn 0 = .ok (.iload_n 0, 1) := by decide +kernel
theorem d_Bs_isColumn_1 : decode c_Bs_isColumn 1 = .ok (.ifCond .lt 12, 3) := by decide +kernel
theorem d_Bs_isColumn_4 : decode c_Bs_isColumn 4 = .ok (.iload_n 0, 1) := by decide +kernel
theorem d_Bs_isColumn_5 : decode c_Bs_isColumn 5 = .ok (.iconst 4, 1) := by decide +kernel
theorem d_Bs_isColumn_6 : decode c_Bs_isColumn 6 = .ok (.if_icmp .ge 7, 3) := by decide +kernel
theorem d_Bs_isColumn_9 : decode c_Bs_isColumn 9 = .ok (.iconst 1, 1) := by decide +kernel
theorem d_Bs_isColumn_10 : decode c_Bs_isColumn 10 = .ok (.goto 4, 3) := by decide +kernel
theorem d_Bs_isColumn_13 : decode c_Bs_isColumn 13 = .ok (.iconst 0, 1) := by decide +kernel
theorem d_Bs_isColumn_14 : decode c_Bs_isColumn 14 = .ok (.ireturn, 1) := by decide +kernel
theorem d_Bs_noteChange_0 : decode c_Bs_noteChange 0 = .ok (.aload_n 0, 1) := by decide +kernel
theorem d_Bs_noteChange_1 : decode c_Bs_noteChange 1 = .ok (.iconst 1, 1) := by decide +kernel
theorem d_Bs_noteChange_2 : decode c_Bs_noteChange 2 = .ok (.putfield 57, 3) := by decide +kernel
theorem d_Bs_noteChange_5 : decode c_Bs_noteChange 5 = .ok (.aload_n 0, 1) := by decide +kernel
theorem d_Bs_noteChange_6 : decode c_Bs_noteChange 6 = .ok (.iconst (-1), 1) := by decide +kernel
theorem d_Bs_noteChange_7 : decode c_Bs_noteChange 7 = .ok (.putfield 61, 3) := by decide +kernel
theorem d_Bs_noteChange_10 : decode c_Bs_noteChange 10 = .ok (.return_, 1) := by decide +kernel
theorem d_Tab_changeSort_0 : decode c_Tab_changeSort 0 = .ok (.iload_n 1, 1) := by decide +kernel
theorem d_Tab_changeSort_1 : decode c_Tab_changeSort 1 = .ok (.invokestatic 36, 3) := by decide +kernel
theorem d_Tab_changeSort_4 : decode c_Tab_changeSort 4 = .ok (.ifCond .ne 5, 3) := by decide +kernel
theorem d_Tab_changeSort_7 : decode c_Tab_changeSort 7 = .ok (.iconst (-1), 1) := by decide +kernel
theorem d_Tab_changeSort_8 : decode c_Tab_changeSort 8 = .ok (.ireturn, 1) := by decide +kernel
theorem d_Tab_changeSort_9 : decode c_Tab_changeSort 9 = .ok (.aload_n 0, 1) := by decide +kernel
theorem d_Tab_changeSort_10 : decode c_Tab_changeSort 10 = .ok (.getfield 24, 3) := by decide +kernel
theorem d_Tab_changeSort_13 : decode c_Tab_changeSort 13 = .ok (.iload_n 1, 1) := by decide +kernel
theorem d_Tab_changeSort_14 : decode c_Tab_changeSort 14 = .ok (.iaload, 1) := by decide +kernel
theorem d_Tab_changeSort_15 : decode c_Tab_changeSort 15 = .ok (.istore_n 3, 1) := by decide +kernel
theorem d_Tab_changeSort_16 : decode c_Tab_changeSort 16 = .ok (.aload_n 0, 1) := by decide +kernel
theorem d_Tab_changeSort_17 : decode c_Tab_changeSort 17 = .ok (.getfield 24, 3) := by decide +kernel
theorem d_Tab_changeSort_20 : decode c_Tab_changeSort 20 = .ok (.iload_n 1, 1) := by decide +kernel
theorem d_Tab_changeSort_21 : decode c_Tab_changeSort 21 = .ok (.iload_n 2, 1) := by decide +kernel
theorem d_Tab_changeSort_22 : decode c_Tab_changeSort 22 = .ok (.iastore, 1) := by decide +kernel
theorem d_Tab_changeSort_23 : decode c_Tab_changeSort 23 = .ok (.iload_n 3, 1) := by decide +kernel
theorem d_Tab_changeSort_24 : decode c_Tab_changeSort 24 = .ok (.ireturn, 1) := by decide +kernel
theorem d_Bs_row_0 : decode c_Bs_row 0 = .ok (.aload_n 0, 1) := by decide +kernel
theorem d_Bs_row_1 : decode c_Bs_row 1 = .ok (.iload_n 1, 1) := by decide +kernel
theorem d_Bs_row_2 : decode c_Bs_row 2 = .ok (.iload_n 2, 1) := by decide +kernel
theorem d_Bs_row_3 : decode c_Bs_row 3 = .ok (.iload_n 3, 1) := by decide +kernel
theorem d_Bs_row_4 : decode c_Bs_row 4 = .ok (.iload 4, 2) := by decide +kernel
theorem d_Bs_row_6 : decode c_Bs_row 6 = .ok (.invokevirtual 79, 3) := by decide +kernel
theorem d_Bs_row_9 : decode c_Bs_row 9 = .ok (.aload_n 0, 1) := by decide +kernel
theorem d_Bs_row_10 : decode c_Bs_row 10 = .ok (.getfield 12, 3) := by decide +kernel
theorem d_Bs_row_13 : decode c_Bs_row 13 = .ok (.aload_n 0, 1) := by decide +kernel
theorem d_Bs_row_14 : decode c_Bs_row 14 = .ok (.getfield 53, 3) := by decide +kernel
theorem d_Bs_row_17 : decode c_Bs_row 17 = .ok (.invokevirtual 83, 3) := by decide +kernel
theorem d_Bs_row_20 : decode c_Bs_row 20 = .ok (.ifCond .eq 11, 3) := by decide +kernel
theorem d_Bs_row_23 : decode c_Bs_row 23 = .ok (.iload 5, 2) := by decide +kernel
theorem d_Bs_row_25 : decode c_Bs_row 25 = .ok (.invokestatic 87, 3) := by decide +kernel
theorem d_Bs_row_28 : decode c_Bs_row 28 = .ok (.ifCond .ne 6, 3) := by decide +kernel
theorem d_Bs_row_31 : decode c_Bs_row 31 = .ok (.bipush (-2), 2) := by decide +kernel
theorem d_Bs_row_33 : decode c_Bs_row 33 = .ok (.ireturn, 1) := by decide +kernel
theorem d_Bs_row_34 : decode c_Bs_row 34 = .ok (.aload_n 0, 1) := by decide +kernel
theorem d_Bs_row_35 : decode c_Bs_row 35 = .ok (.getfield 12, 3) := by decide +kernel
theorem d_Bs_row_38 : decode c_Bs_row 38 = .ok (.getfield 69, 3) := by decide +kernel
theorem d_Bs_row_41 : decode c_Bs_row 41 = .ok (.bipush 24, 2) := by decide +kernel
theorem d_Bs_row_43 : decode c_Bs_row 43 = .ok (.if_icmp .lt 6, 3) := by decide +kernel
theorem d_Bs_row_46 : decode c_Bs_row 46 = .ok (.bipush (-4), 2) := by decide +kernel
theorem d_Bs_row_48 : decode c_Bs_row 48 = .ok (.ireturn, 1) := by decide +kernel
theorem d_Bs_row_49 : decode c_Bs_row 49 = .ok (.aload_n 0, 1) := by decide +kernel
theorem d_Bs_row_50 : decode c_Bs_row 50 = .ok (.invokevirtual 72, 3) := by decide +kernel
theorem d_Bs_row_53 : decode c_Bs_row 53 = .ok (.aload_n 0, 1) := by decide +kernel
theorem d_Bs_row_54 : decode c_Bs_row 54 = .ok (.getfield 12, 3) := by decide +kernel
theorem d_Bs_row_57 : decode c_Bs_row 57 = .ok (.aload_n 0, 1) := by decide +kernel
theorem d_Bs_row_58 : decode c_Bs_row 58 = .ok (.getfield 53, 3) := by decide +kernel
theorem d_Bs_row_61 : decode c_Bs_row 61 = .ok (.iload 5, 2) := by decide +kernel
theorem d_Bs_row_63 : decode c_Bs_row 63 = .ok (.invokevirtual 90, 3) := by decide +kernel
theorem d_Bs_row_66 : decode c_Bs_row 66 = .ok (.ireturn, 1) := by decide +kernel
theorem d_Bs_ask_0 : decode c_Bs_ask 0 = .ok (.aload_n 0, 1) := by decide +kernel
theorem d_Bs_ask_1 : decode c_Bs_ask 1 = .ok (.getfield 53, 3) := by decide +kernel
theorem d_Bs_ask_4 : decode c_Bs_ask 4 = .ok (.iconst 0, 1) := by decide +kernel
theorem d_Bs_ask_5 : decode c_Bs_ask 5 = .ok (.iload_n 1, 1) := by decide +kernel
theorem d_Bs_ask_6 : decode c_Bs_ask 6 = .ok (.iastore, 1) := by decide +kernel
theorem d_Bs_ask_7 : decode c_Bs_ask 7 = .ok (.aload_n 0, 1) := by decide +kernel
theorem d_Bs_ask_8 : decode c_Bs_ask 8 = .ok (.getfield 53, 3) := by decide +kernel
theorem d_Bs_ask_11 : decode c_Bs_ask 11 = .ok (.iconst 1, 1) := by decide +kernel
theorem d_Bs_ask_12 : decode c_Bs_ask 12 = .ok (.iload_n 2, 1) := by decide +kernel
theorem d_Bs_ask_13 : decode c_Bs_ask 13 = .ok (.iastore, 1) := by decide +kernel
theorem d_Bs_ask_14 : decode c_Bs_ask 14 = .ok (.aload_n 0, 1) := by decide +kernel
theorem d_Bs_ask_15 : decode c_Bs_ask 15 = .ok (.getfield 53, 3) := by decide +kernel
theorem d_Bs_ask_18 : decode c_Bs_ask 18 = .ok (.iconst 2, 1) := by decide +kernel
theorem d_Bs_ask_19 : decode c_Bs_ask 19 = .ok (.iload_n 3, 1) := by decide +kernel
theorem d_Bs_ask_20 : decode c_Bs_ask 20 = .ok (.iastore, 1) := by decide +kernel
theorem d_Bs_ask_21 : decode c_Bs_ask 21 = .ok (.aload_n 0, 1) := by decide +kernel
theorem d_Bs_ask_22 : decode c_Bs_ask 22 = .ok (.getfield 53, 3) := by decide +kernel
theorem d_Bs_ask_25 : decode c_Bs_ask 25 = .ok (.iconst 3, 1) := by decide +kernel
theorem d_Bs_ask_26 : decode c_Bs_ask 26 = .ok (.iload 4, 2) := by decide +kernel
theorem d_Bs_ask_28 : decode c_Bs_ask 28 = .ok (.iastore, 1) := by decide +kernel
theorem d_Bs_ask_29 : decode c_Bs_ask 29 = .ok (.return_, 1) := by decide +kernel
theorem d_Tab_takes_0 : decode c_Tab_takes 0 = .ok (.iconst 0, 1) := by decide +kernel
theorem d_Tab_takes_1 : decode c_Tab_takes 1 = .ok (.istore_n 2, 1) := by decide +kernel
theorem d_Tab_takes_2 : decode c_Tab_takes 2 = .ok (.iload_n 2, 1) := by decide +kernel
theorem d_Tab_takes_3 : decode c_Tab_takes 3 = .ok (.iconst 4, 1) := by decide +kernel
theorem d_Tab_takes_4 : decode c_Tab_takes 4 = .ok (.if_icmp .ge 48, 3) := by decide +kernel
theorem d_Tab_takes_7 : decode c_Tab_takes 7 = .ok (.iload_n 2, 1) := by decide +kernel
theorem d_Tab_takes_8 : decode c_Tab_takes 8 = .ok (.aload_n 1, 1) := by decide +kernel
theorem d_Tab_takes_9 : decode c_Tab_takes 9 = .ok (.arraylength, 1) := by decide +kernel
theorem d_Tab_takes_10 : decode c_Tab_takes 10 = .ok (.if_icmp .ge 42, 3) := by decide +kernel
theorem d_Tab_takes_13 : decode c_Tab_takes 13 = .ok (.aload_n 0, 1) := by decide +kernel
theorem d_Tab_takes_14 : decode c_Tab_takes 14 = .ok (.getfield 24, 3) := by decide +kernel
theorem d_Tab_takes_17 : decode c_Tab_takes 17 = .ok (.iload_n 2, 1) := by decide +kernel
theorem d_Tab_takes_18 : decode c_Tab_takes 18 = .ok (.iaload, 1) := by decide +kernel
theorem d_Tab_takes_19 : decode c_Tab_takes 19 = .ok (.iconst 1, 1) := by decide +kernel
theorem d_Tab_takes_20 : decode c_Tab_takes 20 = .ok (.if_icmp .ne 7, 3) := by decide +kernel
theorem d_Tab_takes_23 : decode c_Tab_takes 23 = .ok (.iconst 5, 1) := by decide +kernel
theorem d_Tab_takes_24 : decode c_Tab_takes 24 = .ok (.goto 5, 3) := by decide +kernel
theorem d_Tab_takes_27 : decode c_Tab_takes 27 = .ok (.bipush 100, 2) := by decide +kernel
theorem d_Tab_takes_29 : decode c_Tab_takes 29 = .ok (.istore_n 3, 1) := by decide +kernel
theorem d_Tab_takes_30 : decode c_Tab_takes 30 = .ok (.aload_n 1, 1) := by decide +kernel
theorem d_Tab_takes_31 : decode c_Tab_takes 31 = .ok (.iload_n 2, 1) := by decide +kernel
theorem d_Tab_takes_32 : decode c_Tab_takes 32 = .ok (.iaload, 1) := by decide +kernel
theorem d_Tab_takes_33 : decode c_Tab_takes 33 = .ok (.iconst (-1), 1) := by decide +kernel
theorem d_Tab_takes_34 : decode c_Tab_takes 34 = .ok (.if_icmp .lt 10, 3) := by decide +kernel
theorem d_Tab_takes_37 : decode c_Tab_takes 37 = .ok (.aload_n 1, 1) := by decide +kernel
theorem d_Tab_takes_38 : decode c_Tab_takes 38 = .ok (.iload_n 2, 1) := by decide +kernel
theorem d_Tab_takes_39 : decode c_Tab_takes 39 = .ok (.iaload, 1) := by decide +kernel
theorem d_Tab_takes_40 : decode c_Tab_takes 40 = .ok (.iload_n 3, 1) := by decide +kernel
theorem d_Tab_takes_41 : decode c_Tab_takes 41 = .ok (.if_icmp .le 5, 3) := by decide +kernel
theorem d_Tab_takes_44 : decode c_Tab_takes 44 = .ok (.iconst 0, 1) := by decide +kernel
theorem d_Tab_takes_45 : decode c_Tab_takes 45 = .ok (.ireturn, 1) := by decide +kernel
theorem d_Tab_takes_46 : decode c_Tab_takes 46 = .ok (.iinc 2 1, 3) := by decide +kernel
theorem d_Tab_takes_49 : decode c_Tab_takes 49 = .ok (.goto (-47), 3) := by decide +kernel
theorem d_Tab_takes_52 : decode c_Tab_takes 52 = .ok (.iconst 1, 1) := by decide +kernel
theorem d_Tab_takes_53 : decode c_Tab_takes 53 = .ok (.ireturn, 1) := by decide +kernel
theorem d_Bs_isClass_0 : decode c_Bs_isClass 0 = .ok (.iload_n 0, 1) := by decide +kernel
theorem d_Bs_isClass_1 : decode c_Bs_isClass 1 = .ok (.ifCond .lt 12, 3) := by decide +kernel
theorem d_Bs_isClass_4 : decode c_Bs_isClass 4 = .ok (.iload_n 0, 1) := by decide +kernel
theorem d_Bs_isClass_5 : decode c_Bs_isClass 5 = .ok (.iconst 3, 1) := by decide +kernel
theorem d_Bs_isClass_6 : decode c_Bs_isClass 6 = .ok (.if_icmp .ge 7, 3) := by decide +kernel
theorem d_Bs_isClass_9 : decode c_Bs_isClass 9 = .ok (.iconst 1, 1) := by decide +kernel
theorem d_Bs_isClass_10 : decode c_Bs_isClass 10 = .ok (.goto 4, 3) := by decide +kernel
theorem d_Bs_isClass_13 : decode c_Bs_isClass 13 = .ok (.iconst 0, 1) := by decide +kernel
theorem d_Bs_isClass_14 : decode c_Bs_isClass 14 = .ok (.ireturn, 1) := by decide +kernel
theorem d_Tab_add_0 : decode c_Tab_add 0 = .ok (.aload_n 0, 1) := by decide +kernel
theorem d_Tab_add_1 : decode c_Tab_add 1 = .ok (.getfield 20, 3) := by decide +kernel
theorem d_Tab_add_4 : decode c_Tab_add 4 = .ok (.bipush 24, 2) := by decide +kernel
theorem d_Tab_add_6 : decode c_Tab_add 6 = .ok (.if_icmp .ge 10, 3) := by decide +kernel
theorem d_Tab_add_9 : decode c_Tab_add 9 = .ok (.iload_n 2, 1) := by decide +kernel
theorem d_Tab_add_10 : decode c_Tab_add 10 = .ok (.invokestatic 40, 3) := by decide +kernel
theorem d_Tab_add_13 : decode c_Tab_add 13 = .ok (.ifCond .ne 6, 3) := by decide +kernel
theorem d_Tab_add_16 : decode c_Tab_add 16 = .ok (.bipush (-4), 2) := by decide +kernel
theorem d_Tab_add_18 : decode c_Tab_add 18 = .ok (.ireturn, 1) := by decide +kernel
theorem d_Tab_add_19 : decode c_Tab_add 19 = .ok (.aload_n 0, 1) := by decide +kernel
theorem d_Tab_add_20 : decode c_Tab_add 20 = .ok (.getfield 20, 3) := by decide +kernel
theorem d_Tab_add_23 : decode c_Tab_add 23 = .ok (.istore_n 3, 1) := by decide +kernel
theorem d_Tab_add_24 : decode c_Tab_add 24 = .ok (.iconst 0, 1) := by decide +kernel
theorem d_Tab_add_25 : decode c_Tab_add 25 = .ok (.istore 4, 2) := by decide +kernel
theorem d_Tab_add_27 : decode c_Tab_add 27 = .ok (.iload 4, 2) := by decide +kernel
theorem d_Tab_add_29 : decode c_Tab_add 29 = .ok (.iconst 4, 1) := by decide +kernel
theorem d_Tab_add_30 : decode c_Tab_add 30 = .ok (.if_icmp .ge 48, 3) := by decide +kernel
theorem d_Tab_add_33 : decode c_Tab_add 33 = .ok (.iload 4, 2) := by decide +kernel
theorem d_Tab_add_35 : decode c_Tab_add 35 = .ok (.aload_n 1, 1) := by decide +kernel
theorem d_Tab_add_36 : decode c_Tab_add 36 = .ok (.arraylength, 1) := by decide +kernel
theorem d_Tab_add_37 : decode c_Tab_add 37 = .ok (.if_icmp .ge 41, 3) := by decide +kernel
theorem d_Tab_add_40 : decode c_Tab_add 40 = .ok (.aload_n 0, 1) := by decide +kernel
theorem d_Tab_add_41 : decode c_Tab_add 41 = .ok (.getfield 11, 3) := by decide +kernel
theorem d_Tab_add_44 : decode c_Tab_add 44 = .ok (.iload_n 3, 1) := by decide +kernel
theorem d_Tab_add_45 : decode c_Tab_add 45 = .ok (.aaload, 1) := by decide +kernel
theorem d_Tab_add_46 : decode c_Tab_add 46 = .ok (.iload 4, 2) := by decide +kernel
theorem d_Tab_add_48 : decode c_Tab_add 48 = .ok (.aload_n 1, 1) := by decide +kernel
theorem d_Tab_add_49 : decode c_Tab_add 49 = .ok (.iload 4, 2) := by decide +kernel
theorem d_Tab_add_51 : decode c_Tab_add 51 = .ok (.iaload, 1) := by decide +kernel
theorem d_Tab_add_52 : decode c_Tab_add 52 = .ok (.iastore, 1) := by decide +kernel
theorem d_Tab_add_53 : decode c_Tab_add 53 = .ok (.aload_n 1, 1) := by decide +kernel
theorem d_Tab_add_54 : decode c_Tab_add 54 = .ok (.iload 4, 2) := by decide +kernel
theorem d_Tab_add_56 : decode c_Tab_add 56 = .ok (.iaload, 1) := by decide +kernel
theorem d_Tab_add_57 : decode c_Tab_add 57 = .ok (.iconst (-1), 1) := by decide +kernel
theorem d_Tab_add_58 : decode c_Tab_add 58 = .ok (.if_icmp .eq 14, 3) := by decide +kernel
theorem d_Tab_add_61 : decode c_Tab_add 61 = .ok (.aload_n 0, 1) := by decide +kernel
theorem d_Tab_add_62 : decode c_Tab_add 62 = .ok (.iload_n 3, 1) := by decide +kernel
theorem d_Tab_add_63 : decode c_Tab_add 63 = .ok (.iload 4, 2) := by decide +kernel
theorem d_Tab_add_65 : decode c_Tab_add 65 = .ok (.aload_n 1, 1) := by decide +kernel
theorem d_Tab_add_66 : decode c_Tab_add 66 = .ok (.iload 4, 2) := by decide +kernel
theorem d_Tab_add_68 : decode c_Tab_add 68 = .ok (.iaload, 1) := by decide +kernel
theorem d_Tab_add_69 : decode c_Tab_add 69 = .ok (.invokevirtual 43, 3) := by decide +kernel
theorem d_Tab_add_72 : decode c_Tab_add 72 = .ok (.iinc 4 1, 3) := by decide +kernel
theorem d_Tab_add_75 : decode c_Tab_add 75 = .ok (.goto (-48), 3) := by decide +kernel
theorem d_Tab_add_78 : decode c_Tab_add 78 = .ok (.aload_n 0, 1) := by decide +kernel
theorem d_Tab_add_79 : decode c_Tab_add 79 = .ok (.getfield 16, 3) := by decide +kernel
theorem d_Tab_add_82 : decode c_Tab_add 82 = .ok (.iload_n 3, 1) := by decide +kernel
theorem d_Tab_add_83 : decode c_Tab_add 83 = .ok (.iload_n 2, 1) := by decide +kernel
theorem d_Tab_add_84 : decode c_Tab_add 84 = .ok (.iastore, 1) := by decide +kernel
theorem d_Tab_add_85 : decode c_Tab_add 85 = .ok (.aload_n 0, 1) := by decide +kernel
theorem d_Tab_add_86 : decode c_Tab_add 86 = .ok (.getfield 27, 3) := by decide +kernel
theorem d_Tab_add_89 : decode c_Tab_add 89 = .ok (.iload_n 2, 1) := by decide +kernel
theorem d_Tab_add_90 : decode c_Tab_add 90 = .ok (.dup2, 1) := by decide +kernel
theorem d_Tab_add_91 : decode c_Tab_add 91 = .ok (.iaload, 1) := by decide +kernel
theorem d_Tab_add_92 : decode c_Tab_add 92 = .ok (.iconst 1, 1) := by decide +kernel
theorem d_Tab_add_93 : decode c_Tab_add 93 = .ok (.iload_n 3, 1) := by decide +kernel
theorem d_Tab_add_94 : decode c_Tab_add 94 = .ok (.ishl, 1) := by decide +kernel
theorem d_Tab_add_95 : decode c_Tab_add 95 = .ok (.ior, 1) := by decide +kernel
theorem d_Tab_add_96 : decode c_Tab_add 96 = .ok (.iastore, 1) := by decide +kernel
theorem d_Tab_add_97 : decode c_Tab_add 97 = .ok (.aload_n 0, 1) := by decide +kernel
theorem d_Tab_add_98 : decode c_Tab_add 98 = .ok (.iload_n 3, 1) := by decide +kernel
theorem d_Tab_add_99 : decode c_Tab_add 99 = .ok (.iconst 1, 1) := by decide +kernel
theorem d_Tab_add_100 : decode c_Tab_add 100 = .ok (.iadd, 1) := by decide +kernel
theorem d_Tab_add_101 : decode c_Tab_add 101 = .ok (.putfield 20, 3) := by decide +kernel
theorem d_Tab_add_104 : decode c_Tab_add 104 = .ok (.iload_n 3, 1) := by decide +kernel
theorem d_Tab_add_105 : decode c_Tab_add 105 = .ok (.ireturn, 1) := by decide +kernel
theorem d_Tab_enterKnown_0 : decode c_Tab_enterKnown 0 = .ok (.iload_n 2, 1) := by decide +kernel
theorem d_Tab_enterKnown_1 : decode c_Tab_enterKnown 1 = .ok (.invokestatic 36, 3) := by decide +kernel
theorem d_Tab_enterKnown_4 : decode c_Tab_enterKnown 4 = .ok (.ifCond .ne 4, 3) := by decide +kernel
theorem d_Tab_enterKnown_7 : decode c_Tab_enterKnown 7 = .ok (.return_, 1) := by decide +kernel
theorem d_Tab_enterKnown_8 : decode c_Tab_enterKnown 8 = .ok (.iconst 1, 1) := by decide +kernel
theorem d_Tab_enterKnown_9 : decode c_Tab_enterKnown 9 = .ok (.iload_n 1, 1) := by decide +kernel
theorem d_Tab_enterKnown_10 : decode c_Tab_enterKnown 10 = .ok (.ishl, 1) := by decide +kernel
theorem d_Tab_enterKnown_11 : decode c_Tab_enterKnown 11 = .ok (.istore 4, 2) := by decide +kernel
theorem d_Tab_enterKnown_13 : decode c_Tab_enterKnown 13 = .ok (.aload_n 0, 1) := by decide +kernel
theorem d_Tab_enterKnown_14 : decode c_Tab_enterKnown 14 = .ok (.getfield 30, 3) := by decide +kernel
theorem d_Tab_enterKnown_17 : decode c_Tab_enterKnown 17 = .ok (.iload_n 2, 1) := by decide +kernel
theorem d_Tab_enterKnown_18 : decode c_Tab_enterKnown 18 = .ok (.dup2, 1) := by decide +kernel
theorem d_Tab_enterKnown_19 : decode c_Tab_enterKnown 19 = .ok (.iaload, 1) := by decide +kernel
theorem d_Tab_enterKnown_20 : decode c_Tab_enterKnown 20 = .ok (.iload 4, 2) := by decide +kernel
theorem d_Tab_enterKnown_22 : decode c_Tab_enterKnown 22 = .ok (.ior, 1) := by decide +kernel
theorem d_Tab_enterKnown_23 : decode c_Tab_enterKnown 23 = .ok (.iastore, 1) := by decide +kernel
theorem d_Tab_enterKnown_24 : decode c_Tab_enterKnown 24 = .ok (.iconst 0, 1) := by decide +kernel
theorem d_Tab_enterKnown_25 : decode c_Tab_enterKnown 25 = .ok (.istore 5, 2) := by decide +kernel
theorem d_Tab_enterKnown_27 : decode c_Tab_enterKnown 27 = .ok (.iload 5, 2) := by decide +kernel
theorem d_Tab_enterKnown_29 : decode c_Tab_enterKnown 29 = .ok (.aload_n 0, 1) := by decide +kernel
theorem d_Tab_enterKnown_30 : decode c_Tab_enterKnown 30 = .ok (.iload_n 2, 1) := by decide +kernel
theorem d_Tab_enterKnown_31 : decode c_Tab_enterKnown 31 = .ok (.invokevirtual 47, 3) := by decide +kernel
theorem d_Tab_enterKnown_34 : decode c_Tab_enterKnown 34 = .ok (.if_icmp .gt 34, 3) := by decide +kernel
theorem d_Tab_enterKnown_37 : decode c_Tab_enterKnown 37 = .ok (.aload_n 0, 1) := by decide +kernel
theorem d_Tab_enterKnown_38 : decode c_Tab_enterKnown 38 = .ok (.iload_n 2, 1) := by decide +kernel
theorem d_Tab_enterKnown_39 : decode c_Tab_enterKnown 39 = .ok (.iload 5, 2) := by decide +kernel
theorem d_Tab_enterKnown_41 : decode c_Tab_enterKnown 41 = .ok (.iload_n 3, 1) := by decide +kernel
theorem d_Tab_enterKnown_42 : decode c_Tab_enterKnown 42 = .ok (.invokevirtual 51, 3) := by decide +kernel
theorem d_Tab_enterKnown_45 : decode c_Tab_enterKnown 45 = .ok (.ifCond .eq 17, 3) := by decide +kernel
theorem d_Tab_enterKnown_48 : decode c_Tab_enterKnown 48 = .ok (.aload_n 0, 1) := by decide +kernel
theorem d_Tab_enterKnown_49 : decode c_Tab_enterKnown 49 = .ok (.getfield 33, 3) := by decide +kernel
theorem d_Tab_enterKnown_52 : decode c_Tab_enterKnown 52 = .ok (.iload_n 2, 1) := by decide +kernel
theorem d_Tab_enterKnown_53 : decode c_Tab_enterKnown 53 = .ok (.aaload, 1) := by decide +kernel
theorem d_Tab_enterKnown_54 : decode c_Tab_enterKnown 54 = .ok (.iload 5, 2) := by decide +kernel
theorem d_Tab_enterKnown_56 : decode c_Tab_enterKnown 56 = .ok (.dup2, 1) := by decide +kernel
theorem d_Tab_enterKnown_57 : decode c_Tab_enterKnown 57 = .ok (.iaload, 1) := by decide +kernel
theorem d_Tab_enterKnown_58 : decode c_Tab_enterKnown 58 = .ok (.iload 4, 2) := by decide +kernel
theorem d_Tab_enterKnown_60 : decode c_Tab_enterKnown 60 = .ok (.ior, 1) := by decide +kernel
theorem d_Tab_enterKnown_61 : decode c_Tab_enterKnown 61 = .ok (.iastore, 1) := by decide +kernel
theorem d_Tab_enterKnown_62 : decode c_Tab_enterKnown 62 = .ok (.iinc 5 1, 3) := by decide +kernel
theorem d_Tab_enterKnown_65 : decode c_Tab_enterKnown 65 = .ok (.goto (-38), 3) := by decide +kernel
theorem d_Tab_enterKnown_68 : decode c_Tab_enterKnown 68 = .ok (.return_, 1) := by decide +kernel
theorem d_Tab_lastNumber_0 : decode c_Tab_lastNumber 0 = .ok (.iload_n 1, 1) := by decide +kernel
theorem d_Tab_lastNumber_1 : decode c_Tab_lastNumber 1 = .ok (.invokestatic 36, 3) := by decide +kernel
theorem d_Tab_lastNumber_4 : decode c_Tab_lastNumber 4 = .ok (.ifCond .eq 18, 3) := by decide +kernel
theorem d_Tab_lastNumber_7 : decode c_Tab_lastNumber 7 = .ok (.aload_n 0, 1) := by decide +kernel
theorem d_Tab_lastNumber_8 : decode c_Tab_lastNumber 8 = .ok (.getfield 24, 3) := by decide +kernel
theorem d_Tab_lastNumber_11 : decode c_Tab_lastNumber 11 = .ok (.iload_n 1, 1) := by decide +kernel
theorem d_Tab_lastNumber_12 : decode c_Tab_lastNumber 12 = .ok (.iaload, 1) := by decide +kernel
theorem d_Tab_lastNumber_13 : decode c_Tab_lastNumber 13 = .ok (.iconst 1, 1) := by decide +kernel
theorem d_Tab_lastNumber_14 : decode c_Tab_lastNumber 14 = .ok (.if_icmp .ne 8, 3) := by decide +kernel
theorem d_Tab_lastNumber_17 : decode c_Tab_lastNumber 17 = .ok (.bipush 63, 2) := by decide +kernel
theorem d_Tab_lastNumber_19 : decode c_Tab_lastNumber 19 = .ok (.goto 5, 3) := by decide +kernel
theorem d_Tab_lastNumber_22 : decode c_Tab_lastNumber 22 = .ok (.bipush 100, 2) := by decide +kernel
theorem d_Tab_lastNumber_24 : decode c_Tab_lastNumber 24 = .ok (.ireturn, 1) := by decide +kernel
theorem d_Tab_isLeftOf_0 : decode c_Tab_isLeftOf 0 = .ok (.iload_n 1, 1) := by decide +kernel
theorem d_Tab_isLeftOf_1 : decode c_Tab_isLeftOf 1 = .ok (.invokestatic 36, 3) := by decide +kernel
theorem d_Tab_isLeftOf_4 : decode c_Tab_isLeftOf 4 = .ok (.ifCond .eq 28, 3) := by decide +kernel
theorem d_Tab_isLeftOf_7 : decode c_Tab_isLeftOf 7 = .ok (.aload_n 0, 1) := by decide +kernel
theorem d_Tab_isLeftOf_8 : decode c_Tab_isLeftOf 8 = .ok (.getfield 24, 3) := by decide +kernel
theorem d_Tab_isLeftOf_11 : decode c_Tab_isLeftOf 11 = .ok (.iload_n 1, 1) := by decide +kernel
theorem d_Tab_isLeftOf_12 : decode c_Tab_isLeftOf 12 = .ok (.iaload, 1) := by decide +kernel
theorem d_Tab_isLeftOf_13 : decode c_Tab_isLeftOf 13 = .ok (.iconst 1, 1) := by decide +kernel
theorem d_Tab_isLeftOf_14 : decode c_Tab_isLeftOf 14 = .ok (.if_icmp .ne 18, 3) := by decide +kernel
theorem d_Tab_isLeftOf_17 : decode c_Tab_isLeftOf 17 = .ok (.iload_n 2, 1) := by decide +kernel
theorem d_Tab_isLeftOf_18 : decode c_Tab_isLeftOf 18 = .ok (.iload_n 3, 1) := by decide +kernel
theorem d_Tab_isLeftOf_19 : decode c_Tab_isLeftOf 19 = .ok (.ishr, 1) := by decide +kernel
theorem d_Tab_isLeftOf_20 : decode c_Tab_isLeftOf 20 = .ok (.iconst 1, 1) := by decide +kernel
theorem d_Tab_isLeftOf_21 : decode c_Tab_isLeftOf 21 = .ok (.iand, 1) := by decide +kernel
theorem d_Tab_isLeftOf_22 : decode c_Tab_isLeftOf 22 = .ok (.iconst 1, 1) := by decide +kernel
theorem d_Tab_isLeftOf_23 : decode c_Tab_isLeftOf 23 = .ok (.if_icmp .ne 7, 3) := by decide +kernel
theorem d_Tab_isLeftOf_26 : decode c_Tab_isLeftOf 26 = .ok (.iconst 1, 1) := by decide +kernel
theorem d_Tab_isLeftOf_27 : decode c_Tab_isLeftOf 27 = .ok (.goto 4, 3) := by decide +kernel
theorem d_Tab_isLeftOf_30 : decode c_Tab_isLeftOf 30 = .ok (.iconst 0, 1) := by decide +kernel
theorem d_Tab_isLeftOf_31 : decode c_Tab_isLeftOf 31 = .ok (.ireturn, 1) := by decide +kernel
theorem d_Tab_isLeftOf_32 : decode c_Tab_isLeftOf 32 = .ok (.iload_n 3, 1) := by decide +kernel
theorem d_Tab_isLeftOf_33 : decode c_Tab_isLeftOf 33 = .ok (.iload_n 2, 1) := by decide +kernel
theorem d_Tab_isLeftOf_34 : decode c_Tab_isLeftOf 34 = .ok (.if_icmp .gt 7, 3) := by decide +kernel
theorem d_Tab_isLeftOf_37 : decode c_Tab_isLeftOf 37 = .ok (.iconst 1, 1) := by decide +kernel
theorem d_Tab_isLeftOf_38 : decode c_Tab_isLeftOf 38 = .ok (.goto 4, 3) := by decide +kernel
theorem d_Tab_isLeftOf_41 : decode c_Tab_isLeftOf 41 = .ok (.iconst 0, 1) := by decide +kernel
theorem d_Tab_isLeftOf_42 : decode c_Tab_isLeftOf 42 = .ok (.ireturn, 1) := by decide +kernel
theorem d_Bs_clear_0 : decode c_Bs_clear 0 = .ok (.aload_n 0, 1) := by decide +kernel
theorem d_Bs_clear_1 : decode c_Bs_clear 1 = .ok (.invokevirtual 72, 3) := by decide +kernel
theorem d_Bs_clear_4 : decode c_Bs_clear 4 = .ok (.aload_n 0, 1) := by decide +kernel
theorem d_Bs_clear_5 : decode c_Bs_clear 5 = .ok (.getfield 12, 3) := by decide +kernel
theorem d_Bs_clear_8 : decode c_Bs_clear 8 = .ok (.invokevirtual 94, 3) := by decide +kernel
theorem d_Bs_clear_11 : decode c_Bs_clear 11 = .ok (.ireturn, 1) := by decide +kernel
theorem d_Tab_removeAll_0 : decode c_Tab_removeAll 0 = .ok (.aload_n 0, 1) := by decide +kernel
theorem d_Tab_removeAll_1 : decode c_Tab_removeAll 1 = .ok (.getfield 20, 3) := by decide +kernel
theorem d_Tab_removeAll_4 : decode c_Tab_removeAll 4 = .ok (.istore_n 1, 1) := by decide +kernel
theorem d_Tab_removeAll_5 : decode c_Tab_removeAll 5 = .ok (.aload_n 0, 1) := by decide +kernel
theorem d_Tab_removeAll_6 : decode c_Tab_removeAll 6 = .ok (.iconst 0, 1) := by decide +kernel
theorem d_Tab_removeAll_7 : decode c_Tab_removeAll 7 = .ok (.putfield 20, 3) := by decide +kernel
theorem d_Tab_removeAll_10 : decode c_Tab_removeAll 10 = .ok (.iconst 0, 1) := by decide +kernel
theorem d_Tab_removeAll_11 : decode c_Tab_removeAll 11 = .ok (.istore_n 2, 1) := by decide +kernel
theorem d_Tab_removeAll_12 : decode c_Tab_removeAll 12 = .ok (.iload_n 2, 1) := by decide +kernel
theorem d_Tab_removeAll_13 : decode c_Tab_removeAll 13 = .ok (.iconst 3, 1) := by decide +kernel
theorem d_Tab_removeAll_14 : decode c_Tab_removeAll 14 = .ok (.if_icmp .ge 16, 3) := by decide +kernel
theorem d_Tab_removeAll_17 : decode c_Tab_removeAll 17 = .ok (.aload_n 0, 1) := by decide +kernel
theorem d_Tab_removeAll_18 : decode c_Tab_removeAll 18 = .ok (.getfield 27, 3) := by decide +kernel
theorem d_Tab_removeAll_21 : decode c_Tab_removeAll 21 = .ok (.iload_n 2, 1) := by decide +kernel
theorem d_Tab_removeAll_22 : decode c_Tab_removeAll 22 = .ok (.iconst 0, 1) := by decide +kernel
theorem d_Tab_removeAll_23 : decode c_Tab_removeAll 23 = .ok (.iastore, 1) := by decide +kernel
theorem d_Tab_removeAll_24 : decode c_Tab_removeAll 24 = .ok (.iinc 2 1, 3) := by decide +kernel
theorem d_Tab_removeAll_27 : decode c_Tab_removeAll 27 = .ok (.goto (-15), 3) := by decide +kernel
theorem d_Tab_removeAll_30 : decode c_Tab_removeAll 30 = .ok (.iconst 0, 1) := by decide +kernel
theorem d_Tab_removeAll_31 : decode c_Tab_removeAll 31 = .ok (.istore_n 2, 1) := by decide +kernel
theorem d_Tab_removeAll_32 : decode c_Tab_removeAll 32 = .ok (.iload_n 2, 1) := by decide +kernel
theorem d_Tab_removeAll_33 : decode c_Tab_removeAll 33 = .ok (.iconst 4, 1) := by decide +kernel
theorem d_Tab_removeAll_34 : decode c_Tab_removeAll 34 = .ok (.if_icmp .ge 39, 3) := by decide +kernel
theorem d_Tab_removeAll_37 : decode c_Tab_removeAll 37 = .ok (.aload_n 0, 1) := by decide +kernel
theorem d_Tab_removeAll_38 : decode c_Tab_removeAll 38 = .ok (.getfield 30, 3) := by decide +kernel
theorem d_Tab_removeAll_41 : decode c_Tab_removeAll 41 = .ok (.iload_n 2, 1) := by decide +kernel
theorem d_Tab_removeAll_42 : decode c_Tab_removeAll 42 = .ok (.iconst 0, 1) := by decide +kernel
theorem d_Tab_removeAll_43 : decode c_Tab_removeAll 43 = .ok (.iastore, 1) := by decide +kernel
theorem d_Tab_removeAll_44 : decode c_Tab_removeAll 44 = .ok (.iconst 0, 1) := by decide +kernel
theorem d_Tab_removeAll_45 : decode c_Tab_removeAll 45 = .ok (.istore_n 3, 1) := by decide +kernel
theorem d_Tab_removeAll_46 : decode c_Tab_removeAll 46 = .ok (.iload_n 3, 1) := by decide +kernel
theorem d_Tab_removeAll_47 : decode c_Tab_removeAll 47 = .ok (.bipush 100, 2) := by decide +kernel
theorem d_Tab_removeAll_49 : decode c_Tab_removeAll 49 = .ok (.if_icmp .gt 18, 3) := by decide +kernel
theorem d_Tab_removeAll_52 : decode c_Tab_removeAll 52 = .ok (.aload_n 0, 1) := by decide +kernel
theorem d_Tab_removeAll_53 : decode c_Tab_removeAll 53 = .ok (.getfield 33, 3) := by decide +kernel
theorem d_Tab_removeAll_56 : decode c_Tab_removeAll 56 = .ok (.iload_n 2, 1) := by decide +kernel
theorem d_Tab_removeAll_57 : decode c_Tab_removeAll 57 = .ok (.aaload, 1) := by decide +kernel
theorem d_Tab_removeAll_58 : decode c_Tab_removeAll 58 = .ok (.iload_n 3, 1) := by decide +kernel
theorem d_Tab_removeAll_59 : decode c_Tab_removeAll 59 = .ok (.iconst 0, 1) := by decide +kernel
theorem d_Tab_removeAll_60 : decode c_Tab_removeAll 60 = .ok (.iastore, 1) := by decide +kernel
theorem d_Tab_removeAll_61 : decode c_Tab_removeAll 61 = .ok (.iinc 3 1, 3) := by decide +kernel
theorem d_Tab_removeAll_64 : decode c_Tab_removeAll 64 = .ok (.goto (-18), 3) := by decide +kernel
theorem d_Tab_removeAll_67 : decode c_Tab_removeAll 67 = .ok (.iinc 2 1, 3) := by decide +kernel
theorem d_Tab_removeAll_70 : decode c_Tab_removeAll 70 = .ok (.goto (-38), 3) := by decide +kernel
theorem d_Tab_removeAll_73 : decode c_Tab_removeAll 73 = .ok (.iload_n 1, 1) := by decide +kernel
theorem d_Tab_removeAll_74 : decode c_Tab_removeAll 74 = .ok (.ireturn, 1) := by decide +kernel
theorem d_Bs_settings_0 : decode c_Bs_settings 0 = .ok (.iload_n 1, 1) := by decide +kernel
theorem d_Bs_settings_1 : decode c_Bs_settings 1 = .ok (.ifCond .lt 19, 3) := by decide +kernel
theorem d_Bs_settings_4 : decode c_Bs_settings 4 = .ok (.iload_n 1, 1) := by decide +kernel
theorem d_Bs_settings_5 : decode c_Bs_settings 5 = .ok (.iconst 5, 1) := by decide +kernel
theorem d_Bs_settings_6 : decode c_Bs_settings 6 = .ok (.if_icmp .gt 14, 3) := by decide +kernel
theorem d_Bs_settings_9 : decode c_Bs_settings 9 = .ok (.iload_n 2, 1) := by decide +kernel
theorem d_Bs_settings_10 : decode c_Bs_settings 10 = .ok (.iconst 1, 1) := by decide +kernel
theorem d_Bs_settings_11 : decode c_Bs_settings 11 = .ok (.if_icmp .lt 9, 3) := by decide +kernel
theorem d_Bs_settings_14 : decode c_Bs_settings 14 = .ok (.iload_n 2, 1) := by decide +kernel
theorem d_Bs_settings_15 : decode c_Bs_settings 15 = .ok (.bipush 10, 2) := by decide +kernel
theorem d_Bs_settings_17 : decode c_Bs_settings 17 = .ok (.if_icmp .le 6, 3) := by decide +kernel
theorem d_Bs_settings_20 : decode c_Bs_settings 20 = .ok (.bipush (-2), 2) := by decide +kernel
theorem d_Bs_settings_22 : decode c_Bs_settings 22 = .ok (.ireturn, 1) := by decide +kernel
theorem d_Bs_settings_23 : decode c_Bs_settings 23 = .ok (.iload_n 3, 1) := by decide +kernel
theorem d_Bs_settings_24 : decode c_Bs_settings 24 = .ok (.ifCond .lt 10, 3) := by decide +kernel
theorem d_Bs_settings_27 : decode c_Bs_settings 27 = .ok (.iload_n 3, 1) := by decide +kernel
theorem d_Bs_settings_28 : decode c_Bs_settings 28 = .ok (.sipush 1000, 3) := by decide +kernel
theorem d_Bs_settings_31 : decode c_Bs_settings 31 = .ok (.if_icmp .le 6, 3) := by decide +kernel
theorem d_Bs_settings_34 : decode c_Bs_settings 34 = .ok (.bipush (-2), 2) := by decide +kernel
theorem d_Bs_settings_36 : decode c_Bs_settings 36 = .ok (.ireturn, 1) := by decide +kernel
theorem d_Bs_settings_37 : decode c_Bs_settings 37 = .ok (.aload_n 0, 1) := by decide +kernel
theorem d_Bs_settings_38 : decode c_Bs_settings 38 = .ok (.getfield 19, 3) := by decide +kernel
theorem d_Bs_settings_41 : decode c_Bs_settings 41 = .ok (.iload_n 1, 1) := by decide +kernel
theorem d_Bs_settings_42 : decode c_Bs_settings 42 = .ok (.putfield 98, 3) := by decide +kernel
theorem d_Bs_settings_45 : decode c_Bs_settings 45 = .ok (.aload_n 0, 1) := by decide +kernel
theorem d_Bs_settings_46 : decode c_Bs_settings 46 = .ok (.getfield 19, 3) := by decide +kernel
theorem d_Bs_settings_49 : decode c_Bs_settings 49 = .ok (.iload_n 2, 1) := by decide +kernel
theorem d_Bs_settings_50 : decode c_Bs_settings 50 = .ok (.putfield 101, 3) := by decide +kernel
theorem d_Bs_settings_53 : decode c_Bs_settings 53 = .ok (.aload_n 0, 1) := by decide +kernel
theorem d_Bs_settings_54 : decode c_Bs_settings 54 = .ok (.getfield 19, 3) := by decide +kernel
theorem d_Bs_settings_57 : decode c_Bs_settings 57 = .ok (.iload_n 3, 1) := by decide +kernel
theorem d_Bs_settings_58 : decode c_Bs_settings 58 = .ok (.putfield 104, 3) := by decide +kernel
theorem d_Bs_settings_61 : decode c_Bs_settings 61 = .ok (.aload_n 0, 1) := by decide +kernel
theorem d_Bs_settings_62 : decode c_Bs_settings 62 = .ok (.invokevirtual 72, 3) := by decide +kernel
theorem d_Bs_settings_65 : decode c_Bs_settings 65 = .ok (.iconst 1, 1) := by decide +kernel
theorem d_Bs_settings_66 : decode c_Bs_settings 66 = .ok (.ireturn, 1) := by decide +kernel
theorem d_Bs_nodes_0 : decode c_Bs_nodes 0 = .ok (.aload_n 0, 1) := by decide +kernel
theorem d_Bs_nodes_1 : decode c_Bs_nodes 1 = .ok (.invokevirtual 107, 3) := by decide +kernel
theorem d_Bs_nodes_4 : decode c_Bs_nodes 4 = .ok (.aload_n 0, 1) := by decide +kernel
theorem d_Bs_nodes_5 : decode c_Bs_nodes 5 = .ok (.getfield 37, 3) := by decide +kernel
theorem d_Bs_nodes_8 : decode c_Bs_nodes 8 = .ok (.getfield 110, 3) := by decide +kernel
theorem d_Bs_nodes_11 : decode c_Bs_nodes 11 = .ok (.ireturn, 1) := by decide +kernel
theorem d_Bs_growIfChanged_0 : decode c_Bs_growIfChanged 0 = .ok (.aload_n 0, 1) := by decide +kernel
theorem d_Bs_growIfChanged_1 : decode c_Bs_growIfChanged 1 = .ok (.getfield 57, 3) := by decide +kernel
theorem d_Bs_growIfChanged_4 : decode c_Bs_growIfChanged 4 = .ok (.ifCond .eq 29, 3) := by decide +kernel
theorem d_Bs_growIfChanged_7 : decode c_Bs_growIfChanged 7 = .ok (.aload_n 0, 1) := by decide +kernel
theorem d_Bs_growIfChanged_8 : decode c_Bs_growIfChanged 8 = .ok (.getfield 37, 3) := by decide +kernel
theorem d_Bs_growIfChanged_11 : decode c_Bs_growIfChanged 11 = .ok (.aload_n 0, 1) := by decide +kernel
theorem d_Bs_growIfChanged_12 : decode c_Bs_growIfChanged 12 = .ok (.getfield 12, 3) := by decide +kernel
theorem d_Bs_growIfChanged_15 : decode c_Bs_growIfChanged 15 = .ok (.invokevirtual 166, 3) := by decide +kernel
theorem d_Bs_growIfChanged_18 : decode c_Bs_growIfChanged 18 = .ok (.invokevirtual 201, 3) := by decide +kernel
theorem d_Bs_growIfChanged_21 : decode c_Bs_growIfChanged 21 = .ok (.aload_n 0, 1) := by decide +kernel
theorem d_Bs_growIfChanged_22 : decode c_Bs_growIfChanged 22 = .ok (.getfield 49, 3) := by decide +kernel
theorem d_Bs_growIfChanged_25 : decode c_Bs_growIfChanged 25 = .ok (.invokevirtual 211, 3) := by decide +kernel
theorem d_Bs_growIfChanged_28 : decode c_Bs_growIfChanged 28 = .ok (.aload_n 0, 1) := by decide +kernel
theorem d_Bs_growIfChanged_29 : decode c_Bs_growIfChanged 29 = .ok (.iconst 0, 1) := by decide +kernel
theorem d_Bs_growIfChanged_30 : decode c_Bs_growIfChanged 30 = .ok (.putfield 57, 3) := by decide +kernel
theorem d_Bs_growIfChanged_33 : decode c_Bs_growIfChanged 33 = .ok (.return_, 1) := by decide +kernel
theorem d_Tab_allRows_0 : decode c_Tab_allRows 0 = .ok (.iconst 1, 1) := by decide +kernel
theorem d_Tab_allRows_1 : decode c_Tab_allRows 1 = .ok (.aload_n 0, 1) := by decide +kernel
theorem d_Tab_allRows_2 : decode c_Tab_allRows 2 = .ok (.getfield 20, 3) := by decide +kernel
theorem d_Tab_allRows_5 : decode c_Tab_allRows 5 = .ok (.ishl, 1) := by decide +kernel
theorem d_Tab_allRows_6 : decode c_Tab_allRows 6 = .ok (.iconst 1, 1) := by decide +kernel
theorem d_Tab_allRows_7 : decode c_Tab_allRows 7 = .ok (.isub, 1) := by decide +kernel
theorem d_Tab_allRows_8 : decode c_Tab_allRows 8 = .ok (.ireturn, 1) := by decide +kernel
theorem d_Tab_labelOf_0 : decode c_Tab_labelOf 0 = .ok (.iconst 0, 1) := by decide +kernel
theorem d_Tab_labelOf_1 : decode c_Tab_labelOf 1 = .ok (.istore_n 2, 1) := by decide +kernel
theorem d_Tab_labelOf_2 : decode c_Tab_labelOf 2 = .ok (.iconst 1, 1) := by decide +kernel
theorem d_Tab_labelOf_3 : decode c_Tab_labelOf 3 = .ok (.istore_n 3, 1) := by decide +kernel
theorem d_Tab_labelOf_4 : decode c_Tab_labelOf 4 = .ok (.iload_n 3, 1) := by decide +kernel
theorem d_Tab_labelOf_5 : decode c_Tab_labelOf 5 = .ok (.iconst 3, 1) := by decide +kernel
theorem d_Tab_labelOf_6 : decode c_Tab_labelOf 6 = .ok (.if_icmp .ge 26, 3) := by decide +kernel
theorem d_Tab_labelOf_9 : decode c_Tab_labelOf 9 = .ok (.aload_n 0, 1) := by decide +kernel
theorem d_Tab_labelOf_10 : decode c_Tab_labelOf 10 = .ok (.iload_n 1, 1) := by decide +kernel
theorem d_Tab_labelOf_11 : decode c_Tab_labelOf 11 = .ok (.iload_n 3, 1) := by decide +kernel
theorem d_Tab_labelOf_12 : decode c_Tab_labelOf 12 = .ok (.invokevirtual 77, 3) := by decide +kernel
theorem d_Tab_labelOf_15 : decode c_Tab_labelOf 15 = .ok (.aload_n 0, 1) := by decide +kernel
theorem d_Tab_labelOf_16 : decode c_Tab_labelOf 16 = .ok (.iload_n 1, 1) := by decide +kernel
theorem d_Tab_labelOf_17 : decode c_Tab_labelOf 17 = .ok (.iload_n 2, 1) := by decide +kernel
theorem d_Tab_labelOf_18 : decode c_Tab_labelOf 18 = .ok (.invokevirtual 77, 3) := by decide +kernel
theorem d_Tab_labelOf_21 : decode c_Tab_labelOf 21 = .ok (.if_icmp .le 5, 3) := by decide +kernel
theorem d_Tab_labelOf_24 : decode c_Tab_labelOf 24 = .ok (.iload_n 3, 1) := by decide +kernel
theorem d_Tab_labelOf_25 : decode c_Tab_labelOf 25 = .ok (.istore_n 2, 1) := by decide +kernel
theorem d_Tab_labelOf_26 : decode c_Tab_labelOf 26 = .ok (.iinc 3 1, 3) := by decide +kernel
theorem d_Tab_labelOf_29 : decode c_Tab_labelOf 29 = .ok (.goto (-25), 3) := by decide +kernel
theorem d_Tab_labelOf_32 : decode c_Tab_labelOf 32 = .ok (.iload_n 2, 1) := by decide +kernel
theorem d_Tab_labelOf_33 : decode c_Tab_labelOf 33 = .ok (.ireturn, 1) := by decide +kernel
theorem d_Tab_countOf_0 : decode c_Tab_countOf 0 = .ok (.iload_n 2, 1) := by decide +kernel
theorem d_Tab_countOf_1 : decode c_Tab_countOf 1 = .ok (.invokestatic 40, 3) := by decide +kernel
theorem d_Tab_countOf_4 : decode c_Tab_countOf 4 = .ok (.ifCond .eq 17, 3) := by decide +kernel
theorem d_Tab_countOf_7 : decode c_Tab_countOf 7 = .ok (.iload_n 1, 1) := by decide +kernel
theorem d_Tab_countOf_8 : decode c_Tab_countOf 8 = .ok (.aload_n 0, 1) := by decide +kernel
theorem d_Tab_countOf_9 : decode c_Tab_countOf 9 = .ok (.getfield 27, 3) := by decide +kernel
theorem d_Tab_countOf_12 : decode c_Tab_countOf 12 = .ok (.iload_n 2, 1) := by decide +kernel
theorem d_Tab_countOf_13 : decode c_Tab_countOf 13 = .ok (.iaload, 1) := by decide +kernel
theorem d_Tab_countOf_14 : decode c_Tab_countOf 14 = .ok (.iand, 1) := by decide +kernel
theorem d_Tab_countOf_15 : decode c_Tab_countOf 15 = .ok (.invokestatic 72, 3) := by decide +kernel
theorem d_Tab_countOf_18 : decode c_Tab_countOf 18 = .ok (.goto 4, 3) := by decide +kernel
theorem d_Tab_countOf_21 : decode c_Tab_countOf 21 = .ok (.iconst 0, 1) := by decide +kernel
theorem d_Tab_countOf_22 : decode c_Tab_countOf 22 = .ok (.ireturn, 1) := by decide +kernel
theorem d_Tab_canCut_0 : decode c_Tab_canCut 0 = .ok (.iload_n 2, 1) := by decide +kernel
theorem d_Tab_canCut_1 : decode c_Tab_canCut 1 = .ok (.invokestatic 36, 3) := by decide +kernel
theorem d_Tab_canCut_4 : decode c_Tab_canCut 4 = .ok (.ifCond .eq 16, 3) := by decide +kernel
theorem d_Tab_canCut_7 : decode c_Tab_canCut 7 = .ok (.iload_n 3, 1) := by decide +kernel
theorem d_Tab_canCut_8 : decode c_Tab_canCut 8 = .ok (.ifCond .lt 12, 3) := by decide +kernel
theorem d_Tab_canCut_11 : decode c_Tab_canCut 11 = .ok (.iload_n 3, 1) := by decide +kernel
theorem d_Tab_canCut_12 : decode c_Tab_canCut 12 = .ok (.aload_n 0, 1) := by decide +kernel
theorem d_Tab_canCut_13 : decode c_Tab_canCut 13 = .ok (.iload_n 2, 1) := by decide +kernel
theorem d_Tab_canCut_14 : decode c_Tab_canCut 14 = .ok (.invokevirtual 47, 3) := by decide +kernel
theorem d_Tab_canCut_17 : decode c_Tab_canCut 17 = .ok (.if_icmp .le 5, 3) := by decide +kernel
theorem d_Tab_canCut_20 : decode c_Tab_canCut 20 = .ok (.iconst 0, 1) := by decide +kernel
theorem d_Tab_canCut_21 : decode c_Tab_canCut 21 = .ok (.ireturn, 1) := by decide +kernel
theorem d_Tab_canCut_22 : decode c_Tab_canCut 22 = .ok (.aload_n 0, 1) := by decide +kernel
theorem d_Tab_canCut_23 : decode c_Tab_canCut 23 = .ok (.getfield 24, 3) := by decide +kernel
theorem d_Tab_canCut_26 : decode c_Tab_canCut 26 = .ok (.iload_n 2, 1) := by decide +kernel
theorem d_Tab_canCut_27 : decode c_Tab_canCut 27 = .ok (.iaload, 1) := by decide +kernel
theorem d_Tab_canCut_28 : decode c_Tab_canCut 28 = .ok (.iconst 1, 1) := by decide +kernel
theorem d_Tab_canCut_29 : decode c_Tab_canCut 29 = .ok (.if_icmp .ne 13, 3) := by decide +kernel
theorem d_Tab_canCut_32 : decode c_Tab_canCut 32 = .ok (.aload_n 0, 1) := by decide +kernel
theorem d_Tab_canCut_33 : decode c_Tab_canCut 33 = .ok (.iload_n 1, 1) := by decide +kernel
theorem d_Tab_canCut_34 : decode c_Tab_canCut 34 = .ok (.iload_n 2, 1) := by decide +kernel
theorem d_Tab_canCut_35 : decode c_Tab_canCut 35 = .ok (.iload_n 3, 1) := by decide +kernel
theorem d_Tab_canCut_36 : decode c_Tab_canCut 36 = .ok (.invokevirtual 66, 3) := by decide +kernel
theorem d_Tab_canCut_39 : decode c_Tab_canCut 39 = .ok (.goto 10, 3) := by decide +kernel
theorem d_Tab_canCut_42 : decode c_Tab_canCut 42 = .ok (.aload_n 0, 1) := by decide +kernel
theorem d_Tab_canCut_43 : decode c_Tab_canCut 43 = .ok (.iload_n 1, 1) := by decide +kernel
theorem d_Tab_canCut_44 : decode c_Tab_canCut 44 = .ok (.iload_n 2, 1) := by decide +kernel
theorem d_Tab_canCut_45 : decode c_Tab_canCut 45 = .ok (.iload_n 3, 1) := by decide +kernel
theorem d_Tab_canCut_46 : decode c_Tab_canCut 46 = .ok (.invokevirtual 69, 3) := by decide +kernel
theorem d_Tab_canCut_49 : decode c_Tab_canCut 49 = .ok (.ireturn, 1) := by decide +kernel
theorem d_Tab_isGrouping_0 : decode c_Tab_isGrouping 0 = .ok (.iload_n 2, 1) := by decide +kernel
theorem d_Tab_isGrouping_1 : decode c_Tab_isGrouping 1 = .ok (.invokestatic 36, 3) := by decide +kernel
theorem d_Tab_isGrouping_4 : decode c_Tab_isGrouping 4 = .ok (.ifCond .ne 5, 3) := by decide +kernel
theorem d_Tab_isGrouping_7 : decode c_Tab_isGrouping 7 = .ok (.iconst 0, 1) := by decide +kernel
theorem d_Tab_isGrouping_8 : decode c_Tab_isGrouping 8 = .ok (.ireturn, 1) := by decide +kernel
theorem d_Tab_isGrouping_9 : decode c_Tab_isGrouping 9 = .ok (.iconst 0, 1) := by decide +kernel
theorem d_Tab_isGrouping_10 : decode c_Tab_isGrouping 10 = .ok (.istore 4, 2) := by decide +kernel
theorem d_Tab_isGrouping_12 : decode c_Tab_isGrouping 12 = .ok (.iconst 0, 1) := by decide +kernel
theorem d_Tab_isGrouping_13 : decode c_Tab_isGrouping 13 = .ok (.istore 5, 2) := by decide +kernel
theorem d_Tab_isGrouping_15 : decode c_Tab_isGrouping 15 = .ok (.iload 5, 2) := by decide +kernel
theorem d_Tab_isGrouping_17 : decode c_Tab_isGrouping 17 = .ok (.iconst 5, 1) := by decide +kernel
theorem d_Tab_isGrouping_18 : decode c_Tab_isGrouping 18 = .ok (.if_icmp .gt 34, 3) := by decide +kernel
theorem d_Tab_isGrouping_21 : decode c_Tab_isGrouping 21 = .ok (.iload_n 1, 1) := by decide +kernel
theorem d_Tab_isGrouping_22 : decode c_Tab_isGrouping 22 = .ok (.aload_n 0, 1) := by decide +kernel
theorem d_Tab_isGrouping_23 : decode c_Tab_isGrouping 23 = .ok (.getfield 33, 3) := by decide +kernel
theorem d_Tab_isGrouping_26 : decode c_Tab_isGrouping 26 = .ok (.iload_n 2, 1) := by decide +kernel
theorem d_Tab_isGrouping_27 : decode c_Tab_isGrouping 27 = .ok (.aaload, 1) := by decide +kernel
theorem d_Tab_isGrouping_28 : decode c_Tab_isGrouping 28 = .ok (.iconst 1, 1) := by decide +kernel
theorem d_Tab_isGrouping_29 : decode c_Tab_isGrouping 29 = .ok (.iload 5, 2) := by decide +kernel
theorem d_Tab_isGrouping_31 : decode c_Tab_isGrouping 31 = .ok (.ishl, 1) := by decide +kernel
theorem d_Tab_isGrouping_32 : decode c_Tab_isGrouping 32 = .ok (.iaload, 1) := by decide +kernel
theorem d_Tab_isGrouping_33 : decode c_Tab_isGrouping 33 = .ok (.iand, 1) := by decide +kernel
theorem d_Tab_isGrouping_34 : decode c_Tab_isGrouping 34 = .ok (.ifCond .eq 12, 3) := by decide +kernel
theorem d_Tab_isGrouping_37 : decode c_Tab_isGrouping 37 = .ok (.iload 4, 2) := by decide +kernel
theorem d_Tab_isGrouping_39 : decode c_Tab_isGrouping 39 = .ok (.iconst 1, 1) := by decide +kernel
theorem d_Tab_isGrouping_40 : decode c_Tab_isGrouping 40 = .ok (.iload 5, 2) := by decide +kernel
theorem d_Tab_isGrouping_42 : decode c_Tab_isGrouping 42 = .ok (.ishl, 1) := by decide +kernel
theorem d_Tab_isGrouping_43 : decode c_Tab_isGrouping 43 = .ok (.ior, 1) := by decide +kernel
theorem d_Tab_isGrouping_44 : decode c_Tab_isGrouping 44 = .ok (.istore 4, 2) := by decide +kernel
theorem d_Tab_isGrouping_46 : decode c_Tab_isGrouping 46 = .ok (.iinc 5 1, 3) := by decide +kernel
theorem d_Tab_isGrouping_49 : decode c_Tab_isGrouping 49 = .ok (.goto (-34), 3) := by decide +kernel
theorem d_Tab_isGrouping_52 : decode c_Tab_isGrouping 52 = .ok (.iload 4, 2) := by decide +kernel
theorem d_Tab_isGrouping_54 : decode c_Tab_isGrouping 54 = .ok (.iload 4, 2) := by decide +kernel
theorem d_Tab_isGrouping_56 : decode c_Tab_isGrouping 56 = .ok (.ineg, 1) := by decide +kernel
theorem d_Tab_isGrouping_57 : decode c_Tab_isGrouping 57 = .ok (.iand, 1) := by decide +kernel
theorem d_Tab_isGrouping_58 : decode c_Tab_isGrouping 58 = .ok (.istore 5, 2) := by decide +kernel
theorem d_Tab_isGrouping_60 : decode c_Tab_isGrouping 60 = .ok (.iload_n 3, 1) := by decide +kernel
theorem d_Tab_isGrouping_61 : decode c_Tab_isGrouping 61 = .ok (.iload 4, 2) := by decide +kernel
theorem d_Tab_isGrouping_63 : decode c_Tab_isGrouping 63 = .ok (.iconst (-1), 1) := by decide +kernel
theorem d_Tab_isGrouping_64 : decode c_Tab_isGrouping 64 = .ok (.ixor, 1) := by decide +kernel
theorem d_Tab_isGrouping_65 : decode c_Tab_isGrouping 65 = .ok (.iand, 1) := by decide +kernel
theorem d_Tab_isGrouping_66 : decode c_Tab_isGrouping 66 = .ok (.ifCond .ne 20, 3) := by decide +kernel
theorem d_Tab_isGrouping_69 : decode c_Tab_isGrouping 69 = .ok (.iload_n 3, 1) := by decide +kernel
theorem d_Tab_isGrouping_70 : decode c_Tab_isGrouping 70 = .ok (.iload 5, 2) := by decide +kernel
theorem d_Tab_isGrouping_72 : decode c_Tab_isGrouping 72 = .ok (.iand, 1) := by decide +kernel
theorem d_Tab_isGrouping_73 : decode c_Tab_isGrouping 73 = .ok (.ifCond .eq 13, 3) := by decide +kernel
theorem d_Tab_isGrouping_76 : decode c_Tab_isGrouping 76 = .ok (.iload_n 3, 1) := by decide +kernel
theorem d_Tab_isGrouping_77 : decode c_Tab_isGrouping 77 = .ok (.iload 4, 2) := by decide +kernel
theorem d_Tab_isGrouping_79 : decode c_Tab_isGrouping 79 = .ok (.if_icmp .eq 7, 3) := by decide +kernel
theorem d_Tab_isGrouping_82 : decode c_Tab_isGrouping 82 = .ok (.iconst 1, 1) := by decide +kernel
theorem d_Tab_isGrouping_83 : decode c_Tab_isGrouping 83 = .ok (.goto 4, 3) := by decide +kernel
theorem d_Tab_isGrouping_86 : decode c_Tab_isGrouping 86 = .ok (.iconst 0, 1) := by decide +kernel
theorem d_Tab_isGrouping_87 : decode c_Tab_isGrouping 87 = .ok (.ireturn, 1) := by decide +kernel
theorem d_Tab_isStep_0 : decode c_Tab_isStep 0 = .ok (.iload_n 2, 1) := by decide +kernel
theorem d_Tab_isStep_1 : decode c_Tab_isStep 1 = .ok (.invokestatic 36, 3) := by decide +kernel
theorem d_Tab_isStep_4 : decode c_Tab_isStep 4 = .ok (.ifCond .eq 13, 3) := by decide +kernel
theorem d_Tab_isStep_7 : decode c_Tab_isStep 7 = .ok (.iload_n 3, 1) := by decide +kernel
theorem d_Tab_isStep_8 : decode c_Tab_isStep 8 = .ok (.ifCond .lt 9, 3) := by decide +kernel
theorem d_Tab_isStep_11 : decode c_Tab_isStep 11 = .ok (.iload_n 3, 1) := by decide +kernel
theorem d_Tab_isStep_12 : decode c_Tab_isStep 12 = .ok (.bipush 100, 2) := by decide +kernel
theorem d_Tab_isStep_14 : decode c_Tab_isStep 14 = .ok (.if_icmp .le 5, 3) := by decide +kernel
theorem d_Tab_isStep_17 : decode c_Tab_isStep 17 = .ok (.iconst 0, 1) := by decide +kernel
theorem d_Tab_isStep_18 : decode c_Tab_isStep 18 = .ok (.ireturn, 1) := by decide +kernel
theorem d_Tab_isStep_19 : decode c_Tab_isStep 19 = .ok (.iload_n 1, 1) := by decide +kernel
theorem d_Tab_isStep_20 : decode c_Tab_isStep 20 = .ok (.aload_n 0, 1) := by decide +kernel
theorem d_Tab_isStep_21 : decode c_Tab_isStep 21 = .ok (.getfield 33, 3) := by decide +kernel
theorem d_Tab_isStep_24 : decode c_Tab_isStep 24 = .ok (.iload_n 2, 1) := by decide +kernel
theorem d_Tab_isStep_25 : decode c_Tab_isStep 25 = .ok (.aaload, 1) := by decide +kernel
theorem d_Tab_isStep_26 : decode c_Tab_isStep 26 = .ok (.iload_n 3, 1) := by decide +kernel
theorem d_Tab_isStep_27 : decode c_Tab_isStep 27 = .ok (.iaload, 1) := by decide +kernel
theorem d_Tab_isStep_28 : decode c_Tab_isStep 28 = .ok (.iand, 1) := by decide +kernel
theorem d_Tab_isStep_29 : decode c_Tab_isStep 29 = .ok (.istore 4, 2) := by decide +kernel
theorem d_Tab_isStep_31 : decode c_Tab_isStep 31 = .ok (.iload_n 3, 1) := by decide +kernel
theorem d_Tab_isStep_32 : decode c_Tab_isStep 32 = .ok (.ifCond .ne 7, 3) := by decide +kernel
theorem d_Tab_isStep_35 : decode c_Tab_isStep 35 = .ok (.iconst 0, 1) := by decide +kernel
theorem d_Tab_isStep_36 : decode c_Tab_isStep 36 = .ok (.goto 15, 3) := by decide +kernel
theorem d_Tab_isStep_39 : decode c_Tab_isStep 39 = .ok (.iload_n 1, 1) := by decide +kernel
theorem d_Tab_isStep_40 : decode c_Tab_isStep 40 = .ok (.aload_n 0, 1) := by decide +kernel
theorem d_Tab_isStep_41 : decode c_Tab_isStep 41 = .ok (.getfield 33, 3) := by decide +kernel
theorem d_Tab_isStep_44 : decode c_Tab_isStep 44 = .ok (.iload_n 2, 1) := by decide +kernel
theorem d_Tab_isStep_45 : decode c_Tab_isStep 45 = .ok (.aaload, 1) := by decide +kernel
theorem d_Tab_isStep_46 : decode c_Tab_isStep 46 = .ok (.iload_n 3, 1) := by decide +kernel
theorem d_Tab_isStep_47 : decode c_Tab_isStep 47 = .ok (.iconst 1, 1) := by decide +kernel
theorem d_Tab_isStep_48 : decode c_Tab_isStep 48 = .ok (.isub, 1) := by decide +kernel
theorem d_Tab_isStep_49 : decode c_Tab_isStep 49 = .ok (.iaload, 1) := by decide +kernel
theorem d_Tab_isStep_50 : decode c_Tab_isStep 50 = .ok (.iand, 1) := by decide +kernel
theorem d_Tab_isStep_51 : decode c_Tab_isStep 51 = .ok (.istore 5, 2) := by decide +kernel
theorem d_Tab_isStep_53 : decode c_Tab_isStep 53 = .ok (.iload 4, 2) := by decide +kernel
theorem d_Tab_isStep_55 : decode c_Tab_isStep 55 = .ok (.iload 5, 2) := by decide +kernel
theorem d_Tab_isStep_57 : decode c_Tab_isStep 57 = .ok (.if_icmp .eq 20, 3) := by decide +kernel
theorem d_Tab_isStep_60 : decode c_Tab_isStep 60 = .ok (.iload 4, 2) := by decide +kernel
theorem d_Tab_isStep_62 : decode c_Tab_isStep 62 = .ok (.iload_n 1, 1) := by decide +kernel
theorem d_Tab_isStep_63 : decode c_Tab_isStep 63 = .ok (.aload_n 0, 1) := by decide +kernel
theorem d_Tab_isStep_64 : decode c_Tab_isStep 64 = .ok (.getfield 30, 3) := by decide +kernel
theorem d_Tab_isStep_67 : decode c_Tab_isStep 67 = .ok (.iload_n 2, 1) := by decide +kernel
theorem d_Tab_isStep_68 : decode c_Tab_isStep 68 = .ok (.iaload, 1) := by decide +kernel
theorem d_Tab_isStep_69 : decode c_Tab_isStep 69 = .ok (.iand, 1) := by decide +kernel
theorem d_Tab_isStep_70 : decode c_Tab_isStep 70 = .ok (.if_icmp .eq 7, 3) := by decide +kernel
theorem d_Tab_isStep_73 : decode c_Tab_isStep 73 = .ok (.iconst 1, 1) := by decide +kernel
theorem d_Tab_isStep_74 : decode c_Tab_isStep 74 = .ok (.goto 4, 3) := by decide +kernel
theorem d_Tab_isStep_77 : decode c_Tab_isStep 77 = .ok (.iconst 0, 1) := by decide +kernel
theorem d_Tab_isStep_78 : decode c_Tab_isStep 78 = .ok (.ireturn, 1) := by decide +kernel
theorem d_Tab_unknownOf_0 : decode c_Tab_unknownOf 0 = .ok (.iload_n 2, 1) := by decide +kernel
theorem d_Tab_unknownOf_1 : decode c_Tab_unknownOf 1 = .ok (.invokestatic 36, 3) := by decide +kernel
theorem d_Tab_unknownOf_4 : decode c_Tab_unknownOf 4 = .ok (.ifCond .eq 16, 3) := by decide +kernel
theorem d_Tab_unknownOf_7 : decode c_Tab_unknownOf 7 = .ok (.iload_n 1, 1) := by decide +kernel
theorem d_Tab_unknownOf_8 : decode c_Tab_unknownOf 8 = .ok (.aload_n 0, 1) := by decide +kernel
theorem d_Tab_unknownOf_9 : decode c_Tab_unknownOf 9 = .ok (.getfield 30, 3) := by decide +kernel
theorem d_Tab_unknownOf_12 : decode c_Tab_unknownOf 12 = .ok (.iload_n 2, 1) := by decide +kernel
theorem d_Tab_unknownOf_13 : decode c_Tab_unknownOf 13 = .ok (.iaload, 1) := by decide +kernel
theorem d_Tab_unknownOf_14 : decode c_Tab_unknownOf 14 = .ok (.iconst (-1), 1) := by decide +kernel
theorem d_Tab_unknownOf_15 : decode c_Tab_unknownOf 15 = .ok (.ixor, 1) := by decide +kernel
theorem d_Tab_unknownOf_16 : decode c_Tab_unknownOf 16 = .ok (.iand, 1) := by decide +kernel
theorem d_Tab_unknownOf_17 : decode c_Tab_unknownOf 17 = .ok (.goto 4, 3) := by decide +kernel
theorem d_Tab_unknownOf_20 : decode c_Tab_unknownOf 20 = .ok (.iconst 0, 1) := by decide +kernel
theorem d_Tab_unknownOf_21 : decode c_Tab_unknownOf 21 = .ok (.ireturn, 1) := by decide +kernel
theorem d_Tab_leftOf_0 : decode c_Tab_leftOf 0 = .ok (.iload_n 2, 1) := by decide +kernel
theorem d_Tab_leftOf_1 : decode c_Tab_leftOf 1 = .ok (.invokestatic 36, 3) := by decide +kernel
theorem d_Tab_leftOf_4 : decode c_Tab_leftOf 4 = .ok (.ifCond .eq 13, 3) := by decide +kernel
theorem d_Tab_leftOf_7 : decode c_Tab_leftOf 7 = .ok (.iload_n 3, 1) := by decide +kernel
theorem d_Tab_leftOf_8 : decode c_Tab_leftOf 8 = .ok (.ifCond .lt 9, 3) := by decide +kernel
theorem d_Tab_leftOf_11 : decode c_Tab_leftOf 11 = .ok (.iload_n 3, 1) := by decide +kernel
theorem d_Tab_leftOf_12 : decode c_Tab_leftOf 12 = .ok (.bipush 100, 2) := by decide +kernel
theorem d_Tab_leftOf_14 : decode c_Tab_leftOf 14 = .ok (.if_icmp .le 5, 3) := by decide +kernel
theorem d_Tab_leftOf_17 : decode c_Tab_leftOf 17 = .ok (.iconst 0, 1) := by decide +kernel
theorem d_Tab_leftOf_18 : decode c_Tab_leftOf 18 = .ok (.ireturn, 1) := by decide +kernel
theorem d_Tab_leftOf_19 : decode c_Tab_leftOf 19 = .ok (.iload_n 1, 1) := by decide +kernel
theorem d_Tab_leftOf_20 : decode c_Tab_leftOf 20 = .ok (.aload_n 0, 1) := by decide +kernel
theorem d_Tab_leftOf_21 : decode c_Tab_leftOf 21 = .ok (.getfield 33, 3) := by decide +kernel
theorem d_Tab_leftOf_24 : decode c_Tab_leftOf 24 = .ok (.iload_n 2, 1) := by decide +kernel
theorem d_Tab_leftOf_25 : decode c_Tab_leftOf 25 = .ok (.aaload, 1) := by decide +kernel
theorem d_Tab_leftOf_26 : decode c_Tab_leftOf 26 = .ok (.iload_n 3, 1) := by decide +kernel
theorem d_Tab_leftOf_27 : decode c_Tab_leftOf 27 = .ok (.iaload, 1) := by decide +kernel
theorem d_Tab_leftOf_28 : decode c_Tab_leftOf 28 = .ok (.iand, 1) := by decide +kernel
theorem d_Tab_leftOf_29 : decode c_Tab_leftOf 29 = .ok (.istore 5, 2) := by decide +kernel
theorem d_Tab_leftOf_31 : decode c_Tab_leftOf 31 = .ok (.iload 4, 2) := by decide +kernel
theorem d_Tab_leftOf_33 : decode c_Tab_leftOf 33 = .ok (.ifCond .ne 19, 3) := by decide +kernel
theorem d_Tab_leftOf_36 : decode c_Tab_leftOf 36 = .ok (.iload 5, 2) := by decide +kernel
theorem d_Tab_leftOf_38 : decode c_Tab_leftOf 38 = .ok (.iload_n 1, 1) := by decide +kernel
theorem d_Tab_leftOf_39 : decode c_Tab_leftOf 39 = .ok (.aload_n 0, 1) := by decide +kernel
theorem d_Tab_leftOf_40 : decode c_Tab_leftOf 40 = .ok (.getfield 30, 3) := by decide +kernel
theorem d_Tab_leftOf_43 : decode c_Tab_leftOf 43 = .ok (.iload_n 2, 1) := by decide +kernel
theorem d_Tab_leftOf_44 : decode c_Tab_leftOf 44 = .ok (.iaload, 1) := by decide +kernel
theorem d_Tab_leftOf_45 : decode c_Tab_leftOf 45 = .ok (.iconst (-1), 1) := by decide +kernel
theorem d_Tab_leftOf_46 : decode c_Tab_leftOf 46 = .ok (.ixor, 1) := by decide +kernel
theorem d_Tab_leftOf_47 : decode c_Tab_leftOf 47 = .ok (.iand, 1) := by decide +kernel
theorem d_Tab_leftOf_48 : decode c_Tab_leftOf 48 = .ok (.ior, 1) := by decide +kernel
theorem d_Tab_leftOf_49 : decode c_Tab_leftOf 49 = .ok (.goto 5, 3) := by decide +kernel
theorem d_Tab_leftOf_52 : decode c_Tab_leftOf 52 = .ok (.iload 5, 2) := by decide +kernel
theorem d_Tab_leftOf_54 : decode c_Tab_leftOf 54 = .ok (.ireturn, 1) := by decide +kernel
theorem d_Tab_squaresOf_0 : decode c_Tab_squaresOf 0 = .ok (.iconst 0, 1) := by decide +kernel
theorem d_Tab_squaresOf_1 : decode c_Tab_squaresOf 1 = .ok (.istore_n 2, 1) := by decide +kernel
theorem d_Tab_squaresOf_2 : decode c_Tab_squaresOf 2 = .ok (.iconst 0, 1) := by decide +kernel
theorem d_Tab_squaresOf_3 : decode c_Tab_squaresOf 3 = .ok (.istore_n 3, 1) := by decide +kernel
theorem d_Tab_squaresOf_4 : decode c_Tab_squaresOf 4 = .ok (.iload_n 3, 1) := by decide +kernel
theorem d_Tab_squaresOf_5 : decode c_Tab_squaresOf 5 = .ok (.iconst 3, 1) := by decide +kernel
theorem d_Tab_squaresOf_6 : decode c_Tab_squaresOf 6 = .ok (.if_icmp .ge 30, 3) := by decide +kernel
theorem d_Tab_squaresOf_9 : decode c_Tab_squaresOf 9 = .ok (.iload_n 1, 1) := by decide +kernel
theorem d_Tab_squaresOf_10 : decode c_Tab_squaresOf 10 = .ok (.aload_n 0, 1) := by decide +kernel
theorem d_Tab_squaresOf_11 : decode c_Tab_squaresOf 11 = .ok (.getfield 27, 3) := by decide +kernel
theorem d_Tab_squaresOf_14 : decode c_Tab_squaresOf 14 = .ok (.iload_n 3, 1) := by decide +kernel
theorem d_Tab_squaresOf_15 : decode c_Tab_squaresOf 15 = .ok (.iaload, 1) := by decide +kernel
theorem d_Tab_squaresOf_16 : decode c_Tab_squaresOf 16 = .ok (.iand, 1) := by decide +kernel
theorem d_Tab_squaresOf_17 : decode c_Tab_squaresOf 17 = .ok (.invokestatic 72, 3) := by decide +kernel
theorem d_Tab_squaresOf_20 : decode c_Tab_squaresOf 20 = .ok (.istore 4, 2) := by decide +kernel
theorem d_Tab_squaresOf_22 : decode c_Tab_squaresOf 22 = .ok (.iload_n 2, 1) := by decide +kernel
theorem d_Tab_squaresOf_23 : decode c_Tab_squaresOf 23 = .ok (.iload 4, 2) := by decide +kernel
theorem d_Tab_squaresOf_25 : decode c_Tab_squaresOf 25 = .ok (.iload 4, 2) := by decide +kernel
theorem d_Tab_squaresOf_27 : decode c_Tab_squaresOf 27 = .ok (.imul, 1) := by decide +kernel
theorem d_Tab_squaresOf_28 : decode c_Tab_squaresOf 28 = .ok (.iadd, 1) := by decide +kernel
theorem d_Tab_squaresOf_29 : decode c_Tab_squaresOf 29 = .ok (.istore_n 2, 1) := by decide +kernel
theorem d_Tab_squaresOf_30 : decode c_Tab_squaresOf 30 = .ok (.iinc 3 1, 3) := by decide +kernel
theorem d_Tab_squaresOf_33 : decode c_Tab_squaresOf 33 = .ok (.goto (-29), 3) := by decide +kernel
theorem d_Tab_squaresOf_36 : decode c_Tab_squaresOf 36 = .ok (.iload_n 2, 1) := by decide +kernel
theorem d_Tab_squaresOf_37 : decode c_Tab_squaresOf 37 = .ok (.ireturn, 1) := by decide +kernel
theorem d_Bs_node_0 : decode c_Bs_node 0 = .ok (.aload_n 0, 1) := by decide +kernel
theorem d_Bs_node_1 : decode c_Bs_node 1 = .ok (.invokevirtual 107, 3) := by decide +kernel
theorem d_Bs_node_4 : decode c_Bs_node 4 = .ok (.aload_n 0, 1) := by decide +kernel
theorem d_Bs_node_5 : decode c_Bs_node 5 = .ok (.getfield 37, 3) := by decide +kernel
theorem d_Bs_node_8 : decode c_Bs_node 8 = .ok (.iload_n 1, 1) := by decide +kernel
theorem d_Bs_node_9 : decode c_Bs_node 9 = .ok (.invokevirtual 111, 3) := by decide +kernel
theorem d_Bs_node_12 : decode c_Bs_node 12 = .ok (.astore_n 3, 1) := by decide +kernel
theorem d_Bs_node_13 : decode c_Bs_node 13 = .ok (.aload_n 3, 1) := by decide +kernel
theorem d_Bs_node_14 : decode c_Bs_node 14 = .ok (.ifnonnull 5, 3) := by decide +kernel
theorem d_Bs_node_17 : decode c_Bs_node 17 = .ok (.iconst (-1), 1) := by decide +kernel
theorem d_Bs_node_18 : decode c_Bs_node 18 = .ok (.ireturn, 1) := by decide +kernel
theorem d_Bs_node_19 : decode c_Bs_node 19 = .ok (.iload_n 2, 1) := by decide +kernel
theorem d_Bs_node_20 : decode c_Bs_node 20 = .ok (.ifCond .lt 9, 3) := by decide +kernel
theorem d_Bs_node_23 : decode c_Bs_node 23 = .ok (.iload_n 2, 1) := by decide +kernel
theorem d_Bs_node_24 : decode c_Bs_node 24 = .ok (.bipush 8, 2) := by decide +kernel
theorem d_Bs_node_26 : decode c_Bs_node 26 = .ok (.if_icmp .le 6, 3) := by decide +kernel
theorem d_Bs_node_29 : decode c_Bs_node 29 = .ok (.bipush (-2), 2) := by decide +kernel
theorem d_Bs_node_31 : decode c_Bs_node 31 = .ok (.ireturn, 1) := by decide +kernel
theorem d_Bs_node_32 : decode c_Bs_node 32 = .ok (.iload_n 2, 1) := by decide +kernel
theorem d_Bs_node_33 : decode c_Bs_node 33 = .ok (.iconst 4, 1) := by decide +kernel
theorem d_Bs_node_34 : decode c_Bs_node 34 = .ok (.if_icmp .gt 11, 3) := by decide +kernel
theorem d_Bs_node_37 : decode c_Bs_node 37 = .ok (.aload_n 3, 1) := by decide +kernel
theorem d_Bs_node_38 : decode c_Bs_node 38 = .ok (.iload_n 2, 1) := by decide +kernel
theorem d_Bs_node_39 : decode c_Bs_node 39 = .ok (.invokevirtual 115, 3) := by decide +kernel
theorem d_Bs_node_42 : decode c_Bs_node 42 = .ok (.goto 8, 3) := by decide +kernel
theorem d_Bs_node_45 : decode c_Bs_node 45 = .ok (.aload_n 3, 1) := by decide +kernel
theorem d_Bs_node_46 : decode c_Bs_node 46 = .ok (.iload_n 2, 1) := by decide +kernel
theorem d_Bs_node_47 : decode c_Bs_node 47 = .ok (.invokevirtual 121, 3) := by decide +kernel
theorem d_Bs_node_50 : decode c_Bs_node 50 = .ok (.ireturn, 1) := by decide +kernel
theorem d_Bs_count_0 : decode c_Bs_count 0 = .ok (.aload_n 0, 1) := by decide +kernel
theorem d_Bs_count_1 : decode c_Bs_count 1 = .ok (.invokevirtual 107, 3) := by decide +kernel
theorem d_Bs_count_4 : decode c_Bs_count 4 = .ok (.aload_n 0, 1) := by decide +kernel
theorem d_Bs_count_5 : decode c_Bs_count 5 = .ok (.getfield 37, 3) := by decide +kernel
theorem d_Bs_count_8 : decode c_Bs_count 8 = .ok (.iload_n 1, 1) := by decide +kernel
theorem d_Bs_count_9 : decode c_Bs_count 9 = .ok (.invokevirtual 111, 3) := by decide +kernel
theorem d_Bs_count_12 : decode c_Bs_count 12 = .ok (.astore_n 3, 1) := by decide +kernel
theorem d_Bs_count_13 : decode c_Bs_count 13 = .ok (.aload_n 3, 1) := by decide +kernel
theorem d_Bs_count_14 : decode c_Bs_count 14 = .ok (.ifnull 10, 3) := by decide +kernel
theorem d_Bs_count_17 : decode c_Bs_count 17 = .ok (.iload_n 2, 1) := by decide +kernel
theorem d_Bs_count_18 : decode c_Bs_count 18 = .ok (.invokestatic 87, 3) := by decide +kernel
theorem d_Bs_count_21 : decode c_Bs_count 21 = .ok (.ifCond .ne 5, 3) := by decide +kernel
theorem d_Bs_count_24 : decode c_Bs_count 24 = .ok (.iconst (-1), 1) := by decide +kernel
theorem d_Bs_count_25 : decode c_Bs_count 25 = .ok (.ireturn, 1) := by decide +kernel
theorem d_Bs_count_26 : decode c_Bs_count 26 = .ok (.aload_n 0, 1) := by decide +kernel
theorem d_Bs_count_27 : decode c_Bs_count 27 = .ok (.getfield 12, 3) := by decide +kernel
theorem d_Bs_count_30 : decode c_Bs_count 30 = .ok (.aload_n 3, 1) := by decide +kernel
theorem d_Bs_count_31 : decode c_Bs_count 31 = .ok (.getfield 124, 3) := by decide +kernel
theorem d_Bs_count_34 : decode c_Bs_count 34 = .ok (.iload_n 2, 1) := by decide +kernel
theorem d_Bs_count_35 : decode c_Bs_count 35 = .ok (.invokevirtual 127, 3) := by decide +kernel
theorem d_Bs_count_38 : decode c_Bs_count 38 = .ok (.ireturn, 1) := by decide +kernel
theorem d_Bs_gain_0 : decode c_Bs_gain 0 = .ok (.aload_n 0, 1) := by decide +kernel
theorem d_Bs_gain_1 : decode c_Bs_gain 1 = .ok (.invokevirtual 107, 3) := by decide +kernel
theorem d_Bs_gain_4 : decode c_Bs_gain 4 = .ok (.aload_n 0, 1) := by decide +kernel
theorem d_Bs_gain_5 : decode c_Bs_gain 5 = .ok (.getfield 37, 3) := by decide +kernel
theorem d_Bs_gain_8 : decode c_Bs_gain 8 = .ok (.iload_n 1, 1) := by decide +kernel
theorem d_Bs_gain_9 : decode c_Bs_gain 9 = .ok (.invokevirtual 111, 3) := by decide +kernel
theorem d_Bs_gain_12 : decode c_Bs_gain 12 = .ok (.astore_n 3, 1) := by decide +kernel
theorem d_Bs_gain_13 : decode c_Bs_gain 13 = .ok (.aload_n 3, 1) := by decide +kernel
theorem d_Bs_gain_14 : decode c_Bs_gain 14 = .ok (.ifnonnull 5, 3) := by decide +kernel
theorem d_Bs_gain_17 : decode c_Bs_gain 17 = .ok (.iconst (-1), 1) := by decide +kernel
theorem d_Bs_gain_18 : decode c_Bs_gain 18 = .ok (.ireturn, 1) := by decide +kernel
theorem d_Bs_gain_19 : decode c_Bs_gain 19 = .ok (.iload_n 2, 1) := by decide +kernel
theorem d_Bs_gain_20 : decode c_Bs_gain 20 = .ok (.invokestatic 130, 3) := by decide +kernel
theorem d_Bs_gain_23 : decode c_Bs_gain 23 = .ok (.ifCond .ne 6, 3) := by decide +kernel
theorem d_Bs_gain_26 : decode c_Bs_gain 26 = .ok (.bipush (-2), 2) := by decide +kernel
theorem d_Bs_gain_28 : decode c_Bs_gain 28 = .ok (.ireturn, 1) := by decide +kernel
theorem d_Bs_gain_29 : decode c_Bs_gain 29 = .ok (.aload_n 3, 1) := by decide +kernel
theorem d_Bs_gain_30 : decode c_Bs_gain 30 = .ok (.invokevirtual 133, 3) := by decide +kernel
theorem d_Bs_gain_33 : decode c_Bs_gain 33 = .ok (.ifCond .eq 6, 3) := by decide +kernel
theorem d_Bs_gain_36 : decode c_Bs_gain 36 = .ok (.bipush (-3), 2) := by decide +kernel
theorem d_Bs_gain_38 : decode c_Bs_gain 38 = .ok (.ireturn, 1) := by decide +kernel
theorem d_Bs_gain_39 : decode c_Bs_gain 39 = .ok (.aload_n 3, 1) := by decide +kernel
theorem d_Bs_gain_40 : decode c_Bs_gain 40 = .ok (.getfield 137, 3) := by decide +kernel
theorem d_Bs_gain_43 : decode c_Bs_gain 43 = .ok (.getfield 141, 3) := by decide +kernel
theorem d_Bs_gain_46 : decode c_Bs_gain 46 = .ok (.iload_n 2, 1) := by decide +kernel
theorem d_Bs_gain_47 : decode c_Bs_gain 47 = .ok (.invokevirtual 147, 3) := by decide +kernel
theorem d_Bs_gain_50 : decode c_Bs_gain 50 = .ok (.ireturn, 1) := by decide +kernel
theorem d_Bs_isPart_0 : decode c_Bs_isPart 0 = .ok (.iload_n 0, 1) := by decide +kernel
theorem d_Bs_isPart_1 : decode c_Bs_isPart 1 = .ok (.ifCond .eq 8, 3) := by decide +kernel
theorem d_Bs_isPart_4 : decode c_Bs_isPart 4 = .ok (.iload_n 0, 1) := by decide +kernel
theorem d_Bs_isPart_5 : decode c_Bs_isPart 5 = .ok (.iconst 1, 1) := by decide +kernel
theorem d_Bs_isPart_6 : decode c_Bs_isPart 6 = .ok (.if_icmp .ne 7, 3) := by decide +kernel
theorem d_Bs_isPart_9 : decode c_Bs_isPart 9 = .ok (.iconst 1, 1) := by decide +kernel
theorem d_Bs_isPart_10 : decode c_Bs_isPart 10 = .ok (.goto 4, 3) := by decide +kernel
theorem d_Bs_isPart_13 : decode c_Bs_isPart 13 = .ok (.iconst 0, 1) := by decide +kernel
theorem d_Bs_isPart_14 : decode c_Bs_isPart 14 = .ok (.ireturn, 1) := by decide +kernel
theorem d_Bs_leaf_0 : decode c_Bs_leaf 0 = .ok (.aload_n 0, 1) := by decide +kernel
theorem d_Bs_leaf_1 : decode c_Bs_leaf 1 = .ok (.iload_n 1, 1) := by decide +kernel
theorem d_Bs_leaf_2 : decode c_Bs_leaf 2 = .ok (.iload_n 2, 1) := by decide +kernel
theorem d_Bs_leaf_3 : decode c_Bs_leaf 3 = .ok (.iload_n 3, 1) := by decide +kernel
theorem d_Bs_leaf_4 : decode c_Bs_leaf 4 = .ok (.iload 4, 2) := by decide +kernel
theorem d_Bs_leaf_6 : decode c_Bs_leaf 6 = .ok (.invokevirtual 79, 3) := by decide +kernel
theorem d_Bs_leaf_9 : decode c_Bs_leaf 9 = .ok (.aload_n 0, 1) := by decide +kernel
theorem d_Bs_leaf_10 : decode c_Bs_leaf 10 = .ok (.getfield 12, 3) := by decide +kernel
theorem d_Bs_leaf_13 : decode c_Bs_leaf 13 = .ok (.aload_n 0, 1) := by decide +kernel
theorem d_Bs_leaf_14 : decode c_Bs_leaf 14 = .ok (.getfield 53, 3) := by decide +kernel
theorem d_Bs_leaf_17 : decode c_Bs_leaf 17 = .ok (.invokevirtual 83, 3) := by decide +kernel
theorem d_Bs_leaf_20 : decode c_Bs_leaf 20 = .ok (.ifCond .ne 6, 3) := by decide +kernel
theorem d_Bs_leaf_23 : decode c_Bs_leaf 23 = .ok (.bipush (-2), 2) := by decide +kernel
theorem d_Bs_leaf_25 : decode c_Bs_leaf 25 = .ok (.ireturn, 1) := by decide +kernel
theorem d_Bs_leaf_26 : decode c_Bs_leaf 26 = .ok (.aload_n 0, 1) := by decide +kernel
theorem d_Bs_leaf_27 : decode c_Bs_leaf 27 = .ok (.invokevirtual 107, 3) := by decide +kernel
theorem d_Bs_leaf_30 : decode c_Bs_leaf 30 = .ok (.aload_n 0, 1) := by decide +kernel
theorem d_Bs_leaf_31 : decode c_Bs_leaf 31 = .ok (.getfield 37, 3) := by decide +kernel
theorem d_Bs_leaf_34 : decode c_Bs_leaf 34 = .ok (.aload_n 0, 1) := by decide +kernel
theorem d_Bs_leaf_35 : decode c_Bs_leaf 35 = .ok (.getfield 53, 3) := by decide +kernel
theorem d_Bs_leaf_38 : decode c_Bs_leaf 38 = .ok (.invokevirtual 152, 3) := by decide +kernel
theorem d_Bs_leaf_41 : decode c_Bs_leaf 41 = .ok (.getfield 156, 3) := by decide +kernel
theorem d_Bs_leaf_44 : decode c_Bs_leaf 44 = .ok (.ireturn, 1) := by decide +kernel
theorem d_Tab_goesLeft_0 : decode c_Tab_goesLeft 0 = .ok (.aload_n 2, 1) := by decide +kernel
theorem d_Tab_goesLeft_1 : decode c_Tab_goesLeft 1 = .ok (.getfield 55, 3) := by decide +kernel
theorem d_Tab_goesLeft_4 : decode c_Tab_goesLeft 4 = .ok (.istore_n 3, 1) := by decide +kernel
theorem d_Tab_goesLeft_5 : decode c_Tab_goesLeft 5 = .ok (.iload_n 3, 1) := by decide +kernel
theorem d_Tab_goesLeft_6 : decode c_Tab_goesLeft 6 = .ok (.invokestatic 36, 3) := by decide +kernel
theorem d_Tab_goesLeft_9 : decode c_Tab_goesLeft 9 = .ok (.ifCond .eq 16, 3) := by decide +kernel
theorem d_Tab_goesLeft_12 : decode c_Tab_goesLeft 12 = .ok (.iload_n 3, 1) := by decide +kernel
theorem d_Tab_goesLeft_13 : decode c_Tab_goesLeft 13 = .ok (.aload_n 1, 1) := by decide +kernel
theorem d_Tab_goesLeft_14 : decode c_Tab_goesLeft 14 = .ok (.arraylength, 1) := by decide +kernel
theorem d_Tab_goesLeft_15 : decode c_Tab_goesLeft 15 = .ok (.if_icmp .ge 10, 3) := by decide +kernel
theorem d_Tab_goesLeft_18 : decode c_Tab_goesLeft 18 = .ok (.aload_n 1, 1) := by decide +kernel
theorem d_Tab_goesLeft_19 : decode c_Tab_goesLeft 19 = .ok (.iload_n 3, 1) := by decide +kernel
theorem d_Tab_goesLeft_20 : decode c_Tab_goesLeft 20 = .ok (.iaload, 1) := by decide +kernel
theorem d_Tab_goesLeft_21 : decode c_Tab_goesLeft 21 = .ok (.iconst (-1), 1) := by decide +kernel
theorem d_Tab_goesLeft_22 : decode c_Tab_goesLeft 22 = .ok (.if_icmp .ne 16, 3) := by decide +kernel
theorem d_Tab_goesLeft_25 : decode c_Tab_goesLeft 25 = .ok (.aload_n 2, 1) := by decide +kernel
theorem d_Tab_goesLeft_26 : decode c_Tab_goesLeft 26 = .ok (.getfield 60, 3) := by decide +kernel
theorem d_Tab_goesLeft_29 : decode c_Tab_goesLeft 29 = .ok (.ifCond .ne 7, 3) := by decide +kernel
theorem d_Tab_goesLeft_32 : decode c_Tab_goesLeft 32 = .ok (.iconst 1, 1) := by decide +kernel
theorem d_Tab_goesLeft_33 : decode c_Tab_goesLeft 33 = .ok (.goto 4, 3) := by decide +kernel
theorem d_Tab_goesLeft_36 : decode c_Tab_goesLeft 36 = .ok (.iconst 0, 1) := by decide +kernel
theorem d_Tab_goesLeft_37 : decode c_Tab_goesLeft 37 = .ok (.ireturn, 1) := by decide +kernel
theorem d_Tab_goesLeft_38 : decode c_Tab_goesLeft 38 = .ok (.aload_n 0, 1) := by decide +kernel
theorem d_Tab_goesLeft_39 : decode c_Tab_goesLeft 39 = .ok (.iload_n 3, 1) := by decide +kernel
theorem d_Tab_goesLeft_40 : decode c_Tab_goesLeft 40 = .ok (.aload_n 2, 1) := by decide +kernel
theorem d_Tab_goesLeft_41 : decode c_Tab_goesLeft 41 = .ok (.getfield 63, 3) := by decide +kernel
theorem d_Tab_goesLeft_44 : decode c_Tab_goesLeft 44 = .ok (.aload_n 1, 1) := by decide +kernel
theorem d_Tab_goesLeft_45 : decode c_Tab_goesLeft 45 = .ok (.iload_n 3, 1) := by decide +kernel
theorem d_Tab_goesLeft_46 : decode c_Tab_goesLeft 46 = .ok (.iaload, 1) := by decide +kernel
theorem d_Tab_goesLeft_47 : decode c_Tab_goesLeft 47 = .ok (.invokevirtual 51, 3) := by decide +kernel
theorem d_Tab_goesLeft_50 : decode c_Tab_goesLeft 50 = .ok (.ireturn, 1) := by decide +kernel
theorem d_Bs_leafOf_0 : decode c_Bs_leafOf 0 = .ok (.aload_n 0, 1) := by decide +kernel
theorem d_Bs_leafOf_1 : decode c_Bs_leafOf 1 = .ok (.getfield 12, 3) := by decide +kernel
theorem d_Bs_leafOf_4 : decode c_Bs_leafOf 4 = .ok (.iload_n 1, 1) := by decide +kernel
theorem d_Bs_leafOf_5 : decode c_Bs_leafOf 5 = .ok (.invokevirtual 159, 3) := by decide +kernel
theorem d_Bs_leafOf_8 : decode c_Bs_leafOf 8 = .ok (.ifCond .ne 5, 3) := by decide +kernel
theorem d_Bs_leafOf_11 : decode c_Bs_leafOf 11 = .ok (.iconst (-1), 1) := by decide +kernel
theorem d_Bs_leafOf_12 : decode c_Bs_leafOf 12 = .ok (.ireturn, 1) := by decide +kernel
theorem d_Bs_leafOf_13 : decode c_Bs_leafOf 13 = .ok (.aload_n 0, 1) := by decide +kernel
theorem d_Bs_leafOf_14 : decode c_Bs_leafOf 14 = .ok (.invokevirtual 107, 3) := by decide +kernel
theorem d_Bs_leafOf_17 : decode c_Bs_leafOf 17 = .ok (.aload_n 0, 1) := by decide +kernel
theorem d_Bs_leafOf_18 : decode c_Bs_leafOf 18 = .ok (.getfield 37, 3) := by decide +kernel
theorem d_Bs_leafOf_21 : decode c_Bs_leafOf 21 = .ok (.aload_n 0, 1) := by decide +kernel
theorem d_Bs_leafOf_22 : decode c_Bs_leafOf 22 = .ok (.getfield 12, 3) := by decide +kernel
theorem d_Bs_leafOf_25 : decode c_Bs_leafOf 25 = .ok (.getfield 162, 3) := by decide +kernel
theorem d_Bs_leafOf_28 : decode c_Bs_leafOf 28 = .ok (.iload_n 1, 1) := by decide +kernel
theorem d_Bs_leafOf_29 : decode c_Bs_leafOf 29 = .ok (.aaload, 1) := by decide +kernel
theorem d_Bs_leafOf_30 : decode c_Bs_leafOf 30 = .ok (.invokevirtual 152, 3) := by decide +kernel
theorem d_Bs_leafOf_33 : decode c_Bs_leafOf 33 = .ok (.getfield 156, 3) := by decide +kernel
theorem d_Bs_leafOf_36 : decode c_Bs_leafOf 36 = .ok (.ireturn, 1) := by decide +kernel
theorem d_Tab_has_0 : decode c_Tab_has 0 = .ok (.iload_n 1, 1) := by decide +kernel
theorem d_Tab_has_1 : decode c_Tab_has 1 = .ok (.ifCond .lt 21, 3) := by decide +kernel
theorem d_Tab_has_4 : decode c_Tab_has 4 = .ok (.iload_n 1, 1) := by decide +kernel
theorem d_Tab_has_5 : decode c_Tab_has 5 = .ok (.aload_n 0, 1) := by decide +kernel
theorem d_Tab_has_6 : decode c_Tab_has 6 = .ok (.getfield 20, 3) := by decide +kernel
theorem d_Tab_has_9 : decode c_Tab_has 9 = .ok (.if_icmp .ge 13, 3) := by decide +kernel
theorem d_Tab_has_12 : decode c_Tab_has 12 = .ok (.iload_n 1, 1) := by decide +kernel
theorem d_Tab_has_13 : decode c_Tab_has 13 = .ok (.bipush 24, 2) := by decide +kernel
theorem d_Tab_has_15 : decode c_Tab_has 15 = .ok (.if_icmp .ge 7, 3) := by decide +kernel
theorem d_Tab_has_18 : decode c_Tab_has 18 = .ok (.iconst 1, 1) := by decide +kernel
theorem d_Tab_has_19 : decode c_Tab_has 19 = .ok (.goto 4, 3) := by decide +kernel
theorem d_Tab_has_22 : decode c_Tab_has 22 = .ok (.iconst 0, 1) := by decide +kernel
theorem d_Tab_has_23 : decode c_Tab_has 23 = .ok (.ireturn, 1) := by decide +kernel
theorem d_Bs_cuts_0 : decode c_Bs_cuts 0 = .ok (.aload_n 0, 1) := by decide +kernel
theorem d_Bs_cuts_1 : decode c_Bs_cuts 1 = .ok (.getfield 28, 3) := by decide +kernel
theorem d_Bs_cuts_4 : decode c_Bs_cuts 4 = .ok (.aload_n 0, 1) := by decide +kernel
theorem d_Bs_cuts_5 : decode c_Bs_cuts 5 = .ok (.getfield 12, 3) := by decide +kernel
theorem d_Bs_cuts_8 : decode c_Bs_cuts 8 = .ok (.invokevirtual 166, 3) := by decide +kernel
theorem d_Bs_cuts_11 : decode c_Bs_cuts 11 = .ok (.invokevirtual 169, 3) := by decide +kernel
theorem d_Bs_cuts_14 : decode c_Bs_cuts 14 = .ok (.ireturn, 1) := by decide +kernel
theorem d_Bs_cutGain_0 : decode c_Bs_cutGain 0 = .ok (.iload_n 1, 1) := by decide +kernel
theorem d_Bs_cutGain_1 : decode c_Bs_cutGain 1 = .ok (.invokestatic 65, 3) := by decide +kernel
theorem d_Bs_cutGain_4 : decode c_Bs_cutGain 4 = .ok (.ifCond .ne 5, 3) := by decide +kernel
theorem d_Bs_cutGain_7 : decode c_Bs_cutGain 7 = .ok (.iconst (-1), 1) := by decide +kernel
theorem d_Bs_cutGain_8 : decode c_Bs_cutGain 8 = .ok (.ireturn, 1) := by decide +kernel
theorem d_Bs_cutGain_9 : decode c_Bs_cutGain 9 = .ok (.iload_n 3, 1) := by decide +kernel
theorem d_Bs_cutGain_10 : decode c_Bs_cutGain 10 = .ok (.ifCond .eq 8, 3) := by decide +kernel
theorem d_Bs_cutGain_13 : decode c_Bs_cutGain 13 = .ok (.iload_n 3, 1) := by decide +kernel
theorem d_Bs_cutGain_14 : decode c_Bs_cutGain 14 = .ok (.iconst 1, 1) := by decide +kernel
theorem d_Bs_cutGain_15 : decode c_Bs_cutGain 15 = .ok (.if_icmp .ne 11, 3) := by decide +kernel
theorem d_Bs_cutGain_18 : decode c_Bs_cutGain 18 = .ok (.iload 4, 2) := by decide +kernel
theorem d_Bs_cutGain_20 : decode c_Bs_cutGain 20 = .ok (.invokestatic 130, 3) := by decide +kernel
theorem d_Bs_cutGain_23 : decode c_Bs_cutGain 23 = .ok (.ifCond .ne 6, 3) := by decide +kernel
theorem d_Bs_cutGain_26 : decode c_Bs_cutGain 26 = .ok (.bipush (-2), 2) := by decide +kernel
theorem d_Bs_cutGain_28 : decode c_Bs_cutGain 28 = .ok (.ireturn, 1) := by decide +kernel
theorem d_Bs_cutGain_29 : decode c_Bs_cutGain 29 = .ok (.aload_n 0, 1) := by decide +kernel
theorem d_Bs_cutGain_30 : decode c_Bs_cutGain 30 = .ok (.getfield 12, 3) := by decide +kernel
theorem d_Bs_cutGain_33 : decode c_Bs_cutGain 33 = .ok (.invokevirtual 166, 3) := by decide +kernel
theorem d_Bs_cutGain_36 : decode c_Bs_cutGain 36 = .ok (.istore 5, 2) := by decide +kernel
theorem d_Bs_cutGain_38 : decode c_Bs_cutGain 38 = .ok (.aload_n 0, 1) := by decide +kernel
theorem d_Bs_cutGain_39 : decode c_Bs_cutGain 39 = .ok (.getfield 12, 3) := by decide +kernel
theorem d_Bs_cutGain_42 : decode c_Bs_cutGain 42 = .ok (.iload 5, 2) := by decide +kernel
theorem d_Bs_cutGain_44 : decode c_Bs_cutGain 44 = .ok (.iload_n 1, 1) := by decide +kernel
theorem d_Bs_cutGain_45 : decode c_Bs_cutGain 45 = .ok (.iload_n 2, 1) := by decide +kernel
theorem d_Bs_cutGain_46 : decode c_Bs_cutGain 46 = .ok (.invokevirtual 172, 3) := by decide +kernel
theorem d_Bs_cutGain_49 : decode c_Bs_cutGain 49 = .ok (.ifCond .eq 18, 3) := by decide +kernel
theorem d_Bs_cutGain_52 : decode c_Bs_cutGain 52 = .ok (.aload_n 0, 1) := by decide +kernel
theorem d_Bs_cutGain_53 : decode c_Bs_cutGain 53 = .ok (.getfield 28, 3) := by decide +kernel
theorem d_Bs_cutGain_56 : decode c_Bs_cutGain 56 = .ok (.iload 5, 2) := by decide +kernel
theorem d_Bs_cutGain_58 : decode c_Bs_cutGain 58 = .ok (.iload_n 1, 1) := by decide +kernel
theorem d_Bs_cutGain_59 : decode c_Bs_cutGain 59 = .ok (.iload_n 2, 1) := by decide +kernel
theorem d_Bs_cutGain_60 : decode c_Bs_cutGain 60 = .ok (.iload_n 3, 1) := by decide +kernel
theorem d_Bs_cutGain_61 : decode c_Bs_cutGain 61 = .ok (.invokevirtual 176, 3) := by decide +kernel
theorem d_Bs_cutGain_64 : decode c_Bs_cutGain 64 = .ok (.ifCond .ne 6, 3) := by decide +kernel
theorem d_Bs_cutGain_67 : decode c_Bs_cutGain 67 = .ok (.bipush (-3), 2) := by decide +kernel
theorem d_Bs_cutGain_69 : decode c_Bs_cutGain 69 = .ok (.ireturn, 1) := by decide +kernel
theorem d_Bs_cutGain_70 : decode c_Bs_cutGain 70 = .ok (.aload_n 0, 1) := by decide +kernel
theorem d_Bs_cutGain_71 : decode c_Bs_cutGain 71 = .ok (.getfield 28, 3) := by decide +kernel
theorem d_Bs_cutGain_74 : decode c_Bs_cutGain 74 = .ok (.getfield 180, 3) := by decide +kernel
theorem d_Bs_cutGain_77 : decode c_Bs_cutGain 77 = .ok (.getfield 141, 3) := by decide +kernel
theorem d_Bs_cutGain_80 : decode c_Bs_cutGain 80 = .ok (.iload 4, 2) := by decide +kernel
theorem d_Bs_cutGain_82 : decode c_Bs_cutGain 82 = .ok (.invokevirtual 147, 3) := by decide +kernel
theorem d_Bs_cutGain_85 : decode c_Bs_cutGain 85 = .ok (.ireturn, 1) := by decide +kernel
theorem d_Bs_stages_0 : decode c_Bs_stages 0 = .ok (.aload_n 0, 1) := by decide +kernel
theorem d_Bs_stages_1 : decode c_Bs_stages 1 = .ok (.invokevirtual 107, 3) := by decide +kernel
theorem d_Bs_stages_4 : decode c_Bs_stages 4 = .ok (.aload_n 0, 1) := by decide +kernel
theorem d_Bs_stages_5 : decode c_Bs_stages 5 = .ok (.getfield 49, 3) := by decide +kernel
theorem d_Bs_stages_8 : decode c_Bs_stages 8 = .ok (.getfield 183, 3) := by decide +kernel
theorem d_Bs_stages_11 : decode c_Bs_stages 11 = .ok (.ireturn, 1) := by decide +kernel
theorem d_Bs_alpha_0 : decode c_Bs_alpha 0 = .ok (.aload_n 0, 1) := by decide +kernel
theorem d_Bs_alpha_1 : decode c_Bs_alpha 1 = .ok (.invokevirtual 107, 3) := by decide +kernel
theorem d_Bs_alpha_4 : decode c_Bs_alpha 4 = .ok (.aload_n 0, 1) := by decide +kernel
theorem d_Bs_alpha_5 : decode c_Bs_alpha 5 = .ok (.getfield 49, 3) := by decide +kernel
theorem d_Bs_alpha_8 : decode c_Bs_alpha 8 = .ok (.iload_n 1, 1) := by decide +kernel
theorem d_Bs_alpha_9 : decode c_Bs_alpha 9 = .ok (.invokevirtual 184, 3) := by decide +kernel
theorem d_Bs_alpha_12 : decode c_Bs_alpha 12 = .ok (.ifCond .ne 5, 3) := by decide +kernel
theorem d_Bs_alpha_15 : decode c_Bs_alpha 15 = .ok (.iconst (-1), 1) := by decide +kernel
theorem d_Bs_alpha_16 : decode c_Bs_alpha 16 = .ok (.ireturn, 1) := by decide +kernel
theorem d_Bs_alpha_17 : decode c_Bs_alpha 17 = .ok (.iload_n 2, 1) := by decide +kernel
theorem d_Bs_alpha_18 : decode c_Bs_alpha 18 = .ok (.invokestatic 130, 3) := by decide +kernel
theorem d_Bs_alpha_21 : decode c_Bs_alpha 21 = .ok (.ifCond .ne 6, 3) := by decide +kernel
theorem d_Bs_alpha_24 : decode c_Bs_alpha 24 = .ok (.bipush (-2), 2) := by decide +kernel
theorem d_Bs_alpha_26 : decode c_Bs_alpha 26 = .ok (.ireturn, 1) := by decide +kernel
theorem d_Bs_alpha_27 : decode c_Bs_alpha 27 = .ok (.aload_n 0, 1) := by decide +kernel
theorem d_Bs_alpha_28 : decode c_Bs_alpha 28 = .ok (.getfield 49, 3) := by decide +kernel
theorem d_Bs_alpha_31 : decode c_Bs_alpha 31 = .ok (.getfield 185, 3) := by decide +kernel
theorem d_Bs_alpha_34 : decode c_Bs_alpha 34 = .ok (.iload_n 1, 1) := by decide +kernel
theorem d_Bs_alpha_35 : decode c_Bs_alpha 35 = .ok (.aaload, 1) := by decide +kernel
theorem d_Bs_alpha_36 : decode c_Bs_alpha 36 = .ok (.iload_n 2, 1) := by decide +kernel
theorem d_Bs_alpha_37 : decode c_Bs_alpha 37 = .ok (.invokevirtual 147, 3) := by decide +kernel
theorem d_Bs_alpha_40 : decode c_Bs_alpha 40 = .ok (.ireturn, 1) := by decide +kernel
theorem d_Bs_leaves_0 : decode c_Bs_leaves 0 = .ok (.aload_n 0, 1) := by decide +kernel
theorem d_Bs_leaves_1 : decode c_Bs_leaves 1 = .ok (.invokevirtual 107, 3) := by decide +kernel
theorem d_Bs_leaves_4 : decode c_Bs_leaves 4 = .ok (.aload_n 0, 1) := by decide +kernel
theorem d_Bs_leaves_5 : decode c_Bs_leaves 5 = .ok (.getfield 49, 3) := by decide +kernel
theorem d_Bs_leaves_8 : decode c_Bs_leaves 8 = .ok (.iload_n 1, 1) := by decide +kernel
theorem d_Bs_leaves_9 : decode c_Bs_leaves 9 = .ok (.invokevirtual 184, 3) := by decide +kernel
theorem d_Bs_leaves_12 : decode c_Bs_leaves 12 = .ok (.ifCond .eq 15, 3) := by decide +kernel
theorem d_Bs_leaves_15 : decode c_Bs_leaves 15 = .ok (.aload_n 0, 1) := by decide +kernel
theorem d_Bs_leaves_16 : decode c_Bs_leaves 16 = .ok (.getfield 49, 3) := by decide +kernel
theorem d_Bs_leaves_19 : decode c_Bs_leaves 19 = .ok (.getfield 189, 3) := by decide +kernel
theorem d_Bs_leaves_22 : decode c_Bs_leaves 22 = .ok (.iload_n 1, 1) := by decide +kernel
theorem d_Bs_leaves_23 : decode c_Bs_leaves 23 = .ok (.iaload, 1) := by decide +kernel
theorem d_Bs_leaves_24 : decode c_Bs_leaves 24 = .ok (.goto 4, 3) := by decide +kernel
theorem d_Bs_leaves_27 : decode c_Bs_leaves 27 = .ok (.iconst (-1), 1) := by decide +kernel
theorem d_Bs_leaves_28 : decode c_Bs_leaves 28 = .ok (.ireturn, 1) := by decide +kernel
theorem d_Bs_wrong_0 : decode c_Bs_wrong 0 = .ok (.aload_n 0, 1) := by decide +kernel
theorem d_Bs_wrong_1 : decode c_Bs_wrong 1 = .ok (.invokevirtual 107, 3) := by decide +kernel
theorem d_Bs_wrong_4 : decode c_Bs_wrong 4 = .ok (.aload_n 0, 1) := by decide +kernel
theorem d_Bs_wrong_5 : decode c_Bs_wrong 5 = .ok (.getfield 49, 3) := by decide +kernel
theorem d_Bs_wrong_8 : decode c_Bs_wrong 8 = .ok (.iload_n 1, 1) := by decide +kernel
theorem d_Bs_wrong_9 : decode c_Bs_wrong 9 = .ok (.invokevirtual 184, 3) := by decide +kernel
theorem d_Bs_wrong_12 : decode c_Bs_wrong 12 = .ok (.ifCond .eq 15, 3) := by decide +kernel
theorem d_Bs_wrong_15 : decode c_Bs_wrong 15 = .ok (.aload_n 0, 1) := by decide +kernel
theorem d_Bs_wrong_16 : decode c_Bs_wrong 16 = .ok (.getfield 49, 3) := by decide +kernel
theorem d_Bs_wrong_19 : decode c_Bs_wrong 19 = .ok (.getfield 192, 3) := by decide +kernel
theorem d_Bs_wrong_22 : decode c_Bs_wrong 22 = .ok (.iload_n 1, 1) := by decide +kernel
theorem d_Bs_wrong_23 : decode c_Bs_wrong 23 = .ok (.iaload, 1) := by decide +kernel
theorem d_Bs_wrong_24 : decode c_Bs_wrong 24 = .ok (.goto 4, 3) := by decide +kernel
theorem d_Bs_wrong_27 : decode c_Bs_wrong 27 = .ok (.iconst (-1), 1) := by decide +kernel
theorem d_Bs_wrong_28 : decode c_Bs_wrong 28 = .ok (.ireturn, 1) := by decide +kernel
theorem d_Bs_state_0 : decode c_Bs_state 0 = .ok (.aload_n 0, 1) := by decide +kernel
theorem d_Bs_state_1 : decode c_Bs_state 1 = .ok (.invokevirtual 107, 3) := by decide +kernel
theorem d_Bs_state_4 : decode c_Bs_state 4 = .ok (.aload_n 0, 1) := by decide +kernel
theorem d_Bs_state_5 : decode c_Bs_state 5 = .ok (.getfield 37, 3) := by decide +kernel
theorem d_Bs_state_8 : decode c_Bs_state 8 = .ok (.iload_n 2, 1) := by decide +kernel
theorem d_Bs_state_9 : decode c_Bs_state 9 = .ok (.invokevirtual 111, 3) := by decide +kernel
theorem d_Bs_state_12 : decode c_Bs_state 12 = .ok (.astore_n 3, 1) := by decide +kernel
theorem d_Bs_state_13 : decode c_Bs_state 13 = .ok (.aload_n 3, 1) := by decide +kernel
theorem d_Bs_state_14 : decode c_Bs_state 14 = .ok (.ifnull 14, 3) := by decide +kernel
theorem d_Bs_state_17 : decode c_Bs_state 17 = .ok (.aload_n 0, 1) := by decide +kernel
theorem d_Bs_state_18 : decode c_Bs_state 18 = .ok (.getfield 49, 3) := by decide +kernel
theorem d_Bs_state_21 : decode c_Bs_state 21 = .ok (.iload_n 1, 1) := by decide +kernel
theorem d_Bs_state_22 : decode c_Bs_state 22 = .ok (.invokevirtual 184, 3) := by decide +kernel
theorem d_Bs_state_25 : decode c_Bs_state 25 = .ok (.ifCond .ne 5, 3) := by decide +kernel
theorem d_Bs_state_28 : decode c_Bs_state 28 = .ok (.iconst (-1), 1) := by decide +kernel
theorem d_Bs_state_29 : decode c_Bs_state 29 = .ok (.ireturn, 1) := by decide +kernel
theorem d_Bs_state_30 : decode c_Bs_state 30 = .ok (.aload_n 3, 1) := by decide +kernel
theorem d_Bs_state_31 : decode c_Bs_state 31 = .ok (.iload_n 1, 1) := by decide +kernel
theorem d_Bs_state_32 : decode c_Bs_state 32 = .ok (.invokevirtual 195, 3) := by decide +kernel
theorem d_Bs_state_35 : decode c_Bs_state 35 = .ok (.ireturn, 1) := by decide +kernel
theorem d_Bs_leftOut_0 : decode c_Bs_leftOut 0 = .ok (.aload_n 0, 1) := by decide +kernel
theorem d_Bs_leftOut_1 : decode c_Bs_leftOut 1 = .ok (.getfield 61, 3) := by decide +kernel
theorem d_Bs_leftOut_4 : decode c_Bs_leftOut 4 = .ok (.iconst (-1), 1) := by decide +kernel
theorem d_Bs_leftOut_5 : decode c_Bs_leftOut 5 = .ok (.if_icmp .ne 49, 3) := by decide +kernel
theorem d_Bs_leftOut_8 : decode c_Bs_leftOut 8 = .ok (.aload_n 0, 1) := by decide +kernel
theorem d_Bs_leftOut_9 : decode c_Bs_leftOut 9 = .ok (.iconst 0, 1) := by decide +kernel
theorem d_Bs_leftOut_10 : decode c_Bs_leftOut 10 = .ok (.putfield 61, 3) := by decide +kernel
theorem d_Bs_leftOut_13 : decode c_Bs_leftOut 13 = .ok (.iconst 0, 1) := by decide +kernel
theorem d_Bs_leftOut_14 : decode c_Bs_leftOut 14 = .ok (.istore_n 1, 1) := by decide +kernel
theorem d_Bs_leftOut_15 : decode c_Bs_leftOut 15 = .ok (.iload_n 1, 1) := by decide +kernel
theorem d_Bs_leftOut_16 : decode c_Bs_leftOut 16 = .ok (.aload_n 0, 1) := by decide +kernel
theorem d_Bs_leftOut_17 : decode c_Bs_leftOut 17 = .ok (.getfield 12, 3) := by decide +kernel
theorem d_Bs_leftOut_20 : decode c_Bs_leftOut 20 = .ok (.getfield 69, 3) := by decide +kernel
theorem d_Bs_leftOut_23 : decode c_Bs_leftOut 23 = .ok (.if_icmp .ge 31, 3) := by decide +kernel
theorem d_Bs_leftOut_26 : decode c_Bs_leftOut 26 = .ok (.aload_n 0, 1) := by decide +kernel
theorem d_Bs_leftOut_27 : decode c_Bs_leftOut 27 = .ok (.dup, 1) := by decide +kernel
theorem d_Bs_leftOut_28 : decode c_Bs_leftOut 28 = .ok (.getfield 61, 3) := by decide +kernel
theorem d_Bs_leftOut_31 : decode c_Bs_leftOut 31 = .ok (.aload_n 0, 1) := by decide +kernel
theorem d_Bs_leftOut_32 : decode c_Bs_leftOut 32 = .ok (.iload_n 1, 1) := by decide +kernel
theorem d_Bs_leftOut_33 : decode c_Bs_leftOut 33 = .ok (.invokevirtual 198, 3) := by decide +kernel
theorem d_Bs_leftOut_36 : decode c_Bs_leftOut 36 = .ok (.ifCond .eq 7, 3) := by decide +kernel
theorem d_Bs_leftOut_39 : decode c_Bs_leftOut 39 = .ok (.iconst 1, 1) := by decide +kernel
theorem d_Bs_leftOut_40 : decode c_Bs_leftOut 40 = .ok (.goto 4, 3) := by decide +kernel
theorem d_Bs_leftOut_43 : decode c_Bs_leftOut 43 = .ok (.iconst 0, 1) := by decide +kernel
theorem d_Bs_leftOut_44 : decode c_Bs_leftOut 44 = .ok (.iadd, 1) := by decide +kernel
theorem d_Bs_leftOut_45 : decode c_Bs_leftOut 45 = .ok (.putfield 61, 3) := by decide +kernel
theorem d_Bs_leftOut_48 : decode c_Bs_leftOut 48 = .ok (.iinc 1 1, 3) := by decide +kernel
theorem d_Bs_leftOut_51 : decode c_Bs_leftOut 51 = .ok (.goto (-36), 3) := by decide +kernel
theorem d_Bs_leftOut_54 : decode c_Bs_leftOut 54 = .ok (.aload_n 0, 1) := by decide +kernel
theorem d_Bs_leftOut_55 : decode c_Bs_leftOut 55 = .ok (.getfield 61, 3) := by decide +kernel
theorem d_Bs_leftOut_58 : decode c_Bs_leftOut 58 = .ok (.ireturn, 1) := by decide +kernel
theorem d_Bs_isMistakenByOthers_0 : decode c_Bs_isMistakenByOthers 0 = .ok (.aload_n 0, 1) := by decide +kernel
theorem d_Bs_isMistakenByOthers_1 : decode c_Bs_isMistakenByOthers 1 = .ok (.getfield 12, 3) := by decide +kernel
theorem d_Bs_isMistakenByOthers_4 : decode c_Bs_isMistakenByOthers 4 = .ok (.iload_n 1, 1) := by decide +kernel
theorem d_Bs_isMistakenByOthers_5 : decode c_Bs_isMistakenByOthers 5 = .ok (.invokevirtual 159, 3) := by decide +kernel
theorem d_Bs_isMistakenByOthers_8 : decode c_Bs_isMistakenByOthers 8 = .ok (.ifCond .ne 5, 3) := by decide +kernel
theorem d_Bs_isMistakenByOthers_11 : decode c_Bs_isMistakenByOthers 11 = .ok (.iconst 0, 1) := by decide +kernel
theorem d_Bs_isMistakenByOthers_12 : decode c_Bs_isMistakenByOthers 12 = .ok (.ireturn, 1) := by decide +kernel
theorem d_Bs_isMistakenByOthers_13 : decode c_Bs_isMistakenByOthers 13 = .ok (.aload_n 0, 1) := by decide +kernel
theorem d_Bs_isMistakenByOthers_14 : decode c_Bs_isMistakenByOthers 14 = .ok (.getfield 41, 3) := by decide +kernel
theorem d_Bs_isMistakenByOthers_17 : decode c_Bs_isMistakenByOthers 17 = .ok (.aload_n 0, 1) := by decide +kernel
theorem d_Bs_isMistakenByOthers_18 : decode c_Bs_isMistakenByOthers 18 = .ok (.getfield 12, 3) := by decide +kernel
theorem d_Bs_isMistakenByOthers_21 : decode c_Bs_isMistakenByOthers 21 = .ok (.invokevirtual 166, 3) := by decide +kernel
theorem d_Bs_isMistakenByOthers_24 : decode c_Bs_isMistakenByOthers 24 = .ok (.iconst 1, 1) := by decide +kernel
theorem d_Bs_isMistakenByOthers_25 : decode c_Bs_isMistakenByOthers 25 = .ok (.iload_n 1, 1) := by decide +kernel
theorem d_Bs_isMistakenByOthers_26 : decode c_Bs_isMistakenByOthers 26 = .ok (.ishl, 1) := by decide +kernel
theorem d_Bs_isMistakenByOthers_27 : decode c_Bs_isMistakenByOthers 27 = .ok (.iconst (-1), 1) := by decide +kernel
theorem d_Bs_isMistakenByOthers_28 : decode c_Bs_isMistakenByOthers 28 = .ok (.ixor, 1) := by decide +kernel
theorem d_Bs_isMistakenByOthers_29 : decode c_Bs_isMistakenByOthers 29 = .ok (.iand, 1) := by decide +kernel
theorem d_Bs_isMistakenByOthers_30 : decode c_Bs_isMistakenByOthers 30 = .ok (.invokevirtual 201, 3) := by decide +kernel
theorem d_Bs_isMistakenByOthers_33 : decode c_Bs_isMistakenByOthers 33 = .ok (.aload_n 0, 1) := by decide +kernel
theorem d_Bs_isMistakenByOthers_34 : decode c_Bs_isMistakenByOthers 34 = .ok (.getfield 41, 3) := by decide +kernel
theorem d_Bs_isMistakenByOthers_37 : decode c_Bs_isMistakenByOthers 37 = .ok (.aload_n 0, 1) := by decide +kernel
theorem d_Bs_isMistakenByOthers_38 : decode c_Bs_isMistakenByOthers 38 = .ok (.getfield 12, 3) := by decide +kernel
theorem d_Bs_isMistakenByOthers_41 : decode c_Bs_isMistakenByOthers 41 = .ok (.getfield 162, 3) := by decide +kernel
theorem d_Bs_isMistakenByOthers_44 : decode c_Bs_isMistakenByOthers 44 = .ok (.iload_n 1, 1) := by decide +kernel
theorem d_Bs_isMistakenByOthers_45 : decode c_Bs_isMistakenByOthers 45 = .ok (.aaload, 1) := by decide +kernel
theorem d_Bs_isMistakenByOthers_46 : decode c_Bs_isMistakenByOthers 46 = .ok (.invokevirtual 152, 3) := by decide +kernel
theorem d_Bs_isMistakenByOthers_49 : decode c_Bs_isMistakenByOthers 49 = .ok (.getfield 205, 3) := by decide +kernel
theorem d_Bs_isMistakenByOthers_52 : decode c_Bs_isMistakenByOthers 52 = .ok (.aload_n 0, 1) := by decide +kernel
theorem d_Bs_isMistakenByOthers_53 : decode c_Bs_isMistakenByOthers 53 = .ok (.getfield 12, 3) := by decide +kernel
theorem d_Bs_isMistakenByOthers_56 : decode c_Bs_isMistakenByOthers 56 = .ok (.getfield 208, 3) := by decide +kernel
theorem d_Bs_isMistakenByOthers_59 : decode c_Bs_isMistakenByOthers 59 = .ok (.iload_n 1, 1) := by decide +kernel
theorem d_Bs_isMistakenByOthers_60 : decode c_Bs_isMistakenByOthers 60 = .ok (.iaload, 1) := by decide +kernel
theorem d_Bs_isMistakenByOthers_61 : decode c_Bs_isMistakenByOthers 61 = .ok (.if_icmp .eq 7, 3) := by decide +kernel
theorem d_Bs_isMistakenByOthers_64 : decode c_Bs_isMistakenByOthers 64 = .ok (.iconst 1, 1) := by decide +kernel
theorem d_Bs_isMistakenByOthers_65 : decode c_Bs_isMistakenByOthers 65 = .ok (.goto 4, 3) := by decide +kernel
theorem d_Bs_isMistakenByOthers_68 : decode c_Bs_isMistakenByOthers 68 = .ok (.iconst 0, 1) := by decide +kernel
theorem d_Bs_isMistakenByOthers_69 : decode c_Bs_isMistakenByOthers 69 = .ok (.ireturn, 1) := by decide +kernel
end
section
theorem d_Mo_init_0 : decode c_Mo_init 0 = .ok (.aload_n 0, 1) := by decide +kernel
theorem d_Mo_init_1 : decode c_Mo_init 1 = .ok (.invokespecial 1, 3) := by decide +kernel
theorem d_Mo_init_4 : decode c_Mo_init 4 = .ok (.aload_n 0, 1) := by decide +kernel
theorem d_Mo_init_5 : decode c_Mo_init 5 = .ok (.iconst 4, 1) := by decide +kernel
theorem d_Mo_init_6 : decode c_Mo_init 6 = .ok (.newarray .int, 2) := by decide +kernel
theorem d_Mo_init_8 : decode c_Mo_init 8 = .ok (.putfield 7, 3) := by decide +kernel
theorem d_Mo_init_11 : decode c_Mo_init 11 = .ok (.aload_n 0, 1) := by decide +kernel
theorem d_Mo_init_12 : decode c_Mo_init 12 = .ok (.bipush 96, 2) := by decide +kernel
theorem d_Mo_init_14 : decode c_Mo_init 14 = .ok (.newarray .int, 2) := by decide +kernel
theorem d_Mo_init_16 : decode c_Mo_init 16 = .ok (.putfield 13, 3) := by decide +kernel
theorem d_Mo_init_19 : decode c_Mo_init 19 = .ok (.aload_n 0, 1) := by decide +kernel
theorem d_Mo_init_20 : decode c_Mo_init 20 = .ok (.bipush 24, 2) := by decide +kernel
theorem d_Mo_init_22 : decode c_Mo_init 22 = .ok (.newarray .int, 2) := by decide +kernel
theorem d_Mo_init_24 : decode c_Mo_init 24 = .ok (.putfield 16, 3) := by decide +kernel
theorem d_Mo_init_27 : decode c_Mo_init 27 = .ok (.aload_n 0, 1) := by decide +kernel
theorem d_Mo_init_28 : decode c_Mo_init 28 = .ok (.iconst 3, 1) := by decide +kernel
theorem d_Mo_init_29 : decode c_Mo_init 29 = .ok (.putfield 19, 3) := by decide +kernel
theorem d_Mo_init_32 : decode c_Mo_init 32 = .ok (.aload_n 0, 1) := by decide +kernel
theorem d_Mo_init_33 : decode c_Mo_init 33 = .ok (.iconst 1, 1) := by decide +kernel
theorem d_Mo_init_34 : decode c_Mo_init 34 = .ok (.putfield 23, 3) := by decide +kernel
theorem d_Mo_init_37 : decode c_Mo_init 37 = .ok (.aload_n 0, 1) := by decide +kernel
theorem d_Mo_init_38 : decode c_Mo_init 38 = .ok (.bipush 64, 2) := by decide +kernel
theorem d_Mo_init_40 : decode c_Mo_init 40 = .ok (.newarray .int, 2) := by decide +kernel
theorem d_Mo_init_42 : decode c_Mo_init 42 = .ok (.putfield 26, 3) := by decide +kernel
theorem d_Mo_init_45 : decode c_Mo_init 45 = .ok (.aload_n 0, 1) := by decide +kernel
theorem d_Mo_init_46 : decode c_Mo_init 46 = .ok (.bipush 64, 2) := by decide +kernel
theorem d_Mo_init_48 : decode c_Mo_init 48 = .ok (.newarray .int, 2) := by decide +kernel
theorem d_Mo_init_50 : decode c_Mo_init 50 = .ok (.putfield 29, 3) := by decide +kernel
theorem d_Mo_init_53 : decode c_Mo_init 53 = .ok (.aload_n 0, 1) := by decide +kernel
theorem d_Mo_init_54 : decode c_Mo_init 54 = .ok (.bipush 64, 2) := by decide +kernel
theorem d_Mo_init_56 : decode c_Mo_init 56 = .ok (.newarray .int, 2) := by decide +kernel
theorem d_Mo_init_58 : decode c_Mo_init 58 = .ok (.putfield 32, 3) := by decide +kernel
theorem d_Mo_init_61 : decode c_Mo_init 61 = .ok (.aload_n 0, 1) := by decide +kernel
theorem d_Mo_init_62 : decode c_Mo_init 62 = .ok (.bipush 64, 2) := by decide +kernel
theorem d_Mo_init_64 : decode c_Mo_init 64 = .ok (.newarray .int, 2) := by decide +kernel
theorem d_Mo_init_66 : decode c_Mo_init 66 = .ok (.putfield 35, 3) := by decide +kernel
theorem d_Mo_init_69 : decode c_Mo_init 69 = .ok (.aload_n 0, 1) := by decide +kernel
theorem d_Mo_init_70 : decode c_Mo_init 70 = .ok (.bipush 64, 2) := by decide +kernel
theorem d_Mo_init_72 : decode c_Mo_init 72 = .ok (.newarray .int, 2) := by decide +kernel
theorem d_Mo_init_74 : decode c_Mo_init 74 = .ok (.putfield 38, 3) := by decide +kernel
theorem d_Mo_init_77 : decode c_Mo_init 77 = .ok (.aload_n 0, 1) := by decide +kernel
theorem d_Mo_init_78 : decode c_Mo_init 78 = .ok (.bipush 64, 2) := by decide +kernel
theorem d_Mo_init_80 : decode c_Mo_init 80 = .ok (.newarray .int, 2) := by decide +kernel
theorem d_Mo_init_82 : decode c_Mo_init 82 = .ok (.putfield 41, 3) := by decide +kernel
theorem d_Mo_init_85 : decode c_Mo_init 85 = .ok (.aload_n 0, 1) := by decide +kernel
theorem d_Mo_init_86 : decode c_Mo_init 86 = .ok (.bipush 64, 2) := by decide +kernel
theorem d_Mo_init_88 : decode c_Mo_init 88 = .ok (.newarray .int, 2) := by decide +kernel
theorem d_Mo_init_90 : decode c_Mo_init 90 = .ok (.putfield 44, 3) := by decide +kernel
theorem d_Mo_init_93 : decode c_Mo_init 93 = .ok (.aload_n 0, 1) := by decide +kernel
theorem d_Mo_init_94 : decode c_Mo_init 94 = .ok (.bipush 64, 2) := by decide +kernel
theorem d_Mo_init_96 : decode c_Mo_init 96 = .ok (.newarray .long, 2) := by decide +kernel
theorem d_Mo_init_98 : decode c_Mo_init 98 = .ok (.putfield 47, 3) := by decide +kernel
theorem d_Mo_init_101 : decode c_Mo_init 101 = .ok (.aload_n 0, 1) := by decide +kernel
theorem d_Mo_init_102 : decode c_Mo_init 102 = .ok (.bipush 64, 2) := by decide +kernel
theorem d_Mo_init_104 : decode c_Mo_init 104 = .ok (.newarray .long, 2) := by decide +kernel
theorem d_Mo_init_106 : decode c_Mo_init 106 = .ok (.putfield 51, 3) := by decide +kernel
theorem d_Mo_init_109 : decode c_Mo_init 109 = .ok (.aload_n 0, 1) := by decide +kernel
theorem d_Mo_init_110 : decode c_Mo_init 110 = .ok (.iconst 4, 1) := by decide +kernel
theorem d_Mo_init_111 : decode c_Mo_init 111 = .ok (.newarray .int, 2) := by decide +kernel
theorem d_Mo_init_113 : decode c_Mo_init 113 = .ok (.putfield 54, 3) := by decide +kernel
theorem d_Mo_init_116 : decode c_Mo_init 116 = .ok (.aload_n 0, 1) := by decide +kernel
theorem d_Mo_init_117 : decode c_Mo_init 117 = .ok (.sipush 3072, 3) := by decide +kernel
theorem d_Mo_init_120 : decode c_Mo_init 120 = .ok (.newarray .int, 2) := by decide +kernel
theorem d_Mo_init_122 : decode c_Mo_init 122 = .ok (.putfield 57, 3) := by decide +kernel
theorem d_Mo_init_125 : decode c_Mo_init 125 = .ok (.aload_n 0, 1) := by decide +kernel
theorem d_Mo_init_126 : decode c_Mo_init 126 = .ok (.bipush 48, 2) := by decide +kernel
theorem d_Mo_init_128 : decode c_Mo_init 128 = .ok (.newarray .long, 2) := by decide +kernel
theorem d_Mo_init_130 : decode c_Mo_init 130 = .ok (.putfield 60, 3) := by decide +kernel
theorem d_Mo_init_133 : decode c_Mo_init 133 = .ok (.aload_n 0, 1) := by decide +kernel
theorem d_Mo_init_134 : decode c_Mo_init 134 = .ok (.bipush 48, 2) := by decide +kernel
theorem d_Mo_init_136 : decode c_Mo_init 136 = .ok (.newarray .long, 2) := by decide +kernel
theorem d_Mo_init_138 : decode c_Mo_init 138 = .ok (.putfield 63, 3) := by decide +kernel
theorem d_Mo_init_141 : decode c_Mo_init 141 = .ok (.aload_n 0, 1) := by decide +kernel
theorem d_Mo_init_142 : decode c_Mo_init 142 = .ok (.bipush 64, 2) := by decide +kernel
theorem d_Mo_init_144 : decode c_Mo_init 144 = .ok (.newarray .int, 2) := by decide +kernel
theorem d_Mo_init_146 : decode c_Mo_init 146 = .ok (.putfield 66, 3) := by decide +kernel
theorem d_Mo_init_149 : decode c_Mo_init 149 = .ok (.return_, 1) := by decide +kernel
theorem d_Mo_column_0 : decode c_Mo_column 0 = .ok (.iload_n 1, 1) := by decide +kernel
theorem d_Mo_column_1 : decode c_Mo_column 1 = .ok (.ifCond .lt 8, 3) := by decide +kernel
theorem d_Mo_column_4 : decode c_Mo_column 4 = .ok (.iload_n 1, 1) := by decide +kernel
theorem d_Mo_column_5 : decode c_Mo_column 5 = .ok (.iconst 3, 1) := by decide +kernel
theorem d_Mo_column_6 : decode c_Mo_column 6 = .ok (.if_icmp .le 5, 3) := by decide +kernel
theorem d_Mo_column_9 : decode c_Mo_column 9 = .ok (.iconst (-1), 1) := by decide +kernel
theorem d_Mo_column_10 : decode c_Mo_column 10 = .ok (.ireturn, 1) := by decide +kernel
theorem d_Mo_column_11 : decode c_Mo_column 11 = .ok (.iload_n 2, 1) := by decide +kernel
theorem d_Mo_column_12 : decode c_Mo_column 12 = .ok (.ifCond .lt 8, 3) := by decide +kernel
theorem d_Mo_column_15 : decode c_Mo_column 15 = .ok (.iload_n 2, 1) := by decide +kernel
theorem d_Mo_column_16 : decode c_Mo_column 16 = .ok (.iconst 1, 1) := by decide +kernel
theorem d_Mo_column_17 : decode c_Mo_column 17 = .ok (.if_icmp .le 6, 3) := by decide +kernel
theorem d_Mo_column_20 : decode c_Mo_column 20 = .ok (.bipush (-2), 2) := by decide +kernel
theorem d_Mo_column_22 : decode c_Mo_column 22 = .ok (.ireturn, 1) := by decide +kernel
theorem d_Mo_column_23 : decode c_Mo_column 23 = .ok (.aload_n 0, 1) := by decide +kernel
theorem d_Mo_column_24 : decode c_Mo_column 24 = .ok (.getfield 69, 3) := by decide +kernel
theorem d_Mo_column_27 : decode c_Mo_column 27 = .ok (.ifCond .le 6, 3) := by decide +kernel
theorem d_Mo_column_30 : decode c_Mo_column 30 = .ok (.bipush (-3), 2) := by decide +kernel
theorem d_Mo_column_32 : decode c_Mo_column 32 = .ok (.ireturn, 1) := by decide +kernel
theorem d_Mo_column_33 : decode c_Mo_column 33 = .ok (.aload_n 0, 1) := by decide +kernel
theorem d_Mo_column_34 : decode c_Mo_column 34 = .ok (.getfield 7, 3) := by decide +kernel
theorem d_Mo_column_37 : decode c_Mo_column 37 = .ok (.iload_n 1, 1) := by decide +kernel
theorem d_Mo_column_38 : decode c_Mo_column 38 = .ok (.iaload, 1) := by decide +kernel
theorem d_Mo_column_39 : decode c_Mo_column 39 = .ok (.istore_n 3, 1) := by decide +kernel
theorem d_Mo_column_40 : decode c_Mo_column 40 = .ok (.aload_n 0, 1) := by decide +kernel
theorem d_Mo_column_41 : decode c_Mo_column 41 = .ok (.getfield 7, 3) := by decide +kernel
theorem d_Mo_column_44 : decode c_Mo_column 44 = .ok (.iload_n 1, 1) := by decide +kernel
theorem d_Mo_column_45 : decode c_Mo_column 45 = .ok (.iload_n 2, 1) := by decide +kernel
theorem d_Mo_column_46 : decode c_Mo_column 46 = .ok (.iastore, 1) := by decide +kernel
theorem d_Mo_column_47 : decode c_Mo_column 47 = .ok (.iload_n 3, 1) := by decide +kernel
theorem d_Mo_column_48 : decode c_Mo_column 48 = .ok (.ireturn, 1) := by decide +kernel
theorem d_Mo_row_0 : decode c_Mo_row 0 = .ok (.aload_n 0, 1) := by decide +kernel
theorem d_Mo_row_1 : decode c_Mo_row 1 = .ok (.iconst 0, 1) := by decide +kernel
theorem d_Mo_row_2 : decode c_Mo_row 2 = .ok (.iload_n 1, 1) := by decide +kernel
theorem d_Mo_row_3 : decode c_Mo_row 3 = .ok (.invokevirtual 72, 3) := by decide +kernel
theorem d_Mo_row_6 : decode c_Mo_row 6 = .ok (.ifCond .eq 42, 3) := by decide +kernel
theorem d_Mo_row_9 : decode c_Mo_row 9 = .ok (.aload_n 0, 1) := by decide +kernel
theorem d_Mo_row_10 : decode c_Mo_row 10 = .ok (.iconst 1, 1) := by decide +kernel
theorem d_Mo_row_11 : decode c_Mo_row 11 = .ok (.iload_n 2, 1) := by decide +kernel
theorem d_Mo_row_12 : decode c_Mo_row 12 = .ok (.invokevirtual 72, 3) := by decide +kernel
theorem d_Mo_row_15 : decode c_Mo_row 15 = .ok (.ifCond .eq 33, 3) := by decide +kernel
theorem d_Mo_row_18 : decode c_Mo_row 18 = .ok (.aload_n 0, 1) := by decide +kernel
theorem d_Mo_row_19 : decode c_Mo_row 19 = .ok (.iconst 2, 1) := by decide +kernel
theorem d_Mo_row_20 : decode c_Mo_row 20 = .ok (.iload_n 3, 1) := by decide +kernel
theorem d_Mo_row_21 : decode c_Mo_row 21 = .ok (.invokevirtual 72, 3) := by decide +kernel
theorem d_Mo_row_24 : decode c_Mo_row 24 = .ok (.ifCond .eq 24, 3) := by decide +kernel
theorem d_Mo_row_27 : decode c_Mo_row 27 = .ok (.aload_n 0, 1) := by decide +kernel
theorem d_Mo_row_28 : decode c_Mo_row 28 = .ok (.iconst 3, 1) := by decide +kernel
theorem d_Mo_row_29 : decode c_Mo_row 29 = .ok (.iload 4, 2) := by decide +kernel
theorem d_Mo_row_31 : decode c_Mo_row 31 = .ok (.invokevirtual 72, 3) := by decide +kernel
theorem d_Mo_row_34 : decode c_Mo_row 34 = .ok (.ifCond .eq 14, 3) := by decide +kernel
theorem d_Mo_row_37 : decode c_Mo_row 37 = .ok (.iload 5, 2) := by decide +kernel
theorem d_Mo_row_39 : decode c_Mo_row 39 = .ok (.ifCond .lt 9, 3) := by decide +kernel
theorem d_Mo_row_42 : decode c_Mo_row 42 = .ok (.iload 5, 2) := by decide +kernel
theorem d_Mo_row_44 : decode c_Mo_row 44 = .ok (.iconst 2, 1) := by decide +kernel
theorem d_Mo_row_45 : decode c_Mo_row 45 = .ok (.if_icmp .le 6, 3) := by decide +kernel
theorem d_Mo_row_48 : decode c_Mo_row 48 = .ok (.bipush (-2), 2) := by decide +kernel
theorem d_Mo_row_50 : decode c_Mo_row 50 = .ok (.ireturn, 1) := by decide +kernel
theorem d_Mo_row_51 : decode c_Mo_row 51 = .ok (.aload_n 0, 1) := by decide +kernel
theorem d_Mo_row_52 : decode c_Mo_row 52 = .ok (.getfield 69, 3) := by decide +kernel
theorem d_Mo_row_55 : decode c_Mo_row 55 = .ok (.bipush 24, 2) := by decide +kernel
theorem d_Mo_row_57 : decode c_Mo_row 57 = .ok (.if_icmp .ne 6, 3) := by decide +kernel
theorem d_Mo_row_60 : decode c_Mo_row 60 = .ok (.bipush (-4), 2) := by decide +kernel
theorem d_Mo_row_62 : decode c_Mo_row 62 = .ok (.ireturn, 1) := by decide +kernel
theorem d_Mo_row_63 : decode c_Mo_row 63 = .ok (.aload_n 0, 1) := by decide +kernel
theorem d_Mo_row_64 : decode c_Mo_row 64 = .ok (.getfield 13, 3) := by decide +kernel
theorem d_Mo_row_67 : decode c_Mo_row 67 = .ok (.iconst 4, 1) := by decide +kernel
theorem d_Mo_row_68 : decode c_Mo_row 68 = .ok (.aload_n 0, 1) := by decide +kernel
theorem d_Mo_row_69 : decode c_Mo_row 69 = .ok (.getfield 69, 3) := by decide +kernel
theorem d_Mo_row_72 : decode c_Mo_row 72 = .ok (.imul, 1) := by decide +kernel
theorem d_Mo_row_73 : decode c_Mo_row 73 = .ok (.iload_n 1, 1) := by decide +kernel
theorem d_Mo_row_74 : decode c_Mo_row 74 = .ok (.iastore, 1) := by decide +kernel
theorem d_Mo_row_75 : decode c_Mo_row 75 = .ok (.aload_n 0, 1) := by decide +kernel
theorem d_Mo_row_76 : decode c_Mo_row 76 = .ok (.getfield 13, 3) := by decide +kernel
theorem d_Mo_row_79 : decode c_Mo_row 79 = .ok (.iconst 4, 1) := by decide +kernel
theorem d_Mo_row_80 : decode c_Mo_row 80 = .ok (.aload_n 0, 1) := by decide +kernel
theorem d_Mo_row_81 : decode c_Mo_row 81 = .ok (.getfield 69, 3) := by decide +kernel
theorem d_Mo_row_84 : decode c_Mo_row 84 = .ok (.imul, 1) := by decide +kernel
theorem d_Mo_row_85 : decode c_Mo_row 85 = .ok (.iconst 1, 1) := by decide +kernel
theorem d_Mo_row_86 : decode c_Mo_row 86 = .ok (.iadd, 1) := by decide +kernel
theorem d_Mo_row_87 : decode c_Mo_row 87 = .ok (.iload_n 2, 1) := by decide +kernel
theorem d_Mo_row_88 : decode c_Mo_row 88 = .ok (.iastore, 1) := by decide +kernel
theorem d_Mo_row_89 : decode c_Mo_row 89 = .ok (.aload_n 0, 1) := by decide +kernel
theorem d_Mo_row_90 : decode c_Mo_row 90 = .ok (.getfield 13, 3) := by decide +kernel
theorem d_Mo_row_93 : decode c_Mo_row 93 = .ok (.iconst 4, 1) := by decide +kernel
theorem d_Mo_row_94 : decode c_Mo_row 94 = .ok (.aload_n 0, 1) := by decide +kernel
theorem d_Mo_row_95 : decode c_Mo_row 95 = .ok (.getfield 69, 3) := by decide +kernel
theorem d_Mo_row_98 : decode c_Mo_row 98 = .ok (.imul, 1) := by decide +kernel
theorem d_Mo_row_99 : decode c_Mo_row 99 = .ok (.iconst 2, 1) := by decide +kernel
theorem d_Mo_row_100 : decode c_Mo_row 100 = .ok (.iadd, 1) := by decide +kernel
theorem d_Mo_row_101 : decode c_Mo_row 101 = .ok (.iload_n 3, 1) := by decide +kernel
theorem d_Mo_row_102 : decode c_Mo_row 102 = .ok (.iastore, 1) := by decide +kernel
theorem d_Mo_row_103 : decode c_Mo_row 103 = .ok (.aload_n 0, 1) := by decide +kernel
theorem d_Mo_row_104 : decode c_Mo_row 104 = .ok (.getfield 13, 3) := by decide +kernel
theorem d_Mo_row_107 : decode c_Mo_row 107 = .ok (.iconst 4, 1) := by decide +kernel
theorem d_Mo_row_108 : decode c_Mo_row 108 = .ok (.aload_n 0, 1) := by decide +kernel
theorem d_Mo_row_109 : decode c_Mo_row 109 = .ok (.getfield 69, 3) := by decide +kernel
theorem d_Mo_row_112 : decode c_Mo_row 112 = .ok (.imul, 1) := by decide +kernel
theorem d_Mo_row_113 : decode c_Mo_row 113 = .ok (.iconst 3, 1) := by decide +kernel
theorem d_Mo_row_114 : decode c_Mo_row 114 = .ok (.iadd, 1) := by decide +kernel
theorem d_Mo_row_115 : decode c_Mo_row 115 = .ok (.iload 4, 2) := by decide +kernel
theorem d_Mo_row_117 : decode c_Mo_row 117 = .ok (.iastore, 1) := by decide +kernel
theorem d_Mo_row_118 : decode c_Mo_row 118 = .ok (.aload_n 0, 1) := by decide +kernel
theorem d_Mo_row_119 : decode c_Mo_row 119 = .ok (.getfield 16, 3) := by decide +kernel
theorem d_Mo_row_122 : decode c_Mo_row 122 = .ok (.aload_n 0, 1) := by decide +kernel
theorem d_Mo_row_123 : decode c_Mo_row 123 = .ok (.getfield 69, 3) := by decide +kernel
theorem d_Mo_row_126 : decode c_Mo_row 126 = .ok (.iload 5, 2) := by decide +kernel
theorem d_Mo_row_128 : decode c_Mo_row 128 = .ok (.iastore, 1) := by decide +kernel
theorem d_Mo_row_129 : decode c_Mo_row 129 = .ok (.aload_n 0, 1) := by decide +kernel
theorem d_Mo_row_130 : decode c_Mo_row 130 = .ok (.dup, 1) := by decide +kernel
theorem d_Mo_row_131 : decode c_Mo_row 131 = .ok (.getfield 69, 3) := by decide +kernel
theorem d_Mo_row_134 : decode c_Mo_row 134 = .ok (.iconst 1, 1) := by decide +kernel
theorem d_Mo_row_135 : decode c_Mo_row 135 = .ok (.iadd, 1) := by decide +kernel
theorem d_Mo_row_136 : decode c_Mo_row 136 = .ok (.putfield 69, 3) := by decide +kernel
theorem d_Mo_row_139 : decode c_Mo_row 139 = .ok (.aload_n 0, 1) := by decide +kernel
theorem d_Mo_row_140 : decode c_Mo_row 140 = .ok (.iconst 0, 1) := by decide +kernel
theorem d_Mo_row_141 : decode c_Mo_row 141 = .ok (.putfield 76, 3) := by decide +kernel
theorem d_Mo_row_144 : decode c_Mo_row 144 = .ok (.aload_n 0, 1) := by decide +kernel
theorem d_Mo_row_145 : decode c_Mo_row 145 = .ok (.getfield 69, 3) := by decide +kernel
theorem d_Mo_row_148 : decode c_Mo_row 148 = .ok (.iconst 1, 1) := by decide +kernel
theorem d_Mo_row_149 : decode c_Mo_row 149 = .ok (.isub, 1) := by decide +kernel
theorem d_Mo_row_150 : decode c_Mo_row 150 = .ok (.ireturn, 1) := by decide +kernel
theorem d_Mo_isValue_0 : decode c_Mo_isValue 0 = .ok (.iload_n 2, 1) := by decide +kernel
theorem d_Mo_isValue_1 : decode c_Mo_isValue 1 = .ok (.iconst (-1), 1) := by decide +kernel
theorem d_Mo_isValue_2 : decode c_Mo_isValue 2 = .ok (.if_icmp .lt 26, 3) := by decide +kernel
theorem d_Mo_isValue_5 : decode c_Mo_isValue 5 = .ok (.iload_n 2, 1) := by decide +kernel
theorem d_Mo_isValue_6 : decode c_Mo_isValue 6 = .ok (.aload_n 0, 1) := by decide +kernel
theorem d_Mo_isValue_7 : decode c_Mo_isValue 7 = .ok (.getfield 7, 3) := by decide +kernel
theorem d_Mo_isValue_10 : decode c_Mo_isValue 10 = .ok (.iload_n 1, 1) := by decide +kernel
theorem d_Mo_isValue_11 : decode c_Mo_isValue 11 = .ok (.iaload, 1) := by decide +kernel
theorem d_Mo_isValue_12 : decode c_Mo_isValue 12 = .ok (.ifCond .ne 8, 3) := by decide +kernel
theorem d_Mo_isValue_15 : decode c_Mo_isValue 15 = .ok (.bipush 100, 2) := by decide +kernel
theorem d_Mo_isValue_17 : decode c_Mo_isValue 17 = .ok (.goto 4, 3) := by decide +kernel
theorem d_Mo_isValue_20 : decode c_Mo_isValue 20 = .ok (.iconst 5, 1) := by decide +kernel
theorem d_Mo_isValue_21 : decode c_Mo_isValue 21 = .ok (.if_icmp .gt 7, 3) := by decide +kernel
theorem d_Mo_isValue_24 : decode c_Mo_isValue 24 = .ok (.iconst 1, 1) := by decide +kernel
theorem d_Mo_isValue_25 : decode c_Mo_isValue 25 = .ok (.goto 4, 3) := by decide +kernel
theorem d_Mo_isValue_28 : decode c_Mo_isValue 28 = .ok (.iconst 0, 1) := by decide +kernel
theorem d_Mo_isValue_29 : decode c_Mo_isValue 29 = .ok (.ireturn, 1) := by decide +kernel
theorem d_Mo_clear_0 : decode c_Mo_clear 0 = .ok (.aload_n 0, 1) := by decide +kernel
theorem d_Mo_clear_1 : decode c_Mo_clear 1 = .ok (.getfield 69, 3) := by decide +kernel
theorem d_Mo_clear_4 : decode c_Mo_clear 4 = .ok (.istore_n 1, 1) := by decide +kernel
theorem d_Mo_clear_5 : decode c_Mo_clear 5 = .ok (.aload_n 0, 1) := by decide +kernel
theorem d_Mo_clear_6 : decode c_Mo_clear 6 = .ok (.iconst 0, 1) := by decide +kernel
theorem d_Mo_clear_7 : decode c_Mo_clear 7 = .ok (.putfield 69, 3) := by decide +kernel
theorem d_Mo_clear_10 : decode c_Mo_clear 10 = .ok (.aload_n 0, 1) := by decide +kernel
theorem d_Mo_clear_11 : decode c_Mo_clear 11 = .ok (.iconst 0, 1) := by decide +kernel
theorem d_Mo_clear_12 : decode c_Mo_clear 12 = .ok (.putfield 76, 3) := by decide +kernel
theorem d_Mo_clear_15 : decode c_Mo_clear 15 = .ok (.iload_n 1, 1) := by decide +kernel
theorem d_Mo_clear_16 : decode c_Mo_clear 16 = .ok (.ireturn, 1) := by decide +kernel
theorem d_Mo_settings_0 : decode c_Mo_settings 0 = .ok (.iload_n 1, 1) := by decide +kernel
theorem d_Mo_settings_1 : decode c_Mo_settings 1 = .ok (.ifCond .lt 30, 3) := by decide +kernel
theorem d_Mo_settings_4 : decode c_Mo_settings 4 = .ok (.iload_n 1, 1) := by decide +kernel
theorem d_Mo_settings_5 : decode c_Mo_settings 5 = .ok (.iconst 5, 1) := by decide +kernel
theorem d_Mo_settings_6 : decode c_Mo_settings 6 = .ok (.if_icmp .gt 25, 3) := by decide +kernel
theorem d_Mo_settings_9 : decode c_Mo_settings 9 = .ok (.iload_n 2, 1) := by decide +kernel
theorem d_Mo_settings_10 : decode c_Mo_settings 10 = .ok (.iconst 1, 1) := by decide +kernel
theorem d_Mo_settings_11 : decode c_Mo_settings 11 = .ok (.if_icmp .lt 20, 3) := by decide +kernel
theorem d_Mo_settings_14 : decode c_Mo_settings 14 = .ok (.iload_n 2, 1) := by decide +kernel
theorem d_Mo_settings_15 : decode c_Mo_settings 15 = .ok (.bipush 10, 2) := by decide +kernel
theorem d_Mo_settings_17 : decode c_Mo_settings 17 = .ok (.if_icmp .gt 14, 3) := by decide +kernel
theorem d_Mo_settings_20 : decode c_Mo_settings 20 = .ok (.iload_n 3, 1) := by decide +kernel
theorem d_Mo_settings_21 : decode c_Mo_settings 21 = .ok (.ifCond .lt 10, 3) := by decide +kernel
theorem d_Mo_settings_24 : decode c_Mo_settings 24 = .ok (.iload_n 3, 1) := by decide +kernel
theorem d_Mo_settings_25 : decode c_Mo_settings 25 = .ok (.sipush 1000, 3) := by decide +kernel
theorem d_Mo_settings_28 : decode c_Mo_settings 28 = .ok (.if_icmp .le 6, 3) := by decide +kernel
theorem d_Mo_settings_31 : decode c_Mo_settings 31 = .ok (.bipush (-2), 2) := by decide +kernel
theorem d_Mo_settings_33 : decode c_Mo_settings 33 = .ok (.ireturn, 1) := by decide +kernel
theorem d_Mo_settings_34 : decode c_Mo_settings 34 = .ok (.aload_n 0, 1) := by decide +kernel
theorem d_Mo_settings_35 : decode c_Mo_settings 35 = .ok (.iload_n 1, 1) := by decide +kernel
theorem d_Mo_settings_36 : decode c_Mo_settings 36 = .ok (.putfield 19, 3) := by decide +kernel
theorem d_Mo_settings_39 : decode c_Mo_settings 39 = .ok (.aload_n 0, 1) := by decide +kernel
theorem d_Mo_settings_40 : decode c_Mo_settings 40 = .ok (.iload_n 2, 1) := by decide +kernel
theorem d_Mo_settings_41 : decode c_Mo_settings 41 = .ok (.putfield 23, 3) := by decide +kernel
theorem d_Mo_settings_44 : decode c_Mo_settings 44 = .ok (.aload_n 0, 1) := by decide +kernel
theorem d_Mo_settings_45 : decode c_Mo_settings 45 = .ok (.iload_n 3, 1) := by decide +kernel
theorem d_Mo_settings_46 : decode c_Mo_settings 46 = .ok (.putfield 80, 3) := by decide +kernel
theorem d_Mo_settings_49 : decode c_Mo_settings 49 = .ok (.aload_n 0, 1) := by decide +kernel
theorem d_Mo_settings_50 : decode c_Mo_settings 50 = .ok (.iconst 0, 1) := by decide +kernel
theorem d_Mo_settings_51 : decode c_Mo_settings 51 = .ok (.putfield 76, 3) := by decide +kernel
theorem d_Mo_settings_54 : decode c_Mo_settings 54 = .ok (.iconst 1, 1) := by decide +kernel
theorem d_Mo_settings_55 : decode c_Mo_settings 55 = .ok (.ireturn, 1) := by decide +kernel
theorem d_Mo_nodes_0 : decode c_Mo_nodes 0 = .ok (.aload_n 0, 1) := by decide +kernel
theorem d_Mo_nodes_1 : decode c_Mo_nodes 1 = .ok (.invokevirtual 173, 3) := by decide +kernel
theorem d_Mo_nodes_4 : decode c_Mo_nodes 4 = .ok (.aload_n 0, 1) := by decide +kernel
theorem d_Mo_nodes_5 : decode c_Mo_nodes 5 = .ok (.getfield 147, 3) := by decide +kernel
theorem d_Mo_nodes_8 : decode c_Mo_nodes 8 = .ok (.ireturn, 1) := by decide +kernel
theorem d_Mo_build_0 : decode c_Mo_build 0 = .ok (.aload_n 0, 1) := by decide +kernel
theorem d_Mo_build_1 : decode c_Mo_build 1 = .ok (.getfield 76, 3) := by decide +kernel
theorem d_Mo_build_4 : decode c_Mo_build 4 = .ok (.ifCond .ne 24, 3) := by decide +kernel
theorem d_Mo_build_7 : decode c_Mo_build 7 = .ok (.aload_n 0, 1) := by decide +kernel
theorem d_Mo_build_8 : decode c_Mo_build 8 = .ok (.iconst 1, 1) := by decide +kernel
theorem d_Mo_build_9 : decode c_Mo_build 9 = .ok (.aload_n 0, 1) := by decide +kernel
theorem d_Mo_build_10 : decode c_Mo_build 10 = .ok (.getfield 69, 3) := by decide +kernel
theorem d_Mo_build_13 : decode c_Mo_build 13 = .ok (.ishl, 1) := by decide +kernel
theorem d_Mo_build_14 : decode c_Mo_build 14 = .ok (.iconst 1, 1) := by decide +kernel
theorem d_Mo_build_15 : decode c_Mo_build 15 = .ok (.isub, 1) := by decide +kernel
theorem d_Mo_build_16 : decode c_Mo_build 16 = .ok (.invokevirtual 166, 3) := by decide +kernel
theorem d_Mo_build_19 : decode c_Mo_build 19 = .ok (.aload_n 0, 1) := by decide +kernel
theorem d_Mo_build_20 : decode c_Mo_build 20 = .ok (.invokevirtual 170, 3) := by decide +kernel
theorem d_Mo_build_23 : decode c_Mo_build 23 = .ok (.aload_n 0, 1) := by decide +kernel
theorem d_Mo_build_24 : decode c_Mo_build 24 = .ok (.iconst 1, 1) := by decide +kernel
theorem d_Mo_build_25 : decode c_Mo_build 25 = .ok (.putfield 76, 3) := by decide +kernel
theorem d_Mo_build_28 : decode c_Mo_build 28 = .ok (.return_, 1) := by decide +kernel
theorem d_Mo_grow_0 : decode c_Mo_grow 0 = .ok (.aload_n 0, 1) := by decide +kernel
theorem d_Mo_grow_1 : decode c_Mo_grow 1 = .ok (.iconst 0, 1) := by decide +kernel
theorem d_Mo_grow_2 : decode c_Mo_grow 2 = .ok (.putfield 147, 3) := by decide +kernel
theorem d_Mo_grow_5 : decode c_Mo_grow 5 = .ok (.aload_n 0, 1) := by decide +kernel
theorem d_Mo_grow_6 : decode c_Mo_grow 6 = .ok (.iload_n 1, 1) := by decide +kernel
theorem d_Mo_grow_7 : decode c_Mo_grow 7 = .ok (.iconst 0, 1) := by decide +kernel
theorem d_Mo_grow_8 : decode c_Mo_grow 8 = .ok (.invokevirtual 153, 3) := by decide +kernel
theorem d_Mo_grow_11 : decode c_Mo_grow 11 = .ok (.iconst 0, 1) := by decide +kernel
theorem d_Mo_grow_12 : decode c_Mo_grow 12 = .ok (.istore_n 2, 1) := by decide +kernel
theorem d_Mo_grow_13 : decode c_Mo_grow 13 = .ok (.iload_n 2, 1) := by decide +kernel
theorem d_Mo_grow_14 : decode c_Mo_grow 14 = .ok (.aload_n 0, 1) := by decide +kernel
theorem d_Mo_grow_15 : decode c_Mo_grow 15 = .ok (.getfield 147, 3) := by decide +kernel
theorem d_Mo_grow_18 : decode c_Mo_grow 18 = .ok (.if_icmp .ge 193, 3) := by decide +kernel
theorem d_Mo_grow_21 : decode c_Mo_grow 21 = .ok (.aload_n 0, 1) := by decide +kernel
theorem d_Mo_grow_22 : decode c_Mo_grow 22 = .ok (.getfield 26, 3) := by decide +kernel
theorem d_Mo_grow_25 : decode c_Mo_grow 25 = .ok (.iload_n 2, 1) := by decide +kernel
theorem d_Mo_grow_26 : decode c_Mo_grow 26 = .ok (.iaload, 1) := by decide +kernel
theorem d_Mo_grow_27 : decode c_Mo_grow 27 = .ok (.istore_n 3, 1) := by decide +kernel
theorem d_Mo_grow_28 : decode c_Mo_grow 28 = .ok (.aload_n 0, 1) := by decide +kernel
theorem d_Mo_grow_29 : decode c_Mo_grow 29 = .ok (.iload_n 3, 1) := by decide +kernel
theorem d_Mo_grow_30 : decode c_Mo_grow 30 = .ok (.invokevirtual 157, 3) := by decide +kernel
theorem d_Mo_grow_33 : decode c_Mo_grow 33 = .ok (.ifCond .eq 172, 3) := by decide +kernel
theorem d_Mo_grow_36 : decode c_Mo_grow 36 = .ok (.aload_n 0, 1) := by decide +kernel
theorem d_Mo_grow_37 : decode c_Mo_grow 37 = .ok (.getfield 29, 3) := by decide +kernel
theorem d_Mo_grow_40 : decode c_Mo_grow 40 = .ok (.iload_n 2, 1) := by decide +kernel
theorem d_Mo_grow_41 : decode c_Mo_grow 41 = .ok (.iaload, 1) := by decide +kernel
theorem d_Mo_grow_42 : decode c_Mo_grow 42 = .ok (.aload_n 0, 1) := by decide +kernel
theorem d_Mo_grow_43 : decode c_Mo_grow 43 = .ok (.getfield 19, 3) := by decide +kernel
theorem d_Mo_grow_46 : decode c_Mo_grow 46 = .ok (.if_icmp .ge 159, 3) := by decide +kernel
theorem d_Mo_grow_49 : decode c_Mo_grow 49 = .ok (.aload_n 0, 1) := by decide +kernel
theorem d_Mo_grow_50 : decode c_Mo_grow 50 = .ok (.iload_n 3, 1) := by decide +kernel
theorem d_Mo_grow_51 : decode c_Mo_grow 51 = .ok (.invokevirtual 161, 3) := by decide +kernel
theorem d_Mo_grow_54 : decode c_Mo_grow 54 = .ok (.ifCond .eq 151, 3) := by decide +kernel
theorem d_Mo_grow_57 : decode c_Mo_grow 57 = .ok (.ldc2_w 164, 3) := by decide +kernel
theorem d_Mo_grow_60 : decode c_Mo_grow 60 = .ok (.aload_n 0, 1) := by decide +kernel
theorem d_Mo_grow_61 : decode c_Mo_grow 61 = .ok (.getfield 135, 3) := by decide +kernel
theorem d_Mo_grow_64 : decode c_Mo_grow 64 = .ok (.lmul, 1) := by decide +kernel
theorem d_Mo_grow_65 : decode c_Mo_grow 65 = .ok (.aload_n 0, 1) := by decide +kernel
theorem d_Mo_grow_66 : decode c_Mo_grow 66 = .ok (.getfield 80, 3) := by decide +kernel
theorem d_Mo_grow_69 : decode c_Mo_grow 69 = .ok (.i2l, 1) := by decide +kernel
theorem d_Mo_grow_70 : decode c_Mo_grow 70 = .ok (.aload_n 0, 1) := by decide +kernel
theorem d_Mo_grow_71 : decode c_Mo_grow 71 = .ok (.getfield 132, 3) := by decide +kernel
theorem d_Mo_grow_74 : decode c_Mo_grow 74 = .ok (.lmul, 1) := by decide +kernel
theorem d_Mo_grow_75 : decode c_Mo_grow 75 = .ok (.lcmp, 1) := by decide +kernel
theorem d_Mo_grow_76 : decode c_Mo_grow 76 = .ok (.ifCond .gt 6, 3) := by decide +kernel
theorem d_Mo_grow_79 : decode c_Mo_grow 79 = .ok (.goto 126, 3) := by decide +kernel
theorem d_Mo_grow_82 : decode c_Mo_grow 82 = .ok (.aload_n 0, 1) := by decide +kernel
theorem d_Mo_grow_83 : decode c_Mo_grow 83 = .ok (.getfield 32, 3) := by decide +kernel
theorem d_Mo_grow_86 : decode c_Mo_grow 86 = .ok (.iload_n 2, 1) := by decide +kernel
theorem d_Mo_grow_87 : decode c_Mo_grow 87 = .ok (.aload_n 0, 1) := by decide +kernel
theorem d_Mo_grow_88 : decode c_Mo_grow 88 = .ok (.getfield 138, 3) := by decide +kernel
theorem d_Mo_grow_91 : decode c_Mo_grow 91 = .ok (.iastore, 1) := by decide +kernel
theorem d_Mo_grow_92 : decode c_Mo_grow 92 = .ok (.aload_n 0, 1) := by decide +kernel
theorem d_Mo_grow_93 : decode c_Mo_grow 93 = .ok (.getfield 35, 3) := by decide +kernel
theorem d_Mo_grow_96 : decode c_Mo_grow 96 = .ok (.iload_n 2, 1) := by decide +kernel
theorem d_Mo_grow_97 : decode c_Mo_grow 97 = .ok (.aload_n 0, 1) := by decide +kernel
theorem d_Mo_grow_98 : decode c_Mo_grow 98 = .ok (.getfield 141, 3) := by decide +kernel
theorem d_Mo_grow_101 : decode c_Mo_grow 101 = .ok (.iastore, 1) := by decide +kernel
theorem d_Mo_grow_102 : decode c_Mo_grow 102 = .ok (.aload_n 0, 1) := by decide +kernel
theorem d_Mo_grow_103 : decode c_Mo_grow 103 = .ok (.getfield 38, 3) := by decide +kernel
theorem d_Mo_grow_106 : decode c_Mo_grow 106 = .ok (.iload_n 2, 1) := by decide +kernel
theorem d_Mo_grow_107 : decode c_Mo_grow 107 = .ok (.aload_n 0, 1) := by decide +kernel
theorem d_Mo_grow_108 : decode c_Mo_grow 108 = .ok (.getfield 144, 3) := by decide +kernel
theorem d_Mo_grow_111 : decode c_Mo_grow 111 = .ok (.iastore, 1) := by decide +kernel
theorem d_Mo_grow_112 : decode c_Mo_grow 112 = .ok (.aload_n 0, 1) := by decide +kernel
theorem d_Mo_grow_113 : decode c_Mo_grow 113 = .ok (.getfield 47, 3) := by decide +kernel
theorem d_Mo_grow_116 : decode c_Mo_grow 116 = .ok (.iload_n 2, 1) := by decide +kernel
theorem d_Mo_grow_117 : decode c_Mo_grow 117 = .ok (.aload_n 0, 1) := by decide +kernel
theorem d_Mo_grow_118 : decode c_Mo_grow 118 = .ok (.getfield 135, 3) := by decide +kernel
theorem d_Mo_grow_121 : decode c_Mo_grow 121 = .ok (.lastore, 1) := by decide +kernel
theorem d_Mo_grow_122 : decode c_Mo_grow 122 = .ok (.aload_n 0, 1) := by decide +kernel
theorem d_Mo_grow_123 : decode c_Mo_grow 123 = .ok (.getfield 51, 3) := by decide +kernel
theorem d_Mo_grow_126 : decode c_Mo_grow 126 = .ok (.iload_n 2, 1) := by decide +kernel
theorem d_Mo_grow_127 : decode c_Mo_grow 127 = .ok (.aload_n 0, 1) := by decide +kernel
theorem d_Mo_grow_128 : decode c_Mo_grow 128 = .ok (.getfield 132, 3) := by decide +kernel
theorem d_Mo_grow_131 : decode c_Mo_grow 131 = .ok (.lastore, 1) := by decide +kernel
theorem d_Mo_grow_132 : decode c_Mo_grow 132 = .ok (.aload_n 0, 1) := by decide +kernel
theorem d_Mo_grow_133 : decode c_Mo_grow 133 = .ok (.iload_n 3, 1) := by decide +kernel
theorem d_Mo_grow_134 : decode c_Mo_grow 134 = .ok (.aload_n 0, 1) := by decide +kernel
theorem d_Mo_grow_135 : decode c_Mo_grow 135 = .ok (.getfield 138, 3) := by decide +kernel
theorem d_Mo_grow_138 : decode c_Mo_grow 138 = .ok (.aload_n 0, 1) := by decide +kernel
theorem d_Mo_grow_139 : decode c_Mo_grow 139 = .ok (.getfield 141, 3) := by decide +kernel
theorem d_Mo_grow_142 : decode c_Mo_grow 142 = .ok (.aload_n 0, 1) := by decide +kernel
theorem d_Mo_grow_143 : decode c_Mo_grow 143 = .ok (.getfield 144, 3) := by decide +kernel
theorem d_Mo_grow_146 : decode c_Mo_grow 146 = .ok (.invokevirtual 114, 3) := by decide +kernel
theorem d_Mo_grow_149 : decode c_Mo_grow 149 = .ok (.istore 4, 2) := by decide +kernel
theorem d_Mo_grow_151 : decode c_Mo_grow 151 = .ok (.aload_n 0, 1) := by decide +kernel
theorem d_Mo_grow_152 : decode c_Mo_grow 152 = .ok (.getfield 41, 3) := by decide +kernel
theorem d_Mo_grow_155 : decode c_Mo_grow 155 = .ok (.iload_n 2, 1) := by decide +kernel
theorem d_Mo_grow_156 : decode c_Mo_grow 156 = .ok (.aload_n 0, 1) := by decide +kernel
theorem d_Mo_grow_157 : decode c_Mo_grow 157 = .ok (.getfield 147, 3) := by decide +kernel
theorem d_Mo_grow_160 : decode c_Mo_grow 160 = .ok (.iastore, 1) := by decide +kernel
theorem d_Mo_grow_161 : decode c_Mo_grow 161 = .ok (.aload_n 0, 1) := by decide +kernel
theorem d_Mo_grow_162 : decode c_Mo_grow 162 = .ok (.getfield 44, 3) := by decide +kernel
theorem d_Mo_grow_165 : decode c_Mo_grow 165 = .ok (.iload_n 2, 1) := by decide +kernel
theorem d_Mo_grow_166 : decode c_Mo_grow 166 = .ok (.aload_n 0, 1) := by decide +kernel
theorem d_Mo_grow_167 : decode c_Mo_grow 167 = .ok (.getfield 147, 3) := by decide +kernel
theorem d_Mo_grow_170 : decode c_Mo_grow 170 = .ok (.iconst 1, 1) := by decide +kernel
theorem d_Mo_grow_171 : decode c_Mo_grow 171 = .ok (.iadd, 1) := by decide +kernel
theorem d_Mo_grow_172 : decode c_Mo_grow 172 = .ok (.iastore, 1) := by decide +kernel
theorem d_Mo_grow_173 : decode c_Mo_grow 173 = .ok (.aload_n 0, 1) := by decide +kernel
theorem d_Mo_grow_174 : decode c_Mo_grow 174 = .ok (.iload 4, 2) := by decide +kernel
theorem d_Mo_grow_176 : decode c_Mo_grow 176 = .ok (.aload_n 0, 1) := by decide +kernel
theorem d_Mo_grow_177 : decode c_Mo_grow 177 = .ok (.getfield 29, 3) := by decide +kernel
theorem d_Mo_grow_180 : decode c_Mo_grow 180 = .ok (.iload_n 2, 1) := by decide +kernel
theorem d_Mo_grow_181 : decode c_Mo_grow 181 = .ok (.iaload, 1) := by decide +kernel
theorem d_Mo_grow_182 : decode c_Mo_grow 182 = .ok (.iconst 1, 1) := by decide +kernel
theorem d_Mo_grow_183 : decode c_Mo_grow 183 = .ok (.iadd, 1) := by decide +kernel
theorem d_Mo_grow_184 : decode c_Mo_grow 184 = .ok (.invokevirtual 153, 3) := by decide +kernel
theorem d_Mo_grow_187 : decode c_Mo_grow 187 = .ok (.aload_n 0, 1) := by decide +kernel
theorem d_Mo_grow_188 : decode c_Mo_grow 188 = .ok (.iload_n 3, 1) := by decide +kernel
theorem d_Mo_grow_189 : decode c_Mo_grow 189 = .ok (.iload 4, 2) := by decide +kernel
theorem d_Mo_grow_191 : decode c_Mo_grow 191 = .ok (.iconst (-1), 1) := by decide +kernel
theorem d_Mo_grow_192 : decode c_Mo_grow 192 = .ok (.ixor, 1) := by decide +kernel
theorem d_Mo_grow_193 : decode c_Mo_grow 193 = .ok (.iand, 1) := by decide +kernel
theorem d_Mo_grow_194 : decode c_Mo_grow 194 = .ok (.aload_n 0, 1) := by decide +kernel
theorem d_Mo_grow_195 : decode c_Mo_grow 195 = .ok (.getfield 29, 3) := by decide +kernel
theorem d_Mo_grow_198 : decode c_Mo_grow 198 = .ok (.iload_n 2, 1) := by decide +kernel
theorem d_Mo_grow_199 : decode c_Mo_grow 199 = .ok (.iaload, 1) := by decide +kernel
theorem d_Mo_grow_200 : decode c_Mo_grow 200 = .ok (.iconst 1, 1) := by decide +kernel
theorem d_Mo_grow_201 : decode c_Mo_grow 201 = .ok (.iadd, 1) := by decide +kernel
theorem d_Mo_grow_202 : decode c_Mo_grow 202 = .ok (.invokevirtual 153, 3) := by decide +kernel
theorem d_Mo_grow_205 : decode c_Mo_grow 205 = .ok (.iinc 2 1, 3) := by decide +kernel
theorem d_Mo_grow_208 : decode c_Mo_grow 208 = .ok (.goto (-195), 3) := by decide +kernel
theorem d_Mo_grow_211 : decode c_Mo_grow 211 = .ok (.return_, 1) := by decide +kernel
theorem d_Mo_add_0 : decode c_Mo_add 0 = .ok (.aload_n 0, 1) := by decide +kernel
theorem d_Mo_add_1 : decode c_Mo_add 1 = .ok (.getfield 26, 3) := by decide +kernel
theorem d_Mo_add_4 : decode c_Mo_add 4 = .ok (.aload_n 0, 1) := by decide +kernel
theorem d_Mo_add_5 : decode c_Mo_add 5 = .ok (.getfield 147, 3) := by decide +kernel
theorem d_Mo_add_8 : decode c_Mo_add 8 = .ok (.iload_n 1, 1) := by decide +kernel
theorem d_Mo_add_9 : decode c_Mo_add 9 = .ok (.iastore, 1) := by decide +kernel
theorem d_Mo_add_10 : decode c_Mo_add 10 = .ok (.aload_n 0, 1) := by decide +kernel
theorem d_Mo_add_11 : decode c_Mo_add 11 = .ok (.getfield 29, 3) := by decide +kernel
theorem d_Mo_add_14 : decode c_Mo_add 14 = .ok (.aload_n 0, 1) := by decide +kernel
theorem d_Mo_add_15 : decode c_Mo_add 15 = .ok (.getfield 147, 3) := by decide +kernel
theorem d_Mo_add_18 : decode c_Mo_add 18 = .ok (.iload_n 2, 1) := by decide +kernel
theorem d_Mo_add_19 : decode c_Mo_add 19 = .ok (.iastore, 1) := by decide +kernel
theorem d_Mo_add_20 : decode c_Mo_add 20 = .ok (.aload_n 0, 1) := by decide +kernel
theorem d_Mo_add_21 : decode c_Mo_add 21 = .ok (.getfield 41, 3) := by decide +kernel
theorem d_Mo_add_24 : decode c_Mo_add 24 = .ok (.aload_n 0, 1) := by decide +kernel
theorem d_Mo_add_25 : decode c_Mo_add 25 = .ok (.getfield 147, 3) := by decide +kernel
theorem d_Mo_add_28 : decode c_Mo_add 28 = .ok (.iconst (-1), 1) := by decide +kernel
theorem d_Mo_add_29 : decode c_Mo_add 29 = .ok (.iastore, 1) := by decide +kernel
theorem d_Mo_add_30 : decode c_Mo_add 30 = .ok (.aload_n 0, 1) := by decide +kernel
theorem d_Mo_add_31 : decode c_Mo_add 31 = .ok (.dup, 1) := by decide +kernel
theorem d_Mo_add_32 : decode c_Mo_add 32 = .ok (.getfield 147, 3) := by decide +kernel
theorem d_Mo_add_35 : decode c_Mo_add 35 = .ok (.iconst 1, 1) := by decide +kernel
theorem d_Mo_add_36 : decode c_Mo_add 36 = .ok (.iadd, 1) := by decide +kernel
theorem d_Mo_add_37 : decode c_Mo_add 37 = .ok (.putfield 147, 3) := by decide +kernel
theorem d_Mo_add_40 : decode c_Mo_add 40 = .ok (.return_, 1) := by decide +kernel
theorem d_Mo_isMixed_0 : decode c_Mo_isMixed 0 = .ok (.aload_n 0, 1) := by decide +kernel
theorem d_Mo_isMixed_1 : decode c_Mo_isMixed 1 = .ok (.iload_n 1, 1) := by decide +kernel
theorem d_Mo_isMixed_2 : decode c_Mo_isMixed 2 = .ok (.invokevirtual 150, 3) := by decide +kernel
theorem d_Mo_isMixed_5 : decode c_Mo_isMixed 5 = .ok (.ifCond .le 7, 3) := by decide +kernel
theorem d_Mo_isMixed_8 : decode c_Mo_isMixed 8 = .ok (.iconst 1, 1) := by decide +kernel
theorem d_Mo_isMixed_9 : decode c_Mo_isMixed 9 = .ok (.goto 4, 3) := by decide +kernel
theorem d_Mo_isMixed_12 : decode c_Mo_isMixed 12 = .ok (.iconst 0, 1) := by decide +kernel
theorem d_Mo_isMixed_13 : decode c_Mo_isMixed 13 = .ok (.ireturn, 1) := by decide +kernel
theorem d_Mo_wrongOf_0 : decode c_Mo_wrongOf 0 = .ok (.aload_n 0, 1) := by decide +kernel
theorem d_Mo_wrongOf_1 : decode c_Mo_wrongOf 1 = .ok (.iload_n 1, 1) := by decide +kernel
theorem d_Mo_wrongOf_2 : decode c_Mo_wrongOf 2 = .ok (.invokevirtual 87, 3) := by decide +kernel
theorem d_Mo_wrongOf_5 : decode c_Mo_wrongOf 5 = .ok (.aload_n 0, 1) := by decide +kernel
theorem d_Mo_wrongOf_6 : decode c_Mo_wrongOf 6 = .ok (.iload_n 1, 1) := by decide +kernel
theorem d_Mo_wrongOf_7 : decode c_Mo_wrongOf 7 = .ok (.aload_n 0, 1) := by decide +kernel
theorem d_Mo_wrongOf_8 : decode c_Mo_wrongOf 8 = .ok (.iload_n 1, 1) := by decide +kernel
theorem d_Mo_wrongOf_9 : decode c_Mo_wrongOf 9 = .ok (.invokevirtual 91, 3) := by decide +kernel
theorem d_Mo_wrongOf_12 : decode c_Mo_wrongOf 12 = .ok (.invokevirtual 83, 3) := by decide +kernel
theorem d_Mo_wrongOf_15 : decode c_Mo_wrongOf 15 = .ok (.isub, 1) := by decide +kernel
theorem d_Mo_wrongOf_16 : decode c_Mo_wrongOf 16 = .ok (.ireturn, 1) := by decide +kernel
theorem d_Mo_many_0 : decode c_Mo_many 0 = .ok (.iconst 0, 1) := by decide +kernel
theorem d_Mo_many_1 : decode c_Mo_many 1 = .ok (.istore_n 2, 1) := by decide +kernel
theorem d_Mo_many_2 : decode c_Mo_many 2 = .ok (.iconst 0, 1) := by decide +kernel
theorem d_Mo_many_3 : decode c_Mo_many 3 = .ok (.istore_n 3, 1) := by decide +kernel
theorem d_Mo_many_4 : decode c_Mo_many 4 = .ok (.iload_n 3, 1) := by decide +kernel
theorem d_Mo_many_5 : decode c_Mo_many 5 = .ok (.bipush 24, 2) := by decide +kernel
theorem d_Mo_many_7 : decode c_Mo_many 7 = .ok (.if_icmp .ge 17, 3) := by decide +kernel
theorem d_Mo_many_10 : decode c_Mo_many 10 = .ok (.iload_n 2, 1) := by decide +kernel
theorem d_Mo_many_11 : decode c_Mo_many 11 = .ok (.iload_n 1, 1) := by decide +kernel
theorem d_Mo_many_12 : decode c_Mo_many 12 = .ok (.iload_n 3, 1) := by decide +kernel
theorem d_Mo_many_13 : decode c_Mo_many 13 = .ok (.ishr, 1) := by decide +kernel
theorem d_Mo_many_14 : decode c_Mo_many 14 = .ok (.iconst 1, 1) := by decide +kernel
theorem d_Mo_many_15 : decode c_Mo_many 15 = .ok (.iand, 1) := by decide +kernel
theorem d_Mo_many_16 : decode c_Mo_many 16 = .ok (.iadd, 1) := by decide +kernel
theorem d_Mo_many_17 : decode c_Mo_many 17 = .ok (.istore_n 2, 1) := by decide +kernel
theorem d_Mo_many_18 : decode c_Mo_many 18 = .ok (.iinc 3 1, 3) := by decide +kernel
theorem d_Mo_many_21 : decode c_Mo_many 21 = .ok (.goto (-17), 3) := by decide +kernel
theorem d_Mo_many_24 : decode c_Mo_many 24 = .ok (.iload_n 2, 1) := by decide +kernel
theorem d_Mo_many_25 : decode c_Mo_many 25 = .ok (.ireturn, 1) := by decide +kernel
theorem d_Mo_labelOf_0 : decode c_Mo_labelOf 0 = .ok (.iconst 0, 1) := by decide +kernel
theorem d_Mo_labelOf_1 : decode c_Mo_labelOf 1 = .ok (.istore_n 2, 1) := by decide +kernel
theorem d_Mo_labelOf_2 : decode c_Mo_labelOf 2 = .ok (.iconst 1, 1) := by decide +kernel
theorem d_Mo_labelOf_3 : decode c_Mo_labelOf 3 = .ok (.istore_n 3, 1) := by decide +kernel
theorem d_Mo_labelOf_4 : decode c_Mo_labelOf 4 = .ok (.iload_n 3, 1) := by decide +kernel
theorem d_Mo_labelOf_5 : decode c_Mo_labelOf 5 = .ok (.iconst 3, 1) := by decide +kernel
theorem d_Mo_labelOf_6 : decode c_Mo_labelOf 6 = .ok (.if_icmp .ge 30, 3) := by decide +kernel
theorem d_Mo_labelOf_9 : decode c_Mo_labelOf 9 = .ok (.aload_n 0, 1) := by decide +kernel
theorem d_Mo_labelOf_10 : decode c_Mo_labelOf 10 = .ok (.iload_n 1, 1) := by decide +kernel
theorem d_Mo_labelOf_11 : decode c_Mo_labelOf 11 = .ok (.iload_n 3, 1) := by decide +kernel
theorem d_Mo_labelOf_12 : decode c_Mo_labelOf 12 = .ok (.invokevirtual 83, 3) := by decide +kernel
theorem d_Mo_labelOf_15 : decode c_Mo_labelOf 15 = .ok (.aload_n 0, 1) := by decide +kernel
theorem d_Mo_labelOf_16 : decode c_Mo_labelOf 16 = .ok (.iload_n 1, 1) := by decide +kernel
theorem d_Mo_labelOf_17 : decode c_Mo_labelOf 17 = .ok (.iload_n 2, 1) := by decide +kernel
theorem d_Mo_labelOf_18 : decode c_Mo_labelOf 18 = .ok (.invokevirtual 83, 3) := by decide +kernel
theorem d_Mo_labelOf_21 : decode c_Mo_labelOf 21 = .ok (.if_icmp .le 7, 3) := by decide +kernel
theorem d_Mo_labelOf_24 : decode c_Mo_labelOf 24 = .ok (.iload_n 3, 1) := by decide +kernel
theorem d_Mo_labelOf_25 : decode c_Mo_labelOf 25 = .ok (.goto 4, 3) := by decide +kernel
theorem d_Mo_labelOf_28 : decode c_Mo_labelOf 28 = .ok (.iload_n 2, 1) := by decide +kernel
theorem d_Mo_labelOf_29 : decode c_Mo_labelOf 29 = .ok (.istore_n 2, 1) := by decide +kernel
theorem d_Mo_labelOf_30 : decode c_Mo_labelOf 30 = .ok (.iinc 3 1, 3) := by decide +kernel
theorem d_Mo_labelOf_33 : decode c_Mo_labelOf 33 = .ok (.goto (-29), 3) := by decide +kernel
theorem d_Mo_labelOf_36 : decode c_Mo_labelOf 36 = .ok (.iload_n 2, 1) := by decide +kernel
theorem d_Mo_labelOf_37 : decode c_Mo_labelOf 37 = .ok (.ireturn, 1) := by decide +kernel
theorem d_Mo_of_0 : decode c_Mo_of 0 = .ok (.iconst 0, 1) := by decide +kernel
theorem d_Mo_of_1 : decode c_Mo_of 1 = .ok (.istore_n 3, 1) := by decide +kernel
theorem d_Mo_of_2 : decode c_Mo_of 2 = .ok (.iconst 0, 1) := by decide +kernel
theorem d_Mo_of_3 : decode c_Mo_of 3 = .ok (.istore 4, 2) := by decide +kernel
theorem d_Mo_of_5 : decode c_Mo_of 5 = .ok (.iload 4, 2) := by decide +kernel
theorem d_Mo_of_7 : decode c_Mo_of 7 = .ok (.aload_n 0, 1) := by decide +kernel
theorem d_Mo_of_8 : decode c_Mo_of 8 = .ok (.getfield 69, 3) := by decide +kernel
theorem d_Mo_of_11 : decode c_Mo_of 11 = .ok (.if_icmp .ge 38, 3) := by decide +kernel
theorem d_Mo_of_14 : decode c_Mo_of 14 = .ok (.iload_n 3, 1) := by decide +kernel
theorem d_Mo_of_15 : decode c_Mo_of 15 = .ok (.iload_n 1, 1) := by decide +kernel
theorem d_Mo_of_16 : decode c_Mo_of 16 = .ok (.iload 4, 2) := by decide +kernel
theorem d_Mo_of_18 : decode c_Mo_of 18 = .ok (.ishr, 1) := by decide +kernel
theorem d_Mo_of_19 : decode c_Mo_of 19 = .ok (.iconst 1, 1) := by decide +kernel
theorem d_Mo_of_20 : decode c_Mo_of 20 = .ok (.iand, 1) := by decide +kernel
theorem d_Mo_of_21 : decode c_Mo_of 21 = .ok (.iconst 1, 1) := by decide +kernel
theorem d_Mo_of_22 : decode c_Mo_of 22 = .ok (.if_icmp .ne 18, 3) := by decide +kernel
theorem d_Mo_of_25 : decode c_Mo_of 25 = .ok (.aload_n 0, 1) := by decide +kernel
theorem d_Mo_of_26 : decode c_Mo_of 26 = .ok (.getfield 16, 3) := by decide +kernel
theorem d_Mo_of_29 : decode c_Mo_of 29 = .ok (.iload 4, 2) := by decide +kernel
theorem d_Mo_of_31 : decode c_Mo_of 31 = .ok (.iaload, 1) := by decide +kernel
theorem d_Mo_of_32 : decode c_Mo_of 32 = .ok (.iload_n 2, 1) := by decide +kernel
theorem d_Mo_of_33 : decode c_Mo_of 33 = .ok (.if_icmp .ne 7, 3) := by decide +kernel
theorem d_Mo_of_36 : decode c_Mo_of 36 = .ok (.iconst 1, 1) := by decide +kernel
theorem d_Mo_of_37 : decode c_Mo_of 37 = .ok (.goto 4, 3) := by decide +kernel
theorem d_Mo_of_40 : decode c_Mo_of 40 = .ok (.iconst 0, 1) := by decide +kernel
theorem d_Mo_of_41 : decode c_Mo_of 41 = .ok (.iadd, 1) := by decide +kernel
theorem d_Mo_of_42 : decode c_Mo_of 42 = .ok (.istore_n 3, 1) := by decide +kernel
theorem d_Mo_of_43 : decode c_Mo_of 43 = .ok (.iinc 4 1, 3) := by decide +kernel
theorem d_Mo_of_46 : decode c_Mo_of 46 = .ok (.goto (-41), 3) := by decide +kernel
theorem d_Mo_of_49 : decode c_Mo_of 49 = .ok (.iload_n 3, 1) := by decide +kernel
theorem d_Mo_of_50 : decode c_Mo_of 50 = .ok (.ireturn, 1) := by decide +kernel
theorem d_Mo_findBest_0 : decode c_Mo_findBest 0 = .ok (.iconst 0, 1) := by decide +kernel
theorem d_Mo_findBest_1 : decode c_Mo_findBest 1 = .ok (.istore_n 2, 1) := by decide +kernel
theorem d_Mo_findBest_2 : decode c_Mo_findBest 2 = .ok (.iconst 0, 1) := by decide +kernel
theorem d_Mo_findBest_3 : decode c_Mo_findBest 3 = .ok (.istore_n 3, 1) := by decide +kernel
theorem d_Mo_findBest_4 : decode c_Mo_findBest 4 = .ok (.iload_n 3, 1) := by decide +kernel
theorem d_Mo_findBest_5 : decode c_Mo_findBest 5 = .ok (.iconst 4, 1) := by decide +kernel
theorem d_Mo_findBest_6 : decode c_Mo_findBest 6 = .ok (.if_icmp .ge 114, 3) := by decide +kernel
theorem d_Mo_findBest_9 : decode c_Mo_findBest 9 = .ok (.iconst 0, 1) := by decide +kernel
theorem d_Mo_findBest_10 : decode c_Mo_findBest 10 = .ok (.istore 4, 2) := by decide +kernel
theorem d_Mo_findBest_12 : decode c_Mo_findBest 12 = .ok (.iload 4, 2) := by decide +kernel
theorem d_Mo_findBest_14 : decode c_Mo_findBest 14 = .ok (.bipush 100, 2) := by decide +kernel
theorem d_Mo_findBest_16 : decode c_Mo_findBest 16 = .ok (.if_icmp .ge 98, 3) := by decide +kernel
theorem d_Mo_findBest_19 : decode c_Mo_findBest 19 = .ok (.iconst 0, 1) := by decide +kernel
theorem d_Mo_findBest_20 : decode c_Mo_findBest 20 = .ok (.istore 5, 2) := by decide +kernel
theorem d_Mo_findBest_22 : decode c_Mo_findBest 22 = .ok (.iload 5, 2) := by decide +kernel
theorem d_Mo_findBest_24 : decode c_Mo_findBest 24 = .ok (.iconst 2, 1) := by decide +kernel
theorem d_Mo_findBest_25 : decode c_Mo_findBest 25 = .ok (.if_icmp .ge 83, 3) := by decide +kernel
theorem d_Mo_findBest_28 : decode c_Mo_findBest 28 = .ok (.aload_n 0, 1) := by decide +kernel
theorem d_Mo_findBest_29 : decode c_Mo_findBest 29 = .ok (.iload_n 1, 1) := by decide +kernel
theorem d_Mo_findBest_30 : decode c_Mo_findBest 30 = .ok (.iload_n 3, 1) := by decide +kernel
theorem d_Mo_findBest_31 : decode c_Mo_findBest 31 = .ok (.iload 4, 2) := by decide +kernel
theorem d_Mo_findBest_33 : decode c_Mo_findBest 33 = .ok (.iload 5, 2) := by decide +kernel
theorem d_Mo_findBest_35 : decode c_Mo_findBest 35 = .ok (.invokevirtual 129, 3) := by decide +kernel
theorem d_Mo_findBest_38 : decode c_Mo_findBest 38 = .ok (.ifCond .eq 64, 3) := by decide +kernel
theorem d_Mo_findBest_41 : decode c_Mo_findBest 41 = .ok (.iload_n 2, 1) := by decide +kernel
theorem d_Mo_findBest_42 : decode c_Mo_findBest 42 = .ok (.ifCond .eq 25, 3) := by decide +kernel
theorem d_Mo_findBest_45 : decode c_Mo_findBest 45 = .ok (.aload_n 0, 1) := by decide +kernel
theorem d_Mo_findBest_46 : decode c_Mo_findBest 46 = .ok (.getfield 122, 3) := by decide +kernel
theorem d_Mo_findBest_49 : decode c_Mo_findBest 49 = .ok (.aload_n 0, 1) := by decide +kernel
theorem d_Mo_findBest_50 : decode c_Mo_findBest 50 = .ok (.getfield 132, 3) := by decide +kernel
theorem d_Mo_findBest_53 : decode c_Mo_findBest 53 = .ok (.lmul, 1) := by decide +kernel
theorem d_Mo_findBest_54 : decode c_Mo_findBest 54 = .ok (.aload_n 0, 1) := by decide +kernel
theorem d_Mo_findBest_55 : decode c_Mo_findBest 55 = .ok (.getfield 135, 3) := by decide +kernel
theorem d_Mo_findBest_58 : decode c_Mo_findBest 58 = .ok (.aload_n 0, 1) := by decide +kernel
theorem d_Mo_findBest_59 : decode c_Mo_findBest 59 = .ok (.getfield 126, 3) := by decide +kernel
theorem d_Mo_findBest_62 : decode c_Mo_findBest 62 = .ok (.lmul, 1) := by decide +kernel
theorem d_Mo_findBest_63 : decode c_Mo_findBest 63 = .ok (.lcmp, 1) := by decide +kernel
theorem d_Mo_findBest_64 : decode c_Mo_findBest 64 = .ok (.ifCond .le 38, 3) := by decide +kernel
theorem d_Mo_findBest_67 : decode c_Mo_findBest 67 = .ok (.iconst 1, 1) := by decide +kernel
theorem d_Mo_findBest_68 : decode c_Mo_findBest 68 = .ok (.istore_n 2, 1) := by decide +kernel
theorem d_Mo_findBest_69 : decode c_Mo_findBest 69 = .ok (.aload_n 0, 1) := by decide +kernel
theorem d_Mo_findBest_70 : decode c_Mo_findBest 70 = .ok (.iload_n 3, 1) := by decide +kernel
theorem d_Mo_findBest_71 : decode c_Mo_findBest 71 = .ok (.putfield 138, 3) := by decide +kernel
theorem d_Mo_findBest_74 : decode c_Mo_findBest 74 = .ok (.aload_n 0, 1) := by decide +kernel
theorem d_Mo_findBest_75 : decode c_Mo_findBest 75 = .ok (.iload 4, 2) := by decide +kernel
theorem d_Mo_findBest_77 : decode c_Mo_findBest 77 = .ok (.putfield 141, 3) := by decide +kernel
theorem d_Mo_findBest_80 : decode c_Mo_findBest 80 = .ok (.aload_n 0, 1) := by decide +kernel
theorem d_Mo_findBest_81 : decode c_Mo_findBest 81 = .ok (.iload 5, 2) := by decide +kernel
theorem d_Mo_findBest_83 : decode c_Mo_findBest 83 = .ok (.putfield 144, 3) := by decide +kernel
theorem d_Mo_findBest_86 : decode c_Mo_findBest 86 = .ok (.aload_n 0, 1) := by decide +kernel
theorem d_Mo_findBest_87 : decode c_Mo_findBest 87 = .ok (.aload_n 0, 1) := by decide +kernel
theorem d_Mo_findBest_88 : decode c_Mo_findBest 88 = .ok (.getfield 122, 3) := by decide +kernel
theorem d_Mo_findBest_91 : decode c_Mo_findBest 91 = .ok (.putfield 135, 3) := by decide +kernel
theorem d_Mo_findBest_94 : decode c_Mo_findBest 94 = .ok (.aload_n 0, 1) := by decide +kernel
theorem d_Mo_findBest_95 : decode c_Mo_findBest 95 = .ok (.aload_n 0, 1) := by decide +kernel
theorem d_Mo_findBest_96 : decode c_Mo_findBest 96 = .ok (.getfield 126, 3) := by decide +kernel
theorem d_Mo_findBest_99 : decode c_Mo_findBest 99 = .ok (.putfield 132, 3) := by decide +kernel
theorem d_Mo_findBest_102 : decode c_Mo_findBest 102 = .ok (.iinc 5 1, 3) := by decide +kernel
theorem d_Mo_findBest_105 : decode c_Mo_findBest 105 = .ok (.goto (-83), 3) := by decide +kernel
theorem d_Mo_findBest_108 : decode c_Mo_findBest 108 = .ok (.iinc 4 1, 3) := by decide +kernel
theorem d_Mo_findBest_111 : decode c_Mo_findBest 111 = .ok (.goto (-99), 3) := by decide +kernel
theorem d_Mo_findBest_114 : decode c_Mo_findBest 114 = .ok (.iinc 3 1, 3) := by decide +kernel
theorem d_Mo_findBest_117 : decode c_Mo_findBest 117 = .ok (.goto (-113), 3) := by decide +kernel
theorem d_Mo_findBest_120 : decode c_Mo_findBest 120 = .ok (.iload_n 2, 1) := by decide +kernel
theorem d_Mo_findBest_121 : decode c_Mo_findBest 121 = .ok (.ireturn, 1) := by decide +kernel
theorem d_Mo_may_0 : decode c_Mo_may 0 = .ok (.aload_n 0, 1) := by decide +kernel
theorem d_Mo_may_1 : decode c_Mo_may 1 = .ok (.iload_n 1, 1) := by decide +kernel
theorem d_Mo_may_2 : decode c_Mo_may 2 = .ok (.iload_n 2, 1) := by decide +kernel
theorem d_Mo_may_3 : decode c_Mo_may 3 = .ok (.iload_n 3, 1) := by decide +kernel
theorem d_Mo_may_4 : decode c_Mo_may 4 = .ok (.iload 4, 2) := by decide +kernel
theorem d_Mo_may_6 : decode c_Mo_may 6 = .ok (.invokevirtual 111, 3) := by decide +kernel
theorem d_Mo_may_9 : decode c_Mo_may 9 = .ok (.ifCond .ne 5, 3) := by decide +kernel
theorem d_Mo_may_12 : decode c_Mo_may 12 = .ok (.iconst 0, 1) := by decide +kernel
theorem d_Mo_may_13 : decode c_Mo_may 13 = .ok (.ireturn, 1) := by decide +kernel
theorem d_Mo_may_14 : decode c_Mo_may 14 = .ok (.aload_n 0, 1) := by decide +kernel
theorem d_Mo_may_15 : decode c_Mo_may 15 = .ok (.iload_n 1, 1) := by decide +kernel
theorem d_Mo_may_16 : decode c_Mo_may 16 = .ok (.iload_n 2, 1) := by decide +kernel
theorem d_Mo_may_17 : decode c_Mo_may 17 = .ok (.iload_n 3, 1) := by decide +kernel
theorem d_Mo_may_18 : decode c_Mo_may 18 = .ok (.iload 4, 2) := by decide +kernel
theorem d_Mo_may_20 : decode c_Mo_may 20 = .ok (.invokevirtual 114, 3) := by decide +kernel
theorem d_Mo_may_23 : decode c_Mo_may 23 = .ok (.istore 5, 2) := by decide +kernel
theorem d_Mo_may_25 : decode c_Mo_may 25 = .ok (.iload_n 1, 1) := by decide +kernel
theorem d_Mo_may_26 : decode c_Mo_may 26 = .ok (.iload 5, 2) := by decide +kernel
theorem d_Mo_may_28 : decode c_Mo_may 28 = .ok (.iconst (-1), 1) := by decide +kernel
theorem d_Mo_may_29 : decode c_Mo_may 29 = .ok (.ixor, 1) := by decide +kernel
theorem d_Mo_may_30 : decode c_Mo_may 30 = .ok (.iand, 1) := by decide +kernel
theorem d_Mo_may_31 : decode c_Mo_may 31 = .ok (.istore 6, 2) := by decide +kernel
theorem d_Mo_may_33 : decode c_Mo_may 33 = .ok (.aload_n 0, 1) := by decide +kernel
theorem d_Mo_may_34 : decode c_Mo_may 34 = .ok (.iload 5, 2) := by decide +kernel
theorem d_Mo_may_36 : decode c_Mo_may 36 = .ok (.invokevirtual 87, 3) := by decide +kernel
theorem d_Mo_may_39 : decode c_Mo_may 39 = .ok (.i2l, 1) := by decide +kernel
theorem d_Mo_may_40 : decode c_Mo_may 40 = .ok (.lstore 7, 2) := by decide +kernel
theorem d_Mo_may_42 : decode c_Mo_may 42 = .ok (.aload_n 0, 1) := by decide +kernel
theorem d_Mo_may_43 : decode c_Mo_may 43 = .ok (.iload 6, 2) := by decide +kernel
theorem d_Mo_may_45 : decode c_Mo_may 45 = .ok (.invokevirtual 87, 3) := by decide +kernel
theorem d_Mo_may_48 : decode c_Mo_may 48 = .ok (.i2l, 1) := by decide +kernel
theorem d_Mo_may_49 : decode c_Mo_may 49 = .ok (.lstore 9, 2) := by decide +kernel
theorem d_Mo_may_51 : decode c_Mo_may 51 = .ok (.lload 7, 2) := by decide +kernel
theorem d_Mo_may_53 : decode c_Mo_may 53 = .ok (.lload 9, 2) := by decide +kernel
theorem d_Mo_may_55 : decode c_Mo_may 55 = .ok (.ladd, 1) := by decide +kernel
theorem d_Mo_may_56 : decode c_Mo_may 56 = .ok (.lstore 11, 2) := by decide +kernel
theorem d_Mo_may_58 : decode c_Mo_may 58 = .ok (.lload 7, 2) := by decide +kernel
theorem d_Mo_may_60 : decode c_Mo_may 60 = .ok (.aload_n 0, 1) := by decide +kernel
theorem d_Mo_may_61 : decode c_Mo_may 61 = .ok (.getfield 23, 3) := by decide +kernel
theorem d_Mo_may_64 : decode c_Mo_may 64 = .ok (.i2l, 1) := by decide +kernel
theorem d_Mo_may_65 : decode c_Mo_may 65 = .ok (.lcmp, 1) := by decide +kernel
theorem d_Mo_may_66 : decode c_Mo_may 66 = .ok (.ifCond .lt 14, 3) := by decide +kernel
theorem d_Mo_may_69 : decode c_Mo_may 69 = .ok (.lload 9, 2) := by decide +kernel
theorem d_Mo_may_71 : decode c_Mo_may 71 = .ok (.aload_n 0, 1) := by decide +kernel
theorem d_Mo_may_72 : decode c_Mo_may 72 = .ok (.getfield 23, 3) := by decide +kernel
theorem d_Mo_may_75 : decode c_Mo_may 75 = .ok (.i2l, 1) := by decide +kernel
theorem d_Mo_may_76 : decode c_Mo_may 76 = .ok (.lcmp, 1) := by decide +kernel
theorem d_Mo_may_77 : decode c_Mo_may 77 = .ok (.ifCond .ge 5, 3) := by decide +kernel
theorem d_Mo_may_80 : decode c_Mo_may 80 = .ok (.iconst 0, 1) := by decide +kernel
theorem d_Mo_may_81 : decode c_Mo_may 81 = .ok (.ireturn, 1) := by decide +kernel
theorem d_Mo_may_82 : decode c_Mo_may 82 = .ok (.aload_n 0, 1) := by decide +kernel
theorem d_Mo_may_83 : decode c_Mo_may 83 = .ok (.aload_n 0, 1) := by decide +kernel
theorem d_Mo_may_84 : decode c_Mo_may 84 = .ok (.iload 5, 2) := by decide +kernel
theorem d_Mo_may_86 : decode c_Mo_may 86 = .ok (.invokevirtual 118, 3) := by decide +kernel
theorem d_Mo_may_89 : decode c_Mo_may 89 = .ok (.lload 9, 2) := by decide +kernel
theorem d_Mo_may_91 : decode c_Mo_may 91 = .ok (.lmul, 1) := by decide +kernel
theorem d_Mo_may_92 : decode c_Mo_may 92 = .ok (.lload 11, 2) := by decide +kernel
theorem d_Mo_may_94 : decode c_Mo_may 94 = .ok (.lmul, 1) := by decide +kernel
theorem d_Mo_may_95 : decode c_Mo_may 95 = .ok (.aload_n 0, 1) := by decide +kernel
theorem d_Mo_may_96 : decode c_Mo_may 96 = .ok (.iload 6, 2) := by decide +kernel
theorem d_Mo_may_98 : decode c_Mo_may 98 = .ok (.invokevirtual 118, 3) := by decide +kernel
theorem d_Mo_may_101 : decode c_Mo_may 101 = .ok (.lload 7, 2) := by decide +kernel
theorem d_Mo_may_103 : decode c_Mo_may 103 = .ok (.lmul, 1) := by decide +kernel
theorem d_Mo_may_104 : decode c_Mo_may 104 = .ok (.lload 11, 2) := by decide +kernel
theorem d_Mo_may_106 : decode c_Mo_may 106 = .ok (.lmul, 1) := by decide +kernel
theorem d_Mo_may_107 : decode c_Mo_may 107 = .ok (.ladd, 1) := by decide +kernel
theorem d_Mo_may_108 : decode c_Mo_may 108 = .ok (.aload_n 0, 1) := by decide +kernel
theorem d_Mo_may_109 : decode c_Mo_may 109 = .ok (.iload_n 1, 1) := by decide +kernel
theorem d_Mo_may_110 : decode c_Mo_may 110 = .ok (.invokevirtual 118, 3) := by decide +kernel
theorem d_Mo_may_113 : decode c_Mo_may 113 = .ok (.lload 7, 2) := by decide +kernel
theorem d_Mo_may_115 : decode c_Mo_may 115 = .ok (.lmul, 1) := by decide +kernel
theorem d_Mo_may_116 : decode c_Mo_may 116 = .ok (.lload 9, 2) := by decide +kernel
theorem d_Mo_may_118 : decode c_Mo_may 118 = .ok (.lmul, 1) := by decide +kernel
theorem d_Mo_may_119 : decode c_Mo_may 119 = .ok (.lsub, 1) := by decide +kernel
theorem d_Mo_may_120 : decode c_Mo_may 120 = .ok (.putfield 122, 3) := by decide +kernel
theorem d_Mo_may_123 : decode c_Mo_may 123 = .ok (.aload_n 0, 1) := by decide +kernel
theorem d_Mo_may_124 : decode c_Mo_may 124 = .ok (.lload 7, 2) := by decide +kernel
theorem d_Mo_may_126 : decode c_Mo_may 126 = .ok (.lload 9, 2) := by decide +kernel
theorem d_Mo_may_128 : decode c_Mo_may 128 = .ok (.lmul, 1) := by decide +kernel
theorem d_Mo_may_129 : decode c_Mo_may 129 = .ok (.lload 11, 2) := by decide +kernel
theorem d_Mo_may_131 : decode c_Mo_may 131 = .ok (.lmul, 1) := by decide +kernel
theorem d_Mo_may_132 : decode c_Mo_may 132 = .ok (.putfield 126, 3) := by decide +kernel
theorem d_Mo_may_135 : decode c_Mo_may 135 = .ok (.iconst 1, 1) := by decide +kernel
theorem d_Mo_may_136 : decode c_Mo_may 136 = .ok (.ireturn, 1) := by decide +kernel
theorem d_Mo_isCut_0 : decode c_Mo_isCut 0 = .ok (.iload 4, 2) := by decide +kernel
theorem d_Mo_isCut_2 : decode c_Mo_isCut 2 = .ok (.iconst 1, 1) := by decide +kernel
theorem d_Mo_isCut_3 : decode c_Mo_isCut 3 = .ok (.if_icmp .ne 15, 3) := by decide +kernel
theorem d_Mo_isCut_6 : decode c_Mo_isCut 6 = .ok (.aload_n 0, 1) := by decide +kernel
theorem d_Mo_isCut_7 : decode c_Mo_isCut 7 = .ok (.iload_n 1, 1) := by decide +kernel
theorem d_Mo_isCut_8 : decode c_Mo_isCut 8 = .ok (.iload_n 2, 1) := by decide +kernel
theorem d_Mo_isCut_9 : decode c_Mo_isCut 9 = .ok (.iconst (-1), 1) := by decide +kernel
theorem d_Mo_isCut_10 : decode c_Mo_isCut 10 = .ok (.invokevirtual 98, 3) := by decide +kernel
theorem d_Mo_isCut_13 : decode c_Mo_isCut 13 = .ok (.ifCond .ne 5, 3) := by decide +kernel
theorem d_Mo_isCut_16 : decode c_Mo_isCut 16 = .ok (.iconst 0, 1) := by decide +kernel
theorem d_Mo_isCut_17 : decode c_Mo_isCut 17 = .ok (.ireturn, 1) := by decide +kernel
theorem d_Mo_isCut_18 : decode c_Mo_isCut 18 = .ok (.aload_n 0, 1) := by decide +kernel
theorem d_Mo_isCut_19 : decode c_Mo_isCut 19 = .ok (.getfield 7, 3) := by decide +kernel
theorem d_Mo_isCut_22 : decode c_Mo_isCut 22 = .ok (.iload_n 2, 1) := by decide +kernel
theorem d_Mo_isCut_23 : decode c_Mo_isCut 23 = .ok (.iaload, 1) := by decide +kernel
theorem d_Mo_isCut_24 : decode c_Mo_isCut 24 = .ok (.ifCond .ne 33, 3) := by decide +kernel
theorem d_Mo_isCut_27 : decode c_Mo_isCut 27 = .ok (.iload_n 3, 1) := by decide +kernel
theorem d_Mo_isCut_28 : decode c_Mo_isCut 28 = .ok (.ifCond .lt 27, 3) := by decide +kernel
theorem d_Mo_isCut_31 : decode c_Mo_isCut 31 = .ok (.iload_n 3, 1) := by decide +kernel
theorem d_Mo_isCut_32 : decode c_Mo_isCut 32 = .ok (.aload_n 0, 1) := by decide +kernel
theorem d_Mo_isCut_33 : decode c_Mo_isCut 33 = .ok (.iload_n 1, 1) := by decide +kernel
theorem d_Mo_isCut_34 : decode c_Mo_isCut 34 = .ok (.iload_n 2, 1) := by decide +kernel
theorem d_Mo_isCut_35 : decode c_Mo_isCut 35 = .ok (.invokevirtual 102, 3) := by decide +kernel
theorem d_Mo_isCut_38 : decode c_Mo_isCut 38 = .ok (.if_icmp .ge 17, 3) := by decide +kernel
theorem d_Mo_isCut_41 : decode c_Mo_isCut 41 = .ok (.aload_n 0, 1) := by decide +kernel
theorem d_Mo_isCut_42 : decode c_Mo_isCut 42 = .ok (.iload_n 1, 1) := by decide +kernel
theorem d_Mo_isCut_43 : decode c_Mo_isCut 43 = .ok (.iload_n 2, 1) := by decide +kernel
theorem d_Mo_isCut_44 : decode c_Mo_isCut 44 = .ok (.iload_n 3, 1) := by decide +kernel
theorem d_Mo_isCut_45 : decode c_Mo_isCut 45 = .ok (.invokevirtual 98, 3) := by decide +kernel
theorem d_Mo_isCut_48 : decode c_Mo_isCut 48 = .ok (.ifCond .eq 7, 3) := by decide +kernel
theorem d_Mo_isCut_51 : decode c_Mo_isCut 51 = .ok (.iconst 1, 1) := by decide +kernel
theorem d_Mo_isCut_52 : decode c_Mo_isCut 52 = .ok (.goto 4, 3) := by decide +kernel
theorem d_Mo_isCut_55 : decode c_Mo_isCut 55 = .ok (.iconst 0, 1) := by decide +kernel
theorem d_Mo_isCut_56 : decode c_Mo_isCut 56 = .ok (.ireturn, 1) := by decide +kernel
theorem d_Mo_isCut_57 : decode c_Mo_isCut 57 = .ok (.aload_n 0, 1) := by decide +kernel
theorem d_Mo_isCut_58 : decode c_Mo_isCut 58 = .ok (.iload_n 1, 1) := by decide +kernel
theorem d_Mo_isCut_59 : decode c_Mo_isCut 59 = .ok (.iload_n 2, 1) := by decide +kernel
theorem d_Mo_isCut_60 : decode c_Mo_isCut 60 = .ok (.invokevirtual 105, 3) := by decide +kernel
theorem d_Mo_isCut_63 : decode c_Mo_isCut 63 = .ok (.istore 5, 2) := by decide +kernel
theorem d_Mo_isCut_65 : decode c_Mo_isCut 65 = .ok (.iload_n 3, 1) := by decide +kernel
theorem d_Mo_isCut_66 : decode c_Mo_isCut 66 = .ok (.ifCond .le 39, 3) := by decide +kernel
theorem d_Mo_isCut_69 : decode c_Mo_isCut 69 = .ok (.iload_n 3, 1) := by decide +kernel
theorem d_Mo_isCut_70 : decode c_Mo_isCut 70 = .ok (.bipush 64, 2) := by decide +kernel
theorem d_Mo_isCut_72 : decode c_Mo_isCut 72 = .ok (.if_icmp .ge 33, 3) := by decide +kernel
theorem d_Mo_isCut_75 : decode c_Mo_isCut 75 = .ok (.iload_n 3, 1) := by decide +kernel
theorem d_Mo_isCut_76 : decode c_Mo_isCut 76 = .ok (.iload 5, 2) := by decide +kernel
theorem d_Mo_isCut_78 : decode c_Mo_isCut 78 = .ok (.iconst (-1), 1) := by decide +kernel
theorem d_Mo_isCut_79 : decode c_Mo_isCut 79 = .ok (.ixor, 1) := by decide +kernel
theorem d_Mo_isCut_80 : decode c_Mo_isCut 80 = .ok (.iand, 1) := by decide +kernel
theorem d_Mo_isCut_81 : decode c_Mo_isCut 81 = .ok (.ifCond .ne 24, 3) := by decide +kernel
theorem d_Mo_isCut_84 : decode c_Mo_isCut 84 = .ok (.iload_n 3, 1) := by decide +kernel
theorem d_Mo_isCut_85 : decode c_Mo_isCut 85 = .ok (.iload 5, 2) := by decide +kernel
theorem d_Mo_isCut_87 : decode c_Mo_isCut 87 = .ok (.if_icmp .eq 18, 3) := by decide +kernel
theorem d_Mo_isCut_90 : decode c_Mo_isCut 90 = .ok (.iload_n 3, 1) := by decide +kernel
theorem d_Mo_isCut_91 : decode c_Mo_isCut 91 = .ok (.iload 5, 2) := by decide +kernel
theorem d_Mo_isCut_93 : decode c_Mo_isCut 93 = .ok (.iand, 1) := by decide +kernel
theorem d_Mo_isCut_94 : decode c_Mo_isCut 94 = .ok (.iload 5, 2) := by decide +kernel
theorem d_Mo_isCut_96 : decode c_Mo_isCut 96 = .ok (.ineg, 1) := by decide +kernel
theorem d_Mo_isCut_97 : decode c_Mo_isCut 97 = .ok (.iand, 1) := by decide +kernel
theorem d_Mo_isCut_98 : decode c_Mo_isCut 98 = .ok (.ifCond .eq 7, 3) := by decide +kernel
theorem d_Mo_isCut_101 : decode c_Mo_isCut 101 = .ok (.iconst 1, 1) := by decide +kernel
theorem d_Mo_isCut_102 : decode c_Mo_isCut 102 = .ok (.goto 4, 3) := by decide +kernel
theorem d_Mo_isCut_105 : decode c_Mo_isCut 105 = .ok (.iconst 0, 1) := by decide +kernel
theorem d_Mo_isCut_106 : decode c_Mo_isCut 106 = .ok (.ireturn, 1) := by decide +kernel
theorem d_Mo_hasValue_0 : decode c_Mo_hasValue 0 = .ok (.iconst 0, 1) := by decide +kernel
theorem d_Mo_hasValue_1 : decode c_Mo_hasValue 1 = .ok (.istore 4, 2) := by decide +kernel
theorem d_Mo_hasValue_3 : decode c_Mo_hasValue 3 = .ok (.iload 4, 2) := by decide +kernel
theorem d_Mo_hasValue_5 : decode c_Mo_hasValue 5 = .ok (.aload_n 0, 1) := by decide +kernel
theorem d_Mo_hasValue_6 : decode c_Mo_hasValue 6 = .ok (.getfield 69, 3) := by decide +kernel
theorem d_Mo_hasValue_9 : decode c_Mo_hasValue 9 = .ok (.if_icmp .ge 36, 3) := by decide +kernel
theorem d_Mo_hasValue_12 : decode c_Mo_hasValue 12 = .ok (.iload_n 1, 1) := by decide +kernel
theorem d_Mo_hasValue_13 : decode c_Mo_hasValue 13 = .ok (.iload 4, 2) := by decide +kernel
theorem d_Mo_hasValue_15 : decode c_Mo_hasValue 15 = .ok (.ishr, 1) := by decide +kernel
theorem d_Mo_hasValue_16 : decode c_Mo_hasValue 16 = .ok (.iconst 1, 1) := by decide +kernel
theorem d_Mo_hasValue_17 : decode c_Mo_hasValue 17 = .ok (.iand, 1) := by decide +kernel
theorem d_Mo_hasValue_18 : decode c_Mo_hasValue 18 = .ok (.iconst 1, 1) := by decide +kernel
theorem d_Mo_hasValue_19 : decode c_Mo_hasValue 19 = .ok (.if_icmp .ne 20, 3) := by decide +kernel
theorem d_Mo_hasValue_22 : decode c_Mo_hasValue 22 = .ok (.aload_n 0, 1) := by decide +kernel
theorem d_Mo_hasValue_23 : decode c_Mo_hasValue 23 = .ok (.getfield 13, 3) := by decide +kernel
theorem d_Mo_hasValue_26 : decode c_Mo_hasValue 26 = .ok (.iconst 4, 1) := by decide +kernel
theorem d_Mo_hasValue_27 : decode c_Mo_hasValue 27 = .ok (.iload 4, 2) := by decide +kernel
theorem d_Mo_hasValue_29 : decode c_Mo_hasValue 29 = .ok (.imul, 1) := by decide +kernel
theorem d_Mo_hasValue_30 : decode c_Mo_hasValue 30 = .ok (.iload_n 2, 1) := by decide +kernel
theorem d_Mo_hasValue_31 : decode c_Mo_hasValue 31 = .ok (.iadd, 1) := by decide +kernel
theorem d_Mo_hasValue_32 : decode c_Mo_hasValue 32 = .ok (.iaload, 1) := by decide +kernel
theorem d_Mo_hasValue_33 : decode c_Mo_hasValue 33 = .ok (.iload_n 3, 1) := by decide +kernel
theorem d_Mo_hasValue_34 : decode c_Mo_hasValue 34 = .ok (.if_icmp .ne 5, 3) := by decide +kernel
theorem d_Mo_hasValue_37 : decode c_Mo_hasValue 37 = .ok (.iconst 1, 1) := by decide +kernel
theorem d_Mo_hasValue_38 : decode c_Mo_hasValue 38 = .ok (.ireturn, 1) := by decide +kernel
theorem d_Mo_hasValue_39 : decode c_Mo_hasValue 39 = .ok (.iinc 4 1, 3) := by decide +kernel
theorem d_Mo_hasValue_42 : decode c_Mo_hasValue 42 = .ok (.goto (-39), 3) := by decide +kernel
theorem d_Mo_hasValue_45 : decode c_Mo_hasValue 45 = .ok (.iconst 0, 1) := by decide +kernel
theorem d_Mo_hasValue_46 : decode c_Mo_hasValue 46 = .ok (.ireturn, 1) := by decide +kernel
theorem d_Mo_greatest_0 : decode c_Mo_greatest 0 = .ok (.iconst (-1), 1) := by decide +kernel
theorem d_Mo_greatest_1 : decode c_Mo_greatest 1 = .ok (.istore_n 3, 1) := by decide +kernel
theorem d_Mo_greatest_2 : decode c_Mo_greatest 2 = .ok (.iconst 0, 1) := by decide +kernel
theorem d_Mo_greatest_3 : decode c_Mo_greatest 3 = .ok (.istore 4, 2) := by decide +kernel
theorem d_Mo_greatest_5 : decode c_Mo_greatest 5 = .ok (.iload 4, 2) := by decide +kernel
theorem d_Mo_greatest_7 : decode c_Mo_greatest 7 = .ok (.aload_n 0, 1) := by decide +kernel
theorem d_Mo_greatest_8 : decode c_Mo_greatest 8 = .ok (.getfield 69, 3) := by decide +kernel
theorem d_Mo_greatest_11 : decode c_Mo_greatest 11 = .ok (.if_icmp .ge 50, 3) := by decide +kernel
theorem d_Mo_greatest_14 : decode c_Mo_greatest 14 = .ok (.iload_n 1, 1) := by decide +kernel
theorem d_Mo_greatest_15 : decode c_Mo_greatest 15 = .ok (.iload 4, 2) := by decide +kernel
theorem d_Mo_greatest_17 : decode c_Mo_greatest 17 = .ok (.ishr, 1) := by decide +kernel
theorem d_Mo_greatest_18 : decode c_Mo_greatest 18 = .ok (.iconst 1, 1) := by decide +kernel
theorem d_Mo_greatest_19 : decode c_Mo_greatest 19 = .ok (.iand, 1) := by decide +kernel
theorem d_Mo_greatest_20 : decode c_Mo_greatest 20 = .ok (.iconst 1, 1) := by decide +kernel
theorem d_Mo_greatest_21 : decode c_Mo_greatest 21 = .ok (.if_icmp .ne 32, 3) := by decide +kernel
theorem d_Mo_greatest_24 : decode c_Mo_greatest 24 = .ok (.aload_n 0, 1) := by decide +kernel
theorem d_Mo_greatest_25 : decode c_Mo_greatest 25 = .ok (.getfield 13, 3) := by decide +kernel
theorem d_Mo_greatest_28 : decode c_Mo_greatest 28 = .ok (.iconst 4, 1) := by decide +kernel
theorem d_Mo_greatest_29 : decode c_Mo_greatest 29 = .ok (.iload 4, 2) := by decide +kernel
theorem d_Mo_greatest_31 : decode c_Mo_greatest 31 = .ok (.imul, 1) := by decide +kernel
theorem d_Mo_greatest_32 : decode c_Mo_greatest 32 = .ok (.iload_n 2, 1) := by decide +kernel
theorem d_Mo_greatest_33 : decode c_Mo_greatest 33 = .ok (.iadd, 1) := by decide +kernel
theorem d_Mo_greatest_34 : decode c_Mo_greatest 34 = .ok (.iaload, 1) := by decide +kernel
theorem d_Mo_greatest_35 : decode c_Mo_greatest 35 = .ok (.iload_n 3, 1) := by decide +kernel
theorem d_Mo_greatest_36 : decode c_Mo_greatest 36 = .ok (.if_icmp .le 17, 3) := by decide +kernel
theorem d_Mo_greatest_39 : decode c_Mo_greatest 39 = .ok (.aload_n 0, 1) := by decide +kernel
theorem d_Mo_greatest_40 : decode c_Mo_greatest 40 = .ok (.getfield 13, 3) := by decide +kernel
theorem d_Mo_greatest_43 : decode c_Mo_greatest 43 = .ok (.iconst 4, 1) := by decide +kernel
theorem d_Mo_greatest_44 : decode c_Mo_greatest 44 = .ok (.iload 4, 2) := by decide +kernel
theorem d_Mo_greatest_46 : decode c_Mo_greatest 46 = .ok (.imul, 1) := by decide +kernel
theorem d_Mo_greatest_47 : decode c_Mo_greatest 47 = .ok (.iload_n 2, 1) := by decide +kernel
theorem d_Mo_greatest_48 : decode c_Mo_greatest 48 = .ok (.iadd, 1) := by decide +kernel
theorem d_Mo_greatest_49 : decode c_Mo_greatest 49 = .ok (.iaload, 1) := by decide +kernel
theorem d_Mo_greatest_50 : decode c_Mo_greatest 50 = .ok (.goto 4, 3) := by decide +kernel
theorem d_Mo_greatest_53 : decode c_Mo_greatest 53 = .ok (.iload_n 3, 1) := by decide +kernel
theorem d_Mo_greatest_54 : decode c_Mo_greatest 54 = .ok (.istore_n 3, 1) := by decide +kernel
theorem d_Mo_greatest_55 : decode c_Mo_greatest 55 = .ok (.iinc 4 1, 3) := by decide +kernel
theorem d_Mo_greatest_58 : decode c_Mo_greatest 58 = .ok (.goto (-53), 3) := by decide +kernel
theorem d_Mo_greatest_61 : decode c_Mo_greatest 61 = .ok (.iload_n 3, 1) := by decide +kernel
theorem d_Mo_greatest_62 : decode c_Mo_greatest 62 = .ok (.ireturn, 1) := by decide +kernel
theorem d_Mo_kindsOf_0 : decode c_Mo_kindsOf 0 = .ok (.iconst 0, 1) := by decide +kernel
theorem d_Mo_kindsOf_1 : decode c_Mo_kindsOf 1 = .ok (.istore_n 3, 1) := by decide +kernel
theorem d_Mo_kindsOf_2 : decode c_Mo_kindsOf 2 = .ok (.iconst 0, 1) := by decide +kernel
theorem d_Mo_kindsOf_3 : decode c_Mo_kindsOf 3 = .ok (.istore 4, 2) := by decide +kernel
theorem d_Mo_kindsOf_5 : decode c_Mo_kindsOf 5 = .ok (.iload 4, 2) := by decide +kernel
theorem d_Mo_kindsOf_7 : decode c_Mo_kindsOf 7 = .ok (.aload_n 0, 1) := by decide +kernel
theorem d_Mo_kindsOf_8 : decode c_Mo_kindsOf 8 = .ok (.getfield 69, 3) := by decide +kernel
theorem d_Mo_kindsOf_11 : decode c_Mo_kindsOf 11 = .ok (.if_icmp .ge 53, 3) := by decide +kernel
theorem d_Mo_kindsOf_14 : decode c_Mo_kindsOf 14 = .ok (.iload_n 3, 1) := by decide +kernel
theorem d_Mo_kindsOf_15 : decode c_Mo_kindsOf 15 = .ok (.iload_n 1, 1) := by decide +kernel
theorem d_Mo_kindsOf_16 : decode c_Mo_kindsOf 16 = .ok (.iload 4, 2) := by decide +kernel
theorem d_Mo_kindsOf_18 : decode c_Mo_kindsOf 18 = .ok (.ishr, 1) := by decide +kernel
theorem d_Mo_kindsOf_19 : decode c_Mo_kindsOf 19 = .ok (.iconst 1, 1) := by decide +kernel
theorem d_Mo_kindsOf_20 : decode c_Mo_kindsOf 20 = .ok (.iand, 1) := by decide +kernel
theorem d_Mo_kindsOf_21 : decode c_Mo_kindsOf 21 = .ok (.iconst 1, 1) := by decide +kernel
theorem d_Mo_kindsOf_22 : decode c_Mo_kindsOf 22 = .ok (.if_icmp .ne 33, 3) := by decide +kernel
theorem d_Mo_kindsOf_25 : decode c_Mo_kindsOf 25 = .ok (.aload_n 0, 1) := by decide +kernel
theorem d_Mo_kindsOf_26 : decode c_Mo_kindsOf 26 = .ok (.getfield 13, 3) := by decide +kernel
theorem d_Mo_kindsOf_29 : decode c_Mo_kindsOf 29 = .ok (.iconst 4, 1) := by decide +kernel
theorem d_Mo_kindsOf_30 : decode c_Mo_kindsOf 30 = .ok (.iload 4, 2) := by decide +kernel
theorem d_Mo_kindsOf_32 : decode c_Mo_kindsOf 32 = .ok (.imul, 1) := by decide +kernel
theorem d_Mo_kindsOf_33 : decode c_Mo_kindsOf 33 = .ok (.iload_n 2, 1) := by decide +kernel
theorem d_Mo_kindsOf_34 : decode c_Mo_kindsOf 34 = .ok (.iadd, 1) := by decide +kernel
theorem d_Mo_kindsOf_35 : decode c_Mo_kindsOf 35 = .ok (.iaload, 1) := by decide +kernel
theorem d_Mo_kindsOf_36 : decode c_Mo_kindsOf 36 = .ok (.ifCond .lt 19, 3) := by decide +kernel
theorem d_Mo_kindsOf_39 : decode c_Mo_kindsOf 39 = .ok (.iconst 1, 1) := by decide +kernel
theorem d_Mo_kindsOf_40 : decode c_Mo_kindsOf 40 = .ok (.aload_n 0, 1) := by decide +kernel
theorem d_Mo_kindsOf_41 : decode c_Mo_kindsOf 41 = .ok (.getfield 13, 3) := by decide +kernel
theorem d_Mo_kindsOf_44 : decode c_Mo_kindsOf 44 = .ok (.iconst 4, 1) := by decide +kernel
theorem d_Mo_kindsOf_45 : decode c_Mo_kindsOf 45 = .ok (.iload 4, 2) := by decide +kernel
theorem d_Mo_kindsOf_47 : decode c_Mo_kindsOf 47 = .ok (.imul, 1) := by decide +kernel
theorem d_Mo_kindsOf_48 : decode c_Mo_kindsOf 48 = .ok (.iload_n 2, 1) := by decide +kernel
theorem d_Mo_kindsOf_49 : decode c_Mo_kindsOf 49 = .ok (.iadd, 1) := by decide +kernel
theorem d_Mo_kindsOf_50 : decode c_Mo_kindsOf 50 = .ok (.iaload, 1) := by decide +kernel
theorem d_Mo_kindsOf_51 : decode c_Mo_kindsOf 51 = .ok (.ishl, 1) := by decide +kernel
theorem d_Mo_kindsOf_52 : decode c_Mo_kindsOf 52 = .ok (.goto 4, 3) := by decide +kernel
theorem d_Mo_kindsOf_55 : decode c_Mo_kindsOf 55 = .ok (.iconst 0, 1) := by decide +kernel
theorem d_Mo_kindsOf_56 : decode c_Mo_kindsOf 56 = .ok (.ior, 1) := by decide +kernel
theorem d_Mo_kindsOf_57 : decode c_Mo_kindsOf 57 = .ok (.istore_n 3, 1) := by decide +kernel
theorem d_Mo_kindsOf_58 : decode c_Mo_kindsOf 58 = .ok (.iinc 4 1, 3) := by decide +kernel
theorem d_Mo_kindsOf_61 : decode c_Mo_kindsOf 61 = .ok (.goto (-56), 3) := by decide +kernel
theorem d_Mo_kindsOf_64 : decode c_Mo_kindsOf 64 = .ok (.iload_n 3, 1) := by decide +kernel
theorem d_Mo_kindsOf_65 : decode c_Mo_kindsOf 65 = .ok (.ireturn, 1) := by decide +kernel
theorem d_Mo_leftOf_0 : decode c_Mo_leftOf 0 = .ok (.iconst 0, 1) := by decide +kernel
theorem d_Mo_leftOf_1 : decode c_Mo_leftOf 1 = .ok (.istore 5, 2) := by decide +kernel
theorem d_Mo_leftOf_3 : decode c_Mo_leftOf 3 = .ok (.iconst 0, 1) := by decide +kernel
theorem d_Mo_leftOf_4 : decode c_Mo_leftOf 4 = .ok (.istore 6, 2) := by decide +kernel
theorem d_Mo_leftOf_6 : decode c_Mo_leftOf 6 = .ok (.iload 6, 2) := by decide +kernel
theorem d_Mo_leftOf_8 : decode c_Mo_leftOf 8 = .ok (.aload_n 0, 1) := by decide +kernel
theorem d_Mo_leftOf_9 : decode c_Mo_leftOf 9 = .ok (.getfield 69, 3) := by decide +kernel
theorem d_Mo_leftOf_12 : decode c_Mo_leftOf 12 = .ok (.if_icmp .ge 45, 3) := by decide +kernel
theorem d_Mo_leftOf_15 : decode c_Mo_leftOf 15 = .ok (.iload 5, 2) := by decide +kernel
theorem d_Mo_leftOf_17 : decode c_Mo_leftOf 17 = .ok (.iload_n 1, 1) := by decide +kernel
theorem d_Mo_leftOf_18 : decode c_Mo_leftOf 18 = .ok (.iload 6, 2) := by decide +kernel
theorem d_Mo_leftOf_20 : decode c_Mo_leftOf 20 = .ok (.ishr, 1) := by decide +kernel
theorem d_Mo_leftOf_21 : decode c_Mo_leftOf 21 = .ok (.iconst 1, 1) := by decide +kernel
theorem d_Mo_leftOf_22 : decode c_Mo_leftOf 22 = .ok (.iand, 1) := by decide +kernel
theorem d_Mo_leftOf_23 : decode c_Mo_leftOf 23 = .ok (.iconst 1, 1) := by decide +kernel
theorem d_Mo_leftOf_24 : decode c_Mo_leftOf 24 = .ok (.if_icmp .ne 23, 3) := by decide +kernel
theorem d_Mo_leftOf_27 : decode c_Mo_leftOf 27 = .ok (.aload_n 0, 1) := by decide +kernel
theorem d_Mo_leftOf_28 : decode c_Mo_leftOf 28 = .ok (.iload 6, 2) := by decide +kernel
theorem d_Mo_leftOf_30 : decode c_Mo_leftOf 30 = .ok (.iload_n 2, 1) := by decide +kernel
theorem d_Mo_leftOf_31 : decode c_Mo_leftOf 31 = .ok (.iload_n 3, 1) := by decide +kernel
theorem d_Mo_leftOf_32 : decode c_Mo_leftOf 32 = .ok (.iload 4, 2) := by decide +kernel
theorem d_Mo_leftOf_34 : decode c_Mo_leftOf 34 = .ok (.invokevirtual 108, 3) := by decide +kernel
theorem d_Mo_leftOf_37 : decode c_Mo_leftOf 37 = .ok (.ifCond .eq 10, 3) := by decide +kernel
theorem d_Mo_leftOf_40 : decode c_Mo_leftOf 40 = .ok (.iconst 1, 1) := by decide +kernel
theorem d_Mo_leftOf_41 : decode c_Mo_leftOf 41 = .ok (.iload 6, 2) := by decide +kernel
theorem d_Mo_leftOf_43 : decode c_Mo_leftOf 43 = .ok (.ishl, 1) := by decide +kernel
theorem d_Mo_leftOf_44 : decode c_Mo_leftOf 44 = .ok (.goto 4, 3) := by decide +kernel
theorem d_Mo_leftOf_47 : decode c_Mo_leftOf 47 = .ok (.iconst 0, 1) := by decide +kernel
theorem d_Mo_leftOf_48 : decode c_Mo_leftOf 48 = .ok (.ior, 1) := by decide +kernel
theorem d_Mo_leftOf_49 : decode c_Mo_leftOf 49 = .ok (.istore 5, 2) := by decide +kernel
theorem d_Mo_leftOf_51 : decode c_Mo_leftOf 51 = .ok (.iinc 6 1, 3) := by decide +kernel
theorem d_Mo_leftOf_54 : decode c_Mo_leftOf 54 = .ok (.goto (-48), 3) := by decide +kernel
theorem d_Mo_leftOf_57 : decode c_Mo_leftOf 57 = .ok (.iload 5, 2) := by decide +kernel
theorem d_Mo_leftOf_59 : decode c_Mo_leftOf 59 = .ok (.ireturn, 1) := by decide +kernel
theorem d_Mo_goesLeft_0 : decode c_Mo_goesLeft 0 = .ok (.aload_n 0, 1) := by decide +kernel
theorem d_Mo_goesLeft_1 : decode c_Mo_goesLeft 1 = .ok (.getfield 13, 3) := by decide +kernel
theorem d_Mo_goesLeft_4 : decode c_Mo_goesLeft 4 = .ok (.iconst 4, 1) := by decide +kernel
theorem d_Mo_goesLeft_5 : decode c_Mo_goesLeft 5 = .ok (.iload_n 1, 1) := by decide +kernel
theorem d_Mo_goesLeft_6 : decode c_Mo_goesLeft 6 = .ok (.imul, 1) := by decide +kernel
theorem d_Mo_goesLeft_7 : decode c_Mo_goesLeft 7 = .ok (.iload_n 2, 1) := by decide +kernel
theorem d_Mo_goesLeft_8 : decode c_Mo_goesLeft 8 = .ok (.iadd, 1) := by decide +kernel
theorem d_Mo_goesLeft_9 : decode c_Mo_goesLeft 9 = .ok (.iaload, 1) := by decide +kernel
theorem d_Mo_goesLeft_10 : decode c_Mo_goesLeft 10 = .ok (.istore 5, 2) := by decide +kernel
theorem d_Mo_goesLeft_12 : decode c_Mo_goesLeft 12 = .ok (.aload_n 0, 1) := by decide +kernel
theorem d_Mo_goesLeft_13 : decode c_Mo_goesLeft 13 = .ok (.iload 5, 2) := by decide +kernel
theorem d_Mo_goesLeft_15 : decode c_Mo_goesLeft 15 = .ok (.iload_n 2, 1) := by decide +kernel
theorem d_Mo_goesLeft_16 : decode c_Mo_goesLeft 16 = .ok (.iload_n 3, 1) := by decide +kernel
theorem d_Mo_goesLeft_17 : decode c_Mo_goesLeft 17 = .ok (.iload 4, 2) := by decide +kernel
theorem d_Mo_goesLeft_19 : decode c_Mo_goesLeft 19 = .ok (.invokevirtual 94, 3) := by decide +kernel
theorem d_Mo_goesLeft_22 : decode c_Mo_goesLeft 22 = .ok (.ireturn, 1) := by decide +kernel
theorem d_Mo_isLeft_0 : decode c_Mo_isLeft 0 = .ok (.iload_n 1, 1) := by decide +kernel
theorem d_Mo_isLeft_1 : decode c_Mo_isLeft 1 = .ok (.ifCond .ge 16, 3) := by decide +kernel
theorem d_Mo_isLeft_4 : decode c_Mo_isLeft 4 = .ok (.iload 4, 2) := by decide +kernel
theorem d_Mo_isLeft_6 : decode c_Mo_isLeft 6 = .ok (.ifCond .ne 7, 3) := by decide +kernel
theorem d_Mo_isLeft_9 : decode c_Mo_isLeft 9 = .ok (.iconst 1, 1) := by decide +kernel
theorem d_Mo_isLeft_10 : decode c_Mo_isLeft 10 = .ok (.goto 43, 3) := by decide +kernel
theorem d_Mo_isLeft_13 : decode c_Mo_isLeft 13 = .ok (.iconst 0, 1) := by decide +kernel
theorem d_Mo_isLeft_14 : decode c_Mo_isLeft 14 = .ok (.goto 39, 3) := by decide +kernel
theorem d_Mo_isLeft_17 : decode c_Mo_isLeft 17 = .ok (.aload_n 0, 1) := by decide +kernel
theorem d_Mo_isLeft_18 : decode c_Mo_isLeft 18 = .ok (.getfield 7, 3) := by decide +kernel
theorem d_Mo_isLeft_21 : decode c_Mo_isLeft 21 = .ok (.iload_n 2, 1) := by decide +kernel
theorem d_Mo_isLeft_22 : decode c_Mo_isLeft 22 = .ok (.iaload, 1) := by decide +kernel
theorem d_Mo_isLeft_23 : decode c_Mo_isLeft 23 = .ok (.ifCond .ne 16, 3) := by decide +kernel
theorem d_Mo_isLeft_26 : decode c_Mo_isLeft 26 = .ok (.iload_n 1, 1) := by decide +kernel
theorem d_Mo_isLeft_27 : decode c_Mo_isLeft 27 = .ok (.iload_n 3, 1) := by decide +kernel
theorem d_Mo_isLeft_28 : decode c_Mo_isLeft 28 = .ok (.if_icmp .gt 7, 3) := by decide +kernel
theorem d_Mo_isLeft_31 : decode c_Mo_isLeft 31 = .ok (.iconst 1, 1) := by decide +kernel
theorem d_Mo_isLeft_32 : decode c_Mo_isLeft 32 = .ok (.goto 21, 3) := by decide +kernel
theorem d_Mo_isLeft_35 : decode c_Mo_isLeft 35 = .ok (.iconst 0, 1) := by decide +kernel
theorem d_Mo_isLeft_36 : decode c_Mo_isLeft 36 = .ok (.goto 17, 3) := by decide +kernel
theorem d_Mo_isLeft_39 : decode c_Mo_isLeft 39 = .ok (.iload_n 3, 1) := by decide +kernel
theorem d_Mo_isLeft_40 : decode c_Mo_isLeft 40 = .ok (.iload_n 1, 1) := by decide +kernel
theorem d_Mo_isLeft_41 : decode c_Mo_isLeft 41 = .ok (.ishr, 1) := by decide +kernel
theorem d_Mo_isLeft_42 : decode c_Mo_isLeft 42 = .ok (.iconst 1, 1) := by decide +kernel
theorem d_Mo_isLeft_43 : decode c_Mo_isLeft 43 = .ok (.iand, 1) := by decide +kernel
theorem d_Mo_isLeft_44 : decode c_Mo_isLeft 44 = .ok (.iconst 1, 1) := by decide +kernel
theorem d_Mo_isLeft_45 : decode c_Mo_isLeft 45 = .ok (.if_icmp .ne 7, 3) := by decide +kernel
theorem d_Mo_isLeft_48 : decode c_Mo_isLeft 48 = .ok (.iconst 1, 1) := by decide +kernel
theorem d_Mo_isLeft_49 : decode c_Mo_isLeft 49 = .ok (.goto 4, 3) := by decide +kernel
theorem d_Mo_isLeft_52 : decode c_Mo_isLeft 52 = .ok (.iconst 0, 1) := by decide +kernel
theorem d_Mo_isLeft_53 : decode c_Mo_isLeft 53 = .ok (.ireturn, 1) := by decide +kernel
theorem d_Mo_squares_0 : decode c_Mo_squares 0 = .ok (.lconst 0, 1) := by decide +kernel
theorem d_Mo_squares_1 : decode c_Mo_squares 1 = .ok (.lstore_n 2, 1) := by decide +kernel
theorem d_Mo_squares_2 : decode c_Mo_squares 2 = .ok (.iconst 0, 1) := by decide +kernel
theorem d_Mo_squares_3 : decode c_Mo_squares 3 = .ok (.istore 4, 2) := by decide +kernel
theorem d_Mo_squares_5 : decode c_Mo_squares 5 = .ok (.iload 4, 2) := by decide +kernel
theorem d_Mo_squares_7 : decode c_Mo_squares 7 = .ok (.iconst 3, 1) := by decide +kernel
theorem d_Mo_squares_8 : decode c_Mo_squares 8 = .ok (.if_icmp .ge 27, 3) := by decide +kernel
theorem d_Mo_squares_11 : decode c_Mo_squares 11 = .ok (.aload_n 0, 1) := by decide +kernel
theorem d_Mo_squares_12 : decode c_Mo_squares 12 = .ok (.iload_n 1, 1) := by decide +kernel
theorem d_Mo_squares_13 : decode c_Mo_squares 13 = .ok (.iload 4, 2) := by decide +kernel
theorem d_Mo_squares_15 : decode c_Mo_squares 15 = .ok (.invokevirtual 83, 3) := by decide +kernel
theorem d_Mo_squares_18 : decode c_Mo_squares 18 = .ok (.i2l, 1) := by decide +kernel
theorem d_Mo_squares_19 : decode c_Mo_squares 19 = .ok (.lstore 5, 2) := by decide +kernel
theorem d_Mo_squares_21 : decode c_Mo_squares 21 = .ok (.lload_n 2, 1) := by decide +kernel
theorem d_Mo_squares_22 : decode c_Mo_squares 22 = .ok (.lload 5, 2) := by decide +kernel
theorem d_Mo_squares_24 : decode c_Mo_squares 24 = .ok (.lload 5, 2) := by decide +kernel
theorem d_Mo_squares_26 : decode c_Mo_squares 26 = .ok (.lmul, 1) := by decide +kernel
theorem d_Mo_squares_27 : decode c_Mo_squares 27 = .ok (.ladd, 1) := by decide +kernel
theorem d_Mo_squares_28 : decode c_Mo_squares 28 = .ok (.lstore_n 2, 1) := by decide +kernel
theorem d_Mo_squares_29 : decode c_Mo_squares 29 = .ok (.iinc 4 1, 3) := by decide +kernel
theorem d_Mo_squares_32 : decode c_Mo_squares 32 = .ok (.goto (-27), 3) := by decide +kernel
theorem d_Mo_squares_35 : decode c_Mo_squares 35 = .ok (.lload_n 2, 1) := by decide +kernel
theorem d_Mo_squares_36 : decode c_Mo_squares 36 = .ok (.lreturn, 1) := by decide +kernel
theorem d_Mo_findStages_0 : decode c_Mo_findStages 0 = .ok (.iconst 0, 1) := by decide +kernel
theorem d_Mo_findStages_1 : decode c_Mo_findStages 1 = .ok (.istore_n 1, 1) := by decide +kernel
theorem d_Mo_findStages_2 : decode c_Mo_findStages 2 = .ok (.iload_n 1, 1) := by decide +kernel
theorem d_Mo_findStages_3 : decode c_Mo_findStages 3 = .ok (.aload_n 0, 1) := by decide +kernel
theorem d_Mo_findStages_4 : decode c_Mo_findStages 4 = .ok (.getfield 147, 3) := by decide +kernel
theorem d_Mo_findStages_7 : decode c_Mo_findStages 7 = .ok (.if_icmp .ge 29, 3) := by decide +kernel
theorem d_Mo_findStages_10 : decode c_Mo_findStages 10 = .ok (.aload_n 0, 1) := by decide +kernel
theorem d_Mo_findStages_11 : decode c_Mo_findStages 11 = .ok (.getfield 57, 3) := by decide +kernel
theorem d_Mo_findStages_14 : decode c_Mo_findStages 14 = .ok (.iload_n 1, 1) := by decide +kernel
theorem d_Mo_findStages_15 : decode c_Mo_findStages 15 = .ok (.aload_n 0, 1) := by decide +kernel
theorem d_Mo_findStages_16 : decode c_Mo_findStages 16 = .ok (.getfield 41, 3) := by decide +kernel
theorem d_Mo_findStages_19 : decode c_Mo_findStages 19 = .ok (.iload_n 1, 1) := by decide +kernel
theorem d_Mo_findStages_20 : decode c_Mo_findStages 20 = .ok (.iaload, 1) := by decide +kernel
theorem d_Mo_findStages_21 : decode c_Mo_findStages 21 = .ok (.ifCond .ge 7, 3) := by decide +kernel
theorem d_Mo_findStages_24 : decode c_Mo_findStages 24 = .ok (.iconst 1, 1) := by decide +kernel
theorem d_Mo_findStages_25 : decode c_Mo_findStages 25 = .ok (.goto 4, 3) := by decide +kernel
theorem d_Mo_findStages_28 : decode c_Mo_findStages 28 = .ok (.iconst 0, 1) := by decide +kernel
theorem d_Mo_findStages_29 : decode c_Mo_findStages 29 = .ok (.iastore, 1) := by decide +kernel
theorem d_Mo_findStages_30 : decode c_Mo_findStages 30 = .ok (.iinc 1 1, 3) := by decide +kernel
theorem d_Mo_findStages_33 : decode c_Mo_findStages 33 = .ok (.goto (-31), 3) := by decide +kernel
theorem d_Mo_findStages_36 : decode c_Mo_findStages 36 = .ok (.aload_n 0, 1) := by decide +kernel
theorem d_Mo_findStages_37 : decode c_Mo_findStages 37 = .ok (.getfield 60, 3) := by decide +kernel
theorem d_Mo_findStages_40 : decode c_Mo_findStages 40 = .ok (.iconst 0, 1) := by decide +kernel
theorem d_Mo_findStages_41 : decode c_Mo_findStages 41 = .ok (.lconst 0, 1) := by decide +kernel
theorem d_Mo_findStages_42 : decode c_Mo_findStages 42 = .ok (.lastore, 1) := by decide +kernel
theorem d_Mo_findStages_43 : decode c_Mo_findStages 43 = .ok (.aload_n 0, 1) := by decide +kernel
theorem d_Mo_findStages_44 : decode c_Mo_findStages 44 = .ok (.getfield 63, 3) := by decide +kernel
theorem d_Mo_findStages_47 : decode c_Mo_findStages 47 = .ok (.iconst 0, 1) := by decide +kernel
theorem d_Mo_findStages_48 : decode c_Mo_findStages 48 = .ok (.lconst 1, 1) := by decide +kernel
theorem d_Mo_findStages_49 : decode c_Mo_findStages 49 = .ok (.lastore, 1) := by decide +kernel
theorem d_Mo_findStages_50 : decode c_Mo_findStages 50 = .ok (.aload_n 0, 1) := by decide +kernel
theorem d_Mo_findStages_51 : decode c_Mo_findStages 51 = .ok (.iconst 1, 1) := by decide +kernel
theorem d_Mo_findStages_52 : decode c_Mo_findStages 52 = .ok (.putfield 200, 3) := by decide +kernel
theorem d_Mo_findStages_55 : decode c_Mo_findStages 55 = .ok (.aload_n 0, 1) := by decide +kernel
theorem d_Mo_findStages_56 : decode c_Mo_findStages 56 = .ok (.getfield 57, 3) := by decide +kernel
theorem d_Mo_findStages_59 : decode c_Mo_findStages 59 = .ok (.bipush 64, 2) := by decide +kernel
theorem d_Mo_findStages_61 : decode c_Mo_findStages 61 = .ok (.aload_n 0, 1) := by decide +kernel
theorem d_Mo_findStages_62 : decode c_Mo_findStages 62 = .ok (.getfield 200, 3) := by decide +kernel
theorem d_Mo_findStages_65 : decode c_Mo_findStages 65 = .ok (.iconst 1, 1) := by decide +kernel
theorem d_Mo_findStages_66 : decode c_Mo_findStages 66 = .ok (.isub, 1) := by decide +kernel
theorem d_Mo_findStages_67 : decode c_Mo_findStages 67 = .ok (.imul, 1) := by decide +kernel
theorem d_Mo_findStages_68 : decode c_Mo_findStages 68 = .ok (.iaload, 1) := by decide +kernel
theorem d_Mo_findStages_69 : decode c_Mo_findStages 69 = .ok (.ifCond .ne 20, 3) := by decide +kernel
theorem d_Mo_findStages_72 : decode c_Mo_findStages 72 = .ok (.aload_n 0, 1) := by decide +kernel
theorem d_Mo_findStages_73 : decode c_Mo_findStages 73 = .ok (.invokevirtual 203, 3) := by decide +kernel
theorem d_Mo_findStages_76 : decode c_Mo_findStages 76 = .ok (.aload_n 0, 1) := by decide +kernel
theorem d_Mo_findStages_77 : decode c_Mo_findStages 77 = .ok (.dup, 1) := by decide +kernel
theorem d_Mo_findStages_78 : decode c_Mo_findStages 78 = .ok (.getfield 200, 3) := by decide +kernel
theorem d_Mo_findStages_81 : decode c_Mo_findStages 81 = .ok (.iconst 1, 1) := by decide +kernel
theorem d_Mo_findStages_82 : decode c_Mo_findStages 82 = .ok (.iadd, 1) := by decide +kernel
theorem d_Mo_findStages_83 : decode c_Mo_findStages 83 = .ok (.putfield 200, 3) := by decide +kernel
theorem d_Mo_findStages_86 : decode c_Mo_findStages 86 = .ok (.goto (-31), 3) := by decide +kernel
theorem d_Mo_findStages_89 : decode c_Mo_findStages 89 = .ok (.return_, 1) := by decide +kernel
theorem d_Mo_nextStage_0 : decode c_Mo_nextStage 0 = .ok (.aload_n 0, 1) := by decide +kernel
theorem d_Mo_nextStage_1 : decode c_Mo_nextStage 1 = .ok (.getfield 200, 3) := by decide +kernel
theorem d_Mo_nextStage_4 : decode c_Mo_nextStage 4 = .ok (.iconst 1, 1) := by decide +kernel
theorem d_Mo_nextStage_5 : decode c_Mo_nextStage 5 = .ok (.isub, 1) := by decide +kernel
theorem d_Mo_nextStage_6 : decode c_Mo_nextStage 6 = .ok (.istore_n 1, 1) := by decide +kernel
theorem d_Mo_nextStage_7 : decode c_Mo_nextStage 7 = .ok (.ldc2_w 206, 3) := by decide +kernel
theorem d_Mo_nextStage_10 : decode c_Mo_nextStage 10 = .ok (.lstore_n 2, 1) := by decide +kernel
theorem d_Mo_nextStage_11 : decode c_Mo_nextStage 11 = .ok (.lconst 1, 1) := by decide +kernel
theorem d_Mo_nextStage_12 : decode c_Mo_nextStage 12 = .ok (.lstore 4, 2) := by decide +kernel
theorem d_Mo_nextStage_14 : decode c_Mo_nextStage 14 = .ok (.iconst 0, 1) := by decide +kernel
theorem d_Mo_nextStage_15 : decode c_Mo_nextStage 15 = .ok (.istore 6, 2) := by decide +kernel
theorem d_Mo_nextStage_17 : decode c_Mo_nextStage 17 = .ok (.iload 6, 2) := by decide +kernel
theorem d_Mo_nextStage_19 : decode c_Mo_nextStage 19 = .ok (.aload_n 0, 1) := by decide +kernel
theorem d_Mo_nextStage_20 : decode c_Mo_nextStage 20 = .ok (.getfield 147, 3) := by decide +kernel
theorem d_Mo_nextStage_23 : decode c_Mo_nextStage 23 = .ok (.if_icmp .ge 88, 3) := by decide +kernel
theorem d_Mo_nextStage_26 : decode c_Mo_nextStage 26 = .ok (.aload_n 0, 1) := by decide +kernel
theorem d_Mo_nextStage_27 : decode c_Mo_nextStage 27 = .ok (.getfield 57, 3) := by decide +kernel
theorem d_Mo_nextStage_30 : decode c_Mo_nextStage 30 = .ok (.bipush 64, 2) := by decide +kernel
theorem d_Mo_nextStage_32 : decode c_Mo_nextStage 32 = .ok (.iload_n 1, 1) := by decide +kernel
theorem d_Mo_nextStage_33 : decode c_Mo_nextStage 33 = .ok (.imul, 1) := by decide +kernel
theorem d_Mo_nextStage_34 : decode c_Mo_nextStage 34 = .ok (.iload 6, 2) := by decide +kernel
theorem d_Mo_nextStage_36 : decode c_Mo_nextStage 36 = .ok (.iadd, 1) := by decide +kernel
theorem d_Mo_nextStage_37 : decode c_Mo_nextStage 37 = .ok (.iaload, 1) := by decide +kernel
theorem d_Mo_nextStage_38 : decode c_Mo_nextStage 38 = .ok (.ifCond .eq 6, 3) := by decide +kernel
theorem d_Mo_nextStage_41 : decode c_Mo_nextStage 41 = .ok (.goto 64, 3) := by decide +kernel
theorem d_Mo_nextStage_44 : decode c_Mo_nextStage 44 = .ok (.aload_n 0, 1) := by decide +kernel
theorem d_Mo_nextStage_45 : decode c_Mo_nextStage 45 = .ok (.iload_n 1, 1) := by decide +kernel
theorem d_Mo_nextStage_46 : decode c_Mo_nextStage 46 = .ok (.iload 6, 2) := by decide +kernel
theorem d_Mo_nextStage_48 : decode c_Mo_nextStage 48 = .ok (.invokevirtual 208, 3) := by decide +kernel
theorem d_Mo_nextStage_51 : decode c_Mo_nextStage 51 = .ok (.aload_n 0, 1) := by decide +kernel
theorem d_Mo_nextStage_52 : decode c_Mo_nextStage 52 = .ok (.aload_n 0, 1) := by decide +kernel
theorem d_Mo_nextStage_53 : decode c_Mo_nextStage 53 = .ok (.getfield 26, 3) := by decide +kernel
theorem d_Mo_nextStage_56 : decode c_Mo_nextStage 56 = .ok (.iload 6, 2) := by decide +kernel
theorem d_Mo_nextStage_58 : decode c_Mo_nextStage 58 = .ok (.iaload, 1) := by decide +kernel
theorem d_Mo_nextStage_59 : decode c_Mo_nextStage 59 = .ok (.invokevirtual 150, 3) := by decide +kernel
theorem d_Mo_nextStage_62 : decode c_Mo_nextStage 62 = .ok (.aload_n 0, 1) := by decide +kernel
theorem d_Mo_nextStage_63 : decode c_Mo_nextStage 63 = .ok (.getfield 197, 3) := by decide +kernel
theorem d_Mo_nextStage_66 : decode c_Mo_nextStage 66 = .ok (.isub, 1) := by decide +kernel
theorem d_Mo_nextStage_67 : decode c_Mo_nextStage 67 = .ok (.i2l, 1) := by decide +kernel
theorem d_Mo_nextStage_68 : decode c_Mo_nextStage 68 = .ok (.lstore 7, 2) := by decide +kernel
theorem d_Mo_nextStage_70 : decode c_Mo_nextStage 70 = .ok (.aload_n 0, 1) := by decide +kernel
theorem d_Mo_nextStage_71 : decode c_Mo_nextStage 71 = .ok (.getfield 194, 3) := by decide +kernel
theorem d_Mo_nextStage_74 : decode c_Mo_nextStage 74 = .ok (.iconst 1, 1) := by decide +kernel
theorem d_Mo_nextStage_75 : decode c_Mo_nextStage 75 = .ok (.isub, 1) := by decide +kernel
theorem d_Mo_nextStage_76 : decode c_Mo_nextStage 76 = .ok (.i2l, 1) := by decide +kernel
theorem d_Mo_nextStage_77 : decode c_Mo_nextStage 77 = .ok (.lstore 9, 2) := by decide +kernel
theorem d_Mo_nextStage_79 : decode c_Mo_nextStage 79 = .ok (.lload_n 2, 1) := by decide +kernel
theorem d_Mo_nextStage_80 : decode c_Mo_nextStage 80 = .ok (.lconst 0, 1) := by decide +kernel
theorem d_Mo_nextStage_81 : decode c_Mo_nextStage 81 = .ok (.lcmp, 1) := by decide +kernel
theorem d_Mo_nextStage_82 : decode c_Mo_nextStage 82 = .ok (.ifCond .lt 16, 3) := by decide +kernel
theorem d_Mo_nextStage_85 : decode c_Mo_nextStage 85 = .ok (.lload 7, 2) := by decide +kernel
theorem d_Mo_nextStage_87 : decode c_Mo_nextStage 87 = .ok (.lload 4, 2) := by decide +kernel
theorem d_Mo_nextStage_89 : decode c_Mo_nextStage 89 = .ok (.lmul, 1) := by decide +kernel
theorem d_Mo_nextStage_90 : decode c_Mo_nextStage 90 = .ok (.lload_n 2, 1) := by decide +kernel
theorem d_Mo_nextStage_91 : decode c_Mo_nextStage 91 = .ok (.lload 9, 2) := by decide +kernel
theorem d_Mo_nextStage_93 : decode c_Mo_nextStage 93 = .ok (.lmul, 1) := by decide +kernel
theorem d_Mo_nextStage_94 : decode c_Mo_nextStage 94 = .ok (.lcmp, 1) := by decide +kernel
theorem d_Mo_nextStage_95 : decode c_Mo_nextStage 95 = .ok (.ifCond .ge 10, 3) := by decide +kernel
theorem d_Mo_nextStage_98 : decode c_Mo_nextStage 98 = .ok (.lload 7, 2) := by decide +kernel
theorem d_Mo_nextStage_100 : decode c_Mo_nextStage 100 = .ok (.lstore_n 2, 1) := by decide +kernel
theorem d_Mo_nextStage_101 : decode c_Mo_nextStage 101 = .ok (.lload 9, 2) := by decide +kernel
theorem d_Mo_nextStage_103 : decode c_Mo_nextStage 103 = .ok (.lstore 4, 2) := by decide +kernel
theorem d_Mo_nextStage_105 : decode c_Mo_nextStage 105 = .ok (.iinc 6 1, 3) := by decide +kernel
theorem d_Mo_nextStage_108 : decode c_Mo_nextStage 108 = .ok (.goto (-91), 3) := by decide +kernel
theorem d_Mo_nextStage_111 : decode c_Mo_nextStage 111 = .ok (.aload_n 0, 1) := by decide +kernel
theorem d_Mo_nextStage_112 : decode c_Mo_nextStage 112 = .ok (.getfield 60, 3) := by decide +kernel
theorem d_Mo_nextStage_115 : decode c_Mo_nextStage 115 = .ok (.aload_n 0, 1) := by decide +kernel
theorem d_Mo_nextStage_116 : decode c_Mo_nextStage 116 = .ok (.getfield 200, 3) := by decide +kernel
theorem d_Mo_nextStage_119 : decode c_Mo_nextStage 119 = .ok (.lload_n 2, 1) := by decide +kernel
theorem d_Mo_nextStage_120 : decode c_Mo_nextStage 120 = .ok (.lastore, 1) := by decide +kernel
theorem d_Mo_nextStage_121 : decode c_Mo_nextStage 121 = .ok (.aload_n 0, 1) := by decide +kernel
theorem d_Mo_nextStage_122 : decode c_Mo_nextStage 122 = .ok (.getfield 63, 3) := by decide +kernel
theorem d_Mo_nextStage_125 : decode c_Mo_nextStage 125 = .ok (.aload_n 0, 1) := by decide +kernel
theorem d_Mo_nextStage_126 : decode c_Mo_nextStage 126 = .ok (.getfield 200, 3) := by decide +kernel
theorem d_Mo_nextStage_129 : decode c_Mo_nextStage 129 = .ok (.lload 4, 2) := by decide +kernel
theorem d_Mo_nextStage_131 : decode c_Mo_nextStage 131 = .ok (.lastore, 1) := by decide +kernel
theorem d_Mo_nextStage_132 : decode c_Mo_nextStage 132 = .ok (.iconst 0, 1) := by decide +kernel
theorem d_Mo_nextStage_133 : decode c_Mo_nextStage 133 = .ok (.istore 6, 2) := by decide +kernel
theorem d_Mo_nextStage_135 : decode c_Mo_nextStage 135 = .ok (.iload 6, 2) := by decide +kernel
theorem d_Mo_nextStage_137 : decode c_Mo_nextStage 137 = .ok (.aload_n 0, 1) := by decide +kernel
theorem d_Mo_nextStage_138 : decode c_Mo_nextStage 138 = .ok (.getfield 147, 3) := by decide +kernel
theorem d_Mo_nextStage_141 : decode c_Mo_nextStage 141 = .ok (.if_icmp .ge 92, 3) := by decide +kernel
theorem d_Mo_nextStage_144 : decode c_Mo_nextStage 144 = .ok (.aload_n 0, 1) := by decide +kernel
theorem d_Mo_nextStage_145 : decode c_Mo_nextStage 145 = .ok (.getfield 57, 3) := by decide +kernel
theorem d_Mo_nextStage_148 : decode c_Mo_nextStage 148 = .ok (.bipush 64, 2) := by decide +kernel
theorem d_Mo_nextStage_150 : decode c_Mo_nextStage 150 = .ok (.iload_n 1, 1) := by decide +kernel
theorem d_Mo_nextStage_151 : decode c_Mo_nextStage 151 = .ok (.imul, 1) := by decide +kernel
theorem d_Mo_nextStage_152 : decode c_Mo_nextStage 152 = .ok (.iload 6, 2) := by decide +kernel
theorem d_Mo_nextStage_154 : decode c_Mo_nextStage 154 = .ok (.iadd, 1) := by decide +kernel
theorem d_Mo_nextStage_155 : decode c_Mo_nextStage 155 = .ok (.iaload, 1) := by decide +kernel
theorem d_Mo_nextStage_156 : decode c_Mo_nextStage 156 = .ok (.istore 7, 2) := by decide +kernel
theorem d_Mo_nextStage_158 : decode c_Mo_nextStage 158 = .ok (.iload 7, 2) := by decide +kernel
theorem d_Mo_nextStage_160 : decode c_Mo_nextStage 160 = .ok (.ifCond .ne 50, 3) := by decide +kernel
theorem d_Mo_nextStage_163 : decode c_Mo_nextStage 163 = .ok (.aload_n 0, 1) := by decide +kernel
theorem d_Mo_nextStage_164 : decode c_Mo_nextStage 164 = .ok (.iload_n 1, 1) := by decide +kernel
theorem d_Mo_nextStage_165 : decode c_Mo_nextStage 165 = .ok (.iload 6, 2) := by decide +kernel
theorem d_Mo_nextStage_167 : decode c_Mo_nextStage 167 = .ok (.invokevirtual 208, 3) := by decide +kernel
theorem d_Mo_nextStage_170 : decode c_Mo_nextStage 170 = .ok (.aload_n 0, 1) := by decide +kernel
theorem d_Mo_nextStage_171 : decode c_Mo_nextStage 171 = .ok (.aload_n 0, 1) := by decide +kernel
theorem d_Mo_nextStage_172 : decode c_Mo_nextStage 172 = .ok (.getfield 26, 3) := by decide +kernel
theorem d_Mo_nextStage_175 : decode c_Mo_nextStage 175 = .ok (.iload 6, 2) := by decide +kernel
theorem d_Mo_nextStage_177 : decode c_Mo_nextStage 177 = .ok (.iaload, 1) := by decide +kernel
theorem d_Mo_nextStage_178 : decode c_Mo_nextStage 178 = .ok (.invokevirtual 150, 3) := by decide +kernel
theorem d_Mo_nextStage_181 : decode c_Mo_nextStage 181 = .ok (.aload_n 0, 1) := by decide +kernel
theorem d_Mo_nextStage_182 : decode c_Mo_nextStage 182 = .ok (.getfield 197, 3) := by decide +kernel
theorem d_Mo_nextStage_185 : decode c_Mo_nextStage 185 = .ok (.isub, 1) := by decide +kernel
theorem d_Mo_nextStage_186 : decode c_Mo_nextStage 186 = .ok (.i2l, 1) := by decide +kernel
theorem d_Mo_nextStage_187 : decode c_Mo_nextStage 187 = .ok (.lload 4, 2) := by decide +kernel
theorem d_Mo_nextStage_189 : decode c_Mo_nextStage 189 = .ok (.lmul, 1) := by decide +kernel
theorem d_Mo_nextStage_190 : decode c_Mo_nextStage 190 = .ok (.lload_n 2, 1) := by decide +kernel
theorem d_Mo_nextStage_191 : decode c_Mo_nextStage 191 = .ok (.aload_n 0, 1) := by decide +kernel
theorem d_Mo_nextStage_192 : decode c_Mo_nextStage 192 = .ok (.getfield 194, 3) := by decide +kernel
theorem d_Mo_nextStage_195 : decode c_Mo_nextStage 195 = .ok (.iconst 1, 1) := by decide +kernel
theorem d_Mo_nextStage_196 : decode c_Mo_nextStage 196 = .ok (.isub, 1) := by decide +kernel
theorem d_Mo_nextStage_197 : decode c_Mo_nextStage 197 = .ok (.i2l, 1) := by decide +kernel
theorem d_Mo_nextStage_198 : decode c_Mo_nextStage 198 = .ok (.lmul, 1) := by decide +kernel
theorem d_Mo_nextStage_199 : decode c_Mo_nextStage 199 = .ok (.lcmp, 1) := by decide +kernel
theorem d_Mo_nextStage_200 : decode c_Mo_nextStage 200 = .ok (.ifCond .ne 7, 3) := by decide +kernel
theorem d_Mo_nextStage_203 : decode c_Mo_nextStage 203 = .ok (.iconst 1, 1) := by decide +kernel
theorem d_Mo_nextStage_204 : decode c_Mo_nextStage 204 = .ok (.goto 4, 3) := by decide +kernel
theorem d_Mo_nextStage_207 : decode c_Mo_nextStage 207 = .ok (.iconst 0, 1) := by decide +kernel
theorem d_Mo_nextStage_208 : decode c_Mo_nextStage 208 = .ok (.istore 7, 2) := by decide +kernel
theorem d_Mo_nextStage_210 : decode c_Mo_nextStage 210 = .ok (.aload_n 0, 1) := by decide +kernel
theorem d_Mo_nextStage_211 : decode c_Mo_nextStage 211 = .ok (.getfield 57, 3) := by decide +kernel
theorem d_Mo_nextStage_214 : decode c_Mo_nextStage 214 = .ok (.bipush 64, 2) := by decide +kernel
theorem d_Mo_nextStage_216 : decode c_Mo_nextStage 216 = .ok (.aload_n 0, 1) := by decide +kernel
theorem d_Mo_nextStage_217 : decode c_Mo_nextStage 217 = .ok (.getfield 200, 3) := by decide +kernel
theorem d_Mo_nextStage_220 : decode c_Mo_nextStage 220 = .ok (.imul, 1) := by decide +kernel
theorem d_Mo_nextStage_221 : decode c_Mo_nextStage 221 = .ok (.iload 6, 2) := by decide +kernel
theorem d_Mo_nextStage_223 : decode c_Mo_nextStage 223 = .ok (.iadd, 1) := by decide +kernel
theorem d_Mo_nextStage_224 : decode c_Mo_nextStage 224 = .ok (.iload 7, 2) := by decide +kernel
theorem d_Mo_nextStage_226 : decode c_Mo_nextStage 226 = .ok (.iastore, 1) := by decide +kernel
theorem d_Mo_nextStage_227 : decode c_Mo_nextStage 227 = .ok (.iinc 6 1, 3) := by decide +kernel
theorem d_Mo_nextStage_230 : decode c_Mo_nextStage 230 = .ok (.goto (-95), 3) := by decide +kernel
theorem d_Mo_nextStage_233 : decode c_Mo_nextStage 233 = .ok (.iconst 0, 1) := by decide +kernel
theorem d_Mo_nextStage_234 : decode c_Mo_nextStage 234 = .ok (.istore 6, 2) := by decide +kernel
theorem d_Mo_nextStage_236 : decode c_Mo_nextStage 236 = .ok (.iload 6, 2) := by decide +kernel
theorem d_Mo_nextStage_238 : decode c_Mo_nextStage 238 = .ok (.aload_n 0, 1) := by decide +kernel
theorem d_Mo_nextStage_239 : decode c_Mo_nextStage 239 = .ok (.getfield 147, 3) := by decide +kernel
theorem d_Mo_nextStage_242 : decode c_Mo_nextStage 242 = .ok (.if_icmp .ge 79, 3) := by decide +kernel
theorem d_Mo_nextStage_245 : decode c_Mo_nextStage 245 = .ok (.aload_n 0, 1) := by decide +kernel
theorem d_Mo_nextStage_246 : decode c_Mo_nextStage 246 = .ok (.getfield 41, 3) := by decide +kernel
theorem d_Mo_nextStage_249 : decode c_Mo_nextStage 249 = .ok (.iload 6, 2) := by decide +kernel
theorem d_Mo_nextStage_251 : decode c_Mo_nextStage 251 = .ok (.iaload, 1) := by decide +kernel
theorem d_Mo_nextStage_252 : decode c_Mo_nextStage 252 = .ok (.ifCond .lt 63, 3) := by decide +kernel
theorem d_Mo_nextStage_255 : decode c_Mo_nextStage 255 = .ok (.aload_n 0, 1) := by decide +kernel
theorem d_Mo_nextStage_256 : decode c_Mo_nextStage 256 = .ok (.getfield 57, 3) := by decide +kernel
theorem d_Mo_nextStage_259 : decode c_Mo_nextStage 259 = .ok (.bipush 64, 2) := by decide +kernel
theorem d_Mo_nextStage_261 : decode c_Mo_nextStage 261 = .ok (.aload_n 0, 1) := by decide +kernel
theorem d_Mo_nextStage_262 : decode c_Mo_nextStage 262 = .ok (.getfield 200, 3) := by decide +kernel
theorem d_Mo_nextStage_265 : decode c_Mo_nextStage 265 = .ok (.imul, 1) := by decide +kernel
theorem d_Mo_nextStage_266 : decode c_Mo_nextStage 266 = .ok (.iload 6, 2) := by decide +kernel
theorem d_Mo_nextStage_268 : decode c_Mo_nextStage 268 = .ok (.iadd, 1) := by decide +kernel
theorem d_Mo_nextStage_269 : decode c_Mo_nextStage 269 = .ok (.iaload, 1) := by decide +kernel
theorem d_Mo_nextStage_270 : decode c_Mo_nextStage 270 = .ok (.ifCond .eq 45, 3) := by decide +kernel
theorem d_Mo_nextStage_273 : decode c_Mo_nextStage 273 = .ok (.aload_n 0, 1) := by decide +kernel
theorem d_Mo_nextStage_274 : decode c_Mo_nextStage 274 = .ok (.getfield 57, 3) := by decide +kernel
theorem d_Mo_nextStage_277 : decode c_Mo_nextStage 277 = .ok (.bipush 64, 2) := by decide +kernel
theorem d_Mo_nextStage_279 : decode c_Mo_nextStage 279 = .ok (.aload_n 0, 1) := by decide +kernel
theorem d_Mo_nextStage_280 : decode c_Mo_nextStage 280 = .ok (.getfield 200, 3) := by decide +kernel
theorem d_Mo_nextStage_283 : decode c_Mo_nextStage 283 = .ok (.imul, 1) := by decide +kernel
theorem d_Mo_nextStage_284 : decode c_Mo_nextStage 284 = .ok (.aload_n 0, 1) := by decide +kernel
theorem d_Mo_nextStage_285 : decode c_Mo_nextStage 285 = .ok (.getfield 41, 3) := by decide +kernel
theorem d_Mo_nextStage_288 : decode c_Mo_nextStage 288 = .ok (.iload 6, 2) := by decide +kernel
theorem d_Mo_nextStage_290 : decode c_Mo_nextStage 290 = .ok (.iaload, 1) := by decide +kernel
theorem d_Mo_nextStage_291 : decode c_Mo_nextStage 291 = .ok (.iadd, 1) := by decide +kernel
theorem d_Mo_nextStage_292 : decode c_Mo_nextStage 292 = .ok (.iconst 2, 1) := by decide +kernel
theorem d_Mo_nextStage_293 : decode c_Mo_nextStage 293 = .ok (.iastore, 1) := by decide +kernel
theorem d_Mo_nextStage_294 : decode c_Mo_nextStage 294 = .ok (.aload_n 0, 1) := by decide +kernel
theorem d_Mo_nextStage_295 : decode c_Mo_nextStage 295 = .ok (.getfield 57, 3) := by decide +kernel
theorem d_Mo_nextStage_298 : decode c_Mo_nextStage 298 = .ok (.bipush 64, 2) := by decide +kernel
theorem d_Mo_nextStage_300 : decode c_Mo_nextStage 300 = .ok (.aload_n 0, 1) := by decide +kernel
theorem d_Mo_nextStage_301 : decode c_Mo_nextStage 301 = .ok (.getfield 200, 3) := by decide +kernel
theorem d_Mo_nextStage_304 : decode c_Mo_nextStage 304 = .ok (.imul, 1) := by decide +kernel
theorem d_Mo_nextStage_305 : decode c_Mo_nextStage 305 = .ok (.aload_n 0, 1) := by decide +kernel
theorem d_Mo_nextStage_306 : decode c_Mo_nextStage 306 = .ok (.getfield 44, 3) := by decide +kernel
theorem d_Mo_nextStage_309 : decode c_Mo_nextStage 309 = .ok (.iload 6, 2) := by decide +kernel
theorem d_Mo_nextStage_311 : decode c_Mo_nextStage 311 = .ok (.iaload, 1) := by decide +kernel
theorem d_Mo_nextStage_312 : decode c_Mo_nextStage 312 = .ok (.iadd, 1) := by decide +kernel
theorem d_Mo_nextStage_313 : decode c_Mo_nextStage 313 = .ok (.iconst 2, 1) := by decide +kernel
theorem d_Mo_nextStage_314 : decode c_Mo_nextStage 314 = .ok (.iastore, 1) := by decide +kernel
theorem d_Mo_nextStage_315 : decode c_Mo_nextStage 315 = .ok (.iinc 6 1, 3) := by decide +kernel
theorem d_Mo_nextStage_318 : decode c_Mo_nextStage 318 = .ok (.goto (-82), 3) := by decide +kernel
theorem d_Mo_nextStage_321 : decode c_Mo_nextStage 321 = .ok (.return_, 1) := by decide +kernel
theorem d_Mo_look_0 : decode c_Mo_look 0 = .ok (.aload_n 0, 1) := by decide +kernel
theorem d_Mo_look_1 : decode c_Mo_look 1 = .ok (.iconst 0, 1) := by decide +kernel
theorem d_Mo_look_2 : decode c_Mo_look 2 = .ok (.putfield 194, 3) := by decide +kernel
theorem d_Mo_look_5 : decode c_Mo_look 5 = .ok (.aload_n 0, 1) := by decide +kernel
theorem d_Mo_look_6 : decode c_Mo_look 6 = .ok (.iconst 0, 1) := by decide +kernel
theorem d_Mo_look_7 : decode c_Mo_look 7 = .ok (.putfield 197, 3) := by decide +kernel
theorem d_Mo_look_10 : decode c_Mo_look 10 = .ok (.iconst 1, 1) := by decide +kernel
theorem d_Mo_look_11 : decode c_Mo_look 11 = .ok (.istore_n 3, 1) := by decide +kernel
theorem d_Mo_look_12 : decode c_Mo_look 12 = .ok (.aload_n 0, 1) := by decide +kernel
theorem d_Mo_look_13 : decode c_Mo_look 13 = .ok (.getfield 66, 3) := by decide +kernel
theorem d_Mo_look_16 : decode c_Mo_look 16 = .ok (.iconst 0, 1) := by decide +kernel
theorem d_Mo_look_17 : decode c_Mo_look 17 = .ok (.iload_n 2, 1) := by decide +kernel
theorem d_Mo_look_18 : decode c_Mo_look 18 = .ok (.iastore, 1) := by decide +kernel
theorem d_Mo_look_19 : decode c_Mo_look 19 = .ok (.iload_n 3, 1) := by decide +kernel
theorem d_Mo_look_20 : decode c_Mo_look 20 = .ok (.ifCond .le 97, 3) := by decide +kernel
theorem d_Mo_look_23 : decode c_Mo_look 23 = .ok (.iinc 3 (-1), 3) := by decide +kernel
theorem d_Mo_look_26 : decode c_Mo_look 26 = .ok (.aload_n 0, 1) := by decide +kernel
theorem d_Mo_look_27 : decode c_Mo_look 27 = .ok (.getfield 66, 3) := by decide +kernel
theorem d_Mo_look_30 : decode c_Mo_look 30 = .ok (.iload_n 3, 1) := by decide +kernel
theorem d_Mo_look_31 : decode c_Mo_look 31 = .ok (.iaload, 1) := by decide +kernel
theorem d_Mo_look_32 : decode c_Mo_look 32 = .ok (.istore 4, 2) := by decide +kernel
theorem d_Mo_look_34 : decode c_Mo_look 34 = .ok (.aload_n 0, 1) := by decide +kernel
theorem d_Mo_look_35 : decode c_Mo_look 35 = .ok (.getfield 57, 3) := by decide +kernel
theorem d_Mo_look_38 : decode c_Mo_look 38 = .ok (.bipush 64, 2) := by decide +kernel
theorem d_Mo_look_40 : decode c_Mo_look 40 = .ok (.iload_n 1, 1) := by decide +kernel
theorem d_Mo_look_41 : decode c_Mo_look 41 = .ok (.imul, 1) := by decide +kernel
theorem d_Mo_look_42 : decode c_Mo_look 42 = .ok (.iload 4, 2) := by decide +kernel
theorem d_Mo_look_44 : decode c_Mo_look 44 = .ok (.iadd, 1) := by decide +kernel
theorem d_Mo_look_45 : decode c_Mo_look 45 = .ok (.iaload, 1) := by decide +kernel
theorem d_Mo_look_46 : decode c_Mo_look 46 = .ok (.iconst 1, 1) := by decide +kernel
theorem d_Mo_look_47 : decode c_Mo_look 47 = .ok (.if_icmp .ne 36, 3) := by decide +kernel
theorem d_Mo_look_50 : decode c_Mo_look 50 = .ok (.aload_n 0, 1) := by decide +kernel
theorem d_Mo_look_51 : decode c_Mo_look 51 = .ok (.dup, 1) := by decide +kernel
theorem d_Mo_look_52 : decode c_Mo_look 52 = .ok (.getfield 194, 3) := by decide +kernel
theorem d_Mo_look_55 : decode c_Mo_look 55 = .ok (.iconst 1, 1) := by decide +kernel
theorem d_Mo_look_56 : decode c_Mo_look 56 = .ok (.iadd, 1) := by decide +kernel
theorem d_Mo_look_57 : decode c_Mo_look 57 = .ok (.putfield 194, 3) := by decide +kernel
theorem d_Mo_look_60 : decode c_Mo_look 60 = .ok (.aload_n 0, 1) := by decide +kernel
theorem d_Mo_look_61 : decode c_Mo_look 61 = .ok (.dup, 1) := by decide +kernel
theorem d_Mo_look_62 : decode c_Mo_look 62 = .ok (.getfield 197, 3) := by decide +kernel
theorem d_Mo_look_65 : decode c_Mo_look 65 = .ok (.aload_n 0, 1) := by decide +kernel
theorem d_Mo_look_66 : decode c_Mo_look 66 = .ok (.aload_n 0, 1) := by decide +kernel
theorem d_Mo_look_67 : decode c_Mo_look 67 = .ok (.getfield 26, 3) := by decide +kernel
theorem d_Mo_look_70 : decode c_Mo_look 70 = .ok (.iload 4, 2) := by decide +kernel
theorem d_Mo_look_72 : decode c_Mo_look 72 = .ok (.iaload, 1) := by decide +kernel
theorem d_Mo_look_73 : decode c_Mo_look 73 = .ok (.invokevirtual 150, 3) := by decide +kernel
theorem d_Mo_look_76 : decode c_Mo_look 76 = .ok (.iadd, 1) := by decide +kernel
theorem d_Mo_look_77 : decode c_Mo_look 77 = .ok (.putfield 197, 3) := by decide +kernel
theorem d_Mo_look_80 : decode c_Mo_look 80 = .ok (.goto 34, 3) := by decide +kernel
theorem d_Mo_look_83 : decode c_Mo_look 83 = .ok (.aload_n 0, 1) := by decide +kernel
theorem d_Mo_look_84 : decode c_Mo_look 84 = .ok (.getfield 66, 3) := by decide +kernel
theorem d_Mo_look_87 : decode c_Mo_look 87 = .ok (.iload_n 3, 1) := by decide +kernel
theorem d_Mo_look_88 : decode c_Mo_look 88 = .ok (.aload_n 0, 1) := by decide +kernel
theorem d_Mo_look_89 : decode c_Mo_look 89 = .ok (.getfield 41, 3) := by decide +kernel
theorem d_Mo_look_92 : decode c_Mo_look 92 = .ok (.iload 4, 2) := by decide +kernel
theorem d_Mo_look_94 : decode c_Mo_look 94 = .ok (.iaload, 1) := by decide +kernel
theorem d_Mo_look_95 : decode c_Mo_look 95 = .ok (.iastore, 1) := by decide +kernel
theorem d_Mo_look_96 : decode c_Mo_look 96 = .ok (.aload_n 0, 1) := by decide +kernel
theorem d_Mo_look_97 : decode c_Mo_look 97 = .ok (.getfield 66, 3) := by decide +kernel
theorem d_Mo_look_100 : decode c_Mo_look 100 = .ok (.iload_n 3, 1) := by decide +kernel
theorem d_Mo_look_101 : decode c_Mo_look 101 = .ok (.iconst 1, 1) := by decide +kernel
theorem d_Mo_look_102 : decode c_Mo_look 102 = .ok (.iadd, 1) := by decide +kernel
theorem d_Mo_look_103 : decode c_Mo_look 103 = .ok (.aload_n 0, 1) := by decide +kernel
theorem d_Mo_look_104 : decode c_Mo_look 104 = .ok (.getfield 44, 3) := by decide +kernel
theorem d_Mo_look_107 : decode c_Mo_look 107 = .ok (.iload 4, 2) := by decide +kernel
theorem d_Mo_look_109 : decode c_Mo_look 109 = .ok (.iaload, 1) := by decide +kernel
theorem d_Mo_look_110 : decode c_Mo_look 110 = .ok (.iastore, 1) := by decide +kernel
theorem d_Mo_look_111 : decode c_Mo_look 111 = .ok (.iinc 3 2, 3) := by decide +kernel
theorem d_Mo_look_114 : decode c_Mo_look 114 = .ok (.goto (-95), 3) := by decide +kernel
theorem d_Mo_look_117 : decode c_Mo_look 117 = .ok (.return_, 1) := by decide +kernel
theorem d_Mo_node_0 : decode c_Mo_node 0 = .ok (.aload_n 0, 1) := by decide +kernel
theorem d_Mo_node_1 : decode c_Mo_node 1 = .ok (.invokevirtual 173, 3) := by decide +kernel
theorem d_Mo_node_4 : decode c_Mo_node 4 = .ok (.aload_n 0, 1) := by decide +kernel
theorem d_Mo_node_5 : decode c_Mo_node 5 = .ok (.iload_n 1, 1) := by decide +kernel
theorem d_Mo_node_6 : decode c_Mo_node 6 = .ok (.invokevirtual 176, 3) := by decide +kernel
theorem d_Mo_node_9 : decode c_Mo_node 9 = .ok (.ifCond .ne 5, 3) := by decide +kernel
theorem d_Mo_node_12 : decode c_Mo_node 12 = .ok (.iconst (-1), 1) := by decide +kernel
theorem d_Mo_node_13 : decode c_Mo_node 13 = .ok (.ireturn, 1) := by decide +kernel
theorem d_Mo_node_14 : decode c_Mo_node 14 = .ok (.iload_n 2, 1) := by decide +kernel
theorem d_Mo_node_15 : decode c_Mo_node 15 = .ok (.ifCond .lt 9, 3) := by decide +kernel
theorem d_Mo_node_18 : decode c_Mo_node 18 = .ok (.iload_n 2, 1) := by decide +kernel
theorem d_Mo_node_19 : decode c_Mo_node 19 = .ok (.bipush 8, 2) := by decide +kernel
theorem d_Mo_node_21 : decode c_Mo_node 21 = .ok (.if_icmp .le 6, 3) := by decide +kernel
theorem d_Mo_node_24 : decode c_Mo_node 24 = .ok (.bipush (-2), 2) := by decide +kernel
theorem d_Mo_node_26 : decode c_Mo_node 26 = .ok (.ireturn, 1) := by decide +kernel
theorem d_Mo_node_27 : decode c_Mo_node 27 = .ok (.iload_n 2, 1) := by decide +kernel
theorem d_Mo_node_28 : decode c_Mo_node 28 = .ok (.iconst 5, 1) := by decide +kernel
theorem d_Mo_node_29 : decode c_Mo_node 29 = .ok (.if_icmp .ge 15, 3) := by decide +kernel
theorem d_Mo_node_32 : decode c_Mo_node 32 = .ok (.aload_n 0, 1) := by decide +kernel
theorem d_Mo_node_33 : decode c_Mo_node 33 = .ok (.getfield 41, 3) := by decide +kernel
theorem d_Mo_node_36 : decode c_Mo_node 36 = .ok (.iload_n 1, 1) := by decide +kernel
theorem d_Mo_node_37 : decode c_Mo_node 37 = .ok (.iaload, 1) := by decide +kernel
theorem d_Mo_node_38 : decode c_Mo_node 38 = .ok (.ifCond .ge 6, 3) := by decide +kernel
theorem d_Mo_node_41 : decode c_Mo_node 41 = .ok (.bipush (-3), 2) := by decide +kernel
theorem d_Mo_node_43 : decode c_Mo_node 43 = .ok (.ireturn, 1) := by decide +kernel
theorem d_Mo_node_44 : decode c_Mo_node 44 = .ok (.iload_n 2, 1) := by decide +kernel
theorem d_Mo_node_45 : decode c_Mo_node 45 = .ok (.tableswitch 111 0 7 #[47, 54, 61, 68, 75, 82, 89, 100], 47) := by decide +kernel
theorem d_Mo_node_92 : decode c_Mo_node 92 = .ok (.aload_n 0, 1) := by decide +kernel
theorem d_Mo_node_93 : decode c_Mo_node 93 = .ok (.getfield 32, 3) := by decide +kernel
theorem d_Mo_node_96 : decode c_Mo_node 96 = .ok (.iload_n 1, 1) := by decide +kernel
theorem d_Mo_node_97 : decode c_Mo_node 97 = .ok (.iaload, 1) := by decide +kernel
theorem d_Mo_node_98 : decode c_Mo_node 98 = .ok (.ireturn, 1) := by decide +kernel
theorem d_Mo_node_99 : decode c_Mo_node 99 = .ok (.aload_n 0, 1) := by decide +kernel
theorem d_Mo_node_100 : decode c_Mo_node 100 = .ok (.getfield 35, 3) := by decide +kernel
theorem d_Mo_node_103 : decode c_Mo_node 103 = .ok (.iload_n 1, 1) := by decide +kernel
theorem d_Mo_node_104 : decode c_Mo_node 104 = .ok (.iaload, 1) := by decide +kernel
theorem d_Mo_node_105 : decode c_Mo_node 105 = .ok (.ireturn, 1) := by decide +kernel
theorem d_Mo_node_106 : decode c_Mo_node 106 = .ok (.aload_n 0, 1) := by decide +kernel
theorem d_Mo_node_107 : decode c_Mo_node 107 = .ok (.getfield 38, 3) := by decide +kernel
theorem d_Mo_node_110 : decode c_Mo_node 110 = .ok (.iload_n 1, 1) := by decide +kernel
theorem d_Mo_node_111 : decode c_Mo_node 111 = .ok (.iaload, 1) := by decide +kernel
theorem d_Mo_node_112 : decode c_Mo_node 112 = .ok (.ireturn, 1) := by decide +kernel
theorem d_Mo_node_113 : decode c_Mo_node 113 = .ok (.aload_n 0, 1) := by decide +kernel
theorem d_Mo_node_114 : decode c_Mo_node 114 = .ok (.getfield 41, 3) := by decide +kernel
theorem d_Mo_node_117 : decode c_Mo_node 117 = .ok (.iload_n 1, 1) := by decide +kernel
theorem d_Mo_node_118 : decode c_Mo_node 118 = .ok (.iaload, 1) := by decide +kernel
theorem d_Mo_node_119 : decode c_Mo_node 119 = .ok (.ireturn, 1) := by decide +kernel
theorem d_Mo_node_120 : decode c_Mo_node 120 = .ok (.aload_n 0, 1) := by decide +kernel
theorem d_Mo_node_121 : decode c_Mo_node 121 = .ok (.getfield 44, 3) := by decide +kernel
theorem d_Mo_node_124 : decode c_Mo_node 124 = .ok (.iload_n 1, 1) := by decide +kernel
theorem d_Mo_node_125 : decode c_Mo_node 125 = .ok (.iaload, 1) := by decide +kernel
theorem d_Mo_node_126 : decode c_Mo_node 126 = .ok (.ireturn, 1) := by decide +kernel
theorem d_Mo_node_127 : decode c_Mo_node 127 = .ok (.aload_n 0, 1) := by decide +kernel
theorem d_Mo_node_128 : decode c_Mo_node 128 = .ok (.getfield 29, 3) := by decide +kernel
theorem d_Mo_node_131 : decode c_Mo_node 131 = .ok (.iload_n 1, 1) := by decide +kernel
theorem d_Mo_node_132 : decode c_Mo_node 132 = .ok (.iaload, 1) := by decide +kernel
theorem d_Mo_node_133 : decode c_Mo_node 133 = .ok (.ireturn, 1) := by decide +kernel
theorem d_Mo_node_134 : decode c_Mo_node 134 = .ok (.aload_n 0, 1) := by decide +kernel
theorem d_Mo_node_135 : decode c_Mo_node 135 = .ok (.aload_n 0, 1) := by decide +kernel
theorem d_Mo_node_136 : decode c_Mo_node 136 = .ok (.getfield 26, 3) := by decide +kernel
theorem d_Mo_node_139 : decode c_Mo_node 139 = .ok (.iload_n 1, 1) := by decide +kernel
theorem d_Mo_node_140 : decode c_Mo_node 140 = .ok (.iaload, 1) := by decide +kernel
theorem d_Mo_node_141 : decode c_Mo_node 141 = .ok (.invokevirtual 87, 3) := by decide +kernel
theorem d_Mo_node_144 : decode c_Mo_node 144 = .ok (.ireturn, 1) := by decide +kernel
theorem d_Mo_node_145 : decode c_Mo_node 145 = .ok (.aload_n 0, 1) := by decide +kernel
theorem d_Mo_node_146 : decode c_Mo_node 146 = .ok (.aload_n 0, 1) := by decide +kernel
theorem d_Mo_node_147 : decode c_Mo_node 147 = .ok (.getfield 26, 3) := by decide +kernel
theorem d_Mo_node_150 : decode c_Mo_node 150 = .ok (.iload_n 1, 1) := by decide +kernel
theorem d_Mo_node_151 : decode c_Mo_node 151 = .ok (.iaload, 1) := by decide +kernel
theorem d_Mo_node_152 : decode c_Mo_node 152 = .ok (.invokevirtual 91, 3) := by decide +kernel
theorem d_Mo_node_155 : decode c_Mo_node 155 = .ok (.ireturn, 1) := by decide +kernel
theorem d_Mo_node_156 : decode c_Mo_node 156 = .ok (.aload_n 0, 1) := by decide +kernel
theorem d_Mo_node_157 : decode c_Mo_node 157 = .ok (.aload_n 0, 1) := by decide +kernel
theorem d_Mo_node_158 : decode c_Mo_node 158 = .ok (.getfield 26, 3) := by decide +kernel
theorem d_Mo_node_161 : decode c_Mo_node 161 = .ok (.iload_n 1, 1) := by decide +kernel
theorem d_Mo_node_162 : decode c_Mo_node 162 = .ok (.iaload, 1) := by decide +kernel
theorem d_Mo_node_163 : decode c_Mo_node 163 = .ok (.invokevirtual 150, 3) := by decide +kernel
theorem d_Mo_node_166 : decode c_Mo_node 166 = .ok (.ireturn, 1) := by decide +kernel
theorem d_Mo_isNode_0 : decode c_Mo_isNode 0 = .ok (.iload_n 1, 1) := by decide +kernel
theorem d_Mo_isNode_1 : decode c_Mo_isNode 1 = .ok (.ifCond .lt 15, 3) := by decide +kernel
theorem d_Mo_isNode_4 : decode c_Mo_isNode 4 = .ok (.iload_n 1, 1) := by decide +kernel
theorem d_Mo_isNode_5 : decode c_Mo_isNode 5 = .ok (.aload_n 0, 1) := by decide +kernel
theorem d_Mo_isNode_6 : decode c_Mo_isNode 6 = .ok (.getfield 147, 3) := by decide +kernel
theorem d_Mo_isNode_9 : decode c_Mo_isNode 9 = .ok (.if_icmp .ge 7, 3) := by decide +kernel
theorem d_Mo_isNode_12 : decode c_Mo_isNode 12 = .ok (.iconst 1, 1) := by decide +kernel
theorem d_Mo_isNode_13 : decode c_Mo_isNode 13 = .ok (.goto 4, 3) := by decide +kernel
theorem d_Mo_isNode_16 : decode c_Mo_isNode 16 = .ok (.iconst 0, 1) := by decide +kernel
theorem d_Mo_isNode_17 : decode c_Mo_isNode 17 = .ok (.ireturn, 1) := by decide +kernel
theorem d_Mo_count_0 : decode c_Mo_count 0 = .ok (.aload_n 0, 1) := by decide +kernel
theorem d_Mo_count_1 : decode c_Mo_count 1 = .ok (.invokevirtual 173, 3) := by decide +kernel
theorem d_Mo_count_4 : decode c_Mo_count 4 = .ok (.aload_n 0, 1) := by decide +kernel
theorem d_Mo_count_5 : decode c_Mo_count 5 = .ok (.iload_n 1, 1) := by decide +kernel
theorem d_Mo_count_6 : decode c_Mo_count 6 = .ok (.invokevirtual 176, 3) := by decide +kernel
theorem d_Mo_count_9 : decode c_Mo_count 9 = .ok (.ifCond .eq 26, 3) := by decide +kernel
theorem d_Mo_count_12 : decode c_Mo_count 12 = .ok (.iload_n 2, 1) := by decide +kernel
theorem d_Mo_count_13 : decode c_Mo_count 13 = .ok (.ifCond .lt 22, 3) := by decide +kernel
theorem d_Mo_count_16 : decode c_Mo_count 16 = .ok (.iload_n 2, 1) := by decide +kernel
theorem d_Mo_count_17 : decode c_Mo_count 17 = .ok (.iconst 3, 1) := by decide +kernel
theorem d_Mo_count_18 : decode c_Mo_count 18 = .ok (.if_icmp .ge 17, 3) := by decide +kernel
theorem d_Mo_count_21 : decode c_Mo_count 21 = .ok (.aload_n 0, 1) := by decide +kernel
theorem d_Mo_count_22 : decode c_Mo_count 22 = .ok (.aload_n 0, 1) := by decide +kernel
theorem d_Mo_count_23 : decode c_Mo_count 23 = .ok (.getfield 26, 3) := by decide +kernel
theorem d_Mo_count_26 : decode c_Mo_count 26 = .ok (.iload_n 1, 1) := by decide +kernel
theorem d_Mo_count_27 : decode c_Mo_count 27 = .ok (.iaload, 1) := by decide +kernel
theorem d_Mo_count_28 : decode c_Mo_count 28 = .ok (.iload_n 2, 1) := by decide +kernel
theorem d_Mo_count_29 : decode c_Mo_count 29 = .ok (.invokevirtual 83, 3) := by decide +kernel
theorem d_Mo_count_32 : decode c_Mo_count 32 = .ok (.goto 4, 3) := by decide +kernel
theorem d_Mo_count_35 : decode c_Mo_count 35 = .ok (.iconst (-1), 1) := by decide +kernel
theorem d_Mo_count_36 : decode c_Mo_count 36 = .ok (.ireturn, 1) := by decide +kernel
theorem d_Mo_gain_0 : decode c_Mo_gain 0 = .ok (.aload_n 0, 1) := by decide +kernel
theorem d_Mo_gain_1 : decode c_Mo_gain 1 = .ok (.invokevirtual 173, 3) := by decide +kernel
theorem d_Mo_gain_4 : decode c_Mo_gain 4 = .ok (.aload_n 0, 1) := by decide +kernel
theorem d_Mo_gain_5 : decode c_Mo_gain 5 = .ok (.iload_n 1, 1) := by decide +kernel
theorem d_Mo_gain_6 : decode c_Mo_gain 6 = .ok (.invokevirtual 176, 3) := by decide +kernel
theorem d_Mo_gain_9 : decode c_Mo_gain 9 = .ok (.ifCond .ne 5, 3) := by decide +kernel
theorem d_Mo_gain_12 : decode c_Mo_gain 12 = .ok (.iconst (-1), 1) := by decide +kernel
theorem d_Mo_gain_13 : decode c_Mo_gain 13 = .ok (.ireturn, 1) := by decide +kernel
theorem d_Mo_gain_14 : decode c_Mo_gain 14 = .ok (.iload_n 2, 1) := by decide +kernel
theorem d_Mo_gain_15 : decode c_Mo_gain 15 = .ok (.ifCond .lt 8, 3) := by decide +kernel
theorem d_Mo_gain_18 : decode c_Mo_gain 18 = .ok (.iload_n 2, 1) := by decide +kernel
theorem d_Mo_gain_19 : decode c_Mo_gain 19 = .ok (.iconst 1, 1) := by decide +kernel
theorem d_Mo_gain_20 : decode c_Mo_gain 20 = .ok (.if_icmp .le 6, 3) := by decide +kernel
theorem d_Mo_gain_23 : decode c_Mo_gain 23 = .ok (.bipush (-2), 2) := by decide +kernel
theorem d_Mo_gain_25 : decode c_Mo_gain 25 = .ok (.ireturn, 1) := by decide +kernel
theorem d_Mo_gain_26 : decode c_Mo_gain 26 = .ok (.aload_n 0, 1) := by decide +kernel
theorem d_Mo_gain_27 : decode c_Mo_gain 27 = .ok (.getfield 41, 3) := by decide +kernel
theorem d_Mo_gain_30 : decode c_Mo_gain 30 = .ok (.iload_n 1, 1) := by decide +kernel
theorem d_Mo_gain_31 : decode c_Mo_gain 31 = .ok (.iaload, 1) := by decide +kernel
theorem d_Mo_gain_32 : decode c_Mo_gain 32 = .ok (.ifCond .ge 8, 3) := by decide +kernel
theorem d_Mo_gain_35 : decode c_Mo_gain 35 = .ok (.bipush (-3), 2) := by decide +kernel
theorem d_Mo_gain_37 : decode c_Mo_gain 37 = .ok (.goto 19, 3) := by decide +kernel
theorem d_Mo_gain_40 : decode c_Mo_gain 40 = .ok (.aload_n 0, 1) := by decide +kernel
theorem d_Mo_gain_41 : decode c_Mo_gain 41 = .ok (.getfield 47, 3) := by decide +kernel
theorem d_Mo_gain_44 : decode c_Mo_gain 44 = .ok (.iload_n 1, 1) := by decide +kernel
theorem d_Mo_gain_45 : decode c_Mo_gain 45 = .ok (.laload, 1) := by decide +kernel
theorem d_Mo_gain_46 : decode c_Mo_gain 46 = .ok (.aload_n 0, 1) := by decide +kernel
theorem d_Mo_gain_47 : decode c_Mo_gain 47 = .ok (.getfield 51, 3) := by decide +kernel
theorem d_Mo_gain_50 : decode c_Mo_gain 50 = .ok (.iload_n 1, 1) := by decide +kernel
theorem d_Mo_gain_51 : decode c_Mo_gain 51 = .ok (.laload, 1) := by decide +kernel
theorem d_Mo_gain_52 : decode c_Mo_gain 52 = .ok (.iload_n 2, 1) := by decide +kernel
theorem d_Mo_gain_53 : decode c_Mo_gain 53 = .ok (.invokestatic 183, 3) := by decide +kernel
theorem d_Mo_gain_56 : decode c_Mo_gain 56 = .ok (.ireturn, 1) := by decide +kernel
theorem d_Mo_lowest_0 : decode c_Mo_lowest 0 = .ok (.lload_n 0, 1) := by decide +kernel
theorem d_Mo_lowest_1 : decode c_Mo_lowest 1 = .ok (.lload_n 2, 1) := by decide +kernel
theorem d_Mo_lowest_2 : decode c_Mo_lowest 2 = .ok (.invokestatic 179, 3) := by decide +kernel
theorem d_Mo_lowest_5 : decode c_Mo_lowest 5 = .ok (.lstore 5, 2) := by decide +kernel
theorem d_Mo_lowest_7 : decode c_Mo_lowest 7 = .ok (.iload 4, 2) := by decide +kernel
theorem d_Mo_lowest_9 : decode c_Mo_lowest 9 = .ok (.ifCond .ne 10, 3) := by decide +kernel
theorem d_Mo_lowest_12 : decode c_Mo_lowest 12 = .ok (.lload_n 0, 1) := by decide +kernel
theorem d_Mo_lowest_13 : decode c_Mo_lowest 13 = .ok (.lload 5, 2) := by decide +kernel
theorem d_Mo_lowest_15 : decode c_Mo_lowest 15 = .ok (.ldiv, 1) := by decide +kernel
theorem d_Mo_lowest_16 : decode c_Mo_lowest 16 = .ok (.goto 7, 3) := by decide +kernel
theorem d_Mo_lowest_19 : decode c_Mo_lowest 19 = .ok (.lload_n 2, 1) := by decide +kernel
theorem d_Mo_lowest_20 : decode c_Mo_lowest 20 = .ok (.lload 5, 2) := by decide +kernel
theorem d_Mo_lowest_22 : decode c_Mo_lowest 22 = .ok (.ldiv, 1) := by decide +kernel
theorem d_Mo_lowest_23 : decode c_Mo_lowest 23 = .ok (.l2i, 1) := by decide +kernel
theorem d_Mo_lowest_24 : decode c_Mo_lowest 24 = .ok (.ireturn, 1) := by decide +kernel
theorem d_Mo_common_0 : decode c_Mo_common 0 = .ok (.lload_n 0, 1) := by decide +kernel
theorem d_Mo_common_1 : decode c_Mo_common 1 = .ok (.lstore 4, 2) := by decide +kernel
theorem d_Mo_common_3 : decode c_Mo_common 3 = .ok (.lload_n 2, 1) := by decide +kernel
theorem d_Mo_common_4 : decode c_Mo_common 4 = .ok (.lstore 6, 2) := by decide +kernel
theorem d_Mo_common_6 : decode c_Mo_common 6 = .ok (.lload 6, 2) := by decide +kernel
theorem d_Mo_common_8 : decode c_Mo_common 8 = .ok (.lconst 0, 1) := by decide +kernel
theorem d_Mo_common_9 : decode c_Mo_common 9 = .ok (.lcmp, 1) := by decide +kernel
theorem d_Mo_common_10 : decode c_Mo_common 10 = .ok (.ifCond .eq 21, 3) := by decide +kernel
theorem d_Mo_common_13 : decode c_Mo_common 13 = .ok (.lload 4, 2) := by decide +kernel
theorem d_Mo_common_15 : decode c_Mo_common 15 = .ok (.lload 6, 2) := by decide +kernel
theorem d_Mo_common_17 : decode c_Mo_common 17 = .ok (.lrem, 1) := by decide +kernel
theorem d_Mo_common_18 : decode c_Mo_common 18 = .ok (.lstore 8, 2) := by decide +kernel
theorem d_Mo_common_20 : decode c_Mo_common 20 = .ok (.lload 6, 2) := by decide +kernel
theorem d_Mo_common_22 : decode c_Mo_common 22 = .ok (.lstore 4, 2) := by decide +kernel
theorem d_Mo_common_24 : decode c_Mo_common 24 = .ok (.lload 8, 2) := by decide +kernel
theorem d_Mo_common_26 : decode c_Mo_common 26 = .ok (.lstore 6, 2) := by decide +kernel
theorem d_Mo_common_28 : decode c_Mo_common 28 = .ok (.goto (-22), 3) := by decide +kernel
theorem d_Mo_common_31 : decode c_Mo_common 31 = .ok (.lload 4, 2) := by decide +kernel
theorem d_Mo_common_33 : decode c_Mo_common 33 = .ok (.lreturn, 1) := by decide +kernel
theorem d_Mo_leaf_0 : decode c_Mo_leaf 0 = .ok (.aload_n 0, 1) := by decide +kernel
theorem d_Mo_leaf_1 : decode c_Mo_leaf 1 = .ok (.iconst 0, 1) := by decide +kernel
theorem d_Mo_leaf_2 : decode c_Mo_leaf 2 = .ok (.iload_n 1, 1) := by decide +kernel
theorem d_Mo_leaf_3 : decode c_Mo_leaf 3 = .ok (.invokevirtual 72, 3) := by decide +kernel
theorem d_Mo_leaf_6 : decode c_Mo_leaf 6 = .ok (.ifCond .eq 31, 3) := by decide +kernel
theorem d_Mo_leaf_9 : decode c_Mo_leaf 9 = .ok (.aload_n 0, 1) := by decide +kernel
theorem d_Mo_leaf_10 : decode c_Mo_leaf 10 = .ok (.iconst 1, 1) := by decide +kernel
theorem d_Mo_leaf_11 : decode c_Mo_leaf 11 = .ok (.iload_n 2, 1) := by decide +kernel
theorem d_Mo_leaf_12 : decode c_Mo_leaf 12 = .ok (.invokevirtual 72, 3) := by decide +kernel
theorem d_Mo_leaf_15 : decode c_Mo_leaf 15 = .ok (.ifCond .eq 22, 3) := by decide +kernel
theorem d_Mo_leaf_18 : decode c_Mo_leaf 18 = .ok (.aload_n 0, 1) := by decide +kernel
theorem d_Mo_leaf_19 : decode c_Mo_leaf 19 = .ok (.iconst 2, 1) := by decide +kernel
theorem d_Mo_leaf_20 : decode c_Mo_leaf 20 = .ok (.iload_n 3, 1) := by decide +kernel
theorem d_Mo_leaf_21 : decode c_Mo_leaf 21 = .ok (.invokevirtual 72, 3) := by decide +kernel
theorem d_Mo_leaf_24 : decode c_Mo_leaf 24 = .ok (.ifCond .eq 13, 3) := by decide +kernel
theorem d_Mo_leaf_27 : decode c_Mo_leaf 27 = .ok (.aload_n 0, 1) := by decide +kernel
theorem d_Mo_leaf_28 : decode c_Mo_leaf 28 = .ok (.iconst 3, 1) := by decide +kernel
theorem d_Mo_leaf_29 : decode c_Mo_leaf 29 = .ok (.iload 4, 2) := by decide +kernel
theorem d_Mo_leaf_31 : decode c_Mo_leaf 31 = .ok (.invokevirtual 72, 3) := by decide +kernel
theorem d_Mo_leaf_34 : decode c_Mo_leaf 34 = .ok (.ifCond .ne 6, 3) := by decide +kernel
theorem d_Mo_leaf_37 : decode c_Mo_leaf 37 = .ok (.bipush (-2), 2) := by decide +kernel
theorem d_Mo_leaf_39 : decode c_Mo_leaf 39 = .ok (.ireturn, 1) := by decide +kernel
theorem d_Mo_leaf_40 : decode c_Mo_leaf 40 = .ok (.aload_n 0, 1) := by decide +kernel
theorem d_Mo_leaf_41 : decode c_Mo_leaf 41 = .ok (.invokevirtual 173, 3) := by decide +kernel
theorem d_Mo_leaf_44 : decode c_Mo_leaf 44 = .ok (.aload_n 0, 1) := by decide +kernel
theorem d_Mo_leaf_45 : decode c_Mo_leaf 45 = .ok (.getfield 54, 3) := by decide +kernel
theorem d_Mo_leaf_48 : decode c_Mo_leaf 48 = .ok (.iconst 0, 1) := by decide +kernel
theorem d_Mo_leaf_49 : decode c_Mo_leaf 49 = .ok (.iload_n 1, 1) := by decide +kernel
theorem d_Mo_leaf_50 : decode c_Mo_leaf 50 = .ok (.iastore, 1) := by decide +kernel
theorem d_Mo_leaf_51 : decode c_Mo_leaf 51 = .ok (.aload_n 0, 1) := by decide +kernel
theorem d_Mo_leaf_52 : decode c_Mo_leaf 52 = .ok (.getfield 54, 3) := by decide +kernel
theorem d_Mo_leaf_55 : decode c_Mo_leaf 55 = .ok (.iconst 1, 1) := by decide +kernel
theorem d_Mo_leaf_56 : decode c_Mo_leaf 56 = .ok (.iload_n 2, 1) := by decide +kernel
theorem d_Mo_leaf_57 : decode c_Mo_leaf 57 = .ok (.iastore, 1) := by decide +kernel
theorem d_Mo_leaf_58 : decode c_Mo_leaf 58 = .ok (.aload_n 0, 1) := by decide +kernel
theorem d_Mo_leaf_59 : decode c_Mo_leaf 59 = .ok (.getfield 54, 3) := by decide +kernel
theorem d_Mo_leaf_62 : decode c_Mo_leaf 62 = .ok (.iconst 2, 1) := by decide +kernel
theorem d_Mo_leaf_63 : decode c_Mo_leaf 63 = .ok (.iload_n 3, 1) := by decide +kernel
theorem d_Mo_leaf_64 : decode c_Mo_leaf 64 = .ok (.iastore, 1) := by decide +kernel
theorem d_Mo_leaf_65 : decode c_Mo_leaf 65 = .ok (.aload_n 0, 1) := by decide +kernel
theorem d_Mo_leaf_66 : decode c_Mo_leaf 66 = .ok (.getfield 54, 3) := by decide +kernel
theorem d_Mo_leaf_69 : decode c_Mo_leaf 69 = .ok (.iconst 3, 1) := by decide +kernel
theorem d_Mo_leaf_70 : decode c_Mo_leaf 70 = .ok (.iload 4, 2) := by decide +kernel
theorem d_Mo_leaf_72 : decode c_Mo_leaf 72 = .ok (.iastore, 1) := by decide +kernel
theorem d_Mo_leaf_73 : decode c_Mo_leaf 73 = .ok (.aload_n 0, 1) := by decide +kernel
theorem d_Mo_leaf_74 : decode c_Mo_leaf 74 = .ok (.invokevirtual 187, 3) := by decide +kernel
theorem d_Mo_leaf_77 : decode c_Mo_leaf 77 = .ok (.ireturn, 1) := by decide +kernel
theorem d_Mo_comesTo_0 : decode c_Mo_comesTo 0 = .ok (.iconst 0, 1) := by decide +kernel
theorem d_Mo_comesTo_1 : decode c_Mo_comesTo 1 = .ok (.istore_n 1, 1) := by decide +kernel
theorem d_Mo_comesTo_2 : decode c_Mo_comesTo 2 = .ok (.aload_n 0, 1) := by decide +kernel
theorem d_Mo_comesTo_3 : decode c_Mo_comesTo 3 = .ok (.getfield 41, 3) := by decide +kernel
theorem d_Mo_comesTo_6 : decode c_Mo_comesTo 6 = .ok (.iload_n 1, 1) := by decide +kernel
theorem d_Mo_comesTo_7 : decode c_Mo_comesTo 7 = .ok (.iaload, 1) := by decide +kernel
theorem d_Mo_comesTo_8 : decode c_Mo_comesTo 8 = .ok (.ifCond .lt 58, 3) := by decide +kernel
theorem d_Mo_comesTo_11 : decode c_Mo_comesTo 11 = .ok (.aload_n 0, 1) := by decide +kernel
theorem d_Mo_comesTo_12 : decode c_Mo_comesTo 12 = .ok (.aload_n 0, 1) := by decide +kernel
theorem d_Mo_comesTo_13 : decode c_Mo_comesTo 13 = .ok (.getfield 54, 3) := by decide +kernel
theorem d_Mo_comesTo_16 : decode c_Mo_comesTo 16 = .ok (.aload_n 0, 1) := by decide +kernel
theorem d_Mo_comesTo_17 : decode c_Mo_comesTo 17 = .ok (.getfield 32, 3) := by decide +kernel
theorem d_Mo_comesTo_20 : decode c_Mo_comesTo 20 = .ok (.iload_n 1, 1) := by decide +kernel
theorem d_Mo_comesTo_21 : decode c_Mo_comesTo 21 = .ok (.iaload, 1) := by decide +kernel
theorem d_Mo_comesTo_22 : decode c_Mo_comesTo 22 = .ok (.iaload, 1) := by decide +kernel
theorem d_Mo_comesTo_23 : decode c_Mo_comesTo 23 = .ok (.aload_n 0, 1) := by decide +kernel
theorem d_Mo_comesTo_24 : decode c_Mo_comesTo 24 = .ok (.getfield 32, 3) := by decide +kernel
theorem d_Mo_comesTo_27 : decode c_Mo_comesTo 27 = .ok (.iload_n 1, 1) := by decide +kernel
theorem d_Mo_comesTo_28 : decode c_Mo_comesTo 28 = .ok (.iaload, 1) := by decide +kernel
theorem d_Mo_comesTo_29 : decode c_Mo_comesTo 29 = .ok (.aload_n 0, 1) := by decide +kernel
theorem d_Mo_comesTo_30 : decode c_Mo_comesTo 30 = .ok (.getfield 35, 3) := by decide +kernel
theorem d_Mo_comesTo_33 : decode c_Mo_comesTo 33 = .ok (.iload_n 1, 1) := by decide +kernel
theorem d_Mo_comesTo_34 : decode c_Mo_comesTo 34 = .ok (.iaload, 1) := by decide +kernel
theorem d_Mo_comesTo_35 : decode c_Mo_comesTo 35 = .ok (.aload_n 0, 1) := by decide +kernel
theorem d_Mo_comesTo_36 : decode c_Mo_comesTo 36 = .ok (.getfield 38, 3) := by decide +kernel
theorem d_Mo_comesTo_39 : decode c_Mo_comesTo 39 = .ok (.iload_n 1, 1) := by decide +kernel
theorem d_Mo_comesTo_40 : decode c_Mo_comesTo 40 = .ok (.iaload, 1) := by decide +kernel
theorem d_Mo_comesTo_41 : decode c_Mo_comesTo 41 = .ok (.invokevirtual 94, 3) := by decide +kernel
theorem d_Mo_comesTo_44 : decode c_Mo_comesTo 44 = .ok (.ifCond .eq 12, 3) := by decide +kernel
theorem d_Mo_comesTo_47 : decode c_Mo_comesTo 47 = .ok (.aload_n 0, 1) := by decide +kernel
theorem d_Mo_comesTo_48 : decode c_Mo_comesTo 48 = .ok (.getfield 41, 3) := by decide +kernel
theorem d_Mo_comesTo_51 : decode c_Mo_comesTo 51 = .ok (.iload_n 1, 1) := by decide +kernel
theorem d_Mo_comesTo_52 : decode c_Mo_comesTo 52 = .ok (.iaload, 1) := by decide +kernel
theorem d_Mo_comesTo_53 : decode c_Mo_comesTo 53 = .ok (.goto 9, 3) := by decide +kernel
theorem d_Mo_comesTo_56 : decode c_Mo_comesTo 56 = .ok (.aload_n 0, 1) := by decide +kernel
theorem d_Mo_comesTo_57 : decode c_Mo_comesTo 57 = .ok (.getfield 44, 3) := by decide +kernel
theorem d_Mo_comesTo_60 : decode c_Mo_comesTo 60 = .ok (.iload_n 1, 1) := by decide +kernel
theorem d_Mo_comesTo_61 : decode c_Mo_comesTo 61 = .ok (.iaload, 1) := by decide +kernel
theorem d_Mo_comesTo_62 : decode c_Mo_comesTo 62 = .ok (.istore_n 1, 1) := by decide +kernel
theorem d_Mo_comesTo_63 : decode c_Mo_comesTo 63 = .ok (.goto (-61), 3) := by decide +kernel
theorem d_Mo_comesTo_66 : decode c_Mo_comesTo 66 = .ok (.iload_n 1, 1) := by decide +kernel
theorem d_Mo_comesTo_67 : decode c_Mo_comesTo 67 = .ok (.ireturn, 1) := by decide +kernel
theorem d_Mo_leafOf_0 : decode c_Mo_leafOf 0 = .ok (.iload_n 1, 1) := by decide +kernel
theorem d_Mo_leafOf_1 : decode c_Mo_leafOf 1 = .ok (.ifCond .lt 11, 3) := by decide +kernel
theorem d_Mo_leafOf_4 : decode c_Mo_leafOf 4 = .ok (.iload_n 1, 1) := by decide +kernel
theorem d_Mo_leafOf_5 : decode c_Mo_leafOf 5 = .ok (.aload_n 0, 1) := by decide +kernel
theorem d_Mo_leafOf_6 : decode c_Mo_leafOf 6 = .ok (.getfield 69, 3) := by decide +kernel
theorem d_Mo_leafOf_9 : decode c_Mo_leafOf 9 = .ok (.if_icmp .lt 5, 3) := by decide +kernel
theorem d_Mo_leafOf_12 : decode c_Mo_leafOf 12 = .ok (.iconst (-1), 1) := by decide +kernel
theorem d_Mo_leafOf_13 : decode c_Mo_leafOf 13 = .ok (.ireturn, 1) := by decide +kernel
theorem d_Mo_leafOf_14 : decode c_Mo_leafOf 14 = .ok (.aload_n 0, 1) := by decide +kernel
theorem d_Mo_leafOf_15 : decode c_Mo_leafOf 15 = .ok (.invokevirtual 173, 3) := by decide +kernel
theorem d_Mo_leafOf_18 : decode c_Mo_leafOf 18 = .ok (.aload_n 0, 1) := by decide +kernel
theorem d_Mo_leafOf_19 : decode c_Mo_leafOf 19 = .ok (.iload_n 1, 1) := by decide +kernel
theorem d_Mo_leafOf_20 : decode c_Mo_leafOf 20 = .ok (.invokevirtual 191, 3) := by decide +kernel
theorem d_Mo_leafOf_23 : decode c_Mo_leafOf 23 = .ok (.ireturn, 1) := by decide +kernel
theorem d_Mo_leafFor_0 : decode c_Mo_leafFor 0 = .ok (.iconst 0, 1) := by decide +kernel
theorem d_Mo_leafFor_1 : decode c_Mo_leafFor 1 = .ok (.istore_n 2, 1) := by decide +kernel
theorem d_Mo_leafFor_2 : decode c_Mo_leafFor 2 = .ok (.iload_n 2, 1) := by decide +kernel
theorem d_Mo_leafFor_3 : decode c_Mo_leafFor 3 = .ok (.iconst 4, 1) := by decide +kernel
theorem d_Mo_leafFor_4 : decode c_Mo_leafFor 4 = .ok (.if_icmp .ge 25, 3) := by decide +kernel
theorem d_Mo_leafFor_7 : decode c_Mo_leafFor 7 = .ok (.aload_n 0, 1) := by decide +kernel
theorem d_Mo_leafFor_8 : decode c_Mo_leafFor 8 = .ok (.getfield 54, 3) := by decide +kernel
theorem d_Mo_leafFor_11 : decode c_Mo_leafFor 11 = .ok (.iload_n 2, 1) := by decide +kernel
theorem d_Mo_leafFor_12 : decode c_Mo_leafFor 12 = .ok (.aload_n 0, 1) := by decide +kernel
theorem d_Mo_leafFor_13 : decode c_Mo_leafFor 13 = .ok (.getfield 13, 3) := by decide +kernel
theorem d_Mo_leafFor_16 : decode c_Mo_leafFor 16 = .ok (.iconst 4, 1) := by decide +kernel
theorem d_Mo_leafFor_17 : decode c_Mo_leafFor 17 = .ok (.iload_n 1, 1) := by decide +kernel
theorem d_Mo_leafFor_18 : decode c_Mo_leafFor 18 = .ok (.imul, 1) := by decide +kernel
theorem d_Mo_leafFor_19 : decode c_Mo_leafFor 19 = .ok (.iload_n 2, 1) := by decide +kernel
theorem d_Mo_leafFor_20 : decode c_Mo_leafFor 20 = .ok (.iadd, 1) := by decide +kernel
theorem d_Mo_leafFor_21 : decode c_Mo_leafFor 21 = .ok (.iaload, 1) := by decide +kernel
theorem d_Mo_leafFor_22 : decode c_Mo_leafFor 22 = .ok (.iastore, 1) := by decide +kernel
theorem d_Mo_leafFor_23 : decode c_Mo_leafFor 23 = .ok (.iinc 2 1, 3) := by decide +kernel
theorem d_Mo_leafFor_26 : decode c_Mo_leafFor 26 = .ok (.goto (-24), 3) := by decide +kernel
theorem d_Mo_leafFor_29 : decode c_Mo_leafFor 29 = .ok (.aload_n 0, 1) := by decide +kernel
theorem d_Mo_leafFor_30 : decode c_Mo_leafFor 30 = .ok (.invokevirtual 187, 3) := by decide +kernel
theorem d_Mo_leafFor_33 : decode c_Mo_leafFor 33 = .ok (.ireturn, 1) := by decide +kernel
theorem d_Mo_cuts_0 : decode c_Mo_cuts 0 = .ok (.iconst 0, 1) := by decide +kernel
theorem d_Mo_cuts_1 : decode c_Mo_cuts 1 = .ok (.istore_n 1, 1) := by decide +kernel
theorem d_Mo_cuts_2 : decode c_Mo_cuts 2 = .ok (.iconst 0, 1) := by decide +kernel
theorem d_Mo_cuts_3 : decode c_Mo_cuts 3 = .ok (.istore_n 2, 1) := by decide +kernel
theorem d_Mo_cuts_4 : decode c_Mo_cuts 4 = .ok (.iload_n 2, 1) := by decide +kernel
theorem d_Mo_cuts_5 : decode c_Mo_cuts 5 = .ok (.iconst 4, 1) := by decide +kernel
theorem d_Mo_cuts_6 : decode c_Mo_cuts 6 = .ok (.if_icmp .ge 65, 3) := by decide +kernel
theorem d_Mo_cuts_9 : decode c_Mo_cuts 9 = .ok (.iconst 0, 1) := by decide +kernel
theorem d_Mo_cuts_10 : decode c_Mo_cuts 10 = .ok (.istore_n 3, 1) := by decide +kernel
theorem d_Mo_cuts_11 : decode c_Mo_cuts 11 = .ok (.iload_n 3, 1) := by decide +kernel
theorem d_Mo_cuts_12 : decode c_Mo_cuts 12 = .ok (.bipush 100, 2) := by decide +kernel
theorem d_Mo_cuts_14 : decode c_Mo_cuts 14 = .ok (.if_icmp .ge 51, 3) := by decide +kernel
theorem d_Mo_cuts_17 : decode c_Mo_cuts 17 = .ok (.iconst 0, 1) := by decide +kernel
theorem d_Mo_cuts_18 : decode c_Mo_cuts 18 = .ok (.istore 4, 2) := by decide +kernel
theorem d_Mo_cuts_20 : decode c_Mo_cuts 20 = .ok (.iload 4, 2) := by decide +kernel
theorem d_Mo_cuts_22 : decode c_Mo_cuts 22 = .ok (.iconst 2, 1) := by decide +kernel
theorem d_Mo_cuts_23 : decode c_Mo_cuts 23 = .ok (.if_icmp .ge 36, 3) := by decide +kernel
theorem d_Mo_cuts_26 : decode c_Mo_cuts 26 = .ok (.iload_n 1, 1) := by decide +kernel
theorem d_Mo_cuts_27 : decode c_Mo_cuts 27 = .ok (.aload_n 0, 1) := by decide +kernel
theorem d_Mo_cuts_28 : decode c_Mo_cuts 28 = .ok (.iconst 1, 1) := by decide +kernel
theorem d_Mo_cuts_29 : decode c_Mo_cuts 29 = .ok (.aload_n 0, 1) := by decide +kernel
theorem d_Mo_cuts_30 : decode c_Mo_cuts 30 = .ok (.getfield 69, 3) := by decide +kernel
theorem d_Mo_cuts_33 : decode c_Mo_cuts 33 = .ok (.ishl, 1) := by decide +kernel
theorem d_Mo_cuts_34 : decode c_Mo_cuts 34 = .ok (.iconst 1, 1) := by decide +kernel
theorem d_Mo_cuts_35 : decode c_Mo_cuts 35 = .ok (.isub, 1) := by decide +kernel
theorem d_Mo_cuts_36 : decode c_Mo_cuts 36 = .ok (.iload_n 2, 1) := by decide +kernel
theorem d_Mo_cuts_37 : decode c_Mo_cuts 37 = .ok (.iload_n 3, 1) := by decide +kernel
theorem d_Mo_cuts_38 : decode c_Mo_cuts 38 = .ok (.iload 4, 2) := by decide +kernel
theorem d_Mo_cuts_40 : decode c_Mo_cuts 40 = .ok (.invokevirtual 129, 3) := by decide +kernel
theorem d_Mo_cuts_43 : decode c_Mo_cuts 43 = .ok (.ifCond .eq 7, 3) := by decide +kernel
theorem d_Mo_cuts_46 : decode c_Mo_cuts 46 = .ok (.iconst 1, 1) := by decide +kernel
theorem d_Mo_cuts_47 : decode c_Mo_cuts 47 = .ok (.goto 4, 3) := by decide +kernel
theorem d_Mo_cuts_50 : decode c_Mo_cuts 50 = .ok (.iconst 0, 1) := by decide +kernel
theorem d_Mo_cuts_51 : decode c_Mo_cuts 51 = .ok (.iadd, 1) := by decide +kernel
theorem d_Mo_cuts_52 : decode c_Mo_cuts 52 = .ok (.istore_n 1, 1) := by decide +kernel
theorem d_Mo_cuts_53 : decode c_Mo_cuts 53 = .ok (.iinc 4 1, 3) := by decide +kernel
theorem d_Mo_cuts_56 : decode c_Mo_cuts 56 = .ok (.goto (-36), 3) := by decide +kernel
theorem d_Mo_cuts_59 : decode c_Mo_cuts 59 = .ok (.iinc 3 1, 3) := by decide +kernel
theorem d_Mo_cuts_62 : decode c_Mo_cuts 62 = .ok (.goto (-51), 3) := by decide +kernel
theorem d_Mo_cuts_65 : decode c_Mo_cuts 65 = .ok (.iinc 2 1, 3) := by decide +kernel
theorem d_Mo_cuts_68 : decode c_Mo_cuts 68 = .ok (.goto (-64), 3) := by decide +kernel
theorem d_Mo_cuts_71 : decode c_Mo_cuts 71 = .ok (.iload_n 1, 1) := by decide +kernel
theorem d_Mo_cuts_72 : decode c_Mo_cuts 72 = .ok (.ireturn, 1) := by decide +kernel
theorem d_Mo_cutGain_0 : decode c_Mo_cutGain 0 = .ok (.iload_n 1, 1) := by decide +kernel
theorem d_Mo_cutGain_1 : decode c_Mo_cutGain 1 = .ok (.ifCond .lt 8, 3) := by decide +kernel
theorem d_Mo_cutGain_4 : decode c_Mo_cutGain 4 = .ok (.iload_n 1, 1) := by decide +kernel
theorem d_Mo_cutGain_5 : decode c_Mo_cutGain 5 = .ok (.iconst 3, 1) := by decide +kernel
theorem d_Mo_cutGain_6 : decode c_Mo_cutGain 6 = .ok (.if_icmp .le 5, 3) := by decide +kernel
theorem d_Mo_cutGain_9 : decode c_Mo_cutGain 9 = .ok (.iconst (-1), 1) := by decide +kernel
theorem d_Mo_cutGain_10 : decode c_Mo_cutGain 10 = .ok (.ireturn, 1) := by decide +kernel
theorem d_Mo_cutGain_11 : decode c_Mo_cutGain 11 = .ok (.iload_n 3, 1) := by decide +kernel
theorem d_Mo_cutGain_12 : decode c_Mo_cutGain 12 = .ok (.ifCond .lt 19, 3) := by decide +kernel
theorem d_Mo_cutGain_15 : decode c_Mo_cutGain 15 = .ok (.iload_n 3, 1) := by decide +kernel
theorem d_Mo_cutGain_16 : decode c_Mo_cutGain 16 = .ok (.iconst 1, 1) := by decide +kernel
theorem d_Mo_cutGain_17 : decode c_Mo_cutGain 17 = .ok (.if_icmp .gt 14, 3) := by decide +kernel
theorem d_Mo_cutGain_20 : decode c_Mo_cutGain 20 = .ok (.iload 4, 2) := by decide +kernel
theorem d_Mo_cutGain_22 : decode c_Mo_cutGain 22 = .ok (.ifCond .lt 9, 3) := by decide +kernel
theorem d_Mo_cutGain_25 : decode c_Mo_cutGain 25 = .ok (.iload 4, 2) := by decide +kernel
theorem d_Mo_cutGain_27 : decode c_Mo_cutGain 27 = .ok (.iconst 1, 1) := by decide +kernel
theorem d_Mo_cutGain_28 : decode c_Mo_cutGain 28 = .ok (.if_icmp .le 6, 3) := by decide +kernel
theorem d_Mo_cutGain_31 : decode c_Mo_cutGain 31 = .ok (.bipush (-2), 2) := by decide +kernel
theorem d_Mo_cutGain_33 : decode c_Mo_cutGain 33 = .ok (.ireturn, 1) := by decide +kernel
theorem d_Mo_cutGain_34 : decode c_Mo_cutGain 34 = .ok (.aload_n 0, 1) := by decide +kernel
theorem d_Mo_cutGain_35 : decode c_Mo_cutGain 35 = .ok (.iconst 1, 1) := by decide +kernel
theorem d_Mo_cutGain_36 : decode c_Mo_cutGain 36 = .ok (.aload_n 0, 1) := by decide +kernel
theorem d_Mo_cutGain_37 : decode c_Mo_cutGain 37 = .ok (.getfield 69, 3) := by decide +kernel
theorem d_Mo_cutGain_40 : decode c_Mo_cutGain 40 = .ok (.ishl, 1) := by decide +kernel
theorem d_Mo_cutGain_41 : decode c_Mo_cutGain 41 = .ok (.iconst 1, 1) := by decide +kernel
theorem d_Mo_cutGain_42 : decode c_Mo_cutGain 42 = .ok (.isub, 1) := by decide +kernel
theorem d_Mo_cutGain_43 : decode c_Mo_cutGain 43 = .ok (.iload_n 1, 1) := by decide +kernel
theorem d_Mo_cutGain_44 : decode c_Mo_cutGain 44 = .ok (.iload_n 2, 1) := by decide +kernel
theorem d_Mo_cutGain_45 : decode c_Mo_cutGain 45 = .ok (.iload_n 3, 1) := by decide +kernel
theorem d_Mo_cutGain_46 : decode c_Mo_cutGain 46 = .ok (.invokevirtual 129, 3) := by decide +kernel
theorem d_Mo_cutGain_49 : decode c_Mo_cutGain 49 = .ok (.ifCond .eq 19, 3) := by decide +kernel
theorem d_Mo_cutGain_52 : decode c_Mo_cutGain 52 = .ok (.aload_n 0, 1) := by decide +kernel
theorem d_Mo_cutGain_53 : decode c_Mo_cutGain 53 = .ok (.getfield 122, 3) := by decide +kernel
theorem d_Mo_cutGain_56 : decode c_Mo_cutGain 56 = .ok (.aload_n 0, 1) := by decide +kernel
theorem d_Mo_cutGain_57 : decode c_Mo_cutGain 57 = .ok (.getfield 126, 3) := by decide +kernel
theorem d_Mo_cutGain_60 : decode c_Mo_cutGain 60 = .ok (.iload 4, 2) := by decide +kernel
theorem d_Mo_cutGain_62 : decode c_Mo_cutGain 62 = .ok (.invokestatic 183, 3) := by decide +kernel
theorem d_Mo_cutGain_65 : decode c_Mo_cutGain 65 = .ok (.goto 5, 3) := by decide +kernel
theorem d_Mo_cutGain_68 : decode c_Mo_cutGain 68 = .ok (.bipush (-3), 2) := by decide +kernel
theorem d_Mo_cutGain_70 : decode c_Mo_cutGain 70 = .ok (.ireturn, 1) := by decide +kernel
theorem d_Mo_stages_0 : decode c_Mo_stages 0 = .ok (.aload_n 0, 1) := by decide +kernel
theorem d_Mo_stages_1 : decode c_Mo_stages 1 = .ok (.invokevirtual 173, 3) := by decide +kernel
theorem d_Mo_stages_4 : decode c_Mo_stages 4 = .ok (.aload_n 0, 1) := by decide +kernel
theorem d_Mo_stages_5 : decode c_Mo_stages 5 = .ok (.getfield 200, 3) := by decide +kernel
theorem d_Mo_stages_8 : decode c_Mo_stages 8 = .ok (.ireturn, 1) := by decide +kernel
theorem d_Mo_alpha_0 : decode c_Mo_alpha 0 = .ok (.aload_n 0, 1) := by decide +kernel
theorem d_Mo_alpha_1 : decode c_Mo_alpha 1 = .ok (.invokevirtual 173, 3) := by decide +kernel
theorem d_Mo_alpha_4 : decode c_Mo_alpha 4 = .ok (.aload_n 0, 1) := by decide +kernel
theorem d_Mo_alpha_5 : decode c_Mo_alpha 5 = .ok (.iload_n 1, 1) := by decide +kernel
theorem d_Mo_alpha_6 : decode c_Mo_alpha 6 = .ok (.invokevirtual 211, 3) := by decide +kernel
theorem d_Mo_alpha_9 : decode c_Mo_alpha 9 = .ok (.ifCond .ne 5, 3) := by decide +kernel
theorem d_Mo_alpha_12 : decode c_Mo_alpha 12 = .ok (.iconst (-1), 1) := by decide +kernel
theorem d_Mo_alpha_13 : decode c_Mo_alpha 13 = .ok (.ireturn, 1) := by decide +kernel
theorem d_Mo_alpha_14 : decode c_Mo_alpha 14 = .ok (.iload_n 2, 1) := by decide +kernel
theorem d_Mo_alpha_15 : decode c_Mo_alpha 15 = .ok (.ifCond .lt 8, 3) := by decide +kernel
theorem d_Mo_alpha_18 : decode c_Mo_alpha 18 = .ok (.iload_n 2, 1) := by decide +kernel
theorem d_Mo_alpha_19 : decode c_Mo_alpha 19 = .ok (.iconst 1, 1) := by decide +kernel
theorem d_Mo_alpha_20 : decode c_Mo_alpha 20 = .ok (.if_icmp .le 8, 3) := by decide +kernel
theorem d_Mo_alpha_23 : decode c_Mo_alpha 23 = .ok (.bipush (-2), 2) := by decide +kernel
theorem d_Mo_alpha_25 : decode c_Mo_alpha 25 = .ok (.goto 19, 3) := by decide +kernel
theorem d_Mo_alpha_28 : decode c_Mo_alpha 28 = .ok (.aload_n 0, 1) := by decide +kernel
theorem d_Mo_alpha_29 : decode c_Mo_alpha 29 = .ok (.getfield 60, 3) := by decide +kernel
theorem d_Mo_alpha_32 : decode c_Mo_alpha 32 = .ok (.iload_n 1, 1) := by decide +kernel
theorem d_Mo_alpha_33 : decode c_Mo_alpha 33 = .ok (.laload, 1) := by decide +kernel
theorem d_Mo_alpha_34 : decode c_Mo_alpha 34 = .ok (.aload_n 0, 1) := by decide +kernel
theorem d_Mo_alpha_35 : decode c_Mo_alpha 35 = .ok (.getfield 63, 3) := by decide +kernel
theorem d_Mo_alpha_38 : decode c_Mo_alpha 38 = .ok (.iload_n 1, 1) := by decide +kernel
theorem d_Mo_alpha_39 : decode c_Mo_alpha 39 = .ok (.laload, 1) := by decide +kernel
theorem d_Mo_alpha_40 : decode c_Mo_alpha 40 = .ok (.iload_n 2, 1) := by decide +kernel
theorem d_Mo_alpha_41 : decode c_Mo_alpha 41 = .ok (.invokestatic 183, 3) := by decide +kernel
theorem d_Mo_alpha_44 : decode c_Mo_alpha 44 = .ok (.ireturn, 1) := by decide +kernel
theorem d_Mo_isStage_0 : decode c_Mo_isStage 0 = .ok (.iload_n 1, 1) := by decide +kernel
theorem d_Mo_isStage_1 : decode c_Mo_isStage 1 = .ok (.ifCond .lt 15, 3) := by decide +kernel
theorem d_Mo_isStage_4 : decode c_Mo_isStage 4 = .ok (.iload_n 1, 1) := by decide +kernel
theorem d_Mo_isStage_5 : decode c_Mo_isStage 5 = .ok (.aload_n 0, 1) := by decide +kernel
theorem d_Mo_isStage_6 : decode c_Mo_isStage 6 = .ok (.getfield 200, 3) := by decide +kernel
theorem d_Mo_isStage_9 : decode c_Mo_isStage 9 = .ok (.if_icmp .ge 7, 3) := by decide +kernel
theorem d_Mo_isStage_12 : decode c_Mo_isStage 12 = .ok (.iconst 1, 1) := by decide +kernel
theorem d_Mo_isStage_13 : decode c_Mo_isStage 13 = .ok (.goto 4, 3) := by decide +kernel
theorem d_Mo_isStage_16 : decode c_Mo_isStage 16 = .ok (.iconst 0, 1) := by decide +kernel
theorem d_Mo_isStage_17 : decode c_Mo_isStage 17 = .ok (.ireturn, 1) := by decide +kernel
theorem d_Mo_leaves_0 : decode c_Mo_leaves 0 = .ok (.aload_n 0, 1) := by decide +kernel
theorem d_Mo_leaves_1 : decode c_Mo_leaves 1 = .ok (.invokevirtual 173, 3) := by decide +kernel
theorem d_Mo_leaves_4 : decode c_Mo_leaves 4 = .ok (.aload_n 0, 1) := by decide +kernel
theorem d_Mo_leaves_5 : decode c_Mo_leaves 5 = .ok (.iload_n 1, 1) := by decide +kernel
theorem d_Mo_leaves_6 : decode c_Mo_leaves 6 = .ok (.invokevirtual 211, 3) := by decide +kernel
theorem d_Mo_leaves_9 : decode c_Mo_leaves 9 = .ok (.ifCond .ne 5, 3) := by decide +kernel
theorem d_Mo_leaves_12 : decode c_Mo_leaves 12 = .ok (.iconst (-1), 1) := by decide +kernel
theorem d_Mo_leaves_13 : decode c_Mo_leaves 13 = .ok (.ireturn, 1) := by decide +kernel
theorem d_Mo_leaves_14 : decode c_Mo_leaves 14 = .ok (.aload_n 0, 1) := by decide +kernel
theorem d_Mo_leaves_15 : decode c_Mo_leaves 15 = .ok (.iload_n 1, 1) := by decide +kernel
theorem d_Mo_leaves_16 : decode c_Mo_leaves 16 = .ok (.iconst 0, 1) := by decide +kernel
theorem d_Mo_leaves_17 : decode c_Mo_leaves 17 = .ok (.invokevirtual 208, 3) := by decide +kernel
theorem d_Mo_leaves_20 : decode c_Mo_leaves 20 = .ok (.aload_n 0, 1) := by decide +kernel
theorem d_Mo_leaves_21 : decode c_Mo_leaves 21 = .ok (.getfield 194, 3) := by decide +kernel
theorem d_Mo_leaves_24 : decode c_Mo_leaves 24 = .ok (.ireturn, 1) := by decide +kernel
theorem d_Mo_wrong_0 : decode c_Mo_wrong 0 = .ok (.aload_n 0, 1) := by decide +kernel
theorem d_Mo_wrong_1 : decode c_Mo_wrong 1 = .ok (.invokevirtual 173, 3) := by decide +kernel
theorem d_Mo_wrong_4 : decode c_Mo_wrong 4 = .ok (.aload_n 0, 1) := by decide +kernel
theorem d_Mo_wrong_5 : decode c_Mo_wrong 5 = .ok (.iload_n 1, 1) := by decide +kernel
theorem d_Mo_wrong_6 : decode c_Mo_wrong 6 = .ok (.invokevirtual 211, 3) := by decide +kernel
theorem d_Mo_wrong_9 : decode c_Mo_wrong 9 = .ok (.ifCond .ne 5, 3) := by decide +kernel
theorem d_Mo_wrong_12 : decode c_Mo_wrong 12 = .ok (.iconst (-1), 1) := by decide +kernel
theorem d_Mo_wrong_13 : decode c_Mo_wrong 13 = .ok (.ireturn, 1) := by decide +kernel
theorem d_Mo_wrong_14 : decode c_Mo_wrong 14 = .ok (.aload_n 0, 1) := by decide +kernel
theorem d_Mo_wrong_15 : decode c_Mo_wrong 15 = .ok (.iload_n 1, 1) := by decide +kernel
theorem d_Mo_wrong_16 : decode c_Mo_wrong 16 = .ok (.iconst 0, 1) := by decide +kernel
theorem d_Mo_wrong_17 : decode c_Mo_wrong 17 = .ok (.invokevirtual 208, 3) := by decide +kernel
theorem d_Mo_wrong_20 : decode c_Mo_wrong 20 = .ok (.aload_n 0, 1) := by decide +kernel
theorem d_Mo_wrong_21 : decode c_Mo_wrong 21 = .ok (.getfield 197, 3) := by decide +kernel
theorem d_Mo_wrong_24 : decode c_Mo_wrong 24 = .ok (.ireturn, 1) := by decide +kernel
theorem d_Mo_state_0 : decode c_Mo_state 0 = .ok (.aload_n 0, 1) := by decide +kernel
theorem d_Mo_state_1 : decode c_Mo_state 1 = .ok (.invokevirtual 173, 3) := by decide +kernel
theorem d_Mo_state_4 : decode c_Mo_state 4 = .ok (.aload_n 0, 1) := by decide +kernel
theorem d_Mo_state_5 : decode c_Mo_state 5 = .ok (.iload_n 1, 1) := by decide +kernel
theorem d_Mo_state_6 : decode c_Mo_state 6 = .ok (.invokevirtual 211, 3) := by decide +kernel
theorem d_Mo_state_9 : decode c_Mo_state 9 = .ok (.ifCond .eq 25, 3) := by decide +kernel
theorem d_Mo_state_12 : decode c_Mo_state 12 = .ok (.aload_n 0, 1) := by decide +kernel
theorem d_Mo_state_13 : decode c_Mo_state 13 = .ok (.iload_n 2, 1) := by decide +kernel
theorem d_Mo_state_14 : decode c_Mo_state 14 = .ok (.invokevirtual 176, 3) := by decide +kernel
theorem d_Mo_state_17 : decode c_Mo_state 17 = .ok (.ifCond .eq 17, 3) := by decide +kernel
theorem d_Mo_state_20 : decode c_Mo_state 20 = .ok (.aload_n 0, 1) := by decide +kernel
theorem d_Mo_state_21 : decode c_Mo_state 21 = .ok (.getfield 57, 3) := by decide +kernel
theorem d_Mo_state_24 : decode c_Mo_state 24 = .ok (.bipush 64, 2) := by decide +kernel
theorem d_Mo_state_26 : decode c_Mo_state 26 = .ok (.iload_n 1, 1) := by decide +kernel
theorem d_Mo_state_27 : decode c_Mo_state 27 = .ok (.imul, 1) := by decide +kernel
theorem d_Mo_state_28 : decode c_Mo_state 28 = .ok (.iload_n 2, 1) := by decide +kernel
theorem d_Mo_state_29 : decode c_Mo_state 29 = .ok (.iadd, 1) := by decide +kernel
theorem d_Mo_state_30 : decode c_Mo_state 30 = .ok (.iaload, 1) := by decide +kernel
theorem d_Mo_state_31 : decode c_Mo_state 31 = .ok (.goto 4, 3) := by decide +kernel
theorem d_Mo_state_34 : decode c_Mo_state 34 = .ok (.iconst (-1), 1) := by decide +kernel
theorem d_Mo_state_35 : decode c_Mo_state 35 = .ok (.ireturn, 1) := by decide +kernel
theorem d_Mo_leftOut_0 : decode c_Mo_leftOut 0 = .ok (.iconst 0, 1) := by decide +kernel
theorem d_Mo_leftOut_1 : decode c_Mo_leftOut 1 = .ok (.istore_n 1, 1) := by decide +kernel
theorem d_Mo_leftOut_2 : decode c_Mo_leftOut 2 = .ok (.iconst 0, 1) := by decide +kernel
theorem d_Mo_leftOut_3 : decode c_Mo_leftOut 3 = .ok (.istore_n 2, 1) := by decide +kernel
theorem d_Mo_leftOut_4 : decode c_Mo_leftOut 4 = .ok (.iload_n 2, 1) := by decide +kernel
theorem d_Mo_leftOut_5 : decode c_Mo_leftOut 5 = .ok (.aload_n 0, 1) := by decide +kernel
theorem d_Mo_leftOut_6 : decode c_Mo_leftOut 6 = .ok (.getfield 69, 3) := by decide +kernel
theorem d_Mo_leftOut_9 : decode c_Mo_leftOut 9 = .ok (.if_icmp .ge 58, 3) := by decide +kernel
theorem d_Mo_leftOut_12 : decode c_Mo_leftOut 12 = .ok (.aload_n 0, 1) := by decide +kernel
theorem d_Mo_leftOut_13 : decode c_Mo_leftOut 13 = .ok (.iconst 1, 1) := by decide +kernel
theorem d_Mo_leftOut_14 : decode c_Mo_leftOut 14 = .ok (.aload_n 0, 1) := by decide +kernel
theorem d_Mo_leftOut_15 : decode c_Mo_leftOut 15 = .ok (.getfield 69, 3) := by decide +kernel
theorem d_Mo_leftOut_18 : decode c_Mo_leftOut 18 = .ok (.ishl, 1) := by decide +kernel
theorem d_Mo_leftOut_19 : decode c_Mo_leftOut 19 = .ok (.iconst 1, 1) := by decide +kernel
theorem d_Mo_leftOut_20 : decode c_Mo_leftOut 20 = .ok (.isub, 1) := by decide +kernel
theorem d_Mo_leftOut_21 : decode c_Mo_leftOut 21 = .ok (.iconst 1, 1) := by decide +kernel
theorem d_Mo_leftOut_22 : decode c_Mo_leftOut 22 = .ok (.iload_n 2, 1) := by decide +kernel
theorem d_Mo_leftOut_23 : decode c_Mo_leftOut 23 = .ok (.ishl, 1) := by decide +kernel
theorem d_Mo_leftOut_24 : decode c_Mo_leftOut 24 = .ok (.iconst (-1), 1) := by decide +kernel
theorem d_Mo_leftOut_25 : decode c_Mo_leftOut 25 = .ok (.ixor, 1) := by decide +kernel
theorem d_Mo_leftOut_26 : decode c_Mo_leftOut 26 = .ok (.iand, 1) := by decide +kernel
theorem d_Mo_leftOut_27 : decode c_Mo_leftOut 27 = .ok (.invokevirtual 166, 3) := by decide +kernel
theorem d_Mo_leftOut_30 : decode c_Mo_leftOut 30 = .ok (.iload_n 1, 1) := by decide +kernel
theorem d_Mo_leftOut_31 : decode c_Mo_leftOut 31 = .ok (.aload_n 0, 1) := by decide +kernel
theorem d_Mo_leftOut_32 : decode c_Mo_leftOut 32 = .ok (.aload_n 0, 1) := by decide +kernel
theorem d_Mo_leftOut_33 : decode c_Mo_leftOut 33 = .ok (.getfield 26, 3) := by decide +kernel
theorem d_Mo_leftOut_36 : decode c_Mo_leftOut 36 = .ok (.aload_n 0, 1) := by decide +kernel
theorem d_Mo_leftOut_37 : decode c_Mo_leftOut 37 = .ok (.iload_n 2, 1) := by decide +kernel
theorem d_Mo_leftOut_38 : decode c_Mo_leftOut 38 = .ok (.invokevirtual 191, 3) := by decide +kernel
theorem d_Mo_leftOut_41 : decode c_Mo_leftOut 41 = .ok (.iaload, 1) := by decide +kernel
theorem d_Mo_leftOut_42 : decode c_Mo_leftOut 42 = .ok (.invokevirtual 91, 3) := by decide +kernel
theorem d_Mo_leftOut_45 : decode c_Mo_leftOut 45 = .ok (.aload_n 0, 1) := by decide +kernel
theorem d_Mo_leftOut_46 : decode c_Mo_leftOut 46 = .ok (.getfield 16, 3) := by decide +kernel
theorem d_Mo_leftOut_49 : decode c_Mo_leftOut 49 = .ok (.iload_n 2, 1) := by decide +kernel
theorem d_Mo_leftOut_50 : decode c_Mo_leftOut 50 = .ok (.iaload, 1) := by decide +kernel
theorem d_Mo_leftOut_51 : decode c_Mo_leftOut 51 = .ok (.if_icmp .eq 7, 3) := by decide +kernel
theorem d_Mo_leftOut_54 : decode c_Mo_leftOut 54 = .ok (.iconst 1, 1) := by decide +kernel
theorem d_Mo_leftOut_55 : decode c_Mo_leftOut 55 = .ok (.goto 4, 3) := by decide +kernel
theorem d_Mo_leftOut_58 : decode c_Mo_leftOut 58 = .ok (.iconst 0, 1) := by decide +kernel
theorem d_Mo_leftOut_59 : decode c_Mo_leftOut 59 = .ok (.iadd, 1) := by decide +kernel
theorem d_Mo_leftOut_60 : decode c_Mo_leftOut 60 = .ok (.istore_n 1, 1) := by decide +kernel
theorem d_Mo_leftOut_61 : decode c_Mo_leftOut 61 = .ok (.iinc 2 1, 3) := by decide +kernel
theorem d_Mo_leftOut_64 : decode c_Mo_leftOut 64 = .ok (.goto (-60), 3) := by decide +kernel
theorem d_Mo_leftOut_67 : decode c_Mo_leftOut 67 = .ok (.aload_n 0, 1) := by decide +kernel
theorem d_Mo_leftOut_68 : decode c_Mo_leftOut 68 = .ok (.iconst 0, 1) := by decide +kernel
theorem d_Mo_leftOut_69 : decode c_Mo_leftOut 69 = .ok (.putfield 76, 3) := by decide +kernel
theorem d_Mo_leftOut_72 : decode c_Mo_leftOut 72 = .ok (.iload_n 1, 1) := by decide +kernel
theorem d_Mo_leftOut_73 : decode c_Mo_leftOut 73 = .ok (.ireturn, 1) := by decide +kernel
end
section
theorem d_Law_law_0 : decode c_Law_law 0 = .ok (.new 7, 3) := by decide +kernel
theorem d_Law_law_3 : decode c_Law_law 3 = .ok (.dup, 1) := by decide +kernel
theorem d_Law_law_4 : decode c_Law_law 4 = .ok (.invokespecial 9, 3) := by decide +kernel
theorem d_Law_law_7 : decode c_Law_law 7 = .ok (.astore_n 1, 1) := by decide +kernel
theorem d_Law_law_8 : decode c_Law_law 8 = .ok (.new 10, 3) := by decide +kernel
theorem d_Law_law_11 : decode c_Law_law 11 = .ok (.dup, 1) := by decide +kernel
theorem d_Law_law_12 : decode c_Law_law 12 = .ok (.invokespecial 12, 3) := by decide +kernel
theorem d_Law_law_15 : decode c_Law_law 15 = .ok (.astore_n 2, 1) := by decide +kernel
theorem d_Law_law_16 : decode c_Law_law 16 = .ok (.iconst 0, 1) := by decide +kernel
theorem d_Law_law_17 : decode c_Law_law 17 = .ok (.istore_n 3, 1) := by decide +kernel
theorem d_Law_law_18 : decode c_Law_law 18 = .ok (.iload_n 3, 1) := by decide +kernel
theorem d_Law_law_19 : decode c_Law_law 19 = .ok (.aload_n 0, 1) := by decide +kernel
theorem d_Law_law_20 : decode c_Law_law 20 = .ok (.arraylength, 1) := by decide +kernel
theorem d_Law_law_21 : decode c_Law_law 21 = .ok (.bipush 6, 2) := by decide +kernel
theorem d_Law_law_23 : decode c_Law_law 23 = .ok (.isub, 1) := by decide +kernel
theorem d_Law_law_24 : decode c_Law_law 24 = .ok (.if_icmp .gt 646, 3) := by decide +kernel
theorem d_Law_law_27 : decode c_Law_law 27 = .ok (.aload_n 0, 1) := by decide +kernel
theorem d_Law_law_28 : decode c_Law_law 28 = .ok (.iload_n 3, 1) := by decide +kernel
theorem d_Law_law_29 : decode c_Law_law 29 = .ok (.iaload, 1) := by decide +kernel
theorem d_Law_law_30 : decode c_Law_law 30 = .ok (.bipush 31, 2) := by decide +kernel
theorem d_Law_law_32 : decode c_Law_law 32 = .ok (.iand, 1) := by decide +kernel
theorem d_Law_law_33 : decode c_Law_law 33 = .ok (.tableswitch 631 0 17 #[87, 120, 183, 196, 239, 252, 285, 318, 351, 404, 427, 440, 493, 506, 539, 562, 585, 618], 87) := by decide +kernel
theorem d_Law_law_120 : decode c_Law_law 120 = .ok (.aload_n 1, 1) := by decide +kernel
theorem d_Law_law_121 : decode c_Law_law 121 = .ok (.aload_n 0, 1) := by decide +kernel
theorem d_Law_law_122 : decode c_Law_law 122 = .ok (.iload_n 3, 1) := by decide +kernel
theorem d_Law_law_123 : decode c_Law_law 123 = .ok (.iconst 1, 1) := by decide +kernel
theorem d_Law_law_124 : decode c_Law_law 124 = .ok (.iadd, 1) := by decide +kernel
theorem d_Law_law_125 : decode c_Law_law 125 = .ok (.iaload, 1) := by decide +kernel
theorem d_Law_law_126 : decode c_Law_law 126 = .ok (.aload_n 0, 1) := by decide +kernel
theorem d_Law_law_127 : decode c_Law_law 127 = .ok (.iload_n 3, 1) := by decide +kernel
theorem d_Law_law_128 : decode c_Law_law 128 = .ok (.iconst 2, 1) := by decide +kernel
theorem d_Law_law_129 : decode c_Law_law 129 = .ok (.iadd, 1) := by decide +kernel
theorem d_Law_law_130 : decode c_Law_law 130 = .ok (.iaload, 1) := by decide +kernel
theorem d_Law_law_131 : decode c_Law_law 131 = .ok (.invokevirtual 13, 3) := by decide +kernel
theorem d_Law_law_134 : decode c_Law_law 134 = .ok (.aload_n 2, 1) := by decide +kernel
theorem d_Law_law_135 : decode c_Law_law 135 = .ok (.aload_n 0, 1) := by decide +kernel
theorem d_Law_law_136 : decode c_Law_law 136 = .ok (.iload_n 3, 1) := by decide +kernel
theorem d_Law_law_137 : decode c_Law_law 137 = .ok (.iconst 1, 1) := by decide +kernel
theorem d_Law_law_138 : decode c_Law_law 138 = .ok (.iadd, 1) := by decide +kernel
theorem d_Law_law_139 : decode c_Law_law 139 = .ok (.iaload, 1) := by decide +kernel
theorem d_Law_law_140 : decode c_Law_law 140 = .ok (.aload_n 0, 1) := by decide +kernel
theorem d_Law_law_141 : decode c_Law_law 141 = .ok (.iload_n 3, 1) := by decide +kernel
theorem d_Law_law_142 : decode c_Law_law 142 = .ok (.iconst 2, 1) := by decide +kernel
theorem d_Law_law_143 : decode c_Law_law 143 = .ok (.iadd, 1) := by decide +kernel
theorem d_Law_law_144 : decode c_Law_law 144 = .ok (.iaload, 1) := by decide +kernel
theorem d_Law_law_145 : decode c_Law_law 145 = .ok (.invokevirtual 17, 3) := by decide +kernel
theorem d_Law_law_148 : decode c_Law_law 148 = .ok (.if_icmp .eq 516, 3) := by decide +kernel
theorem d_Law_law_151 : decode c_Law_law 151 = .ok (.iconst 0, 1) := by decide +kernel
theorem d_Law_law_152 : decode c_Law_law 152 = .ok (.ireturn, 1) := by decide +kernel
theorem d_Law_law_153 : decode c_Law_law 153 = .ok (.aload_n 1, 1) := by decide +kernel
theorem d_Law_law_154 : decode c_Law_law 154 = .ok (.aload_n 0, 1) := by decide +kernel
theorem d_Law_law_155 : decode c_Law_law 155 = .ok (.iload_n 3, 1) := by decide +kernel
theorem d_Law_law_156 : decode c_Law_law 156 = .ok (.iconst 1, 1) := by decide +kernel
theorem d_Law_law_157 : decode c_Law_law 157 = .ok (.iadd, 1) := by decide +kernel
theorem d_Law_law_158 : decode c_Law_law 158 = .ok (.iaload, 1) := by decide +kernel
theorem d_Law_law_159 : decode c_Law_law 159 = .ok (.aload_n 0, 1) := by decide +kernel
theorem d_Law_law_160 : decode c_Law_law 160 = .ok (.iload_n 3, 1) := by decide +kernel
theorem d_Law_law_161 : decode c_Law_law 161 = .ok (.iconst 2, 1) := by decide +kernel
theorem d_Law_law_162 : decode c_Law_law 162 = .ok (.iadd, 1) := by decide +kernel
theorem d_Law_law_163 : decode c_Law_law 163 = .ok (.iaload, 1) := by decide +kernel
theorem d_Law_law_164 : decode c_Law_law 164 = .ok (.aload_n 0, 1) := by decide +kernel
theorem d_Law_law_165 : decode c_Law_law 165 = .ok (.iload_n 3, 1) := by decide +kernel
theorem d_Law_law_166 : decode c_Law_law 166 = .ok (.iconst 3, 1) := by decide +kernel
theorem d_Law_law_167 : decode c_Law_law 167 = .ok (.iadd, 1) := by decide +kernel
theorem d_Law_law_168 : decode c_Law_law 168 = .ok (.iaload, 1) := by decide +kernel
theorem d_Law_law_169 : decode c_Law_law 169 = .ok (.aload_n 0, 1) := by decide +kernel
theorem d_Law_law_170 : decode c_Law_law 170 = .ok (.iload_n 3, 1) := by decide +kernel
theorem d_Law_law_171 : decode c_Law_law 171 = .ok (.iconst 4, 1) := by decide +kernel
theorem d_Law_law_172 : decode c_Law_law 172 = .ok (.iadd, 1) := by decide +kernel
theorem d_Law_law_173 : decode c_Law_law 173 = .ok (.iaload, 1) := by decide +kernel
theorem d_Law_law_174 : decode c_Law_law 174 = .ok (.aload_n 0, 1) := by decide +kernel
theorem d_Law_law_175 : decode c_Law_law 175 = .ok (.iload_n 3, 1) := by decide +kernel
theorem d_Law_law_176 : decode c_Law_law 176 = .ok (.iconst 5, 1) := by decide +kernel
theorem d_Law_law_177 : decode c_Law_law 177 = .ok (.iadd, 1) := by decide +kernel
theorem d_Law_law_178 : decode c_Law_law 178 = .ok (.iaload, 1) := by decide +kernel
theorem d_Law_law_179 : decode c_Law_law 179 = .ok (.invokevirtual 18, 3) := by decide +kernel
theorem d_Law_law_182 : decode c_Law_law 182 = .ok (.aload_n 2, 1) := by decide +kernel
theorem d_Law_law_183 : decode c_Law_law 183 = .ok (.aload_n 0, 1) := by decide +kernel
theorem d_Law_law_184 : decode c_Law_law 184 = .ok (.iload_n 3, 1) := by decide +kernel
theorem d_Law_law_185 : decode c_Law_law 185 = .ok (.iconst 1, 1) := by decide +kernel
theorem d_Law_law_186 : decode c_Law_law 186 = .ok (.iadd, 1) := by decide +kernel
theorem d_Law_law_187 : decode c_Law_law 187 = .ok (.iaload, 1) := by decide +kernel
theorem d_Law_law_188 : decode c_Law_law 188 = .ok (.aload_n 0, 1) := by decide +kernel
theorem d_Law_law_189 : decode c_Law_law 189 = .ok (.iload_n 3, 1) := by decide +kernel
theorem d_Law_law_190 : decode c_Law_law 190 = .ok (.iconst 2, 1) := by decide +kernel
theorem d_Law_law_191 : decode c_Law_law 191 = .ok (.iadd, 1) := by decide +kernel
theorem d_Law_law_192 : decode c_Law_law 192 = .ok (.iaload, 1) := by decide +kernel
theorem d_Law_law_193 : decode c_Law_law 193 = .ok (.aload_n 0, 1) := by decide +kernel
theorem d_Law_law_194 : decode c_Law_law 194 = .ok (.iload_n 3, 1) := by decide +kernel
theorem d_Law_law_195 : decode c_Law_law 195 = .ok (.iconst 3, 1) := by decide +kernel
theorem d_Law_law_196 : decode c_Law_law 196 = .ok (.iadd, 1) := by decide +kernel
theorem d_Law_law_197 : decode c_Law_law 197 = .ok (.iaload, 1) := by decide +kernel
theorem d_Law_law_198 : decode c_Law_law 198 = .ok (.aload_n 0, 1) := by decide +kernel
theorem d_Law_law_199 : decode c_Law_law 199 = .ok (.iload_n 3, 1) := by decide +kernel
theorem d_Law_law_200 : decode c_Law_law 200 = .ok (.iconst 4, 1) := by decide +kernel
theorem d_Law_law_201 : decode c_Law_law 201 = .ok (.iadd, 1) := by decide +kernel
theorem d_Law_law_202 : decode c_Law_law 202 = .ok (.iaload, 1) := by decide +kernel
theorem d_Law_law_203 : decode c_Law_law 203 = .ok (.aload_n 0, 1) := by decide +kernel
theorem d_Law_law_204 : decode c_Law_law 204 = .ok (.iload_n 3, 1) := by decide +kernel
theorem d_Law_law_205 : decode c_Law_law 205 = .ok (.iconst 5, 1) := by decide +kernel
theorem d_Law_law_206 : decode c_Law_law 206 = .ok (.iadd, 1) := by decide +kernel
theorem d_Law_law_207 : decode c_Law_law 207 = .ok (.iaload, 1) := by decide +kernel
theorem d_Law_law_208 : decode c_Law_law 208 = .ok (.invokevirtual 22, 3) := by decide +kernel
theorem d_Law_law_211 : decode c_Law_law 211 = .ok (.if_icmp .eq 453, 3) := by decide +kernel
theorem d_Law_law_214 : decode c_Law_law 214 = .ok (.iconst 0, 1) := by decide +kernel
theorem d_Law_law_215 : decode c_Law_law 215 = .ok (.ireturn, 1) := by decide +kernel
theorem d_Law_law_216 : decode c_Law_law 216 = .ok (.aload_n 1, 1) := by decide +kernel
theorem d_Law_law_217 : decode c_Law_law 217 = .ok (.invokevirtual 23, 3) := by decide +kernel
theorem d_Law_law_220 : decode c_Law_law 220 = .ok (.aload_n 2, 1) := by decide +kernel
theorem d_Law_law_221 : decode c_Law_law 221 = .ok (.invokevirtual 27, 3) := by decide +kernel
theorem d_Law_law_224 : decode c_Law_law 224 = .ok (.if_icmp .eq 440, 3) := by decide +kernel
theorem d_Law_law_227 : decode c_Law_law 227 = .ok (.iconst 0, 1) := by decide +kernel
theorem d_Law_law_228 : decode c_Law_law 228 = .ok (.ireturn, 1) := by decide +kernel
theorem d_Law_law_229 : decode c_Law_law 229 = .ok (.aload_n 1, 1) := by decide +kernel
theorem d_Law_law_230 : decode c_Law_law 230 = .ok (.aload_n 0, 1) := by decide +kernel
theorem d_Law_law_231 : decode c_Law_law 231 = .ok (.iload_n 3, 1) := by decide +kernel
theorem d_Law_law_232 : decode c_Law_law 232 = .ok (.iconst 1, 1) := by decide +kernel
theorem d_Law_law_233 : decode c_Law_law 233 = .ok (.iadd, 1) := by decide +kernel
theorem d_Law_law_234 : decode c_Law_law 234 = .ok (.iaload, 1) := by decide +kernel
theorem d_Law_law_235 : decode c_Law_law 235 = .ok (.aload_n 0, 1) := by decide +kernel
theorem d_Law_law_236 : decode c_Law_law 236 = .ok (.iload_n 3, 1) := by decide +kernel
theorem d_Law_law_237 : decode c_Law_law 237 = .ok (.iconst 2, 1) := by decide +kernel
theorem d_Law_law_238 : decode c_Law_law 238 = .ok (.iadd, 1) := by decide +kernel
theorem d_Law_law_239 : decode c_Law_law 239 = .ok (.iaload, 1) := by decide +kernel
theorem d_Law_law_240 : decode c_Law_law 240 = .ok (.aload_n 0, 1) := by decide +kernel
theorem d_Law_law_241 : decode c_Law_law 241 = .ok (.iload_n 3, 1) := by decide +kernel
theorem d_Law_law_242 : decode c_Law_law 242 = .ok (.iconst 3, 1) := by decide +kernel
theorem d_Law_law_243 : decode c_Law_law 243 = .ok (.iadd, 1) := by decide +kernel
theorem d_Law_law_244 : decode c_Law_law 244 = .ok (.iaload, 1) := by decide +kernel
theorem d_Law_law_245 : decode c_Law_law 245 = .ok (.invokevirtual 28, 3) := by decide +kernel
theorem d_Law_law_248 : decode c_Law_law 248 = .ok (.aload_n 2, 1) := by decide +kernel
theorem d_Law_law_249 : decode c_Law_law 249 = .ok (.aload_n 0, 1) := by decide +kernel
theorem d_Law_law_250 : decode c_Law_law 250 = .ok (.iload_n 3, 1) := by decide +kernel
theorem d_Law_law_251 : decode c_Law_law 251 = .ok (.iconst 1, 1) := by decide +kernel
theorem d_Law_law_252 : decode c_Law_law 252 = .ok (.iadd, 1) := by decide +kernel
theorem d_Law_law_253 : decode c_Law_law 253 = .ok (.iaload, 1) := by decide +kernel
theorem d_Law_law_254 : decode c_Law_law 254 = .ok (.aload_n 0, 1) := by decide +kernel
theorem d_Law_law_255 : decode c_Law_law 255 = .ok (.iload_n 3, 1) := by decide +kernel
theorem d_Law_law_256 : decode c_Law_law 256 = .ok (.iconst 2, 1) := by decide +kernel
theorem d_Law_law_257 : decode c_Law_law 257 = .ok (.iadd, 1) := by decide +kernel
theorem d_Law_law_258 : decode c_Law_law 258 = .ok (.iaload, 1) := by decide +kernel
theorem d_Law_law_259 : decode c_Law_law 259 = .ok (.aload_n 0, 1) := by decide +kernel
theorem d_Law_law_260 : decode c_Law_law 260 = .ok (.iload_n 3, 1) := by decide +kernel
theorem d_Law_law_261 : decode c_Law_law 261 = .ok (.iconst 3, 1) := by decide +kernel
theorem d_Law_law_262 : decode c_Law_law 262 = .ok (.iadd, 1) := by decide +kernel
theorem d_Law_law_263 : decode c_Law_law 263 = .ok (.iaload, 1) := by decide +kernel
theorem d_Law_law_264 : decode c_Law_law 264 = .ok (.invokevirtual 32, 3) := by decide +kernel
theorem d_Law_law_267 : decode c_Law_law 267 = .ok (.if_icmp .eq 397, 3) := by decide +kernel
theorem d_Law_law_270 : decode c_Law_law 270 = .ok (.iconst 0, 1) := by decide +kernel
theorem d_Law_law_271 : decode c_Law_law 271 = .ok (.ireturn, 1) := by decide +kernel
theorem d_Law_law_272 : decode c_Law_law 272 = .ok (.aload_n 1, 1) := by decide +kernel
theorem d_Law_law_273 : decode c_Law_law 273 = .ok (.invokevirtual 33, 3) := by decide +kernel
theorem d_Law_law_276 : decode c_Law_law 276 = .ok (.aload_n 2, 1) := by decide +kernel
theorem d_Law_law_277 : decode c_Law_law 277 = .ok (.invokevirtual 36, 3) := by decide +kernel
theorem d_Law_law_280 : decode c_Law_law 280 = .ok (.if_icmp .eq 384, 3) := by decide +kernel
theorem d_Law_law_283 : decode c_Law_law 283 = .ok (.iconst 0, 1) := by decide +kernel
theorem d_Law_law_284 : decode c_Law_law 284 = .ok (.ireturn, 1) := by decide +kernel
theorem d_Law_law_285 : decode c_Law_law 285 = .ok (.aload_n 1, 1) := by decide +kernel
theorem d_Law_law_286 : decode c_Law_law 286 = .ok (.aload_n 0, 1) := by decide +kernel
theorem d_Law_law_287 : decode c_Law_law 287 = .ok (.iload_n 3, 1) := by decide +kernel
theorem d_Law_law_288 : decode c_Law_law 288 = .ok (.iconst 1, 1) := by decide +kernel
theorem d_Law_law_289 : decode c_Law_law 289 = .ok (.iadd, 1) := by decide +kernel
theorem d_Law_law_290 : decode c_Law_law 290 = .ok (.iaload, 1) := by decide +kernel
theorem d_Law_law_291 : decode c_Law_law 291 = .ok (.aload_n 0, 1) := by decide +kernel
theorem d_Law_law_292 : decode c_Law_law 292 = .ok (.iload_n 3, 1) := by decide +kernel
theorem d_Law_law_293 : decode c_Law_law 293 = .ok (.iconst 2, 1) := by decide +kernel
theorem d_Law_law_294 : decode c_Law_law 294 = .ok (.iadd, 1) := by decide +kernel
theorem d_Law_law_295 : decode c_Law_law 295 = .ok (.iaload, 1) := by decide +kernel
theorem d_Law_law_296 : decode c_Law_law 296 = .ok (.invokevirtual 37, 3) := by decide +kernel
theorem d_Law_law_299 : decode c_Law_law 299 = .ok (.aload_n 2, 1) := by decide +kernel
theorem d_Law_law_300 : decode c_Law_law 300 = .ok (.aload_n 0, 1) := by decide +kernel
theorem d_Law_law_301 : decode c_Law_law 301 = .ok (.iload_n 3, 1) := by decide +kernel
theorem d_Law_law_302 : decode c_Law_law 302 = .ok (.iconst 1, 1) := by decide +kernel
theorem d_Law_law_303 : decode c_Law_law 303 = .ok (.iadd, 1) := by decide +kernel
theorem d_Law_law_304 : decode c_Law_law 304 = .ok (.iaload, 1) := by decide +kernel
theorem d_Law_law_305 : decode c_Law_law 305 = .ok (.aload_n 0, 1) := by decide +kernel
theorem d_Law_law_306 : decode c_Law_law 306 = .ok (.iload_n 3, 1) := by decide +kernel
theorem d_Law_law_307 : decode c_Law_law 307 = .ok (.iconst 2, 1) := by decide +kernel
theorem d_Law_law_308 : decode c_Law_law 308 = .ok (.iadd, 1) := by decide +kernel
theorem d_Law_law_309 : decode c_Law_law 309 = .ok (.iaload, 1) := by decide +kernel
theorem d_Law_law_310 : decode c_Law_law 310 = .ok (.invokevirtual 40, 3) := by decide +kernel
theorem d_Law_law_313 : decode c_Law_law 313 = .ok (.if_icmp .eq 351, 3) := by decide +kernel
theorem d_Law_law_316 : decode c_Law_law 316 = .ok (.iconst 0, 1) := by decide +kernel
theorem d_Law_law_317 : decode c_Law_law 317 = .ok (.ireturn, 1) := by decide +kernel
theorem d_Law_law_318 : decode c_Law_law 318 = .ok (.aload_n 1, 1) := by decide +kernel
theorem d_Law_law_319 : decode c_Law_law 319 = .ok (.aload_n 0, 1) := by decide +kernel
theorem d_Law_law_320 : decode c_Law_law 320 = .ok (.iload_n 3, 1) := by decide +kernel
theorem d_Law_law_321 : decode c_Law_law 321 = .ok (.iconst 1, 1) := by decide +kernel
theorem d_Law_law_322 : decode c_Law_law 322 = .ok (.iadd, 1) := by decide +kernel
theorem d_Law_law_323 : decode c_Law_law 323 = .ok (.iaload, 1) := by decide +kernel
theorem d_Law_law_324 : decode c_Law_law 324 = .ok (.aload_n 0, 1) := by decide +kernel
theorem d_Law_law_325 : decode c_Law_law 325 = .ok (.iload_n 3, 1) := by decide +kernel
theorem d_Law_law_326 : decode c_Law_law 326 = .ok (.iconst 2, 1) := by decide +kernel
theorem d_Law_law_327 : decode c_Law_law 327 = .ok (.iadd, 1) := by decide +kernel
theorem d_Law_law_328 : decode c_Law_law 328 = .ok (.iaload, 1) := by decide +kernel
theorem d_Law_law_329 : decode c_Law_law 329 = .ok (.invokevirtual 41, 3) := by decide +kernel
theorem d_Law_law_332 : decode c_Law_law 332 = .ok (.aload_n 2, 1) := by decide +kernel
theorem d_Law_law_333 : decode c_Law_law 333 = .ok (.aload_n 0, 1) := by decide +kernel
theorem d_Law_law_334 : decode c_Law_law 334 = .ok (.iload_n 3, 1) := by decide +kernel
theorem d_Law_law_335 : decode c_Law_law 335 = .ok (.iconst 1, 1) := by decide +kernel
theorem d_Law_law_336 : decode c_Law_law 336 = .ok (.iadd, 1) := by decide +kernel
theorem d_Law_law_337 : decode c_Law_law 337 = .ok (.iaload, 1) := by decide +kernel
theorem d_Law_law_338 : decode c_Law_law 338 = .ok (.aload_n 0, 1) := by decide +kernel
theorem d_Law_law_339 : decode c_Law_law 339 = .ok (.iload_n 3, 1) := by decide +kernel
theorem d_Law_law_340 : decode c_Law_law 340 = .ok (.iconst 2, 1) := by decide +kernel
theorem d_Law_law_341 : decode c_Law_law 341 = .ok (.iadd, 1) := by decide +kernel
theorem d_Law_law_342 : decode c_Law_law 342 = .ok (.iaload, 1) := by decide +kernel
theorem d_Law_law_343 : decode c_Law_law 343 = .ok (.invokevirtual 44, 3) := by decide +kernel
theorem d_Law_law_346 : decode c_Law_law 346 = .ok (.if_icmp .eq 318, 3) := by decide +kernel
theorem d_Law_law_349 : decode c_Law_law 349 = .ok (.iconst 0, 1) := by decide +kernel
theorem d_Law_law_350 : decode c_Law_law 350 = .ok (.ireturn, 1) := by decide +kernel
theorem d_Law_law_351 : decode c_Law_law 351 = .ok (.aload_n 1, 1) := by decide +kernel
theorem d_Law_law_352 : decode c_Law_law 352 = .ok (.aload_n 0, 1) := by decide +kernel
theorem d_Law_law_353 : decode c_Law_law 353 = .ok (.iload_n 3, 1) := by decide +kernel
theorem d_Law_law_354 : decode c_Law_law 354 = .ok (.iconst 1, 1) := by decide +kernel
theorem d_Law_law_355 : decode c_Law_law 355 = .ok (.iadd, 1) := by decide +kernel
theorem d_Law_law_356 : decode c_Law_law 356 = .ok (.iaload, 1) := by decide +kernel
theorem d_Law_law_357 : decode c_Law_law 357 = .ok (.aload_n 0, 1) := by decide +kernel
theorem d_Law_law_358 : decode c_Law_law 358 = .ok (.iload_n 3, 1) := by decide +kernel
theorem d_Law_law_359 : decode c_Law_law 359 = .ok (.iconst 2, 1) := by decide +kernel
theorem d_Law_law_360 : decode c_Law_law 360 = .ok (.iadd, 1) := by decide +kernel
theorem d_Law_law_361 : decode c_Law_law 361 = .ok (.iaload, 1) := by decide +kernel
theorem d_Law_law_362 : decode c_Law_law 362 = .ok (.invokevirtual 45, 3) := by decide +kernel
theorem d_Law_law_365 : decode c_Law_law 365 = .ok (.aload_n 2, 1) := by decide +kernel
theorem d_Law_law_366 : decode c_Law_law 366 = .ok (.aload_n 0, 1) := by decide +kernel
theorem d_Law_law_367 : decode c_Law_law 367 = .ok (.iload_n 3, 1) := by decide +kernel
theorem d_Law_law_368 : decode c_Law_law 368 = .ok (.iconst 1, 1) := by decide +kernel
theorem d_Law_law_369 : decode c_Law_law 369 = .ok (.iadd, 1) := by decide +kernel
theorem d_Law_law_370 : decode c_Law_law 370 = .ok (.iaload, 1) := by decide +kernel
theorem d_Law_law_371 : decode c_Law_law 371 = .ok (.aload_n 0, 1) := by decide +kernel
theorem d_Law_law_372 : decode c_Law_law 372 = .ok (.iload_n 3, 1) := by decide +kernel
theorem d_Law_law_373 : decode c_Law_law 373 = .ok (.iconst 2, 1) := by decide +kernel
theorem d_Law_law_374 : decode c_Law_law 374 = .ok (.iadd, 1) := by decide +kernel
theorem d_Law_law_375 : decode c_Law_law 375 = .ok (.iaload, 1) := by decide +kernel
theorem d_Law_law_376 : decode c_Law_law 376 = .ok (.invokevirtual 48, 3) := by decide +kernel
theorem d_Law_law_379 : decode c_Law_law 379 = .ok (.if_icmp .eq 285, 3) := by decide +kernel
theorem d_Law_law_382 : decode c_Law_law 382 = .ok (.iconst 0, 1) := by decide +kernel
theorem d_Law_law_383 : decode c_Law_law 383 = .ok (.ireturn, 1) := by decide +kernel
theorem d_Law_law_384 : decode c_Law_law 384 = .ok (.aload_n 1, 1) := by decide +kernel
theorem d_Law_law_385 : decode c_Law_law 385 = .ok (.aload_n 0, 1) := by decide +kernel
theorem d_Law_law_386 : decode c_Law_law 386 = .ok (.iload_n 3, 1) := by decide +kernel
theorem d_Law_law_387 : decode c_Law_law 387 = .ok (.iconst 1, 1) := by decide +kernel
theorem d_Law_law_388 : decode c_Law_law 388 = .ok (.iadd, 1) := by decide +kernel
theorem d_Law_law_389 : decode c_Law_law 389 = .ok (.iaload, 1) := by decide +kernel
theorem d_Law_law_390 : decode c_Law_law 390 = .ok (.aload_n 0, 1) := by decide +kernel
theorem d_Law_law_391 : decode c_Law_law 391 = .ok (.iload_n 3, 1) := by decide +kernel
theorem d_Law_law_392 : decode c_Law_law 392 = .ok (.iconst 2, 1) := by decide +kernel
theorem d_Law_law_393 : decode c_Law_law 393 = .ok (.iadd, 1) := by decide +kernel
theorem d_Law_law_394 : decode c_Law_law 394 = .ok (.iaload, 1) := by decide +kernel
theorem d_Law_law_395 : decode c_Law_law 395 = .ok (.aload_n 0, 1) := by decide +kernel
theorem d_Law_law_396 : decode c_Law_law 396 = .ok (.iload_n 3, 1) := by decide +kernel
theorem d_Law_law_397 : decode c_Law_law 397 = .ok (.iconst 3, 1) := by decide +kernel
theorem d_Law_law_398 : decode c_Law_law 398 = .ok (.iadd, 1) := by decide +kernel
theorem d_Law_law_399 : decode c_Law_law 399 = .ok (.iaload, 1) := by decide +kernel
theorem d_Law_law_400 : decode c_Law_law 400 = .ok (.aload_n 0, 1) := by decide +kernel
theorem d_Law_law_401 : decode c_Law_law 401 = .ok (.iload_n 3, 1) := by decide +kernel
theorem d_Law_law_402 : decode c_Law_law 402 = .ok (.iconst 4, 1) := by decide +kernel
theorem d_Law_law_403 : decode c_Law_law 403 = .ok (.iadd, 1) := by decide +kernel
theorem d_Law_law_404 : decode c_Law_law 404 = .ok (.iaload, 1) := by decide +kernel
theorem d_Law_law_405 : decode c_Law_law 405 = .ok (.invokevirtual 49, 3) := by decide +kernel
theorem d_Law_law_408 : decode c_Law_law 408 = .ok (.aload_n 2, 1) := by decide +kernel
theorem d_Law_law_409 : decode c_Law_law 409 = .ok (.aload_n 0, 1) := by decide +kernel
theorem d_Law_law_410 : decode c_Law_law 410 = .ok (.iload_n 3, 1) := by decide +kernel
theorem d_Law_law_411 : decode c_Law_law 411 = .ok (.iconst 1, 1) := by decide +kernel
theorem d_Law_law_412 : decode c_Law_law 412 = .ok (.iadd, 1) := by decide +kernel
theorem d_Law_law_413 : decode c_Law_law 413 = .ok (.iaload, 1) := by decide +kernel
theorem d_Law_law_414 : decode c_Law_law 414 = .ok (.aload_n 0, 1) := by decide +kernel
theorem d_Law_law_415 : decode c_Law_law 415 = .ok (.iload_n 3, 1) := by decide +kernel
theorem d_Law_law_416 : decode c_Law_law 416 = .ok (.iconst 2, 1) := by decide +kernel
theorem d_Law_law_417 : decode c_Law_law 417 = .ok (.iadd, 1) := by decide +kernel
theorem d_Law_law_418 : decode c_Law_law 418 = .ok (.iaload, 1) := by decide +kernel
theorem d_Law_law_419 : decode c_Law_law 419 = .ok (.aload_n 0, 1) := by decide +kernel
theorem d_Law_law_420 : decode c_Law_law 420 = .ok (.iload_n 3, 1) := by decide +kernel
theorem d_Law_law_421 : decode c_Law_law 421 = .ok (.iconst 3, 1) := by decide +kernel
theorem d_Law_law_422 : decode c_Law_law 422 = .ok (.iadd, 1) := by decide +kernel
theorem d_Law_law_423 : decode c_Law_law 423 = .ok (.iaload, 1) := by decide +kernel
theorem d_Law_law_424 : decode c_Law_law 424 = .ok (.aload_n 0, 1) := by decide +kernel
theorem d_Law_law_425 : decode c_Law_law 425 = .ok (.iload_n 3, 1) := by decide +kernel
theorem d_Law_law_426 : decode c_Law_law 426 = .ok (.iconst 4, 1) := by decide +kernel
theorem d_Law_law_427 : decode c_Law_law 427 = .ok (.iadd, 1) := by decide +kernel
theorem d_Law_law_428 : decode c_Law_law 428 = .ok (.iaload, 1) := by decide +kernel
theorem d_Law_law_429 : decode c_Law_law 429 = .ok (.invokevirtual 53, 3) := by decide +kernel
theorem d_Law_law_432 : decode c_Law_law 432 = .ok (.if_icmp .eq 232, 3) := by decide +kernel
theorem d_Law_law_435 : decode c_Law_law 435 = .ok (.iconst 0, 1) := by decide +kernel
theorem d_Law_law_436 : decode c_Law_law 436 = .ok (.ireturn, 1) := by decide +kernel
theorem d_Law_law_437 : decode c_Law_law 437 = .ok (.aload_n 1, 1) := by decide +kernel
theorem d_Law_law_438 : decode c_Law_law 438 = .ok (.aload_n 0, 1) := by decide +kernel
theorem d_Law_law_439 : decode c_Law_law 439 = .ok (.iload_n 3, 1) := by decide +kernel
theorem d_Law_law_440 : decode c_Law_law 440 = .ok (.iconst 1, 1) := by decide +kernel
theorem d_Law_law_441 : decode c_Law_law 441 = .ok (.iadd, 1) := by decide +kernel
theorem d_Law_law_442 : decode c_Law_law 442 = .ok (.iaload, 1) := by decide +kernel
theorem d_Law_law_443 : decode c_Law_law 443 = .ok (.invokevirtual 54, 3) := by decide +kernel
theorem d_Law_law_446 : decode c_Law_law 446 = .ok (.aload_n 2, 1) := by decide +kernel
theorem d_Law_law_447 : decode c_Law_law 447 = .ok (.aload_n 0, 1) := by decide +kernel
theorem d_Law_law_448 : decode c_Law_law 448 = .ok (.iload_n 3, 1) := by decide +kernel
theorem d_Law_law_449 : decode c_Law_law 449 = .ok (.iconst 1, 1) := by decide +kernel
theorem d_Law_law_450 : decode c_Law_law 450 = .ok (.iadd, 1) := by decide +kernel
theorem d_Law_law_451 : decode c_Law_law 451 = .ok (.iaload, 1) := by decide +kernel
theorem d_Law_law_452 : decode c_Law_law 452 = .ok (.invokevirtual 58, 3) := by decide +kernel
theorem d_Law_law_455 : decode c_Law_law 455 = .ok (.if_icmp .eq 209, 3) := by decide +kernel
theorem d_Law_law_458 : decode c_Law_law 458 = .ok (.iconst 0, 1) := by decide +kernel
theorem d_Law_law_459 : decode c_Law_law 459 = .ok (.ireturn, 1) := by decide +kernel
theorem d_Law_law_460 : decode c_Law_law 460 = .ok (.aload_n 1, 1) := by decide +kernel
theorem d_Law_law_461 : decode c_Law_law 461 = .ok (.invokevirtual 59, 3) := by decide +kernel
theorem d_Law_law_464 : decode c_Law_law 464 = .ok (.aload_n 2, 1) := by decide +kernel
theorem d_Law_law_465 : decode c_Law_law 465 = .ok (.invokevirtual 62, 3) := by decide +kernel
theorem d_Law_law_468 : decode c_Law_law 468 = .ok (.if_icmp .eq 196, 3) := by decide +kernel
theorem d_Law_law_471 : decode c_Law_law 471 = .ok (.iconst 0, 1) := by decide +kernel
theorem d_Law_law_472 : decode c_Law_law 472 = .ok (.ireturn, 1) := by decide +kernel
theorem d_Law_law_473 : decode c_Law_law 473 = .ok (.aload_n 1, 1) := by decide +kernel
theorem d_Law_law_474 : decode c_Law_law 474 = .ok (.aload_n 0, 1) := by decide +kernel
theorem d_Law_law_475 : decode c_Law_law 475 = .ok (.iload_n 3, 1) := by decide +kernel
theorem d_Law_law_476 : decode c_Law_law 476 = .ok (.iconst 1, 1) := by decide +kernel
theorem d_Law_law_477 : decode c_Law_law 477 = .ok (.iadd, 1) := by decide +kernel
theorem d_Law_law_478 : decode c_Law_law 478 = .ok (.iaload, 1) := by decide +kernel
theorem d_Law_law_479 : decode c_Law_law 479 = .ok (.aload_n 0, 1) := by decide +kernel
theorem d_Law_law_480 : decode c_Law_law 480 = .ok (.iload_n 3, 1) := by decide +kernel
theorem d_Law_law_481 : decode c_Law_law 481 = .ok (.iconst 2, 1) := by decide +kernel
theorem d_Law_law_482 : decode c_Law_law 482 = .ok (.iadd, 1) := by decide +kernel
theorem d_Law_law_483 : decode c_Law_law 483 = .ok (.iaload, 1) := by decide +kernel
theorem d_Law_law_484 : decode c_Law_law 484 = .ok (.aload_n 0, 1) := by decide +kernel
theorem d_Law_law_485 : decode c_Law_law 485 = .ok (.iload_n 3, 1) := by decide +kernel
theorem d_Law_law_486 : decode c_Law_law 486 = .ok (.iconst 3, 1) := by decide +kernel
theorem d_Law_law_487 : decode c_Law_law 487 = .ok (.iadd, 1) := by decide +kernel
theorem d_Law_law_488 : decode c_Law_law 488 = .ok (.iaload, 1) := by decide +kernel
theorem d_Law_law_489 : decode c_Law_law 489 = .ok (.aload_n 0, 1) := by decide +kernel
theorem d_Law_law_490 : decode c_Law_law 490 = .ok (.iload_n 3, 1) := by decide +kernel
theorem d_Law_law_491 : decode c_Law_law 491 = .ok (.iconst 4, 1) := by decide +kernel
theorem d_Law_law_492 : decode c_Law_law 492 = .ok (.iadd, 1) := by decide +kernel
theorem d_Law_law_493 : decode c_Law_law 493 = .ok (.iaload, 1) := by decide +kernel
theorem d_Law_law_494 : decode c_Law_law 494 = .ok (.invokevirtual 63, 3) := by decide +kernel
theorem d_Law_law_497 : decode c_Law_law 497 = .ok (.aload_n 2, 1) := by decide +kernel
theorem d_Law_law_498 : decode c_Law_law 498 = .ok (.aload_n 0, 1) := by decide +kernel
theorem d_Law_law_499 : decode c_Law_law 499 = .ok (.iload_n 3, 1) := by decide +kernel
theorem d_Law_law_500 : decode c_Law_law 500 = .ok (.iconst 1, 1) := by decide +kernel
theorem d_Law_law_501 : decode c_Law_law 501 = .ok (.iadd, 1) := by decide +kernel
theorem d_Law_law_502 : decode c_Law_law 502 = .ok (.iaload, 1) := by decide +kernel
theorem d_Law_law_503 : decode c_Law_law 503 = .ok (.aload_n 0, 1) := by decide +kernel
theorem d_Law_law_504 : decode c_Law_law 504 = .ok (.iload_n 3, 1) := by decide +kernel
theorem d_Law_law_505 : decode c_Law_law 505 = .ok (.iconst 2, 1) := by decide +kernel
theorem d_Law_law_506 : decode c_Law_law 506 = .ok (.iadd, 1) := by decide +kernel
theorem d_Law_law_507 : decode c_Law_law 507 = .ok (.iaload, 1) := by decide +kernel
theorem d_Law_law_508 : decode c_Law_law 508 = .ok (.aload_n 0, 1) := by decide +kernel
theorem d_Law_law_509 : decode c_Law_law 509 = .ok (.iload_n 3, 1) := by decide +kernel
theorem d_Law_law_510 : decode c_Law_law 510 = .ok (.iconst 3, 1) := by decide +kernel
theorem d_Law_law_511 : decode c_Law_law 511 = .ok (.iadd, 1) := by decide +kernel
theorem d_Law_law_512 : decode c_Law_law 512 = .ok (.iaload, 1) := by decide +kernel
theorem d_Law_law_513 : decode c_Law_law 513 = .ok (.aload_n 0, 1) := by decide +kernel
theorem d_Law_law_514 : decode c_Law_law 514 = .ok (.iload_n 3, 1) := by decide +kernel
theorem d_Law_law_515 : decode c_Law_law 515 = .ok (.iconst 4, 1) := by decide +kernel
theorem d_Law_law_516 : decode c_Law_law 516 = .ok (.iadd, 1) := by decide +kernel
theorem d_Law_law_517 : decode c_Law_law 517 = .ok (.iaload, 1) := by decide +kernel
theorem d_Law_law_518 : decode c_Law_law 518 = .ok (.invokevirtual 66, 3) := by decide +kernel
theorem d_Law_law_521 : decode c_Law_law 521 = .ok (.if_icmp .eq 143, 3) := by decide +kernel
theorem d_Law_law_524 : decode c_Law_law 524 = .ok (.iconst 0, 1) := by decide +kernel
theorem d_Law_law_525 : decode c_Law_law 525 = .ok (.ireturn, 1) := by decide +kernel
theorem d_Law_law_526 : decode c_Law_law 526 = .ok (.aload_n 1, 1) := by decide +kernel
theorem d_Law_law_527 : decode c_Law_law 527 = .ok (.invokevirtual 67, 3) := by decide +kernel
theorem d_Law_law_530 : decode c_Law_law 530 = .ok (.aload_n 2, 1) := by decide +kernel
theorem d_Law_law_531 : decode c_Law_law 531 = .ok (.invokevirtual 70, 3) := by decide +kernel
theorem d_Law_law_534 : decode c_Law_law 534 = .ok (.if_icmp .eq 130, 3) := by decide +kernel
theorem d_Law_law_537 : decode c_Law_law 537 = .ok (.iconst 0, 1) := by decide +kernel
theorem d_Law_law_538 : decode c_Law_law 538 = .ok (.ireturn, 1) := by decide +kernel
theorem d_Law_law_539 : decode c_Law_law 539 = .ok (.aload_n 1, 1) := by decide +kernel
theorem d_Law_law_540 : decode c_Law_law 540 = .ok (.aload_n 0, 1) := by decide +kernel
theorem d_Law_law_541 : decode c_Law_law 541 = .ok (.iload_n 3, 1) := by decide +kernel
theorem d_Law_law_542 : decode c_Law_law 542 = .ok (.iconst 1, 1) := by decide +kernel
theorem d_Law_law_543 : decode c_Law_law 543 = .ok (.iadd, 1) := by decide +kernel
theorem d_Law_law_544 : decode c_Law_law 544 = .ok (.iaload, 1) := by decide +kernel
theorem d_Law_law_545 : decode c_Law_law 545 = .ok (.aload_n 0, 1) := by decide +kernel
theorem d_Law_law_546 : decode c_Law_law 546 = .ok (.iload_n 3, 1) := by decide +kernel
theorem d_Law_law_547 : decode c_Law_law 547 = .ok (.iconst 2, 1) := by decide +kernel
theorem d_Law_law_548 : decode c_Law_law 548 = .ok (.iadd, 1) := by decide +kernel
theorem d_Law_law_549 : decode c_Law_law 549 = .ok (.iaload, 1) := by decide +kernel
theorem d_Law_law_550 : decode c_Law_law 550 = .ok (.invokevirtual 71, 3) := by decide +kernel
theorem d_Law_law_553 : decode c_Law_law 553 = .ok (.aload_n 2, 1) := by decide +kernel
theorem d_Law_law_554 : decode c_Law_law 554 = .ok (.aload_n 0, 1) := by decide +kernel
theorem d_Law_law_555 : decode c_Law_law 555 = .ok (.iload_n 3, 1) := by decide +kernel
theorem d_Law_law_556 : decode c_Law_law 556 = .ok (.iconst 1, 1) := by decide +kernel
theorem d_Law_law_557 : decode c_Law_law 557 = .ok (.iadd, 1) := by decide +kernel
theorem d_Law_law_558 : decode c_Law_law 558 = .ok (.iaload, 1) := by decide +kernel
theorem d_Law_law_559 : decode c_Law_law 559 = .ok (.aload_n 0, 1) := by decide +kernel
theorem d_Law_law_560 : decode c_Law_law 560 = .ok (.iload_n 3, 1) := by decide +kernel
theorem d_Law_law_561 : decode c_Law_law 561 = .ok (.iconst 2, 1) := by decide +kernel
theorem d_Law_law_562 : decode c_Law_law 562 = .ok (.iadd, 1) := by decide +kernel
theorem d_Law_law_563 : decode c_Law_law 563 = .ok (.iaload, 1) := by decide +kernel
theorem d_Law_law_564 : decode c_Law_law 564 = .ok (.invokevirtual 74, 3) := by decide +kernel
theorem d_Law_law_567 : decode c_Law_law 567 = .ok (.if_icmp .eq 97, 3) := by decide +kernel
theorem d_Law_law_570 : decode c_Law_law 570 = .ok (.iconst 0, 1) := by decide +kernel
theorem d_Law_law_571 : decode c_Law_law 571 = .ok (.ireturn, 1) := by decide +kernel
theorem d_Law_law_572 : decode c_Law_law 572 = .ok (.aload_n 1, 1) := by decide +kernel
theorem d_Law_law_573 : decode c_Law_law 573 = .ok (.aload_n 0, 1) := by decide +kernel
theorem d_Law_law_574 : decode c_Law_law 574 = .ok (.iload_n 3, 1) := by decide +kernel
theorem d_Law_law_575 : decode c_Law_law 575 = .ok (.iconst 1, 1) := by decide +kernel
theorem d_Law_law_576 : decode c_Law_law 576 = .ok (.iadd, 1) := by decide +kernel
theorem d_Law_law_577 : decode c_Law_law 577 = .ok (.iaload, 1) := by decide +kernel
theorem d_Law_law_578 : decode c_Law_law 578 = .ok (.invokevirtual 75, 3) := by decide +kernel
theorem d_Law_law_581 : decode c_Law_law 581 = .ok (.aload_n 2, 1) := by decide +kernel
theorem d_Law_law_582 : decode c_Law_law 582 = .ok (.aload_n 0, 1) := by decide +kernel
theorem d_Law_law_583 : decode c_Law_law 583 = .ok (.iload_n 3, 1) := by decide +kernel
theorem d_Law_law_584 : decode c_Law_law 584 = .ok (.iconst 1, 1) := by decide +kernel
theorem d_Law_law_585 : decode c_Law_law 585 = .ok (.iadd, 1) := by decide +kernel
theorem d_Law_law_586 : decode c_Law_law 586 = .ok (.iaload, 1) := by decide +kernel
theorem d_Law_law_587 : decode c_Law_law 587 = .ok (.invokevirtual 78, 3) := by decide +kernel
theorem d_Law_law_590 : decode c_Law_law 590 = .ok (.if_icmp .eq 74, 3) := by decide +kernel
theorem d_Law_law_593 : decode c_Law_law 593 = .ok (.iconst 0, 1) := by decide +kernel
theorem d_Law_law_594 : decode c_Law_law 594 = .ok (.ireturn, 1) := by decide +kernel
theorem d_Law_law_595 : decode c_Law_law 595 = .ok (.aload_n 1, 1) := by decide +kernel
theorem d_Law_law_596 : decode c_Law_law 596 = .ok (.aload_n 0, 1) := by decide +kernel
theorem d_Law_law_597 : decode c_Law_law 597 = .ok (.iload_n 3, 1) := by decide +kernel
theorem d_Law_law_598 : decode c_Law_law 598 = .ok (.iconst 1, 1) := by decide +kernel
theorem d_Law_law_599 : decode c_Law_law 599 = .ok (.iadd, 1) := by decide +kernel
theorem d_Law_law_600 : decode c_Law_law 600 = .ok (.iaload, 1) := by decide +kernel
theorem d_Law_law_601 : decode c_Law_law 601 = .ok (.invokevirtual 79, 3) := by decide +kernel
theorem d_Law_law_604 : decode c_Law_law 604 = .ok (.aload_n 2, 1) := by decide +kernel
theorem d_Law_law_605 : decode c_Law_law 605 = .ok (.aload_n 0, 1) := by decide +kernel
theorem d_Law_law_606 : decode c_Law_law 606 = .ok (.iload_n 3, 1) := by decide +kernel
theorem d_Law_law_607 : decode c_Law_law 607 = .ok (.iconst 1, 1) := by decide +kernel
theorem d_Law_law_608 : decode c_Law_law 608 = .ok (.iadd, 1) := by decide +kernel
theorem d_Law_law_609 : decode c_Law_law 609 = .ok (.iaload, 1) := by decide +kernel
theorem d_Law_law_610 : decode c_Law_law 610 = .ok (.invokevirtual 82, 3) := by decide +kernel
theorem d_Law_law_613 : decode c_Law_law 613 = .ok (.if_icmp .eq 51, 3) := by decide +kernel
theorem d_Law_law_616 : decode c_Law_law 616 = .ok (.iconst 0, 1) := by decide +kernel
theorem d_Law_law_617 : decode c_Law_law 617 = .ok (.ireturn, 1) := by decide +kernel
theorem d_Law_law_618 : decode c_Law_law 618 = .ok (.aload_n 1, 1) := by decide +kernel
theorem d_Law_law_619 : decode c_Law_law 619 = .ok (.aload_n 0, 1) := by decide +kernel
theorem d_Law_law_620 : decode c_Law_law 620 = .ok (.iload_n 3, 1) := by decide +kernel
theorem d_Law_law_621 : decode c_Law_law 621 = .ok (.iconst 1, 1) := by decide +kernel
theorem d_Law_law_622 : decode c_Law_law 622 = .ok (.iadd, 1) := by decide +kernel
theorem d_Law_law_623 : decode c_Law_law 623 = .ok (.iaload, 1) := by decide +kernel
theorem d_Law_law_624 : decode c_Law_law 624 = .ok (.aload_n 0, 1) := by decide +kernel
theorem d_Law_law_625 : decode c_Law_law 625 = .ok (.iload_n 3, 1) := by decide +kernel
theorem d_Law_law_626 : decode c_Law_law 626 = .ok (.iconst 2, 1) := by decide +kernel
theorem d_Law_law_627 : decode c_Law_law 627 = .ok (.iadd, 1) := by decide +kernel
theorem d_Law_law_628 : decode c_Law_law 628 = .ok (.iaload, 1) := by decide +kernel
theorem d_Law_law_629 : decode c_Law_law 629 = .ok (.invokevirtual 83, 3) := by decide +kernel
theorem d_Law_law_632 : decode c_Law_law 632 = .ok (.aload_n 2, 1) := by decide +kernel
theorem d_Law_law_633 : decode c_Law_law 633 = .ok (.aload_n 0, 1) := by decide +kernel
theorem d_Law_law_634 : decode c_Law_law 634 = .ok (.iload_n 3, 1) := by decide +kernel
theorem d_Law_law_635 : decode c_Law_law 635 = .ok (.iconst 1, 1) := by decide +kernel
theorem d_Law_law_636 : decode c_Law_law 636 = .ok (.iadd, 1) := by decide +kernel
theorem d_Law_law_637 : decode c_Law_law 637 = .ok (.iaload, 1) := by decide +kernel
theorem d_Law_law_638 : decode c_Law_law 638 = .ok (.aload_n 0, 1) := by decide +kernel
theorem d_Law_law_639 : decode c_Law_law 639 = .ok (.iload_n 3, 1) := by decide +kernel
theorem d_Law_law_640 : decode c_Law_law 640 = .ok (.iconst 2, 1) := by decide +kernel
theorem d_Law_law_641 : decode c_Law_law 641 = .ok (.iadd, 1) := by decide +kernel
theorem d_Law_law_642 : decode c_Law_law 642 = .ok (.iaload, 1) := by decide +kernel
theorem d_Law_law_643 : decode c_Law_law 643 = .ok (.invokevirtual 86, 3) := by decide +kernel
theorem d_Law_law_646 : decode c_Law_law 646 = .ok (.if_icmp .eq 18, 3) := by decide +kernel
theorem d_Law_law_649 : decode c_Law_law 649 = .ok (.iconst 0, 1) := by decide +kernel
theorem d_Law_law_650 : decode c_Law_law 650 = .ok (.ireturn, 1) := by decide +kernel
theorem d_Law_law_651 : decode c_Law_law 651 = .ok (.aload_n 1, 1) := by decide +kernel
theorem d_Law_law_652 : decode c_Law_law 652 = .ok (.invokevirtual 87, 3) := by decide +kernel
theorem d_Law_law_655 : decode c_Law_law 655 = .ok (.aload_n 2, 1) := by decide +kernel
theorem d_Law_law_656 : decode c_Law_law 656 = .ok (.invokevirtual 90, 3) := by decide +kernel
theorem d_Law_law_659 : decode c_Law_law 659 = .ok (.if_icmp .eq 5, 3) := by decide +kernel
theorem d_Law_law_662 : decode c_Law_law 662 = .ok (.iconst 0, 1) := by decide +kernel
theorem d_Law_law_663 : decode c_Law_law 663 = .ok (.ireturn, 1) := by decide +kernel
theorem d_Law_law_664 : decode c_Law_law 664 = .ok (.iinc 3 6, 3) := by decide +kernel
theorem d_Law_law_667 : decode c_Law_law 667 = .ok (.goto (-649), 3) := by decide +kernel
theorem d_Law_law_670 : decode c_Law_law 670 = .ok (.iconst 1, 1) := by decide +kernel
theorem d_Law_law_671 : decode c_Law_law 671 = .ok (.ireturn, 1) := by decide +kernel
end
section
theorem nw_Bs_9 : NewA R_Bs 9 6 7 [.null, .null, .int (iv 0), .null, .null, .null, .null] := ⟨R_Tab, T_Tab, ty_Tab, rfl, by decide, in_Tab, tyok_Tab, by decide +kernel, (mT 64 (by decide +kernel) rfl), (mT 65 (by decide +kernel) rfl), (mT 44 (by decide +kernel) rfl)⟩
theorem cl_Bs_11 : CalI R_Bs 11 y_Tab_init (.code y_Tab_init c_Tab_init 1 none) 0 := ⟨k_Tab_init, Or.inr ⟨"BestSplits", (mN 0 rfl)⟩, (mT 67 (by decide +kernel) rfl), rfl, (mT 44 (by decide +kernel) rfl), ⟨by decide +kernel, by decide +kernel, by decide +kernel⟩⟩
theorem pF_Bs_12 : PutF R_Bs 12 8 0 (.object "BestSplits$Table") := ⟨R_Bs, T_Bs, 9, ty_Bs, rfl, by decide, by decide, in_Bs, rfl, tyok_Bs, nm_Bs, by decide +kernel, rfl, (mT 306 (by decide +kernel) rfl), rfl⟩
theorem nw_Bs_16 : NewA R_Bs 16 2 3 [.int (iv 0), .int (iv 0), .int (iv 0)] := ⟨R_Lim, T_Lim, ty_Lim, rfl, by decide, in_Lim, tyok_Lim, by decide +kernel, (mT 98 (by decide +kernel) rfl), (mT 99 (by decide +kernel) rfl), (mT 45 (by decide +kernel) rfl)⟩
theorem cl_Bs_18 : CalI R_Bs 18 y_Lim_init (.code y_Lim_init c_Lim_init 1 none) 0 := ⟨k_Lim_init, Or.inr ⟨"BestSplits", (mN 2 rfl)⟩, (mT 101 (by decide +kernel) rfl), rfl, (mT 45 (by decide +kernel) rfl), ⟨by decide +kernel, by decide +kernel, by decide +kernel⟩⟩
theorem pF_Bs_19 : PutF R_Bs 19 8 1 (.object "BestSplits$Limits") := ⟨R_Bs, T_Bs, 9, ty_Bs, rfl, by decide, by decide, in_Bs, rfl, tyok_Bs, nm_Bs, by decide +kernel, rfl, (mT 307 (by decide +kernel) rfl), rfl⟩
theorem nw_Bs_23 : NewA R_Bs 23 5 4 [.null, .null, .null, .null] := ⟨R_Sur, T_Sur, ty_Sur, rfl, by decide, in_Sur, tyok_Sur, by decide +kernel, (mT 120 (by decide +kernel) rfl), (mT 121 (by decide +kernel) rfl), (mT 46 (by decide +kernel) rfl)⟩
theorem fl_Bs_12 : FldA R_Bs 12 8 0 := ⟨R_Bs, T_Bs, 9, rfl, by decide, by decide, in_Bs, rfl, Or.inl (mT 306 (by decide +kernel) rfl)⟩
theorem fl_Bs_19 : FldA R_Bs 19 8 1 := ⟨R_Bs, T_Bs, 9, rfl, by decide, by decide, in_Bs, rfl, Or.inl (mT 307 (by decide +kernel) rfl)⟩
theorem cl_Bs_25 : CalI R_Bs 25 y_Sur_init (.code y_Sur_init c_Sur_init 3 none) 2 := ⟨k_Sur_init, Or.inl (mT 122 (by decide +kernel) rfl), (mT 123 (by decide +kernel) rfl), rfl, (mT 46 (by decide +kernel) rfl), ⟨by decide +kernel, by decide +kernel, by decide +kernel⟩⟩
theorem pF_Bs_28 : PutF R_Bs 28 8 2 (.object "BestSplits$Survey") := ⟨R_Bs, T_Bs, 9, ty_Bs, rfl, by decide, by decide, in_Bs, rfl, tyok_Bs, nm_Bs, by decide +kernel, rfl, (mT 308 (by decide +kernel) rfl), rfl⟩
theorem nw_Bs_32 : NewA R_Bs 32 7 6 [.int (iv 0), .null, .null, .null, .null, .null] := ⟨R_Tre, T_Tre, ty_Tre, rfl, by decide, in_Tre, tyok_Tre, by decide +kernel, (mT 185 (by decide +kernel) rfl), (mT 186 (by decide +kernel) rfl), (mT 49 (by decide +kernel) rfl)⟩
theorem fl_Bs_28 : FldA R_Bs 28 8 2 := ⟨R_Bs, T_Bs, 9, rfl, by decide, by decide, in_Bs, rfl, Or.inl (mT 308 (by decide +kernel) rfl)⟩
theorem cl_Bs_34 : CalI R_Bs 34 y_Tre_init (.code y_Tre_init c_Tre_init 5 none) 3 := ⟨k_Tre_init, Or.inl (mT 187 (by decide +kernel) rfl), (mT 188 (by decide +kernel) rfl), rfl, (mT 49 (by decide +kernel) rfl), ⟨by decide +kernel, by decide +kernel, by decide +kernel⟩⟩
theorem pF_Bs_37 : PutF R_Bs 37 8 3 (.object "BestSplits$Tree") := ⟨R_Bs, T_Bs, 9, ty_Bs, rfl, by decide, by decide, in_Bs, rfl, tyok_Bs, nm_Bs, by decide +kernel, rfl, (mT 309 (by decide +kernel) rfl), rfl⟩
theorem pF_Bs_41 : PutF R_Bs 41 8 4 (.object "BestSplits$Tree") := ⟨R_Bs, T_Bs, 9, ty_Bs, rfl, by decide, by decide, in_Bs, rfl, tyok_Bs, nm_Bs, by decide +kernel, rfl, (mT 310 (by decide +kernel) rfl), rfl⟩
theorem nw_Bs_44 : NewA R_Bs 44 4 6 [.int (iv 0), .null, .null, .null, .null, .null] := ⟨R_Pru, T_Pru, ty_Pru, rfl, by decide, in_Pru, tyok_Pru, by decide +kernel, (mT 274 (by decide +kernel) rfl), (mT 275 (by decide +kernel) rfl), (mT 51 (by decide +kernel) rfl)⟩
theorem fl_Bs_37 : FldA R_Bs 37 8 3 := ⟨R_Bs, T_Bs, 9, rfl, by decide, by decide, in_Bs, rfl, Or.inl (mT 309 (by decide +kernel) rfl)⟩
theorem cl_Bs_46 : CalI R_Bs 46 y_Pru_init (.code y_Pru_init c_Pru_init 3 none) 1 := ⟨k_Pru_init, Or.inl (mT 276 (by decide +kernel) rfl), (mT 277 (by decide +kernel) rfl), rfl, (mT 51 (by decide +kernel) rfl), ⟨by decide +kernel, by decide +kernel, by decide +kernel⟩⟩
theorem pF_Bs_49 : PutF R_Bs 49 8 5 (.object "BestSplits$Pruning") := ⟨R_Bs, T_Bs, 9, ty_Bs, rfl, by decide, by decide, in_Bs, rfl, tyok_Bs, nm_Bs, by decide +kernel, rfl, (mT 311 (by decide +kernel) rfl), rfl⟩
theorem pF_Bs_53 : PutF R_Bs 53 8 6 (.array .int) := ⟨R_Bs, T_Bs, 9, ty_Bs, rfl, by decide, by decide, in_Bs, rfl, tyok_Bs, nm_Bs, by decide +kernel, rfl, (mT 312 (by decide +kernel) rfl), rfl⟩
theorem pf_Bs_57 : PutA R_Bs 57 8 7 (.boolean) := ⟨R_Bs, T_Bs, 9, ty_Bs, rfl, by decide, by decide, in_Bs, rfl, tyok_Bs, nm_Bs, by decide +kernel, rfl, Or.inl (mT 313 (by decide +kernel) rfl)⟩
theorem pf_Bs_61 : PutA R_Bs 61 8 8 (.int) := ⟨R_Bs, T_Bs, 9, ty_Bs, rfl, by decide, by decide, in_Bs, rfl, tyok_Bs, nm_Bs, by decide +kernel, rfl, Or.inl (mT 314 (by decide +kernel) rfl)⟩
theorem pF_Tab_11 : PutF R_Tab 11 6 0 (.array (.array .int)) := ⟨R_Tab, T_Tab, 7, ty_Tab, rfl, by decide, by decide, in_Tab, rfl, tyok_Tab, nm_Tab, by decide +kernel, rfl, (mT 72 (by decide +kernel) rfl), rfl⟩
theorem pF_Tab_16 : PutF R_Tab 16 6 1 (.array .int) := ⟨R_Tab, T_Tab, 7, ty_Tab, rfl, by decide, by decide, in_Tab, rfl, tyok_Tab, nm_Tab, by decide +kernel, rfl, (mT 74 (by decide +kernel) rfl), rfl⟩
theorem pf_Tab_20 : PutA R_Tab 20 6 2 (.int) := ⟨R_Tab, T_Tab, 7, ty_Tab, rfl, by decide, by decide, in_Tab, rfl, tyok_Tab, nm_Tab, by decide +kernel, rfl, Or.inl (mT 76 (by decide +kernel) rfl)⟩
theorem pF_Tab_24 : PutF R_Tab 24 6 3 (.array .int) := ⟨R_Tab, T_Tab, 7, ty_Tab, rfl, by decide, by decide, in_Tab, rfl, tyok_Tab, nm_Tab, by decide +kernel, rfl, (mT 78 (by decide +kernel) rfl), rfl⟩
theorem pF_Tab_27 : PutF R_Tab 27 6 4 (.array .int) := ⟨R_Tab, T_Tab, 7, ty_Tab, rfl, by decide, by decide, in_Tab, rfl, tyok_Tab, nm_Tab, by decide +kernel, rfl, (mT 79 (by decide +kernel) rfl), rfl⟩
theorem pF_Tab_30 : PutF R_Tab 30 6 5 (.array .int) := ⟨R_Tab, T_Tab, 7, ty_Tab, rfl, by decide, by decide, in_Tab, rfl, tyok_Tab, nm_Tab, by decide +kernel, rfl, (mT 80 (by decide +kernel) rfl), rfl⟩
theorem pF_Tab_33 : PutF R_Tab 33 6 6 (.array (.array .int)) := ⟨R_Tab, T_Tab, 7, ty_Tab, rfl, by decide, by decide, in_Tab, rfl, tyok_Tab, nm_Tab, by decide +kernel, rfl, (mT 81 (by decide +kernel) rfl), rfl⟩
theorem pf_Lim_7 : PutA R_Lim 7 2 0 (.int) := ⟨R_Lim, T_Lim, 3, ty_Lim, rfl, by decide, by decide, in_Lim, rfl, tyok_Lim, nm_Lim, by decide +kernel, rfl, Or.inl (mT 104 (by decide +kernel) rfl)⟩
theorem pf_Lim_13 : PutA R_Lim 13 2 1 (.int) := ⟨R_Lim, T_Lim, 3, ty_Lim, rfl, by decide, by decide, in_Lim, rfl, tyok_Lim, nm_Lim, by decide +kernel, rfl, Or.inl (mT 107 (by decide +kernel) rfl)⟩
theorem pf_Lim_16 : PutA R_Lim 16 2 2 (.int) := ⟨R_Lim, T_Lim, 3, ty_Lim, rfl, by decide, by decide, in_Lim, rfl, tyok_Lim, nm_Lim, by decide +kernel, rfl, Or.inl (mT 110 (by decide +kernel) rfl)⟩
theorem nw_Sur_9 : NewA R_Sur 9 0 4 [.null, .int (iv 0), .int (iv 0), .int (iv 0)] := ⟨R_Cut, T_Cut, ty_Cut, rfl, by decide, in_Cut, tyok_Cut, by decide +kernel, (mT 126 (by decide +kernel) rfl), (mT 127 (by decide +kernel) rfl), (mT 47 (by decide +kernel) rfl)⟩
theorem cl_Sur_11 : CalI R_Sur 11 y_Cut_init (.code y_Cut_init c_Cut_init 1 none) 0 := ⟨k_Cut_init, Or.inr ⟨"BestSplits", (mN 3 rfl)⟩, (mT 129 (by decide +kernel) rfl), rfl, (mT 47 (by decide +kernel) rfl), ⟨by decide +kernel, by decide +kernel, by decide +kernel⟩⟩
theorem pF_Sur_12 : PutF R_Sur 12 5 0 (.object "BestSplits$Cut") := ⟨R_Sur, T_Sur, 4, ty_Sur, rfl, by decide, by decide, in_Sur, rfl, tyok_Sur, nm_Sur, by decide +kernel, rfl, (mT 170 (by decide +kernel) rfl), rfl⟩
theorem pF_Sur_18 : PutF R_Sur 18 5 1 (.object "BestSplits$Cut") := ⟨R_Sur, T_Sur, 4, ty_Sur, rfl, by decide, by decide, in_Sur, rfl, tyok_Sur, nm_Sur, by decide +kernel, rfl, (mT 172 (by decide +kernel) rfl), rfl⟩
theorem pF_Sur_21 : PutF R_Sur 21 5 2 (.object "BestSplits$Table") := ⟨R_Sur, T_Sur, 4, ty_Sur, rfl, by decide, by decide, in_Sur, rfl, tyok_Sur, nm_Sur, by decide +kernel, rfl, (mT 174 (by decide +kernel) rfl), rfl⟩
theorem pF_Sur_25 : PutF R_Sur 25 5 3 (.object "BestSplits$Limits") := ⟨R_Sur, T_Sur, 4, ty_Sur, rfl, by decide, by decide, in_Sur, rfl, tyok_Sur, nm_Sur, by decide +kernel, rfl, (mT 175 (by decide +kernel) rfl), rfl⟩
theorem nw_Cut_7 : NewA R_Cut 7 1 2 [.int (iv 0), .int (iv 0)] := ⟨R_Fra, T_Fra, ty_Fra, rfl, by decide, in_Fra, tyok_Fra, by decide +kernel, (mT 132 (by decide +kernel) rfl), (mT 133 (by decide +kernel) rfl), (mT 48 (by decide +kernel) rfl)⟩
theorem cl_Cut_9 : CalI R_Cut 9 y_Fra_init (.code y_Fra_init c_Fra_init 1 none) 0 := ⟨k_Fra_init, Or.inr ⟨"BestSplits", (mN 4 rfl)⟩, (mT 135 (by decide +kernel) rfl), rfl, (mT 48 (by decide +kernel) rfl), ⟨by decide +kernel, by decide +kernel, by decide +kernel⟩⟩
theorem pF_Cut_10 : PutF R_Cut 10 0 0 (.object "BestSplits$Fraction") := ⟨R_Cut, T_Cut, 4, ty_Cut, rfl, by decide, by decide, in_Cut, rfl, tyok_Cut, nm_Cut, by decide +kernel, rfl, (mT 145 (by decide +kernel) rfl), rfl⟩
theorem pf_Fra_9 : PutA R_Fra 9 1 0 (.int) := ⟨R_Fra, T_Fra, 2, ty_Fra, rfl, by decide, by decide, in_Fra, rfl, tyok_Fra, nm_Fra, by decide +kernel, rfl, Or.inl (mT 138 (by decide +kernel) rfl)⟩
theorem pf_Fra_15 : PutA R_Fra 15 1 1 (.int) := ⟨R_Fra, T_Fra, 2, ty_Fra, rfl, by decide, by decide, in_Fra, rfl, tyok_Fra, nm_Fra, by decide +kernel, rfl, Or.inl (mT 139 (by decide +kernel) rfl)⟩
theorem pF_Tre_11 : PutF R_Tre 11 7 4 (.array (.object "BestSplits$Node")) := ⟨R_Tre, T_Tre, 6, ty_Tre, rfl, by decide, by decide, in_Tre, rfl, tyok_Tre, nm_Tre, by decide +kernel, rfl, (mT 258 (by decide +kernel) rfl), rfl⟩
theorem pF_Tre_17 : PutF R_Tre 17 7 1 (.object "BestSplits$Table") := ⟨R_Tre, T_Tre, 6, ty_Tre, rfl, by decide, by decide, in_Tre, rfl, tyok_Tre, nm_Tre, by decide +kernel, rfl, (mT 255 (by decide +kernel) rfl), rfl⟩
theorem pF_Tre_21 : PutF R_Tre 21 7 2 (.object "BestSplits$Limits") := ⟨R_Tre, T_Tre, 6, ty_Tre, rfl, by decide, by decide, in_Tre, rfl, tyok_Tre, nm_Tre, by decide +kernel, rfl, (mT 256 (by decide +kernel) rfl), rfl⟩
theorem pF_Tre_25 : PutF R_Tre 25 7 3 (.object "BestSplits$Survey") := ⟨R_Tre, T_Tre, 6, ty_Tre, rfl, by decide, by decide, in_Tre, rfl, tyok_Tre, nm_Tre, by decide +kernel, rfl, (mT 257 (by decide +kernel) rfl), rfl⟩
theorem fl_Tre_11 : FldA R_Tre 11 7 4 := ⟨R_Tre, T_Tre, 6, rfl, by decide, by decide, in_Tre, rfl, Or.inl (mT 258 (by decide +kernel) rfl)⟩
theorem nw_Tre_9 : NewA R_Tre 9 3 12 [.int (iv 0), .null, .int (iv 0), .int (iv 0), .int (iv 0), .int (iv 0), .null, .null, .int (iv 0), .int (iv 0), .int (iv 0), .int (iv 0)] := ⟨R_Nod, T_Nod, ty_Nod, rfl, by decide, in_Nod, tyok_Nod, by decide +kernel, (mT 191 (by decide +kernel) rfl), (mT 193 (by decide +kernel) rfl), (mT 50 (by decide +kernel) rfl)⟩
theorem cl_Tre_29 : CalI R_Tre 29 y_Nod_init (.code y_Nod_init c_Nod_init 2 none) 1 := ⟨k_Nod_init, Or.inl (mT 194 (by decide +kernel) rfl), (mT 195 (by decide +kernel) rfl), rfl, (mT 50 (by decide +kernel) rfl), ⟨by decide +kernel, by decide +kernel, by decide +kernel⟩⟩
theorem pF_Tre_32 : PutF R_Tre 32 7 5 (.object "BestSplits$Node") := ⟨R_Tre, T_Tre, 6, ty_Tre, rfl, by decide, by decide, in_Tre, rfl, tyok_Tre, nm_Tre, by decide +kernel, rfl, (mT 259 (by decide +kernel) rfl), rfl⟩
theorem pf_Tre_36 : PutA R_Tre 36 7 0 (.int) := ⟨R_Tre, T_Tre, 6, ty_Tre, rfl, by decide, by decide, in_Tre, rfl, tyok_Tre, nm_Tre, by decide +kernel, rfl, Or.inl (mT 252 (by decide +kernel) rfl)⟩
theorem nw_Nod_9 : NewA R_Nod 9 0 4 [.null, .int (iv 0), .int (iv 0), .int (iv 0)] := ⟨R_Cut, T_Cut, ty_Cut, rfl, by decide, in_Cut, tyok_Cut, by decide +kernel, (mT 198 (by decide +kernel) rfl), (mT 127 (by decide +kernel) rfl), (mT 47 (by decide +kernel) rfl)⟩
theorem cl_Nod_11 : CalI R_Nod 11 y_Cut_init (.code y_Cut_init c_Cut_init 1 none) 0 := ⟨k_Cut_init, Or.inr ⟨"BestSplits", (mN 6 rfl)⟩, (mT 129 (by decide +kernel) rfl), rfl, (mT 47 (by decide +kernel) rfl), ⟨by decide +kernel, by decide +kernel, by decide +kernel⟩⟩
theorem pF_Nod_12 : PutF R_Nod 12 3 1 (.object "BestSplits$Cut") := ⟨R_Nod, T_Nod, 12, ty_Nod, rfl, by decide, by decide, in_Nod, rfl, tyok_Nod, nm_Nod, by decide +kernel, rfl, (mT 202 (by decide +kernel) rfl), rfl⟩
theorem pF_Nod_18 : PutF R_Nod 18 3 0 (.int) := ⟨R_Nod, T_Nod, 12, ty_Nod, rfl, by decide, by decide, in_Nod, rfl, tyok_Nod, nm_Nod, by decide +kernel, rfl, (mT 200 (by decide +kernel) rfl), rfl⟩
theorem pF_Pru_11 : PutF R_Pru 11 4 1 (.array (.object "BestSplits$Fraction")) := ⟨R_Pru, T_Pru, 6, ty_Pru, rfl, by decide, by decide, in_Pru, rfl, tyok_Pru, nm_Pru, by decide +kernel, rfl, (mT 285 (by decide +kernel) rfl), rfl⟩
theorem pF_Pru_17 : PutF R_Pru 17 4 2 (.array .int) := ⟨R_Pru, T_Pru, 6, ty_Pru, rfl, by decide, by decide, in_Pru, rfl, tyok_Pru, nm_Pru, by decide +kernel, rfl, (mT 287 (by decide +kernel) rfl), rfl⟩
theorem pF_Pru_21 : PutF R_Pru 21 4 3 (.array .int) := ⟨R_Pru, T_Pru, 6, ty_Pru, rfl, by decide, by decide, in_Pru, rfl, tyok_Pru, nm_Pru, by decide +kernel, rfl, (mT 289 (by decide +kernel) rfl), rfl⟩
theorem nw_Pru_9 : NewA R_Pru 9 1 2 [.int (iv 0), .int (iv 0)] := ⟨R_Fra, T_Fra, ty_Fra, rfl, by decide, in_Fra, tyok_Fra, by decide +kernel, (mT 280 (by decide +kernel) rfl), (mT 133 (by decide +kernel) rfl), (mT 48 (by decide +kernel) rfl)⟩
theorem cl_Pru_24 : CalI R_Pru 24 y_Fra_init (.code y_Fra_init c_Fra_init 1 none) 0 := ⟨k_Fra_init, Or.inr ⟨"BestSplits", (mN 9 rfl)⟩, (mT 135 (by decide +kernel) rfl), rfl, (mT 48 (by decide +kernel) rfl), ⟨by decide +kernel, by decide +kernel, by decide +kernel⟩⟩
theorem pF_Pru_25 : PutF R_Pru 25 4 5 (.object "BestSplits$Fraction") := ⟨R_Pru, T_Pru, 6, ty_Pru, rfl, by decide, by decide, in_Pru, rfl, tyok_Pru, nm_Pru, by decide +kernel, rfl, (mT 292 (by decide +kernel) rfl), rfl⟩
theorem pF_Pru_29 : PutF R_Pru 29 4 4 (.object "BestSplits$Tree") := ⟨R_Pru, T_Pru, 6, ty_Pru, rfl, by decide, by decide, in_Pru, rfl, tyok_Pru, nm_Pru, by decide +kernel, rfl, (mT 291 (by decide +kernel) rfl), rfl⟩
theorem fl_Pru_11 : FldA R_Pru 11 4 1 := ⟨R_Pru, T_Pru, 6, rfl, by decide, by decide, in_Pru, rfl, Or.inl (mT 285 (by decide +kernel) rfl)⟩
theorem pf_Pru_33 : PutA R_Pru 33 4 0 (.int) := ⟨R_Pru, T_Pru, 6, ty_Pru, rfl, by decide, by decide, in_Pru, rfl, tyok_Pru, nm_Pru, by decide +kernel, rfl, Or.inl (mT 283 (by decide +kernel) rfl)⟩
theorem cl_Bs_65 : CalS R_Bs 65 y_Bs_isColumn (.code y_Bs_isColumn c_Bs_isColumn 1 (some (.boolean))) 1 := ⟨k_Bs_isColumn, Or.inl (mT 338 (by decide +kernel) rfl), (mT 339 (by decide +kernel) rfl), (mT 43 (by decide +kernel) rfl), ⟨by decide +kernel, by decide +kernel, by decide +kernel⟩⟩
theorem fl_Bs_69 : FldA R_Bs 69 6 2 := ⟨R_Tab, T_Tab, 7, rfl, by decide, by decide, in_Tab, rfl, Or.inl (mT 77 (by decide +kernel) rfl)⟩
theorem cl_Bs_72 : CalV R_Bs 72 y_Bs_noteChange (.code y_Bs_noteChange c_Bs_noteChange 1 none) 0 8 := ⟨k_Bs_noteChange, Or.inl (mT 341 (by decide +kernel) rfl), (mT 343 (by decide +kernel) rfl), (mT 0 (by decide +kernel) rfl), (mT 43 (by decide +kernel) rfl), ⟨by decide +kernel, by decide +kernel, by decide +kernel⟩, by decide, T_Bs, 9, rfl⟩
theorem cl_Bs_75 : CalV R_Bs 75 y_Tab_changeSort (.code y_Tab_changeSort c_Tab_changeSort 4 (some (.int))) 2 6 := ⟨k_Tab_changeSort, Or.inl (mT 345 (by decide +kernel) rfl), (mT 346 (by decide +kernel) rfl), (mT 347 (by decide +kernel) rfl), (mT 44 (by decide +kernel) rfl), ⟨by decide +kernel, by decide +kernel, by decide +kernel⟩, by decide, T_Tab, 7, rfl⟩
theorem cl_Tab_36 : CalS R_Tab 36 y_Bs_isColumn (.code y_Bs_isColumn c_Bs_isColumn 1 (some (.boolean))) 1 := ⟨k_Bs_isColumn, Or.inr ⟨"BestSplits", (mN 10 rfl)⟩, (mT 339 (by decide +kernel) rfl), (mT 43 (by decide +kernel) rfl), ⟨by decide +kernel, by decide +kernel, by decide +kernel⟩⟩
theorem fl_Tab_24 : FldA R_Tab 24 6 3 := ⟨R_Tab, T_Tab, 7, rfl, by decide, by decide, in_Tab, rfl, Or.inl (mT 78 (by decide +kernel) rfl)⟩
theorem cl_Bs_79 : CalV R_Bs 79 y_Bs_ask (.code y_Bs_ask c_Bs_ask 5 none) 4 8 := ⟨k_Bs_ask, Or.inl (mT 354 (by decide +kernel) rfl), (mT 356 (by decide +kernel) rfl), (mT 1 (by decide +kernel) rfl), (mT 43 (by decide +kernel) rfl), ⟨by decide +kernel, by decide +kernel, by decide +kernel⟩, by decide, T_Bs, 9, rfl⟩
theorem fl_Bs_53 : FldA R_Bs 53 8 6 := ⟨R_Bs, T_Bs, 9, rfl, by decide, by decide, in_Bs, rfl, Or.inl (mT 312 (by decide +kernel) rfl)⟩
theorem cl_Bs_83 : CalV R_Bs 83 y_Tab_takes (.code y_Tab_takes c_Tab_takes 4 (some (.boolean))) 1 6 := ⟨k_Tab_takes, Or.inl (mT 358 (by decide +kernel) rfl), (mT 359 (by decide +kernel) rfl), (mT 360 (by decide +kernel) rfl), (mT 44 (by decide +kernel) rfl), ⟨by decide +kernel, by decide +kernel, by decide +kernel⟩, by decide, T_Tab, 7, rfl⟩
theorem cl_Bs_87 : CalS R_Bs 87 y_Bs_isClass (.code y_Bs_isClass c_Bs_isClass 1 (some (.boolean))) 1 := ⟨k_Bs_isClass, Or.inl (mT 362 (by decide +kernel) rfl), (mT 363 (by decide +kernel) rfl), (mT 43 (by decide +kernel) rfl), ⟨by decide +kernel, by decide +kernel, by decide +kernel⟩⟩
theorem cl_Bs_90 : CalV R_Bs 90 y_Tab_add (.code y_Tab_add c_Tab_add 5 (some (.int))) 2 6 := ⟨k_Tab_add, Or.inl (mT 365 (by decide +kernel) rfl), (mT 366 (by decide +kernel) rfl), (mT 367 (by decide +kernel) rfl), (mT 44 (by decide +kernel) rfl), ⟨by decide +kernel, by decide +kernel, by decide +kernel⟩, by decide, T_Tab, 7, rfl⟩
theorem fl_Tab_20 : FldA R_Tab 20 6 2 := ⟨R_Tab, T_Tab, 7, rfl, by decide, by decide, in_Tab, rfl, Or.inl (mT 76 (by decide +kernel) rfl)⟩
theorem cl_Tab_40 : CalS R_Tab 40 y_Bs_isClass (.code y_Bs_isClass c_Bs_isClass 1 (some (.boolean))) 1 := ⟨k_Bs_isClass, Or.inr ⟨"BestSplits", (mN 11 rfl)⟩, (mT 363 (by decide +kernel) rfl), (mT 43 (by decide +kernel) rfl), ⟨by decide +kernel, by decide +kernel, by decide +kernel⟩⟩
theorem fl_Tab_11 : FldA R_Tab 11 6 0 := ⟨R_Tab, T_Tab, 7, rfl, by decide, by decide, in_Tab, rfl, Or.inl (mT 72 (by decide +kernel) rfl)⟩
theorem cl_Tab_43 : CalV R_Tab 43 y_Tab_enterKnown (.code y_Tab_enterKnown c_Tab_enterKnown 6 none) 3 6 := ⟨k_Tab_enterKnown, Or.inl (mT 370 (by decide +kernel) rfl), (mT 372 (by decide +kernel) rfl), (mT 2 (by decide +kernel) rfl), (mT 44 (by decide +kernel) rfl), ⟨by decide +kernel, by decide +kernel, by decide +kernel⟩, by decide, T_Tab, 7, rfl⟩
theorem fl_Tab_16 : FldA R_Tab 16 6 1 := ⟨R_Tab, T_Tab, 7, rfl, by decide, by decide, in_Tab, rfl, Or.inl (mT 74 (by decide +kernel) rfl)⟩
theorem fl_Tab_27 : FldA R_Tab 27 6 4 := ⟨R_Tab, T_Tab, 7, rfl, by decide, by decide, in_Tab, rfl, Or.inl (mT 79 (by decide +kernel) rfl)⟩
theorem fl_Tab_30 : FldA R_Tab 30 6 5 := ⟨R_Tab, T_Tab, 7, rfl, by decide, by decide, in_Tab, rfl, Or.inl (mT 80 (by decide +kernel) rfl)⟩
theorem cl_Tab_47 : CalV R_Tab 47 y_Tab_lastNumber (.code y_Tab_lastNumber c_Tab_lastNumber 2 (some (.int))) 1 6 := ⟨k_Tab_lastNumber, Or.inl (mT 374 (by decide +kernel) rfl), (mT 375 (by decide +kernel) rfl), (mT 376 (by decide +kernel) rfl), (mT 44 (by decide +kernel) rfl), ⟨by decide +kernel, by decide +kernel, by decide +kernel⟩, by decide, T_Tab, 7, rfl⟩
theorem cl_Tab_51 : CalV R_Tab 51 y_Tab_isLeftOf (.code y_Tab_isLeftOf c_Tab_isLeftOf 4 (some (.boolean))) 3 6 := ⟨k_Tab_isLeftOf, Or.inl (mT 378 (by decide +kernel) rfl), (mT 380 (by decide +kernel) rfl), (mT 3 (by decide +kernel) rfl), (mT 44 (by decide +kernel) rfl), ⟨by decide +kernel, by decide +kernel, by decide +kernel⟩, by decide, T_Tab, 7, rfl⟩
theorem fl_Tab_33 : FldA R_Tab 33 6 6 := ⟨R_Tab, T_Tab, 7, rfl, by decide, by decide, in_Tab, rfl, Or.inl (mT 81 (by decide +kernel) rfl)⟩
theorem cl_Bs_94 : CalV R_Bs 94 y_Tab_removeAll (.code y_Tab_removeAll c_Tab_removeAll 4 (some (.int))) 0 6 := ⟨k_Tab_removeAll, Or.inl (mT 386 (by decide +kernel) rfl), (mT 387 (by decide +kernel) rfl), (mT 388 (by decide +kernel) rfl), (mT 44 (by decide +kernel) rfl), ⟨by decide +kernel, by decide +kernel, by decide +kernel⟩, by decide, T_Tab, 7, rfl⟩
theorem pf_Bs_98 : PutA R_Bs 98 2 0 (.int) := ⟨R_Lim, T_Lim, 3, ty_Lim, rfl, by decide, by decide, in_Lim, rfl, tyok_Lim, nm_Lim, by decide +kernel, rfl, Or.inl (mT 106 (by decide +kernel) rfl)⟩
theorem pf_Bs_101 : PutA R_Bs 101 2 1 (.int) := ⟨R_Lim, T_Lim, 3, ty_Lim, rfl, by decide, by decide, in_Lim, rfl, tyok_Lim, nm_Lim, by decide +kernel, rfl, Or.inl (mT 109 (by decide +kernel) rfl)⟩
theorem pf_Bs_104 : PutA R_Bs 104 2 2 (.int) := ⟨R_Lim, T_Lim, 3, ty_Lim, rfl, by decide, by decide, in_Lim, rfl, tyok_Lim, nm_Lim, by decide +kernel, rfl, Or.inl (mT 111 (by decide +kernel) rfl)⟩
theorem cl_Bs_107 : CalV R_Bs 107 y_Bs_growIfChanged (.code y_Bs_growIfChanged c_Bs_growIfChanged 1 none) 0 8 := ⟨k_Bs_growIfChanged, Or.inl (mT 398 (by decide +kernel) rfl), (mT 400 (by decide +kernel) rfl), (mT 4 (by decide +kernel) rfl), (mT 43 (by decide +kernel) rfl), ⟨by decide +kernel, by decide +kernel, by decide +kernel⟩, by decide, T_Bs, 9, rfl⟩
theorem fl_Bs_110 : FldA R_Bs 110 7 0 := ⟨R_Tre, T_Tre, 6, rfl, by decide, by decide, in_Tre, rfl, Or.inl (mT 254 (by decide +kernel) rfl)⟩
theorem fl_Bs_57 : FldA R_Bs 57 8 7 := ⟨R_Bs, T_Bs, 9, rfl, by decide, by decide, in_Bs, rfl, Or.inl (mT 313 (by decide +kernel) rfl)⟩
theorem cl_Bs_166 : CalV R_Bs 166 y_Tab_allRows (.code y_Tab_allRows c_Tab_allRows 1 (some (.int))) 0 6 := ⟨k_Tab_allRows, Or.inl (mT 402 (by decide +kernel) rfl), (mT 403 (by decide +kernel) rfl), (mT 404 (by decide +kernel) rfl), (mT 44 (by decide +kernel) rfl), ⟨by decide +kernel, by decide +kernel, by decide +kernel⟩, by decide, T_Tab, 7, rfl⟩
theorem cl_Bs_201 : CalV R_Bs 201 y_Tre_grow (.code y_Tre_grow c_Tre_grow 3 none) 1 7 := ⟨k_Tre_grow, Or.inl (mT 406 (by decide +kernel) rfl), (mT 407 (by decide +kernel) rfl), (mT 408 (by decide +kernel) rfl), (mT 49 (by decide +kernel) rfl), ⟨by decide +kernel, by decide +kernel, by decide +kernel⟩, by decide, T_Tre, 6, rfl⟩
theorem fl_Bs_49 : FldA R_Bs 49 8 5 := ⟨R_Bs, T_Bs, 9, rfl, by decide, by decide, in_Bs, rfl, Or.inl (mT 311 (by decide +kernel) rfl)⟩
theorem cl_Bs_211 : CalV R_Bs 211 y_Pru_cutBackToRoot (.code y_Pru_cutBackToRoot c_Pru_cutBackToRoot 3 none) 0 4 := ⟨k_Pru_cutBackToRoot, Or.inl (mT 502 (by decide +kernel) rfl), (mT 503 (by decide +kernel) rfl), (mT 504 (by decide +kernel) rfl), (mT 51 (by decide +kernel) rfl), ⟨by decide +kernel, by decide +kernel, by decide +kernel⟩, by decide, T_Pru, 6, rfl⟩
theorem fl_Tre_32 : FldA R_Tre 32 7 5 := ⟨R_Tre, T_Tre, 6, rfl, by decide, by decide, in_Tre, rfl, Or.inl (mT 259 (by decide +kernel) rfl)⟩
theorem cl_Tre_40 : CalV R_Tre 40 y_Tre_begin (.code y_Tre_begin c_Tre_begin 4 none) 3 7 := ⟨k_Tre_begin, Or.inl (mT 410 (by decide +kernel) rfl), (mT 412 (by decide +kernel) rfl), (mT 5 (by decide +kernel) rfl), (mT 49 (by decide +kernel) rfl), ⟨by decide +kernel, by decide +kernel, by decide +kernel⟩, by decide, T_Tre, 6, rfl⟩
theorem fl_Tre_36 : FldA R_Tre 36 7 0 := ⟨R_Tre, T_Tre, 6, rfl, by decide, by decide, in_Tre, rfl, Or.inl (mT 252 (by decide +kernel) rfl)⟩
theorem cl_Tre_44 : CalV R_Tre 44 y_Tre_partIfDue (.code y_Tre_partIfDue c_Tre_partIfDue 6 none) 1 7 := ⟨k_Tre_partIfDue, Or.inl (mT 430 (by decide +kernel) rfl), (mT 432 (by decide +kernel) rfl), (mT 6 (by decide +kernel) rfl), (mT 49 (by decide +kernel) rfl), ⟨by decide +kernel, by decide +kernel, by decide +kernel⟩, by decide, T_Tre, 6, rfl⟩
theorem pf_Tre_48 : PutA R_Tre 48 3 2 (.int) := ⟨R_Nod, T_Nod, 12, ty_Nod, rfl, by decide, by decide, in_Nod, rfl, tyok_Nod, nm_Nod, by decide +kernel, rfl, Or.inl (mT 205 (by decide +kernel) rfl)⟩
theorem pf_Tre_51 : PutA R_Tre 51 3 3 (.int) := ⟨R_Nod, T_Nod, 12, ty_Nod, rfl, by decide, by decide, in_Nod, rfl, tyok_Nod, nm_Nod, by decide +kernel, rfl, Or.inl (mT 208 (by decide +kernel) rfl)⟩
theorem fl_Tre_17 : FldA R_Tre 17 7 1 := ⟨R_Tre, T_Tre, 6, rfl, by decide, by decide, in_Tre, rfl, Or.inl (mT 255 (by decide +kernel) rfl)⟩
theorem cl_Tre_54 : CalV R_Tre 54 y_Tab_labelOf (.code y_Tab_labelOf c_Tab_labelOf 4 (some (.int))) 1 6 := ⟨k_Tab_labelOf, Or.inl (mT 414 (by decide +kernel) rfl), (mT 415 (by decide +kernel) rfl), (mT 416 (by decide +kernel) rfl), (mT 44 (by decide +kernel) rfl), ⟨by decide +kernel, by decide +kernel, by decide +kernel⟩, by decide, T_Tab, 7, rfl⟩
theorem pf_Tre_60 : PutA R_Tre 60 3 4 (.int) := ⟨R_Nod, T_Nod, 12, ty_Nod, rfl, by decide, by decide, in_Nod, rfl, tyok_Nod, nm_Nod, by decide +kernel, rfl, Or.inl (mT 210 (by decide +kernel) rfl)⟩
theorem cl_Tre_63 : CalS R_Tre 63 y_Int_bitCount (.code y_Int_bitCount c_Int_bitCount 1 (some (.int))) 1 := ⟨k_Int_bitCount, Or.inl (mT 428 (by decide +kernel) rfl), (mT 423 (by decide +kernel) rfl), (mT 53 (by decide +kernel) rfl), ⟨by decide +kernel, by decide +kernel, by decide +kernel⟩⟩
theorem fl_Tre_60 : FldA R_Tre 60 3 4 := ⟨R_Nod, T_Nod, 12, rfl, by decide, by decide, in_Nod, rfl, Or.inl (mT 210 (by decide +kernel) rfl)⟩
theorem cl_Tre_68 : CalV R_Tre 68 y_Tab_countOf (.code y_Tab_countOf c_Tab_countOf 3 (some (.int))) 2 6 := ⟨k_Tab_countOf, Or.inl (mT 429 (by decide +kernel) rfl), (mT 419 (by decide +kernel) rfl), (mT 420 (by decide +kernel) rfl), (mT 44 (by decide +kernel) rfl), ⟨by decide +kernel, by decide +kernel, by decide +kernel⟩, by decide, T_Tab, 7, rfl⟩
theorem pf_Tre_72 : PutA R_Tre 72 3 5 (.int) := ⟨R_Nod, T_Nod, 12, ty_Nod, rfl, by decide, by decide, in_Nod, rfl, tyok_Nod, nm_Nod, by decide +kernel, rfl, Or.inl (mT 213 (by decide +kernel) rfl)⟩
theorem pf_Tre_75 : PutA R_Tre 75 3 6 (.object "BestSplits$Node") := ⟨R_Nod, T_Nod, 12, ty_Nod, rfl, by decide, by decide, in_Nod, rfl, tyok_Nod, nm_Nod, by decide +kernel, rfl, Or.inl (mT 217 (by decide +kernel) rfl)⟩
theorem pf_Tre_78 : PutA R_Tre 78 3 7 (.object "BestSplits$Node") := ⟨R_Nod, T_Nod, 12, ty_Nod, rfl, by decide, by decide, in_Nod, rfl, tyok_Nod, nm_Nod, by decide +kernel, rfl, Or.inl (mT 219 (by decide +kernel) rfl)⟩
theorem cl_Tab_77 : CalV R_Tab 77 y_Tab_countOf (.code y_Tab_countOf c_Tab_countOf 3 (some (.int))) 2 6 := ⟨k_Tab_countOf, Or.inl (mT 418 (by decide +kernel) rfl), (mT 419 (by decide +kernel) rfl), (mT 420 (by decide +kernel) rfl), (mT 44 (by decide +kernel) rfl), ⟨by decide +kernel, by decide +kernel, by decide +kernel⟩, by decide, T_Tab, 7, rfl⟩
theorem cl_Tab_72 : CalS R_Tab 72 y_Int_bitCount (.code y_Int_bitCount c_Int_bitCount 1 (some (.int))) 1 := ⟨k_Int_bitCount, Or.inl (mT 422 (by decide +kernel) rfl), (mT 423 (by decide +kernel) rfl), (mT 53 (by decide +kernel) rfl), ⟨by decide +kernel, by decide +kernel, by decide +kernel⟩⟩
theorem fl_Tre_72 : FldA R_Tre 72 3 5 := ⟨R_Nod, T_Nod, 12, rfl, by decide, by decide, in_Nod, rfl, Or.inl (mT 213 (by decide +kernel) rfl)⟩
theorem fl_Tre_51 : FldA R_Tre 51 3 3 := ⟨R_Nod, T_Nod, 12, rfl, by decide, by decide, in_Nod, rfl, Or.inl (mT 208 (by decide +kernel) rfl)⟩
theorem fl_Tre_21 : FldA R_Tre 21 7 2 := ⟨R_Tre, T_Tre, 6, rfl, by decide, by decide, in_Tre, rfl, Or.inl (mT 256 (by decide +kernel) rfl)⟩
theorem fl_Tre_81 : FldA R_Tre 81 2 0 := ⟨R_Lim, T_Lim, 3, rfl, by decide, by decide, in_Lim, rfl, Or.inl (mT 105 (by decide +kernel) rfl)⟩
theorem fl_Tre_25 : FldA R_Tre 25 7 3 := ⟨R_Tre, T_Tre, 6, rfl, by decide, by decide, in_Tre, rfl, Or.inl (mT 257 (by decide +kernel) rfl)⟩
theorem fl_Tre_48 : FldA R_Tre 48 3 2 := ⟨R_Nod, T_Nod, 12, rfl, by decide, by decide, in_Nod, rfl, Or.inl (mT 205 (by decide +kernel) rfl)⟩
theorem cl_Tre_84 : CalV R_Tre 84 y_Sur_look (.code y_Sur_look c_Sur_look 6 (some (.int))) 1 5 := ⟨k_Sur_look, Or.inl (mT 434 (by decide +kernel) rfl), (mT 435 (by decide +kernel) rfl), (mT 436 (by decide +kernel) rfl), (mT 46 (by decide +kernel) rfl), ⟨by decide +kernel, by decide +kernel, by decide +kernel⟩, by decide, T_Sur, 4, rfl⟩
theorem fl_Tre_89 : FldA R_Tre 89 5 1 := ⟨R_Sur, T_Sur, 4, rfl, by decide, by decide, in_Sur, rfl, Or.inl (mT 173 (by decide +kernel) rfl)⟩
theorem fl_Tre_93 : FldA R_Tre 93 0 0 := ⟨R_Cut, T_Cut, 4, rfl, by decide, by decide, in_Cut, rfl, Or.inl (mT 147 (by decide +kernel) rfl)⟩
theorem fl_Tre_99 : FldA R_Tre 99 2 2 := ⟨R_Lim, T_Lim, 3, rfl, by decide, by decide, in_Lim, rfl, Or.inl (mT 112 (by decide +kernel) rfl)⟩
theorem cl_Tre_102 : CalV R_Tre 102 y_Fra_isAboveHundredths (.code y_Fra_isAboveHundredths c_Fra_isAboveHundredths 2 (some (.boolean))) 1 1 := ⟨k_Fra_isAboveHundredths, Or.inl (mT 495 (by decide +kernel) rfl), (mT 496 (by decide +kernel) rfl), (mT 497 (by decide +kernel) rfl), (mT 48 (by decide +kernel) rfl), ⟨by decide +kernel, by decide +kernel, by decide +kernel⟩, by decide, T_Fra, 2, rfl⟩
theorem fl_Tre_108 : FldA R_Tre 108 3 1 := ⟨R_Nod, T_Nod, 12, rfl, by decide, by decide, in_Nod, rfl, Or.inl (mT 203 (by decide +kernel) rfl)⟩
theorem cl_Tre_111 : CalV R_Tre 111 y_Cut_becomeAs (.code y_Cut_becomeAs c_Cut_becomeAs 2 none) 1 0 := ⟨k_Cut_becomeAs, Or.inl (mT 500 (by decide +kernel) rfl), (mT 487 (by decide +kernel) rfl), (mT 488 (by decide +kernel) rfl), (mT 47 (by decide +kernel) rfl), ⟨by decide +kernel, by decide +kernel, by decide +kernel⟩, by decide, T_Cut, 4, rfl⟩
theorem fl_Tre_115 : FldA R_Tre 115 0 1 := ⟨R_Cut, T_Cut, 4, rfl, by decide, by decide, in_Cut, rfl, Or.inl (mT 151 (by decide +kernel) rfl)⟩
theorem fl_Tre_118 : FldA R_Tre 118 0 2 := ⟨R_Cut, T_Cut, 4, rfl, by decide, by decide, in_Cut, rfl, Or.inl (mT 155 (by decide +kernel) rfl)⟩
theorem fl_Tre_121 : FldA R_Tre 121 0 3 := ⟨R_Cut, T_Cut, 4, rfl, by decide, by decide, in_Cut, rfl, Or.inl (mT 159 (by decide +kernel) rfl)⟩
theorem cl_Tre_124 : CalV R_Tre 124 y_Tab_leftOf (.code y_Tab_leftOf c_Tab_leftOf 6 (some (.int))) 4 6 := ⟨k_Tab_leftOf, Or.inl (mT 501 (by decide +kernel) rfl), (mT 459 (by decide +kernel) rfl), (mT 460 (by decide +kernel) rfl), (mT 44 (by decide +kernel) rfl), ⟨by decide +kernel, by decide +kernel, by decide +kernel⟩, by decide, T_Tab, 7, rfl⟩
theorem fl_Sur_21 : FldA R_Sur 21 5 2 := ⟨R_Sur, T_Sur, 4, rfl, by decide, by decide, in_Sur, rfl, Or.inl (mT 174 (by decide +kernel) rfl)⟩
theorem cl_Sur_29 : CalV R_Sur 29 y_Tab_canCut (.code y_Tab_canCut c_Tab_canCut 4 (some (.boolean))) 3 6 := ⟨k_Tab_canCut, Or.inl (mT 438 (by decide +kernel) rfl), (mT 439 (by decide +kernel) rfl), (mT 440 (by decide +kernel) rfl), (mT 44 (by decide +kernel) rfl), ⟨by decide +kernel, by decide +kernel, by decide +kernel⟩, by decide, T_Tab, 7, rfl⟩
theorem cl_Sur_35 : CalV R_Sur 35 y_Sur_measure (.code y_Sur_measure c_Sur_measure 12 (some (.boolean))) 4 5 := ⟨k_Sur_measure, Or.inl (mT 450 (by decide +kernel) rfl), (mT 451 (by decide +kernel) rfl), (mT 452 (by decide +kernel) rfl), (mT 46 (by decide +kernel) rfl), ⟨by decide +kernel, by decide +kernel, by decide +kernel⟩, by decide, T_Sur, 4, rfl⟩
theorem cl_Sur_39 : CalV R_Sur 39 y_Sur_keepIfBetter (.code y_Sur_keepIfBetter c_Sur_keepIfBetter 2 none) 1 5 := ⟨k_Sur_keepIfBetter, Or.inl (mT 475 (by decide +kernel) rfl), (mT 477 (by decide +kernel) rfl), (mT 9 (by decide +kernel) rfl), (mT 46 (by decide +kernel) rfl), ⟨by decide +kernel, by decide +kernel, by decide +kernel⟩, by decide, T_Sur, 4, rfl⟩
theorem cl_Tab_66 : CalV R_Tab 66 y_Tab_isGrouping (.code y_Tab_isGrouping c_Tab_isGrouping 6 (some (.boolean))) 3 6 := ⟨k_Tab_isGrouping, Or.inl (mT 442 (by decide +kernel) rfl), (mT 444 (by decide +kernel) rfl), (mT 7 (by decide +kernel) rfl), (mT 44 (by decide +kernel) rfl), ⟨by decide +kernel, by decide +kernel, by decide +kernel⟩, by decide, T_Tab, 7, rfl⟩
theorem cl_Tab_69 : CalV R_Tab 69 y_Tab_isStep (.code y_Tab_isStep c_Tab_isStep 6 (some (.boolean))) 3 6 := ⟨k_Tab_isStep, Or.inl (mT 446 (by decide +kernel) rfl), (mT 448 (by decide +kernel) rfl), (mT 8 (by decide +kernel) rfl), (mT 44 (by decide +kernel) rfl), ⟨by decide +kernel, by decide +kernel, by decide +kernel⟩, by decide, T_Tab, 7, rfl⟩
theorem cl_Sur_57 : CalV R_Sur 57 y_Tab_unknownOf (.code y_Tab_unknownOf c_Tab_unknownOf 3 (some (.int))) 2 6 := ⟨k_Tab_unknownOf, Or.inl (mT 454 (by decide +kernel) rfl), (mT 455 (by decide +kernel) rfl), (mT 456 (by decide +kernel) rfl), (mT 44 (by decide +kernel) rfl), ⟨by decide +kernel, by decide +kernel, by decide +kernel⟩, by decide, T_Tab, 7, rfl⟩
theorem cl_Sur_61 : CalV R_Sur 61 y_Tab_leftOf (.code y_Tab_leftOf c_Tab_leftOf 6 (some (.int))) 4 6 := ⟨k_Tab_leftOf, Or.inl (mT 458 (by decide +kernel) rfl), (mT 459 (by decide +kernel) rfl), (mT 460 (by decide +kernel) rfl), (mT 44 (by decide +kernel) rfl), ⟨by decide +kernel, by decide +kernel, by decide +kernel⟩, by decide, T_Tab, 7, rfl⟩
theorem cl_Sur_65 : CalS R_Sur 65 y_Int_bitCount (.code y_Int_bitCount c_Int_bitCount 1 (some (.int))) 1 := ⟨k_Int_bitCount, Or.inl (mT 462 (by decide +kernel) rfl), (mT 423 (by decide +kernel) rfl), (mT 53 (by decide +kernel) rfl), ⟨by decide +kernel, by decide +kernel, by decide +kernel⟩⟩
theorem fl_Sur_25 : FldA R_Sur 25 5 3 := ⟨R_Sur, T_Sur, 4, rfl, by decide, by decide, in_Sur, rfl, Or.inl (mT 175 (by decide +kernel) rfl)⟩
theorem fl_Sur_71 : FldA R_Sur 71 2 1 := ⟨R_Lim, T_Lim, 3, rfl, by decide, by decide, in_Lim, rfl, Or.inl (mT 108 (by decide +kernel) rfl)⟩
theorem cl_Sur_77 : CalV R_Sur 77 y_Tab_squaresOf (.code y_Tab_squaresOf c_Tab_squaresOf 5 (some (.int))) 1 6 := ⟨k_Tab_squaresOf, Or.inl (mT 463 (by decide +kernel) rfl), (mT 464 (by decide +kernel) rfl), (mT 465 (by decide +kernel) rfl), (mT 44 (by decide +kernel) rfl), ⟨by decide +kernel, by decide +kernel, by decide +kernel⟩, by decide, T_Tab, 7, rfl⟩
theorem fl_Sur_12 : FldA R_Sur 12 5 0 := ⟨R_Sur, T_Sur, 4, rfl, by decide, by decide, in_Sur, rfl, Or.inl (mT 170 (by decide +kernel) rfl)⟩
theorem cl_Sur_80 : CalV R_Sur 80 y_Cut_become (.code y_Cut_become c_Cut_become 4 none) 3 0 := ⟨k_Cut_become, Or.inl (mT 467 (by decide +kernel) rfl), (mT 468 (by decide +kernel) rfl), (mT 469 (by decide +kernel) rfl), (mT 47 (by decide +kernel) rfl), ⟨by decide +kernel, by decide +kernel, by decide +kernel⟩, by decide, T_Cut, 4, rfl⟩
theorem fl_Sur_43 : FldA R_Sur 43 0 0 := ⟨R_Cut, T_Cut, 4, rfl, by decide, by decide, in_Cut, rfl, Or.inl (mT 146 (by decide +kernel) rfl)⟩
theorem cl_Sur_84 : CalV R_Sur 84 y_Fra_become (.code y_Fra_become c_Fra_become 3 none) 2 1 := ⟨k_Fra_become, Or.inl (mT 471 (by decide +kernel) rfl), (mT 472 (by decide +kernel) rfl), (mT 473 (by decide +kernel) rfl), (mT 48 (by decide +kernel) rfl), ⟨by decide +kernel, by decide +kernel, by decide +kernel⟩, by decide, T_Fra, 2, rfl⟩
theorem pf_Cut_16 : PutA R_Cut 16 0 1 (.int) := ⟨R_Cut, T_Cut, 4, ty_Cut, rfl, by decide, by decide, in_Cut, rfl, tyok_Cut, nm_Cut, by decide +kernel, rfl, Or.inl (mT 149 (by decide +kernel) rfl)⟩
theorem pf_Cut_20 : PutA R_Cut 20 0 2 (.int) := ⟨R_Cut, T_Cut, 4, ty_Cut, rfl, by decide, by decide, in_Cut, rfl, tyok_Cut, nm_Cut, by decide +kernel, rfl, Or.inl (mT 153 (by decide +kernel) rfl)⟩
theorem pf_Cut_23 : PutA R_Cut 23 0 3 (.int) := ⟨R_Cut, T_Cut, 4, ty_Cut, rfl, by decide, by decide, in_Cut, rfl, tyok_Cut, nm_Cut, by decide +kernel, rfl, Or.inl (mT 157 (by decide +kernel) rfl)⟩
theorem fl_Sur_18 : FldA R_Sur 18 5 1 := ⟨R_Sur, T_Sur, 4, rfl, by decide, by decide, in_Sur, rfl, Or.inl (mT 172 (by decide +kernel) rfl)⟩
theorem cl_Sur_47 : CalV R_Sur 47 y_Fra_compareWith (.code y_Fra_compareWith c_Fra_compareWith 2 (some (.int))) 1 1 := ⟨k_Fra_compareWith, Or.inl (mT 479 (by decide +kernel) rfl), (mT 480 (by decide +kernel) rfl), (mT 481 (by decide +kernel) rfl), (mT 48 (by decide +kernel) rfl), ⟨by decide +kernel, by decide +kernel, by decide +kernel⟩, by decide, T_Fra, 2, rfl⟩
theorem cl_Sur_53 : CalV R_Sur 53 y_Cut_becomeAs (.code y_Cut_becomeAs c_Cut_becomeAs 2 none) 1 0 := ⟨k_Cut_becomeAs, Or.inl (mT 486 (by decide +kernel) rfl), (mT 487 (by decide +kernel) rfl), (mT 488 (by decide +kernel) rfl), (mT 47 (by decide +kernel) rfl), ⟨by decide +kernel, by decide +kernel, by decide +kernel⟩, by decide, T_Cut, 4, rfl⟩
theorem fl_Fra_9 : FldA R_Fra 9 1 0 := ⟨R_Fra, T_Fra, 2, rfl, by decide, by decide, in_Fra, rfl, Or.inl (mT 138 (by decide +kernel) rfl)⟩
theorem fl_Fra_15 : FldA R_Fra 15 1 1 := ⟨R_Fra, T_Fra, 2, rfl, by decide, by decide, in_Fra, rfl, Or.inl (mT 139 (by decide +kernel) rfl)⟩
theorem cl_Fra_18 : CalS R_Fra 18 y_Lon_compare (.code y_Lon_compare c_Lon_compare 4 (some (.int))) 2 := ⟨k_Lon_compare, Or.inl (mT 483 (by decide +kernel) rfl), (mT 484 (by decide +kernel) rfl), (mT 54 (by decide +kernel) rfl), ⟨by decide +kernel, by decide +kernel, by decide +kernel⟩⟩
theorem fl_Cut_16 : FldA R_Cut 16 0 1 := ⟨R_Cut, T_Cut, 4, rfl, by decide, by decide, in_Cut, rfl, Or.inl (mT 149 (by decide +kernel) rfl)⟩
theorem fl_Cut_20 : FldA R_Cut 20 0 2 := ⟨R_Cut, T_Cut, 4, rfl, by decide, by decide, in_Cut, rfl, Or.inl (mT 153 (by decide +kernel) rfl)⟩
theorem fl_Cut_23 : FldA R_Cut 23 0 3 := ⟨R_Cut, T_Cut, 4, rfl, by decide, by decide, in_Cut, rfl, Or.inl (mT 157 (by decide +kernel) rfl)⟩
theorem cl_Cut_26 : CalV R_Cut 26 y_Cut_become (.code y_Cut_become c_Cut_become 4 none) 3 0 := ⟨k_Cut_become, Or.inl (mT 490 (by decide +kernel) rfl), (mT 468 (by decide +kernel) rfl), (mT 469 (by decide +kernel) rfl), (mT 47 (by decide +kernel) rfl), ⟨by decide +kernel, by decide +kernel, by decide +kernel⟩, by decide, T_Cut, 4, rfl⟩
theorem fl_Cut_10 : FldA R_Cut 10 0 0 := ⟨R_Cut, T_Cut, 4, rfl, by decide, by decide, in_Cut, rfl, Or.inl (mT 145 (by decide +kernel) rfl)⟩
theorem cl_Cut_30 : CalV R_Cut 30 y_Fra_becomeAs (.code y_Fra_becomeAs c_Fra_becomeAs 2 none) 1 1 := ⟨k_Fra_becomeAs, Or.inl (mT 491 (by decide +kernel) rfl), (mT 492 (by decide +kernel) rfl), (mT 493 (by decide +kernel) rfl), (mT 48 (by decide +kernel) rfl), ⟨by decide +kernel, by decide +kernel, by decide +kernel⟩, by decide, T_Fra, 2, rfl⟩
theorem fl_Pru_29 : FldA R_Pru 29 4 4 := ⟨R_Pru, T_Pru, 6, rfl, by decide, by decide, in_Pru, rfl, Or.inl (mT 291 (by decide +kernel) rfl)⟩
theorem fl_Pru_37 : FldA R_Pru 37 7 0 := ⟨R_Tre, T_Tre, 6, rfl, by decide, by decide, in_Tre, rfl, Or.inl (mT 253 (by decide +kernel) rfl)⟩
theorem cl_Pru_40 : CalV R_Pru 40 y_Tre_find (.code y_Tre_find c_Tre_find 2 (some (.object "BestSplits$Node"))) 1 7 := ⟨k_Tre_find, Or.inl (mT 506 (by decide +kernel) rfl), (mT 507 (by decide +kernel) rfl), (mT 508 (by decide +kernel) rfl), (mT 49 (by decide +kernel) rfl), ⟨by decide +kernel, by decide +kernel, by decide +kernel⟩, by decide, T_Tre, 6, rfl⟩
theorem cl_Pru_44 : CalV R_Pru 44 y_Nod_beginStages (.code y_Nod_beginStages c_Nod_beginStages 1 none) 0 3 := ⟨k_Nod_beginStages, Or.inl (mT 510 (by decide +kernel) rfl), (mT 511 (by decide +kernel) rfl), (mT 512 (by decide +kernel) rfl), (mT 50 (by decide +kernel) rfl), ⟨by decide +kernel, by decide +kernel, by decide +kernel⟩, by decide, T_Nod, 12, rfl⟩
theorem cl_Pru_49 : CalV R_Pru 49 y_Pru_recordStage (.code y_Pru_recordStage c_Pru_recordStage 4 (some (.boolean))) 1 4 := ⟨k_Pru_recordStage, Or.inl (mT 518 (by decide +kernel) rfl), (mT 520 (by decide +kernel) rfl), (mT 10 (by decide +kernel) rfl), (mT 51 (by decide +kernel) rfl), ⟨by decide +kernel, by decide +kernel, by decide +kernel⟩, by decide, T_Pru, 6, rfl⟩
theorem cl_Pru_53 : CalV R_Pru 53 y_Pru_findAlpha (.code y_Pru_findAlpha c_Pru_findAlpha 6 none) 2 4 := ⟨k_Pru_findAlpha, Or.inl (mT 530 (by decide +kernel) rfl), (mT 532 (by decide +kernel) rfl), (mT 11 (by decide +kernel) rfl), (mT 51 (by decide +kernel) rfl), ⟨by decide +kernel, by decide +kernel, by decide +kernel⟩, by decide, T_Pru, 6, rfl⟩
theorem cl_Pru_57 : CalV R_Pru 57 y_Pru_cutBack (.code y_Pru_cutBack c_Pru_cutBack 5 none) 2 4 := ⟨k_Pru_cutBack, Or.inl (mT 541 (by decide +kernel) rfl), (mT 543 (by decide +kernel) rfl), (mT 13 (by decide +kernel) rfl), (mT 51 (by decide +kernel) rfl), ⟨by decide +kernel, by decide +kernel, by decide +kernel⟩, by decide, T_Pru, 6, rfl⟩
theorem cl_Nod_60 : CalV R_Nod 60 y_Nod_isUnparted (.code y_Nod_isUnparted c_Nod_isUnparted 1 (some (.boolean))) 0 3 := ⟨k_Nod_isUnparted, Or.inl (mT 514 (by decide +kernel) rfl), (mT 515 (by decide +kernel) rfl), (mT 516 (by decide +kernel) rfl), (mT 50 (by decide +kernel) rfl), ⟨by decide +kernel, by decide +kernel, by decide +kernel⟩, by decide, T_Nod, 12, rfl⟩
theorem pf_Nod_57 : PutA R_Nod 57 3 8 (.int) := ⟨R_Nod, T_Nod, 12, ty_Nod, rfl, by decide, by decide, in_Nod, rfl, tyok_Nod, nm_Nod, by decide +kernel, rfl, Or.inl (mT 220 (by decide +kernel) rfl)⟩
theorem pf_Nod_54 : PutA R_Nod 54 3 9 (.int) := ⟨R_Nod, T_Nod, 12, ty_Nod, rfl, by decide, by decide, in_Nod, rfl, tyok_Nod, nm_Nod, by decide +kernel, rfl, Or.inl (mT 222 (by decide +kernel) rfl)⟩
theorem fl_Nod_22 : FldA R_Nod 22 3 6 := ⟨R_Nod, T_Nod, 12, rfl, by decide, by decide, in_Nod, rfl, Or.inl (mT 216 (by decide +kernel) rfl)⟩
theorem fl_Nod_26 : FldA R_Nod 26 3 7 := ⟨R_Nod, T_Nod, 12, rfl, by decide, by decide, in_Nod, rfl, Or.inl (mT 218 (by decide +kernel) rfl)⟩
theorem cl_Pru_60 : CalV R_Pru 60 y_Nod_sumUp (.code y_Nod_sumUp c_Nod_sumUp 2 none) 1 3 := ⟨k_Nod_sumUp, Or.inl (mT 522 (by decide +kernel) rfl), (mT 523 (by decide +kernel) rfl), (mT 524 (by decide +kernel) rfl), (mT 50 (by decide +kernel) rfl), ⟨by decide +kernel, by decide +kernel, by decide +kernel⟩, by decide, T_Nod, 12, rfl⟩
theorem fl_Pru_64 : FldA R_Pru 64 7 5 := ⟨R_Tre, T_Tre, 6, rfl, by decide, by decide, in_Tre, rfl, Or.inr ⟨"BestSplits", (mN 7 rfl)⟩⟩
theorem fl_Pru_17 : FldA R_Pru 17 4 2 := ⟨R_Pru, T_Pru, 6, rfl, by decide, by decide, in_Pru, rfl, Or.inl (mT 287 (by decide +kernel) rfl)⟩
theorem fl_Pru_68 : FldA R_Pru 68 3 10 := ⟨R_Nod, T_Nod, 12, rfl, by decide, by decide, in_Nod, rfl, Or.inl (mT 223 (by decide +kernel) rfl)⟩
theorem fl_Pru_21 : FldA R_Pru 21 4 3 := ⟨R_Pru, T_Pru, 6, rfl, by decide, by decide, in_Pru, rfl, Or.inl (mT 289 (by decide +kernel) rfl)⟩
theorem fl_Pru_71 : FldA R_Pru 71 3 11 := ⟨R_Nod, T_Nod, 12, rfl, by decide, by decide, in_Nod, rfl, Or.inl (mT 225 (by decide +kernel) rfl)⟩
theorem cl_Pru_74 : CalV R_Pru 74 y_Nod_stateAt (.code y_Nod_stateAt c_Nod_stateAt 2 (some (.int))) 1 3 := ⟨k_Nod_stateAt, Or.inl (mT 526 (by decide +kernel) rfl), (mT 527 (by decide +kernel) rfl), (mT 528 (by decide +kernel) rfl), (mT 50 (by decide +kernel) rfl), ⟨by decide +kernel, by decide +kernel, by decide +kernel⟩, by decide, T_Nod, 12, rfl⟩
theorem fl_Nod_57 : FldA R_Nod 57 3 8 := ⟨R_Nod, T_Nod, 12, rfl, by decide, by decide, in_Nod, rfl, Or.inl (mT 220 (by decide +kernel) rfl)⟩
theorem pf_Nod_64 : PutA R_Nod 64 3 10 (.int) := ⟨R_Nod, T_Nod, 12, ty_Nod, rfl, by decide, by decide, in_Nod, rfl, tyok_Nod, nm_Nod, by decide +kernel, rfl, Or.inl (mT 224 (by decide +kernel) rfl)⟩
theorem fl_Nod_51 : FldA R_Nod 51 3 5 := ⟨R_Nod, T_Nod, 12, rfl, by decide, by decide, in_Nod, rfl, Or.inl (mT 214 (by decide +kernel) rfl)⟩
theorem pf_Nod_67 : PutA R_Nod 67 3 11 (.int) := ⟨R_Nod, T_Nod, 12, ty_Nod, rfl, by decide, by decide, in_Nod, rfl, tyok_Nod, nm_Nod, by decide +kernel, rfl, Or.inl (mT 226 (by decide +kernel) rfl)⟩
theorem fl_Nod_64 : FldA R_Nod 64 3 10 := ⟨R_Nod, T_Nod, 12, rfl, by decide, by decide, in_Nod, rfl, Or.inl (mT 224 (by decide +kernel) rfl)⟩
theorem fl_Nod_67 : FldA R_Nod 67 3 11 := ⟨R_Nod, T_Nod, 12, rfl, by decide, by decide, in_Nod, rfl, Or.inl (mT 226 (by decide +kernel) rfl)⟩
theorem fl_Nod_54 : FldA R_Nod 54 3 9 := ⟨R_Nod, T_Nod, 12, rfl, by decide, by decide, in_Nod, rfl, Or.inl (mT 222 (by decide +kernel) rfl)⟩
theorem cl_Pru_78 : CalV R_Pru 78 y_Pru_weigh (.code y_Pru_weigh c_Pru_weigh 2 none) 1 4 := ⟨k_Pru_weigh, Or.inl (mT 534 (by decide +kernel) rfl), (mT 536 (by decide +kernel) rfl), (mT 12 (by decide +kernel) rfl), (mT 51 (by decide +kernel) rfl), ⟨by decide +kernel, by decide +kernel, by decide +kernel⟩, by decide, T_Pru, 6, rfl⟩
theorem fl_Pru_25 : FldA R_Pru 25 4 5 := ⟨R_Pru, T_Pru, 6, rfl, by decide, by decide, in_Pru, rfl, Or.inl (mT 292 (by decide +kernel) rfl)⟩
theorem cl_Pru_82 : CalV R_Pru 82 y_Fra_compareWith (.code y_Fra_compareWith c_Fra_compareWith 2 (some (.int))) 1 1 := ⟨k_Fra_compareWith, Or.inl (mT 539 (by decide +kernel) rfl), (mT 480 (by decide +kernel) rfl), (mT 481 (by decide +kernel) rfl), (mT 48 (by decide +kernel) rfl), ⟨by decide +kernel, by decide +kernel, by decide +kernel⟩, by decide, T_Fra, 2, rfl⟩
theorem cl_Pru_86 : CalV R_Pru 86 y_Fra_becomeAs (.code y_Fra_becomeAs c_Fra_becomeAs 2 none) 1 1 := ⟨k_Fra_becomeAs, Or.inl (mT 540 (by decide +kernel) rfl), (mT 492 (by decide +kernel) rfl), (mT 493 (by decide +kernel) rfl), (mT 48 (by decide +kernel) rfl), ⟨by decide +kernel, by decide +kernel, by decide +kernel⟩, by decide, T_Fra, 2, rfl⟩
theorem fl_Pru_96 : FldA R_Pru 96 3 5 := ⟨R_Nod, T_Nod, 12, rfl, by decide, by decide, in_Nod, rfl, Or.inl (mT 215 (by decide +kernel) rfl)⟩
theorem cl_Pru_99 : CalV R_Pru 99 y_Fra_become (.code y_Fra_become c_Fra_become 3 none) 2 1 := ⟨k_Fra_become, Or.inl (mT 538 (by decide +kernel) rfl), (mT 472 (by decide +kernel) rfl), (mT 473 (by decide +kernel) rfl), (mT 48 (by decide +kernel) rfl), ⟨by decide +kernel, by decide +kernel, by decide +kernel⟩, by decide, T_Fra, 2, rfl⟩
theorem pf_Pru_90 : PutA R_Pru 90 3 8 (.int) := ⟨R_Nod, T_Nod, 12, ty_Nod, rfl, by decide, by decide, in_Nod, rfl, tyok_Nod, nm_Nod, by decide +kernel, rfl, Or.inl (mT 221 (by decide +kernel) rfl)⟩
theorem cl_Pru_93 : CalV R_Pru 93 y_Nod_loseThoseBelow (.code y_Nod_loseThoseBelow c_Nod_loseThoseBelow 2 none) 1 3 := ⟨k_Nod_loseThoseBelow, Or.inl (mT 545 (by decide +kernel) rfl), (mT 546 (by decide +kernel) rfl), (mT 547 (by decide +kernel) rfl), (mT 50 (by decide +kernel) rfl), ⟨by decide +kernel, by decide +kernel, by decide +kernel⟩, by decide, T_Nod, 12, rfl⟩
theorem cl_Nod_70 : CalS R_Nod 70 y_Mat_min (.code y_Mat_min c_Mat_min 2 (some (.int))) 2 := ⟨k_Mat_min, Or.inl (mT 549 (by decide +kernel) rfl), (mT 550 (by decide +kernel) rfl), (mT 55 (by decide +kernel) rfl), ⟨by decide +kernel, by decide +kernel, by decide +kernel⟩⟩
theorem cl_Bs_111 : CalV R_Bs 111 y_Tre_find (.code y_Tre_find c_Tre_find 2 (some (.object "BestSplits$Node"))) 1 7 := ⟨k_Tre_find, Or.inl (mT 556 (by decide +kernel) rfl), (mT 507 (by decide +kernel) rfl), (mT 508 (by decide +kernel) rfl), (mT 49 (by decide +kernel) rfl), ⟨by decide +kernel, by decide +kernel, by decide +kernel⟩, by decide, T_Tre, 6, rfl⟩
theorem cl_Bs_115 : CalV R_Bs 115 y_Nod_cutDetail (.code y_Nod_cutDetail c_Nod_cutDetail 2 (some (.int))) 1 3 := ⟨k_Nod_cutDetail, Or.inl (mT 557 (by decide +kernel) rfl), (mT 558 (by decide +kernel) rfl), (mT 559 (by decide +kernel) rfl), (mT 50 (by decide +kernel) rfl), ⟨by decide +kernel, by decide +kernel, by decide +kernel⟩, by decide, T_Nod, 12, rfl⟩
theorem cl_Bs_121 : CalV R_Bs 121 y_Nod_ownDetail (.code y_Nod_ownDetail c_Nod_ownDetail 2 (some (.int))) 1 3 := ⟨k_Nod_ownDetail, Or.inl (mT 561 (by decide +kernel) rfl), (mT 562 (by decide +kernel) rfl), (mT 563 (by decide +kernel) rfl), (mT 50 (by decide +kernel) rfl), ⟨by decide +kernel, by decide +kernel, by decide +kernel⟩, by decide, T_Nod, 12, rfl⟩
theorem fl_Nod_12 : FldA R_Nod 12 3 1 := ⟨R_Nod, T_Nod, 12, rfl, by decide, by decide, in_Nod, rfl, Or.inl (mT 202 (by decide +kernel) rfl)⟩
theorem fl_Nod_29 : FldA R_Nod 29 0 1 := ⟨R_Cut, T_Cut, 4, rfl, by decide, by decide, in_Cut, rfl, Or.inl (mT 150 (by decide +kernel) rfl)⟩
theorem fl_Nod_32 : FldA R_Nod 32 0 2 := ⟨R_Cut, T_Cut, 4, rfl, by decide, by decide, in_Cut, rfl, Or.inl (mT 154 (by decide +kernel) rfl)⟩
theorem fl_Nod_33 : FldA R_Nod 33 0 3 := ⟨R_Cut, T_Cut, 4, rfl, by decide, by decide, in_Cut, rfl, Or.inl (mT 158 (by decide +kernel) rfl)⟩
theorem fl_Nod_18 : FldA R_Nod 18 3 0 := ⟨R_Nod, T_Nod, 12, rfl, by decide, by decide, in_Nod, rfl, Or.inl (mT 200 (by decide +kernel) rfl)⟩
theorem fl_Nod_36 : FldA R_Nod 36 3 3 := ⟨R_Nod, T_Nod, 12, rfl, by decide, by decide, in_Nod, rfl, Or.inl (mT 209 (by decide +kernel) rfl)⟩
theorem fl_Nod_39 : FldA R_Nod 39 3 2 := ⟨R_Nod, T_Nod, 12, rfl, by decide, by decide, in_Nod, rfl, Or.inl (mT 206 (by decide +kernel) rfl)⟩
theorem cl_Nod_42 : CalS R_Nod 42 y_Int_bitCount (.code y_Int_bitCount c_Int_bitCount 1 (some (.int))) 1 := ⟨k_Int_bitCount, Or.inl (mT 565 (by decide +kernel) rfl), (mT 423 (by decide +kernel) rfl), (mT 53 (by decide +kernel) rfl), ⟨by decide +kernel, by decide +kernel, by decide +kernel⟩⟩
theorem fl_Nod_48 : FldA R_Nod 48 3 4 := ⟨R_Nod, T_Nod, 12, rfl, by decide, by decide, in_Nod, rfl, Or.inl (mT 211 (by decide +kernel) rfl)⟩
theorem fl_Bs_124 : FldA R_Bs 124 3 2 := ⟨R_Nod, T_Nod, 12, rfl, by decide, by decide, in_Nod, rfl, Or.inl (mT 207 (by decide +kernel) rfl)⟩
theorem cl_Bs_127 : CalV R_Bs 127 y_Tab_countOf (.code y_Tab_countOf c_Tab_countOf 3 (some (.int))) 2 6 := ⟨k_Tab_countOf, Or.inl (mT 570 (by decide +kernel) rfl), (mT 419 (by decide +kernel) rfl), (mT 420 (by decide +kernel) rfl), (mT 44 (by decide +kernel) rfl), ⟨by decide +kernel, by decide +kernel, by decide +kernel⟩, by decide, T_Tab, 7, rfl⟩
theorem cl_Bs_130 : CalS R_Bs 130 y_Bs_isPart (.code y_Bs_isPart c_Bs_isPart 1 (some (.boolean))) 1 := ⟨k_Bs_isPart, Or.inl (mT 575 (by decide +kernel) rfl), (mT 576 (by decide +kernel) rfl), (mT 43 (by decide +kernel) rfl), ⟨by decide +kernel, by decide +kernel, by decide +kernel⟩⟩
theorem cl_Bs_133 : CalV R_Bs 133 y_Nod_isUnparted (.code y_Nod_isUnparted c_Nod_isUnparted 1 (some (.boolean))) 0 3 := ⟨k_Nod_isUnparted, Or.inl (mT 578 (by decide +kernel) rfl), (mT 515 (by decide +kernel) rfl), (mT 516 (by decide +kernel) rfl), (mT 50 (by decide +kernel) rfl), ⟨by decide +kernel, by decide +kernel, by decide +kernel⟩, by decide, T_Nod, 12, rfl⟩
theorem fl_Bs_137 : FldA R_Bs 137 3 1 := ⟨R_Nod, T_Nod, 12, rfl, by decide, by decide, in_Nod, rfl, Or.inl (mT 204 (by decide +kernel) rfl)⟩
theorem fl_Bs_141 : FldA R_Bs 141 0 0 := ⟨R_Cut, T_Cut, 4, rfl, by decide, by decide, in_Cut, rfl, Or.inl (mT 148 (by decide +kernel) rfl)⟩
theorem cl_Bs_147 : CalV R_Bs 147 y_Fra_inLowestTerms (.code y_Fra_inLowestTerms c_Fra_inLowestTerms 4 (some (.int))) 1 1 := ⟨k_Fra_inLowestTerms, Or.inl (mT 579 (by decide +kernel) rfl), (mT 580 (by decide +kernel) rfl), (mT 581 (by decide +kernel) rfl), (mT 48 (by decide +kernel) rfl), ⟨by decide +kernel, by decide +kernel, by decide +kernel⟩, by decide, T_Fra, 2, rfl⟩
theorem cl_Fra_26 : CalV R_Fra 26 y_Fra_greatestCommonDivisor (.code y_Fra_greatestCommonDivisor c_Fra_greatestCommonDivisor 5 (some (.int))) 0 1 := ⟨k_Fra_greatestCommonDivisor, Or.inl (mT 583 (by decide +kernel) rfl), (mT 585 (by decide +kernel) rfl), (mT 14 (by decide +kernel) rfl), (mT 48 (by decide +kernel) rfl), ⟨by decide +kernel, by decide +kernel, by decide +kernel⟩, by decide, T_Fra, 2, rfl⟩
theorem cl_Bs_152 : CalV R_Bs 152 y_Tre_whereComes (.code y_Tre_whereComes c_Tre_whereComes 5 (some (.object "BestSplits$Node"))) 1 7 := ⟨k_Tre_whereComes, Or.inl (mT 591 (by decide +kernel) rfl), (mT 592 (by decide +kernel) rfl), (mT 593 (by decide +kernel) rfl), (mT 49 (by decide +kernel) rfl), ⟨by decide +kernel, by decide +kernel, by decide +kernel⟩, by decide, T_Tre, 6, rfl⟩
theorem fl_Bs_156 : FldA R_Bs 156 3 0 := ⟨R_Nod, T_Nod, 12, rfl, by decide, by decide, in_Nod, rfl, Or.inl (mT 201 (by decide +kernel) rfl)⟩
theorem cl_Tre_128 : CalV R_Tre 128 y_Tab_goesLeft (.code y_Tab_goesLeft c_Tab_goesLeft 4 (some (.boolean))) 2 6 := ⟨k_Tab_goesLeft, Or.inl (mT 595 (by decide +kernel) rfl), (mT 596 (by decide +kernel) rfl), (mT 597 (by decide +kernel) rfl), (mT 44 (by decide +kernel) rfl), ⟨by decide +kernel, by decide +kernel, by decide +kernel⟩, by decide, T_Tab, 7, rfl⟩
theorem fl_Tre_75 : FldA R_Tre 75 3 6 := ⟨R_Nod, T_Nod, 12, rfl, by decide, by decide, in_Nod, rfl, Or.inl (mT 217 (by decide +kernel) rfl)⟩
theorem fl_Tre_78 : FldA R_Tre 78 3 7 := ⟨R_Nod, T_Nod, 12, rfl, by decide, by decide, in_Nod, rfl, Or.inl (mT 219 (by decide +kernel) rfl)⟩
theorem fl_Tab_55 : FldA R_Tab 55 0 1 := ⟨R_Cut, T_Cut, 4, rfl, by decide, by decide, in_Cut, rfl, Or.inl (mT 152 (by decide +kernel) rfl)⟩
theorem fl_Tab_60 : FldA R_Tab 60 0 3 := ⟨R_Cut, T_Cut, 4, rfl, by decide, by decide, in_Cut, rfl, Or.inl (mT 160 (by decide +kernel) rfl)⟩
theorem fl_Tab_63 : FldA R_Tab 63 0 2 := ⟨R_Cut, T_Cut, 4, rfl, by decide, by decide, in_Cut, rfl, Or.inl (mT 156 (by decide +kernel) rfl)⟩
theorem cl_Bs_159 : CalV R_Bs 159 y_Tab_has (.code y_Tab_has c_Tab_has 2 (some (.boolean))) 1 6 := ⟨k_Tab_has, Or.inl (mT 603 (by decide +kernel) rfl), (mT 604 (by decide +kernel) rfl), (mT 605 (by decide +kernel) rfl), (mT 44 (by decide +kernel) rfl), ⟨by decide +kernel, by decide +kernel, by decide +kernel⟩, by decide, T_Tab, 7, rfl⟩
theorem fl_Bs_162 : FldA R_Bs 162 6 0 := ⟨R_Tab, T_Tab, 7, rfl, by decide, by decide, in_Tab, rfl, Or.inl (mT 73 (by decide +kernel) rfl)⟩
theorem cl_Bs_169 : CalV R_Bs 169 y_Sur_look (.code y_Sur_look c_Sur_look 6 (some (.int))) 1 5 := ⟨k_Sur_look, Or.inl (mT 611 (by decide +kernel) rfl), (mT 435 (by decide +kernel) rfl), (mT 436 (by decide +kernel) rfl), (mT 46 (by decide +kernel) rfl), ⟨by decide +kernel, by decide +kernel, by decide +kernel⟩, by decide, T_Sur, 4, rfl⟩
theorem cl_Bs_172 : CalV R_Bs 172 y_Tab_canCut (.code y_Tab_canCut c_Tab_canCut 4 (some (.boolean))) 3 6 := ⟨k_Tab_canCut, Or.inl (mT 616 (by decide +kernel) rfl), (mT 439 (by decide +kernel) rfl), (mT 440 (by decide +kernel) rfl), (mT 44 (by decide +kernel) rfl), ⟨by decide +kernel, by decide +kernel, by decide +kernel⟩, by decide, T_Tab, 7, rfl⟩
theorem cl_Bs_176 : CalV R_Bs 176 y_Sur_measure (.code y_Sur_measure c_Sur_measure 12 (some (.boolean))) 4 5 := ⟨k_Sur_measure, Or.inl (mT 617 (by decide +kernel) rfl), (mT 451 (by decide +kernel) rfl), (mT 452 (by decide +kernel) rfl), (mT 46 (by decide +kernel) rfl), ⟨by decide +kernel, by decide +kernel, by decide +kernel⟩, by decide, T_Sur, 4, rfl⟩
theorem fl_Bs_180 : FldA R_Bs 180 5 0 := ⟨R_Sur, T_Sur, 4, rfl, by decide, by decide, in_Sur, rfl, Or.inl (mT 171 (by decide +kernel) rfl)⟩
theorem fl_Bs_183 : FldA R_Bs 183 4 0 := ⟨R_Pru, T_Pru, 6, rfl, by decide, by decide, in_Pru, rfl, Or.inl (mT 284 (by decide +kernel) rfl)⟩
theorem cl_Bs_184 : CalV R_Bs 184 y_Pru_has (.code y_Pru_has c_Pru_has 2 (some (.boolean))) 1 4 := ⟨k_Pru_has, Or.inl (mT 626 (by decide +kernel) rfl), (mT 627 (by decide +kernel) rfl), (mT 628 (by decide +kernel) rfl), (mT 51 (by decide +kernel) rfl), ⟨by decide +kernel, by decide +kernel, by decide +kernel⟩, by decide, T_Pru, 6, rfl⟩
theorem fl_Bs_185 : FldA R_Bs 185 4 1 := ⟨R_Pru, T_Pru, 6, rfl, by decide, by decide, in_Pru, rfl, Or.inl (mT 286 (by decide +kernel) rfl)⟩
theorem fl_Pru_33 : FldA R_Pru 33 4 0 := ⟨R_Pru, T_Pru, 6, rfl, by decide, by decide, in_Pru, rfl, Or.inl (mT 283 (by decide +kernel) rfl)⟩
theorem fl_Bs_189 : FldA R_Bs 189 4 2 := ⟨R_Pru, T_Pru, 6, rfl, by decide, by decide, in_Pru, rfl, Or.inl (mT 288 (by decide +kernel) rfl)⟩
theorem fl_Bs_192 : FldA R_Bs 192 4 3 := ⟨R_Pru, T_Pru, 6, rfl, by decide, by decide, in_Pru, rfl, Or.inl (mT 290 (by decide +kernel) rfl)⟩
theorem cl_Bs_195 : CalV R_Bs 195 y_Nod_stateAt (.code y_Nod_stateAt c_Nod_stateAt 2 (some (.int))) 1 3 := ⟨k_Nod_stateAt, Or.inl (mT 642 (by decide +kernel) rfl), (mT 527 (by decide +kernel) rfl), (mT 528 (by decide +kernel) rfl), (mT 50 (by decide +kernel) rfl), ⟨by decide +kernel, by decide +kernel, by decide +kernel⟩, by decide, T_Nod, 12, rfl⟩
theorem fl_Bs_61 : FldA R_Bs 61 8 8 := ⟨R_Bs, T_Bs, 9, rfl, by decide, by decide, in_Bs, rfl, Or.inl (mT 314 (by decide +kernel) rfl)⟩
theorem cl_Bs_198 : CalV R_Bs 198 y_Bs_isMistakenByOthers (.code y_Bs_isMistakenByOthers c_Bs_isMistakenByOthers 2 (some (.boolean))) 1 8 := ⟨k_Bs_isMistakenByOthers, Or.inl (mT 647 (by decide +kernel) rfl), (mT 649 (by decide +kernel) rfl), (mT 15 (by decide +kernel) rfl), (mT 43 (by decide +kernel) rfl), ⟨by decide +kernel, by decide +kernel, by decide +kernel⟩, by decide, T_Bs, 9, rfl⟩
theorem fl_Bs_41 : FldA R_Bs 41 8 4 := ⟨R_Bs, T_Bs, 9, rfl, by decide, by decide, in_Bs, rfl, Or.inl (mT 310 (by decide +kernel) rfl)⟩
theorem fl_Bs_205 : FldA R_Bs 205 3 4 := ⟨R_Nod, T_Nod, 12, rfl, by decide, by decide, in_Nod, rfl, Or.inl (mT 212 (by decide +kernel) rfl)⟩
theorem fl_Bs_208 : FldA R_Bs 208 6 1 := ⟨R_Tab, T_Tab, 7, rfl, by decide, by decide, in_Tab, rfl, Or.inl (mT 75 (by decide +kernel) rfl)⟩
theorem pF_Mo_7 : PutF R_Mo 7 9 0 (.array .int) := ⟨R_Mo, T_Mo, 33, ty_Mo, rfl, by decide, by decide, in_Mo, rfl, tyok_Mo, nm_Mo, by decide +kernel, rfl, (mT 657 (by decide +kernel) rfl), rfl⟩
theorem pF_Mo_13 : PutF R_Mo 13 9 2 (.array .int) := ⟨R_Mo, T_Mo, 33, ty_Mo, rfl, by decide, by decide, in_Mo, rfl, tyok_Mo, nm_Mo, by decide +kernel, rfl, (mT 659 (by decide +kernel) rfl), rfl⟩
theorem pF_Mo_16 : PutF R_Mo 16 9 3 (.array .int) := ⟨R_Mo, T_Mo, 33, ty_Mo, rfl, by decide, by decide, in_Mo, rfl, tyok_Mo, nm_Mo, by decide +kernel, rfl, (mT 660 (by decide +kernel) rfl), rfl⟩
theorem pf_Mo_19 : PutA R_Mo 19 9 4 (.int) := ⟨R_Mo, T_Mo, 33, ty_Mo, rfl, by decide, by decide, in_Mo, rfl, tyok_Mo, nm_Mo, by decide +kernel, rfl, Or.inl (mT 661 (by decide +kernel) rfl)⟩
theorem pf_Mo_23 : PutA R_Mo 23 9 5 (.int) := ⟨R_Mo, T_Mo, 33, ty_Mo, rfl, by decide, by decide, in_Mo, rfl, tyok_Mo, nm_Mo, by decide +kernel, rfl, Or.inl (mT 662 (by decide +kernel) rfl)⟩
theorem pF_Mo_26 : PutF R_Mo 26 9 16 (.array .int) := ⟨R_Mo, T_Mo, 33, ty_Mo, rfl, by decide, by decide, in_Mo, rfl, tyok_Mo, nm_Mo, by decide +kernel, rfl, (mT 673 (by decide +kernel) rfl), rfl⟩
theorem pF_Mo_29 : PutF R_Mo 29 9 17 (.array .int) := ⟨R_Mo, T_Mo, 33, ty_Mo, rfl, by decide, by decide, in_Mo, rfl, tyok_Mo, nm_Mo, by decide +kernel, rfl, (mT 674 (by decide +kernel) rfl), rfl⟩
theorem pF_Mo_32 : PutF R_Mo 32 9 18 (.array .int) := ⟨R_Mo, T_Mo, 33, ty_Mo, rfl, by decide, by decide, in_Mo, rfl, tyok_Mo, nm_Mo, by decide +kernel, rfl, (mT 675 (by decide +kernel) rfl), rfl⟩
theorem pF_Mo_35 : PutF R_Mo 35 9 19 (.array .int) := ⟨R_Mo, T_Mo, 33, ty_Mo, rfl, by decide, by decide, in_Mo, rfl, tyok_Mo, nm_Mo, by decide +kernel, rfl, (mT 676 (by decide +kernel) rfl), rfl⟩
theorem pF_Mo_38 : PutF R_Mo 38 9 20 (.array .int) := ⟨R_Mo, T_Mo, 33, ty_Mo, rfl, by decide, by decide, in_Mo, rfl, tyok_Mo, nm_Mo, by decide +kernel, rfl, (mT 677 (by decide +kernel) rfl), rfl⟩
theorem pF_Mo_41 : PutF R_Mo 41 9 21 (.array .int) := ⟨R_Mo, T_Mo, 33, ty_Mo, rfl, by decide, by decide, in_Mo, rfl, tyok_Mo, nm_Mo, by decide +kernel, rfl, (mT 678 (by decide +kernel) rfl), rfl⟩
theorem pF_Mo_44 : PutF R_Mo 44 9 22 (.array .int) := ⟨R_Mo, T_Mo, 33, ty_Mo, rfl, by decide, by decide, in_Mo, rfl, tyok_Mo, nm_Mo, by decide +kernel, rfl, (mT 679 (by decide +kernel) rfl), rfl⟩
theorem pF_Mo_47 : PutF R_Mo 47 9 23 (.array .long) := ⟨R_Mo, T_Mo, 33, ty_Mo, rfl, by decide, by decide, in_Mo, rfl, tyok_Mo, nm_Mo, by decide +kernel, rfl, (mT 680 (by decide +kernel) rfl), rfl⟩
theorem pF_Mo_51 : PutF R_Mo 51 9 24 (.array .long) := ⟨R_Mo, T_Mo, 33, ty_Mo, rfl, by decide, by decide, in_Mo, rfl, tyok_Mo, nm_Mo, by decide +kernel, rfl, (mT 681 (by decide +kernel) rfl), rfl⟩
theorem pF_Mo_54 : PutF R_Mo 54 9 25 (.array .int) := ⟨R_Mo, T_Mo, 33, ty_Mo, rfl, by decide, by decide, in_Mo, rfl, tyok_Mo, nm_Mo, by decide +kernel, rfl, (mT 682 (by decide +kernel) rfl), rfl⟩
theorem pF_Mo_57 : PutF R_Mo 57 9 27 (.array .int) := ⟨R_Mo, T_Mo, 33, ty_Mo, rfl, by decide, by decide, in_Mo, rfl, tyok_Mo, nm_Mo, by decide +kernel, rfl, (mT 684 (by decide +kernel) rfl), rfl⟩
theorem pF_Mo_60 : PutF R_Mo 60 9 28 (.array .long) := ⟨R_Mo, T_Mo, 33, ty_Mo, rfl, by decide, by decide, in_Mo, rfl, tyok_Mo, nm_Mo, by decide +kernel, rfl, (mT 685 (by decide +kernel) rfl), rfl⟩
theorem pF_Mo_63 : PutF R_Mo 63 9 29 (.array .long) := ⟨R_Mo, T_Mo, 33, ty_Mo, rfl, by decide, by decide, in_Mo, rfl, tyok_Mo, nm_Mo, by decide +kernel, rfl, (mT 686 (by decide +kernel) rfl), rfl⟩
theorem pF_Mo_66 : PutF R_Mo 66 9 30 (.array .int) := ⟨R_Mo, T_Mo, 33, ty_Mo, rfl, by decide, by decide, in_Mo, rfl, tyok_Mo, nm_Mo, by decide +kernel, rfl, (mT 687 (by decide +kernel) rfl), rfl⟩
theorem fl_Mo_69 : FldA R_Mo 69 9 1 := ⟨R_Mo, T_Mo, 33, rfl, by decide, by decide, in_Mo, rfl, Or.inl (mT 658 (by decide +kernel) rfl)⟩
theorem fl_Mo_7 : FldA R_Mo 7 9 0 := ⟨R_Mo, T_Mo, 33, rfl, by decide, by decide, in_Mo, rfl, Or.inl (mT 657 (by decide +kernel) rfl)⟩
theorem cl_Mo_72 : CalV R_Mo 72 y_Mo_isValue (.code y_Mo_isValue c_Mo_isValue 3 (some (.boolean))) 2 9 := ⟨k_Mo_isValue, Or.inl (mT 766 (by decide +kernel) rfl), (mT 768 (by decide +kernel) rfl), (mT 16 (by decide +kernel) rfl), (mT 52 (by decide +kernel) rfl), ⟨by decide +kernel, by decide +kernel, by decide +kernel⟩, by decide, T_Mo, 33, rfl⟩
theorem fl_Mo_13 : FldA R_Mo 13 9 2 := ⟨R_Mo, T_Mo, 33, rfl, by decide, by decide, in_Mo, rfl, Or.inl (mT 659 (by decide +kernel) rfl)⟩
theorem fl_Mo_16 : FldA R_Mo 16 9 3 := ⟨R_Mo, T_Mo, 33, rfl, by decide, by decide, in_Mo, rfl, Or.inl (mT 660 (by decide +kernel) rfl)⟩
theorem pf_Mo_69 : PutA R_Mo 69 9 1 (.int) := ⟨R_Mo, T_Mo, 33, ty_Mo, rfl, by decide, by decide, in_Mo, rfl, tyok_Mo, nm_Mo, by decide +kernel, rfl, Or.inl (mT 658 (by decide +kernel) rfl)⟩
theorem pf_Mo_76 : PutA R_Mo 76 9 7 (.boolean) := ⟨R_Mo, T_Mo, 33, ty_Mo, rfl, by decide, by decide, in_Mo, rfl, tyok_Mo, nm_Mo, by decide +kernel, rfl, Or.inl (mT 664 (by decide +kernel) rfl)⟩
theorem pf_Mo_80 : PutA R_Mo 80 9 6 (.int) := ⟨R_Mo, T_Mo, 33, ty_Mo, rfl, by decide, by decide, in_Mo, rfl, tyok_Mo, nm_Mo, by decide +kernel, rfl, Or.inl (mT 663 (by decide +kernel) rfl)⟩
theorem cl_Mo_173 : CalV R_Mo 173 y_Mo_build (.code y_Mo_build c_Mo_build 1 none) 0 9 := ⟨k_Mo_build, Or.inl (mT 782 (by decide +kernel) rfl), (mT 784 (by decide +kernel) rfl), (mT 17 (by decide +kernel) rfl), (mT 52 (by decide +kernel) rfl), ⟨by decide +kernel, by decide +kernel, by decide +kernel⟩, by decide, T_Mo, 33, rfl⟩
theorem fl_Mo_147 : FldA R_Mo 147 9 15 := ⟨R_Mo, T_Mo, 33, rfl, by decide, by decide, in_Mo, rfl, Or.inl (mT 672 (by decide +kernel) rfl)⟩
theorem fl_Mo_76 : FldA R_Mo 76 9 7 := ⟨R_Mo, T_Mo, 33, rfl, by decide, by decide, in_Mo, rfl, Or.inl (mT 664 (by decide +kernel) rfl)⟩
theorem cl_Mo_166 : CalV R_Mo 166 y_Mo_grow (.code y_Mo_grow c_Mo_grow 5 none) 1 9 := ⟨k_Mo_grow, Or.inl (mT 786 (by decide +kernel) rfl), (mT 788 (by decide +kernel) rfl), (mT 18 (by decide +kernel) rfl), (mT 52 (by decide +kernel) rfl), ⟨by decide +kernel, by decide +kernel, by decide +kernel⟩, by decide, T_Mo, 33, rfl⟩
theorem cl_Mo_170 : CalV R_Mo 170 y_Mo_findStages (.code y_Mo_findStages c_Mo_findStages 2 none) 0 9 := ⟨k_Mo_findStages, Or.inl (mT 855 (by decide +kernel) rfl), (mT 857 (by decide +kernel) rfl), (mT 35 (by decide +kernel) rfl), (mT 52 (by decide +kernel) rfl), ⟨by decide +kernel, by decide +kernel, by decide +kernel⟩, by decide, T_Mo, 33, rfl⟩
theorem pf_Mo_147 : PutA R_Mo 147 9 15 (.int) := ⟨R_Mo, T_Mo, 33, ty_Mo, rfl, by decide, by decide, in_Mo, rfl, tyok_Mo, nm_Mo, by decide +kernel, rfl, Or.inl (mT 672 (by decide +kernel) rfl)⟩
theorem cl_Mo_153 : CalV R_Mo 153 y_Mo_add (.code y_Mo_add c_Mo_add 3 none) 2 9 := ⟨k_Mo_add, Or.inl (mT 790 (by decide +kernel) rfl), (mT 792 (by decide +kernel) rfl), (mT 19 (by decide +kernel) rfl), (mT 52 (by decide +kernel) rfl), ⟨by decide +kernel, by decide +kernel, by decide +kernel⟩, by decide, T_Mo, 33, rfl⟩
theorem fl_Mo_26 : FldA R_Mo 26 9 16 := ⟨R_Mo, T_Mo, 33, rfl, by decide, by decide, in_Mo, rfl, Or.inl (mT 673 (by decide +kernel) rfl)⟩
theorem cl_Mo_157 : CalV R_Mo 157 y_Mo_isMixed (.code y_Mo_isMixed c_Mo_isMixed 2 (some (.boolean))) 1 9 := ⟨k_Mo_isMixed, Or.inl (mT 794 (by decide +kernel) rfl), (mT 796 (by decide +kernel) rfl), (mT 20 (by decide +kernel) rfl), (mT 52 (by decide +kernel) rfl), ⟨by decide +kernel, by decide +kernel, by decide +kernel⟩, by decide, T_Mo, 33, rfl⟩
theorem fl_Mo_29 : FldA R_Mo 29 9 17 := ⟨R_Mo, T_Mo, 33, rfl, by decide, by decide, in_Mo, rfl, Or.inl (mT 674 (by decide +kernel) rfl)⟩
theorem fl_Mo_19 : FldA R_Mo 19 9 4 := ⟨R_Mo, T_Mo, 33, rfl, by decide, by decide, in_Mo, rfl, Or.inl (mT 661 (by decide +kernel) rfl)⟩
theorem cl_Mo_161 : CalV R_Mo 161 y_Mo_findBest (.code y_Mo_findBest c_Mo_findBest 6 (some (.boolean))) 1 9 := ⟨k_Mo_findBest, Or.inl (mT 814 (by decide +kernel) rfl), (mT 816 (by decide +kernel) rfl), (mT 25 (by decide +kernel) rfl), (mT 52 (by decide +kernel) rfl), ⟨by decide +kernel, by decide +kernel, by decide +kernel⟩, by decide, T_Mo, 33, rfl⟩
theorem fl_Mo_135 : FldA R_Mo 135 9 13 := ⟨R_Mo, T_Mo, 33, rfl, by decide, by decide, in_Mo, rfl, Or.inl (mT 670 (by decide +kernel) rfl)⟩
theorem fl_Mo_80 : FldA R_Mo 80 9 6 := ⟨R_Mo, T_Mo, 33, rfl, by decide, by decide, in_Mo, rfl, Or.inl (mT 663 (by decide +kernel) rfl)⟩
theorem fl_Mo_132 : FldA R_Mo 132 9 14 := ⟨R_Mo, T_Mo, 33, rfl, by decide, by decide, in_Mo, rfl, Or.inl (mT 671 (by decide +kernel) rfl)⟩
theorem fl_Mo_32 : FldA R_Mo 32 9 18 := ⟨R_Mo, T_Mo, 33, rfl, by decide, by decide, in_Mo, rfl, Or.inl (mT 675 (by decide +kernel) rfl)⟩
theorem fl_Mo_138 : FldA R_Mo 138 9 10 := ⟨R_Mo, T_Mo, 33, rfl, by decide, by decide, in_Mo, rfl, Or.inl (mT 667 (by decide +kernel) rfl)⟩
theorem fl_Mo_35 : FldA R_Mo 35 9 19 := ⟨R_Mo, T_Mo, 33, rfl, by decide, by decide, in_Mo, rfl, Or.inl (mT 676 (by decide +kernel) rfl)⟩
theorem fl_Mo_141 : FldA R_Mo 141 9 11 := ⟨R_Mo, T_Mo, 33, rfl, by decide, by decide, in_Mo, rfl, Or.inl (mT 668 (by decide +kernel) rfl)⟩
theorem fl_Mo_38 : FldA R_Mo 38 9 20 := ⟨R_Mo, T_Mo, 33, rfl, by decide, by decide, in_Mo, rfl, Or.inl (mT 677 (by decide +kernel) rfl)⟩
theorem fl_Mo_144 : FldA R_Mo 144 9 12 := ⟨R_Mo, T_Mo, 33, rfl, by decide, by decide, in_Mo, rfl, Or.inl (mT 669 (by decide +kernel) rfl)⟩
theorem fl_Mo_47 : FldA R_Mo 47 9 23 := ⟨R_Mo, T_Mo, 33, rfl, by decide, by decide, in_Mo, rfl, Or.inl (mT 680 (by decide +kernel) rfl)⟩
theorem fl_Mo_51 : FldA R_Mo 51 9 24 := ⟨R_Mo, T_Mo, 33, rfl, by decide, by decide, in_Mo, rfl, Or.inl (mT 681 (by decide +kernel) rfl)⟩
theorem cl_Mo_114 : CalV R_Mo 114 y_Mo_leftOf (.code y_Mo_leftOf c_Mo_leftOf 7 (some (.int))) 4 9 := ⟨k_Mo_leftOf, Or.inl (mT 838 (by decide +kernel) rfl), (mT 840 (by decide +kernel) rfl), (mT 31 (by decide +kernel) rfl), (mT 52 (by decide +kernel) rfl), ⟨by decide +kernel, by decide +kernel, by decide +kernel⟩, by decide, T_Mo, 33, rfl⟩
theorem fl_Mo_41 : FldA R_Mo 41 9 21 := ⟨R_Mo, T_Mo, 33, rfl, by decide, by decide, in_Mo, rfl, Or.inl (mT 678 (by decide +kernel) rfl)⟩
theorem fl_Mo_44 : FldA R_Mo 44 9 22 := ⟨R_Mo, T_Mo, 33, rfl, by decide, by decide, in_Mo, rfl, Or.inl (mT 679 (by decide +kernel) rfl)⟩
theorem cl_Mo_150 : CalV R_Mo 150 y_Mo_wrongOf (.code y_Mo_wrongOf c_Mo_wrongOf 2 (some (.int))) 1 9 := ⟨k_Mo_wrongOf, Or.inl (mT 798 (by decide +kernel) rfl), (mT 800 (by decide +kernel) rfl), (mT 21 (by decide +kernel) rfl), (mT 52 (by decide +kernel) rfl), ⟨by decide +kernel, by decide +kernel, by decide +kernel⟩, by decide, T_Mo, 33, rfl⟩
theorem cl_Mo_87 : CalV R_Mo 87 y_Mo_many (.code y_Mo_many c_Mo_many 4 (some (.int))) 1 9 := ⟨k_Mo_many, Or.inl (mT 802 (by decide +kernel) rfl), (mT 804 (by decide +kernel) rfl), (mT 22 (by decide +kernel) rfl), (mT 52 (by decide +kernel) rfl), ⟨by decide +kernel, by decide +kernel, by decide +kernel⟩, by decide, T_Mo, 33, rfl⟩
theorem cl_Mo_91 : CalV R_Mo 91 y_Mo_labelOf (.code y_Mo_labelOf c_Mo_labelOf 4 (some (.int))) 1 9 := ⟨k_Mo_labelOf, Or.inl (mT 806 (by decide +kernel) rfl), (mT 808 (by decide +kernel) rfl), (mT 23 (by decide +kernel) rfl), (mT 52 (by decide +kernel) rfl), ⟨by decide +kernel, by decide +kernel, by decide +kernel⟩, by decide, T_Mo, 33, rfl⟩
theorem cl_Mo_83 : CalV R_Mo 83 y_Mo_of (.code y_Mo_of c_Mo_of 5 (some (.int))) 2 9 := ⟨k_Mo_of, Or.inl (mT 810 (by decide +kernel) rfl), (mT 812 (by decide +kernel) rfl), (mT 24 (by decide +kernel) rfl), (mT 52 (by decide +kernel) rfl), ⟨by decide +kernel, by decide +kernel, by decide +kernel⟩, by decide, T_Mo, 33, rfl⟩
theorem cl_Mo_129 : CalV R_Mo 129 y_Mo_may (.code y_Mo_may c_Mo_may 13 (some (.boolean))) 4 9 := ⟨k_Mo_may, Or.inl (mT 818 (by decide +kernel) rfl), (mT 820 (by decide +kernel) rfl), (mT 26 (by decide +kernel) rfl), (mT 52 (by decide +kernel) rfl), ⟨by decide +kernel, by decide +kernel, by decide +kernel⟩, by decide, T_Mo, 33, rfl⟩
theorem fl_Mo_122 : FldA R_Mo 122 9 8 := ⟨R_Mo, T_Mo, 33, rfl, by decide, by decide, in_Mo, rfl, Or.inl (mT 665 (by decide +kernel) rfl)⟩
theorem fl_Mo_126 : FldA R_Mo 126 9 9 := ⟨R_Mo, T_Mo, 33, rfl, by decide, by decide, in_Mo, rfl, Or.inl (mT 666 (by decide +kernel) rfl)⟩
theorem pf_Mo_138 : PutA R_Mo 138 9 10 (.int) := ⟨R_Mo, T_Mo, 33, ty_Mo, rfl, by decide, by decide, in_Mo, rfl, tyok_Mo, nm_Mo, by decide +kernel, rfl, Or.inl (mT 667 (by decide +kernel) rfl)⟩
theorem pf_Mo_141 : PutA R_Mo 141 9 11 (.int) := ⟨R_Mo, T_Mo, 33, ty_Mo, rfl, by decide, by decide, in_Mo, rfl, tyok_Mo, nm_Mo, by decide +kernel, rfl, Or.inl (mT 668 (by decide +kernel) rfl)⟩
theorem pf_Mo_144 : PutA R_Mo 144 9 12 (.int) := ⟨R_Mo, T_Mo, 33, ty_Mo, rfl, by decide, by decide, in_Mo, rfl, tyok_Mo, nm_Mo, by decide +kernel, rfl, Or.inl (mT 669 (by decide +kernel) rfl)⟩
theorem pf_Mo_135 : PutA R_Mo 135 9 13 (.long) := ⟨R_Mo, T_Mo, 33, ty_Mo, rfl, by decide, by decide, in_Mo, rfl, tyok_Mo, nm_Mo, by decide +kernel, rfl, Or.inl (mT 670 (by decide +kernel) rfl)⟩
theorem pf_Mo_132 : PutA R_Mo 132 9 14 (.long) := ⟨R_Mo, T_Mo, 33, ty_Mo, rfl, by decide, by decide, in_Mo, rfl, tyok_Mo, nm_Mo, by decide +kernel, rfl, Or.inl (mT 671 (by decide +kernel) rfl)⟩
theorem cl_Mo_111 : CalV R_Mo 111 y_Mo_isCut (.code y_Mo_isCut c_Mo_isCut 6 (some (.boolean))) 4 9 := ⟨k_Mo_isCut, Or.inl (mT 822 (by decide +kernel) rfl), (mT 824 (by decide +kernel) rfl), (mT 27 (by decide +kernel) rfl), (mT 52 (by decide +kernel) rfl), ⟨by decide +kernel, by decide +kernel, by decide +kernel⟩, by decide, T_Mo, 33, rfl⟩
theorem fl_Mo_23 : FldA R_Mo 23 9 5 := ⟨R_Mo, T_Mo, 33, rfl, by decide, by decide, in_Mo, rfl, Or.inl (mT 662 (by decide +kernel) rfl)⟩
theorem cl_Mo_118 : CalV R_Mo 118 y_Mo_squares (.code y_Mo_squares c_Mo_squares 7 (some (.long))) 1 9 := ⟨k_Mo_squares, Or.inl (mT 850 (by decide +kernel) rfl), (mT 852 (by decide +kernel) rfl), (mT 34 (by decide +kernel) rfl), (mT 52 (by decide +kernel) rfl), ⟨by decide +kernel, by decide +kernel, by decide +kernel⟩, by decide, T_Mo, 33, rfl⟩
theorem pf_Mo_122 : PutA R_Mo 122 9 8 (.long) := ⟨R_Mo, T_Mo, 33, ty_Mo, rfl, by decide, by decide, in_Mo, rfl, tyok_Mo, nm_Mo, by decide +kernel, rfl, Or.inl (mT 665 (by decide +kernel) rfl)⟩
theorem pf_Mo_126 : PutA R_Mo 126 9 9 (.long) := ⟨R_Mo, T_Mo, 33, ty_Mo, rfl, by decide, by decide, in_Mo, rfl, tyok_Mo, nm_Mo, by decide +kernel, rfl, Or.inl (mT 666 (by decide +kernel) rfl)⟩
theorem cl_Mo_98 : CalV R_Mo 98 y_Mo_hasValue (.code y_Mo_hasValue c_Mo_hasValue 5 (some (.boolean))) 3 9 := ⟨k_Mo_hasValue, Or.inl (mT 826 (by decide +kernel) rfl), (mT 828 (by decide +kernel) rfl), (mT 28 (by decide +kernel) rfl), (mT 52 (by decide +kernel) rfl), ⟨by decide +kernel, by decide +kernel, by decide +kernel⟩, by decide, T_Mo, 33, rfl⟩
theorem cl_Mo_102 : CalV R_Mo 102 y_Mo_greatest (.code y_Mo_greatest c_Mo_greatest 5 (some (.int))) 2 9 := ⟨k_Mo_greatest, Or.inl (mT 830 (by decide +kernel) rfl), (mT 832 (by decide +kernel) rfl), (mT 29 (by decide +kernel) rfl), (mT 52 (by decide +kernel) rfl), ⟨by decide +kernel, by decide +kernel, by decide +kernel⟩, by decide, T_Mo, 33, rfl⟩
theorem cl_Mo_105 : CalV R_Mo 105 y_Mo_kindsOf (.code y_Mo_kindsOf c_Mo_kindsOf 5 (some (.int))) 2 9 := ⟨k_Mo_kindsOf, Or.inl (mT 834 (by decide +kernel) rfl), (mT 836 (by decide +kernel) rfl), (mT 30 (by decide +kernel) rfl), (mT 52 (by decide +kernel) rfl), ⟨by decide +kernel, by decide +kernel, by decide +kernel⟩, by decide, T_Mo, 33, rfl⟩
theorem cl_Mo_108 : CalV R_Mo 108 y_Mo_goesLeft (.code y_Mo_goesLeft c_Mo_goesLeft 6 (some (.boolean))) 4 9 := ⟨k_Mo_goesLeft, Or.inl (mT 842 (by decide +kernel) rfl), (mT 844 (by decide +kernel) rfl), (mT 32 (by decide +kernel) rfl), (mT 52 (by decide +kernel) rfl), ⟨by decide +kernel, by decide +kernel, by decide +kernel⟩, by decide, T_Mo, 33, rfl⟩
theorem cl_Mo_94 : CalV R_Mo 94 y_Mo_isLeft (.code y_Mo_isLeft c_Mo_isLeft 5 (some (.boolean))) 4 9 := ⟨k_Mo_isLeft, Or.inl (mT 846 (by decide +kernel) rfl), (mT 848 (by decide +kernel) rfl), (mT 33 (by decide +kernel) rfl), (mT 52 (by decide +kernel) rfl), ⟨by decide +kernel, by decide +kernel, by decide +kernel⟩, by decide, T_Mo, 33, rfl⟩
theorem fl_Mo_57 : FldA R_Mo 57 9 27 := ⟨R_Mo, T_Mo, 33, rfl, by decide, by decide, in_Mo, rfl, Or.inl (mT 684 (by decide +kernel) rfl)⟩
theorem fl_Mo_60 : FldA R_Mo 60 9 28 := ⟨R_Mo, T_Mo, 33, rfl, by decide, by decide, in_Mo, rfl, Or.inl (mT 685 (by decide +kernel) rfl)⟩
theorem fl_Mo_63 : FldA R_Mo 63 9 29 := ⟨R_Mo, T_Mo, 33, rfl, by decide, by decide, in_Mo, rfl, Or.inl (mT 686 (by decide +kernel) rfl)⟩
theorem pf_Mo_200 : PutA R_Mo 200 9 26 (.int) := ⟨R_Mo, T_Mo, 33, ty_Mo, rfl, by decide, by decide, in_Mo, rfl, tyok_Mo, nm_Mo, by decide +kernel, rfl, Or.inl (mT 683 (by decide +kernel) rfl)⟩
theorem fl_Mo_200 : FldA R_Mo 200 9 26 := ⟨R_Mo, T_Mo, 33, rfl, by decide, by decide, in_Mo, rfl, Or.inl (mT 683 (by decide +kernel) rfl)⟩
theorem cl_Mo_203 : CalV R_Mo 203 y_Mo_nextStage (.code y_Mo_nextStage c_Mo_nextStage 11 none) 0 9 := ⟨k_Mo_nextStage, Or.inl (mT 859 (by decide +kernel) rfl), (mT 861 (by decide +kernel) rfl), (mT 36 (by decide +kernel) rfl), (mT 52 (by decide +kernel) rfl), ⟨by decide +kernel, by decide +kernel, by decide +kernel⟩, by decide, T_Mo, 33, rfl⟩
theorem cl_Mo_208 : CalV R_Mo 208 y_Mo_look (.code y_Mo_look c_Mo_look 5 none) 2 9 := ⟨k_Mo_look, Or.inl (mT 864 (by decide +kernel) rfl), (mT 866 (by decide +kernel) rfl), (mT 37 (by decide +kernel) rfl), (mT 52 (by decide +kernel) rfl), ⟨by decide +kernel, by decide +kernel, by decide +kernel⟩, by decide, T_Mo, 33, rfl⟩
theorem fl_Mo_197 : FldA R_Mo 197 9 32 := ⟨R_Mo, T_Mo, 33, rfl, by decide, by decide, in_Mo, rfl, Or.inl (mT 689 (by decide +kernel) rfl)⟩
theorem fl_Mo_194 : FldA R_Mo 194 9 31 := ⟨R_Mo, T_Mo, 33, rfl, by decide, by decide, in_Mo, rfl, Or.inl (mT 688 (by decide +kernel) rfl)⟩
theorem pf_Mo_194 : PutA R_Mo 194 9 31 (.int) := ⟨R_Mo, T_Mo, 33, ty_Mo, rfl, by decide, by decide, in_Mo, rfl, tyok_Mo, nm_Mo, by decide +kernel, rfl, Or.inl (mT 688 (by decide +kernel) rfl)⟩
theorem pf_Mo_197 : PutA R_Mo 197 9 32 (.int) := ⟨R_Mo, T_Mo, 33, ty_Mo, rfl, by decide, by decide, in_Mo, rfl, tyok_Mo, nm_Mo, by decide +kernel, rfl, Or.inl (mT 689 (by decide +kernel) rfl)⟩
theorem fl_Mo_66 : FldA R_Mo 66 9 30 := ⟨R_Mo, T_Mo, 33, rfl, by decide, by decide, in_Mo, rfl, Or.inl (mT 687 (by decide +kernel) rfl)⟩
theorem cl_Mo_176 : CalV R_Mo 176 y_Mo_isNode (.code y_Mo_isNode c_Mo_isNode 2 (some (.boolean))) 1 9 := ⟨k_Mo_isNode, Or.inl (mT 872 (by decide +kernel) rfl), (mT 874 (by decide +kernel) rfl), (mT 38 (by decide +kernel) rfl), (mT 52 (by decide +kernel) rfl), ⟨by decide +kernel, by decide +kernel, by decide +kernel⟩, by decide, T_Mo, 33, rfl⟩
theorem cl_Mo_183 : CalS R_Mo 183 y_Mo_lowest (.code y_Mo_lowest c_Mo_lowest 7 (some (.int))) 3 := ⟨k_Mo_lowest, Or.inl (mT 884 (by decide +kernel) rfl), (mT 885 (by decide +kernel) rfl), (mT 52 (by decide +kernel) rfl), ⟨by decide +kernel, by decide +kernel, by decide +kernel⟩⟩
theorem cl_Mo_179 : CalS R_Mo 179 y_Mo_common (.code y_Mo_common c_Mo_common 10 (some (.long))) 2 := ⟨k_Mo_common, Or.inl (mT 887 (by decide +kernel) rfl), (mT 888 (by decide +kernel) rfl), (mT 52 (by decide +kernel) rfl), ⟨by decide +kernel, by decide +kernel, by decide +kernel⟩⟩
theorem fl_Mo_54 : FldA R_Mo 54 9 25 := ⟨R_Mo, T_Mo, 33, rfl, by decide, by decide, in_Mo, rfl, Or.inl (mT 682 (by decide +kernel) rfl)⟩
theorem cl_Mo_187 : CalV R_Mo 187 y_Mo_comesTo (.code y_Mo_comesTo c_Mo_comesTo 2 (some (.int))) 0 9 := ⟨k_Mo_comesTo, Or.inl (mT 894 (by decide +kernel) rfl), (mT 896 (by decide +kernel) rfl), (mT 39 (by decide +kernel) rfl), (mT 52 (by decide +kernel) rfl), ⟨by decide +kernel, by decide +kernel, by decide +kernel⟩, by decide, T_Mo, 33, rfl⟩
theorem cl_Mo_191 : CalV R_Mo 191 y_Mo_leafFor (.code y_Mo_leafFor c_Mo_leafFor 3 (some (.int))) 1 9 := ⟨k_Mo_leafFor, Or.inl (mT 902 (by decide +kernel) rfl), (mT 904 (by decide +kernel) rfl), (mT 40 (by decide +kernel) rfl), (mT 52 (by decide +kernel) rfl), ⟨by decide +kernel, by decide +kernel, by decide +kernel⟩, by decide, T_Mo, 33, rfl⟩
theorem cl_Mo_211 : CalV R_Mo 211 y_Mo_isStage (.code y_Mo_isStage c_Mo_isStage 2 (some (.boolean))) 1 9 := ⟨k_Mo_isStage, Or.inl (mT 922 (by decide +kernel) rfl), (mT 924 (by decide +kernel) rfl), (mT 41 (by decide +kernel) rfl), (mT 52 (by decide +kernel) rfl), ⟨by decide +kernel, by decide +kernel, by decide +kernel⟩, by decide, T_Mo, 33, rfl⟩
theorem nw_Law_7 : NewA R_Law 7 8 9 [.null, .null, .null, .null, .null, .null, .null, .int (iv 0), .int (iv 0)] := ⟨R_Bs, T_Bs, ty_Bs, rfl, by decide, in_Bs, tyok_Bs, by decide +kernel, (mT 56 (by decide +kernel) rfl), (mT 57 (by decide +kernel) rfl), (mT 43 (by decide +kernel) rfl)⟩
theorem cl_Law_9 : CalI R_Law 9 y_Bs_init (.code y_Bs_init c_Bs_init 1 none) 0 := ⟨k_Bs_init, Or.inl (mT 58 (by decide +kernel) rfl), (mT 59 (by decide +kernel) rfl), rfl, (mT 43 (by decide +kernel) rfl), ⟨by decide +kernel, by decide +kernel, by decide +kernel⟩⟩
theorem nw_Law_10 : NewA R_Law 10 9 33 [.null, .int (iv 0), .null, .null, .int (iv 0), .int (iv 0), .int (iv 0), .int (iv 0), .long (jv 0), .long (jv 0), .int (iv 0), .int (iv 0), .int (iv 0), .long (jv 0), .long (jv 0), .int (iv 0), .null, .null, .null, .null, .null, .null, .null, .null, .null, .null, .int (iv 0), .null, .null, .null, .null, .int (iv 0), .int (iv 0)] := ⟨R_Mo, T_Mo, ty_Mo, rfl, by decide, in_Mo, tyok_Mo, by decide +kernel, (mT 651 (by decide +kernel) rfl), (mT 652 (by decide +kernel) rfl), (mT 52 (by decide +kernel) rfl)⟩
theorem cl_Law_12 : CalI R_Law 12 y_Mo_init (.code y_Mo_init c_Mo_init 1 none) 0 := ⟨k_Mo_init, Or.inl (mT 653 (by decide +kernel) rfl), (mT 654 (by decide +kernel) rfl), rfl, (mT 52 (by decide +kernel) rfl), ⟨by decide +kernel, by decide +kernel, by decide +kernel⟩⟩
theorem cl_Law_13 : CalV R_Law 13 y_Bs_column (.code y_Bs_column c_Bs_column 3 (some (.int))) 2 8 := ⟨k_Bs_column, Or.inl (mT 334 (by decide +kernel) rfl), (mT 335 (by decide +kernel) rfl), (mT 336 (by decide +kernel) rfl), (mT 43 (by decide +kernel) rfl), ⟨by decide +kernel, by decide +kernel, by decide +kernel⟩, by decide, T_Bs, 9, rfl⟩
theorem cl_Law_17 : CalV R_Law 17 y_Mo_column (.code y_Mo_column c_Mo_column 4 (some (.int))) 2 9 := ⟨k_Mo_column, Or.inl (mT 758 (by decide +kernel) rfl), (mT 759 (by decide +kernel) rfl), (mT 760 (by decide +kernel) rfl), (mT 52 (by decide +kernel) rfl), ⟨by decide +kernel, by decide +kernel, by decide +kernel⟩, by decide, T_Mo, 33, rfl⟩
theorem cl_Law_18 : CalV R_Law 18 y_Bs_row (.code y_Bs_row c_Bs_row 6 (some (.int))) 5 8 := ⟨k_Bs_row, Or.inl (mT 350 (by decide +kernel) rfl), (mT 351 (by decide +kernel) rfl), (mT 352 (by decide +kernel) rfl), (mT 43 (by decide +kernel) rfl), ⟨by decide +kernel, by decide +kernel, by decide +kernel⟩, by decide, T_Bs, 9, rfl⟩
theorem cl_Law_22 : CalV R_Law 22 y_Mo_row (.code y_Mo_row c_Mo_row 6 (some (.int))) 5 9 := ⟨k_Mo_row, Or.inl (mT 762 (by decide +kernel) rfl), (mT 763 (by decide +kernel) rfl), (mT 764 (by decide +kernel) rfl), (mT 52 (by decide +kernel) rfl), ⟨by decide +kernel, by decide +kernel, by decide +kernel⟩, by decide, T_Mo, 33, rfl⟩
theorem cl_Law_23 : CalV R_Law 23 y_Bs_clear (.code y_Bs_clear c_Bs_clear 1 (some (.int))) 0 8 := ⟨k_Bs_clear, Or.inl (mT 382 (by decide +kernel) rfl), (mT 383 (by decide +kernel) rfl), (mT 384 (by decide +kernel) rfl), (mT 43 (by decide +kernel) rfl), ⟨by decide +kernel, by decide +kernel, by decide +kernel⟩, by decide, T_Bs, 9, rfl⟩
theorem cl_Law_27 : CalV R_Law 27 y_Mo_clear (.code y_Mo_clear c_Mo_clear 2 (some (.int))) 0 9 := ⟨k_Mo_clear, Or.inl (mT 770 (by decide +kernel) rfl), (mT 771 (by decide +kernel) rfl), (mT 772 (by decide +kernel) rfl), (mT 52 (by decide +kernel) rfl), ⟨by decide +kernel, by decide +kernel, by decide +kernel⟩, by decide, T_Mo, 33, rfl⟩
theorem cl_Law_28 : CalV R_Law 28 y_Bs_settings (.code y_Bs_settings c_Bs_settings 4 (some (.int))) 3 8 := ⟨k_Bs_settings, Or.inl (mT 390 (by decide +kernel) rfl), (mT 391 (by decide +kernel) rfl), (mT 392 (by decide +kernel) rfl), (mT 43 (by decide +kernel) rfl), ⟨by decide +kernel, by decide +kernel, by decide +kernel⟩, by decide, T_Bs, 9, rfl⟩
theorem cl_Law_32 : CalV R_Law 32 y_Mo_settings (.code y_Mo_settings c_Mo_settings 4 (some (.int))) 3 9 := ⟨k_Mo_settings, Or.inl (mT 774 (by decide +kernel) rfl), (mT 775 (by decide +kernel) rfl), (mT 776 (by decide +kernel) rfl), (mT 52 (by decide +kernel) rfl), ⟨by decide +kernel, by decide +kernel, by decide +kernel⟩, by decide, T_Mo, 33, rfl⟩
theorem cl_Law_33 : CalV R_Law 33 y_Bs_nodes (.code y_Bs_nodes c_Bs_nodes 1 (some (.int))) 0 8 := ⟨k_Bs_nodes, Or.inl (mT 394 (by decide +kernel) rfl), (mT 395 (by decide +kernel) rfl), (mT 396 (by decide +kernel) rfl), (mT 43 (by decide +kernel) rfl), ⟨by decide +kernel, by decide +kernel, by decide +kernel⟩, by decide, T_Bs, 9, rfl⟩
theorem cl_Law_36 : CalV R_Law 36 y_Mo_nodes (.code y_Mo_nodes c_Mo_nodes 1 (some (.int))) 0 9 := ⟨k_Mo_nodes, Or.inl (mT 778 (by decide +kernel) rfl), (mT 779 (by decide +kernel) rfl), (mT 780 (by decide +kernel) rfl), (mT 52 (by decide +kernel) rfl), ⟨by decide +kernel, by decide +kernel, by decide +kernel⟩, by decide, T_Mo, 33, rfl⟩
theorem cl_Law_37 : CalV R_Law 37 y_Bs_node (.code y_Bs_node c_Bs_node 4 (some (.int))) 2 8 := ⟨k_Bs_node, Or.inl (mT 552 (by decide +kernel) rfl), (mT 553 (by decide +kernel) rfl), (mT 554 (by decide +kernel) rfl), (mT 43 (by decide +kernel) rfl), ⟨by decide +kernel, by decide +kernel, by decide +kernel⟩, by decide, T_Bs, 9, rfl⟩
theorem cl_Law_40 : CalV R_Law 40 y_Mo_node (.code y_Mo_node c_Mo_node 3 (some (.int))) 2 9 := ⟨k_Mo_node, Or.inl (mT 868 (by decide +kernel) rfl), (mT 869 (by decide +kernel) rfl), (mT 870 (by decide +kernel) rfl), (mT 52 (by decide +kernel) rfl), ⟨by decide +kernel, by decide +kernel, by decide +kernel⟩, by decide, T_Mo, 33, rfl⟩
theorem cl_Law_41 : CalV R_Law 41 y_Bs_count (.code y_Bs_count c_Bs_count 4 (some (.int))) 2 8 := ⟨k_Bs_count, Or.inl (mT 566 (by decide +kernel) rfl), (mT 567 (by decide +kernel) rfl), (mT 568 (by decide +kernel) rfl), (mT 43 (by decide +kernel) rfl), ⟨by decide +kernel, by decide +kernel, by decide +kernel⟩, by decide, T_Bs, 9, rfl⟩
theorem cl_Law_44 : CalV R_Law 44 y_Mo_count (.code y_Mo_count c_Mo_count 3 (some (.int))) 2 9 := ⟨k_Mo_count, Or.inl (mT 876 (by decide +kernel) rfl), (mT 877 (by decide +kernel) rfl), (mT 878 (by decide +kernel) rfl), (mT 52 (by decide +kernel) rfl), ⟨by decide +kernel, by decide +kernel, by decide +kernel⟩, by decide, T_Mo, 33, rfl⟩
theorem cl_Law_45 : CalV R_Law 45 y_Bs_gain (.code y_Bs_gain c_Bs_gain 4 (some (.int))) 2 8 := ⟨k_Bs_gain, Or.inl (mT 571 (by decide +kernel) rfl), (mT 572 (by decide +kernel) rfl), (mT 573 (by decide +kernel) rfl), (mT 43 (by decide +kernel) rfl), ⟨by decide +kernel, by decide +kernel, by decide +kernel⟩, by decide, T_Bs, 9, rfl⟩
theorem cl_Law_48 : CalV R_Law 48 y_Mo_gain (.code y_Mo_gain c_Mo_gain 3 (some (.int))) 2 9 := ⟨k_Mo_gain, Or.inl (mT 880 (by decide +kernel) rfl), (mT 881 (by decide +kernel) rfl), (mT 882 (by decide +kernel) rfl), (mT 52 (by decide +kernel) rfl), ⟨by decide +kernel, by decide +kernel, by decide +kernel⟩, by decide, T_Mo, 33, rfl⟩
theorem cl_Law_49 : CalV R_Law 49 y_Bs_leaf (.code y_Bs_leaf c_Bs_leaf 5 (some (.int))) 4 8 := ⟨k_Bs_leaf, Or.inl (mT 587 (by decide +kernel) rfl), (mT 588 (by decide +kernel) rfl), (mT 589 (by decide +kernel) rfl), (mT 43 (by decide +kernel) rfl), ⟨by decide +kernel, by decide +kernel, by decide +kernel⟩, by decide, T_Bs, 9, rfl⟩
theorem cl_Law_53 : CalV R_Law 53 y_Mo_leaf (.code y_Mo_leaf c_Mo_leaf 5 (some (.int))) 4 9 := ⟨k_Mo_leaf, Or.inl (mT 890 (by decide +kernel) rfl), (mT 891 (by decide +kernel) rfl), (mT 892 (by decide +kernel) rfl), (mT 52 (by decide +kernel) rfl), ⟨by decide +kernel, by decide +kernel, by decide +kernel⟩, by decide, T_Mo, 33, rfl⟩
theorem cl_Law_54 : CalV R_Law 54 y_Bs_leafOf (.code y_Bs_leafOf c_Bs_leafOf 2 (some (.int))) 1 8 := ⟨k_Bs_leafOf, Or.inl (mT 599 (by decide +kernel) rfl), (mT 600 (by decide +kernel) rfl), (mT 601 (by decide +kernel) rfl), (mT 43 (by decide +kernel) rfl), ⟨by decide +kernel, by decide +kernel, by decide +kernel⟩, by decide, T_Bs, 9, rfl⟩
theorem cl_Law_58 : CalV R_Law 58 y_Mo_leafOf (.code y_Mo_leafOf c_Mo_leafOf 2 (some (.int))) 1 9 := ⟨k_Mo_leafOf, Or.inl (mT 898 (by decide +kernel) rfl), (mT 899 (by decide +kernel) rfl), (mT 900 (by decide +kernel) rfl), (mT 52 (by decide +kernel) rfl), ⟨by decide +kernel, by decide +kernel, by decide +kernel⟩, by decide, T_Mo, 33, rfl⟩
theorem cl_Law_59 : CalV R_Law 59 y_Bs_cuts (.code y_Bs_cuts c_Bs_cuts 1 (some (.int))) 0 8 := ⟨k_Bs_cuts, Or.inl (mT 607 (by decide +kernel) rfl), (mT 608 (by decide +kernel) rfl), (mT 609 (by decide +kernel) rfl), (mT 43 (by decide +kernel) rfl), ⟨by decide +kernel, by decide +kernel, by decide +kernel⟩, by decide, T_Bs, 9, rfl⟩
theorem cl_Law_62 : CalV R_Law 62 y_Mo_cuts (.code y_Mo_cuts c_Mo_cuts 5 (some (.int))) 0 9 := ⟨k_Mo_cuts, Or.inl (mT 906 (by decide +kernel) rfl), (mT 907 (by decide +kernel) rfl), (mT 908 (by decide +kernel) rfl), (mT 52 (by decide +kernel) rfl), ⟨by decide +kernel, by decide +kernel, by decide +kernel⟩, by decide, T_Mo, 33, rfl⟩
theorem cl_Law_63 : CalV R_Law 63 y_Bs_cutGain (.code y_Bs_cutGain c_Bs_cutGain 6 (some (.int))) 4 8 := ⟨k_Bs_cutGain, Or.inl (mT 612 (by decide +kernel) rfl), (mT 613 (by decide +kernel) rfl), (mT 614 (by decide +kernel) rfl), (mT 43 (by decide +kernel) rfl), ⟨by decide +kernel, by decide +kernel, by decide +kernel⟩, by decide, T_Bs, 9, rfl⟩
theorem cl_Law_66 : CalV R_Law 66 y_Mo_cutGain (.code y_Mo_cutGain c_Mo_cutGain 5 (some (.int))) 4 9 := ⟨k_Mo_cutGain, Or.inl (mT 910 (by decide +kernel) rfl), (mT 911 (by decide +kernel) rfl), (mT 912 (by decide +kernel) rfl), (mT 52 (by decide +kernel) rfl), ⟨by decide +kernel, by decide +kernel, by decide +kernel⟩, by decide, T_Mo, 33, rfl⟩
theorem cl_Law_67 : CalV R_Law 67 y_Bs_stages (.code y_Bs_stages c_Bs_stages 1 (some (.int))) 0 8 := ⟨k_Bs_stages, Or.inl (mT 618 (by decide +kernel) rfl), (mT 619 (by decide +kernel) rfl), (mT 620 (by decide +kernel) rfl), (mT 43 (by decide +kernel) rfl), ⟨by decide +kernel, by decide +kernel, by decide +kernel⟩, by decide, T_Bs, 9, rfl⟩
theorem cl_Law_70 : CalV R_Law 70 y_Mo_stages (.code y_Mo_stages c_Mo_stages 1 (some (.int))) 0 9 := ⟨k_Mo_stages, Or.inl (mT 914 (by decide +kernel) rfl), (mT 915 (by decide +kernel) rfl), (mT 916 (by decide +kernel) rfl), (mT 52 (by decide +kernel) rfl), ⟨by decide +kernel, by decide +kernel, by decide +kernel⟩, by decide, T_Mo, 33, rfl⟩
theorem cl_Law_71 : CalV R_Law 71 y_Bs_alpha (.code y_Bs_alpha c_Bs_alpha 3 (some (.int))) 2 8 := ⟨k_Bs_alpha, Or.inl (mT 622 (by decide +kernel) rfl), (mT 623 (by decide +kernel) rfl), (mT 624 (by decide +kernel) rfl), (mT 43 (by decide +kernel) rfl), ⟨by decide +kernel, by decide +kernel, by decide +kernel⟩, by decide, T_Bs, 9, rfl⟩
theorem cl_Law_74 : CalV R_Law 74 y_Mo_alpha (.code y_Mo_alpha c_Mo_alpha 3 (some (.int))) 2 9 := ⟨k_Mo_alpha, Or.inl (mT 918 (by decide +kernel) rfl), (mT 919 (by decide +kernel) rfl), (mT 920 (by decide +kernel) rfl), (mT 52 (by decide +kernel) rfl), ⟨by decide +kernel, by decide +kernel, by decide +kernel⟩, by decide, T_Mo, 33, rfl⟩
theorem cl_Law_75 : CalV R_Law 75 y_Bs_leaves (.code y_Bs_leaves c_Bs_leaves 2 (some (.int))) 1 8 := ⟨k_Bs_leaves, Or.inl (mT 630 (by decide +kernel) rfl), (mT 631 (by decide +kernel) rfl), (mT 632 (by decide +kernel) rfl), (mT 43 (by decide +kernel) rfl), ⟨by decide +kernel, by decide +kernel, by decide +kernel⟩, by decide, T_Bs, 9, rfl⟩
theorem cl_Law_78 : CalV R_Law 78 y_Mo_leaves (.code y_Mo_leaves c_Mo_leaves 2 (some (.int))) 1 9 := ⟨k_Mo_leaves, Or.inl (mT 926 (by decide +kernel) rfl), (mT 927 (by decide +kernel) rfl), (mT 928 (by decide +kernel) rfl), (mT 52 (by decide +kernel) rfl), ⟨by decide +kernel, by decide +kernel, by decide +kernel⟩, by decide, T_Mo, 33, rfl⟩
theorem cl_Law_79 : CalV R_Law 79 y_Bs_wrong (.code y_Bs_wrong c_Bs_wrong 2 (some (.int))) 1 8 := ⟨k_Bs_wrong, Or.inl (mT 634 (by decide +kernel) rfl), (mT 635 (by decide +kernel) rfl), (mT 636 (by decide +kernel) rfl), (mT 43 (by decide +kernel) rfl), ⟨by decide +kernel, by decide +kernel, by decide +kernel⟩, by decide, T_Bs, 9, rfl⟩
theorem cl_Law_82 : CalV R_Law 82 y_Mo_wrong (.code y_Mo_wrong c_Mo_wrong 2 (some (.int))) 1 9 := ⟨k_Mo_wrong, Or.inl (mT 930 (by decide +kernel) rfl), (mT 931 (by decide +kernel) rfl), (mT 932 (by decide +kernel) rfl), (mT 52 (by decide +kernel) rfl), ⟨by decide +kernel, by decide +kernel, by decide +kernel⟩, by decide, T_Mo, 33, rfl⟩
theorem cl_Law_83 : CalV R_Law 83 y_Bs_state (.code y_Bs_state c_Bs_state 4 (some (.int))) 2 8 := ⟨k_Bs_state, Or.inl (mT 638 (by decide +kernel) rfl), (mT 639 (by decide +kernel) rfl), (mT 640 (by decide +kernel) rfl), (mT 43 (by decide +kernel) rfl), ⟨by decide +kernel, by decide +kernel, by decide +kernel⟩, by decide, T_Bs, 9, rfl⟩
theorem cl_Law_86 : CalV R_Law 86 y_Mo_state (.code y_Mo_state c_Mo_state 3 (some (.int))) 2 9 := ⟨k_Mo_state, Or.inl (mT 934 (by decide +kernel) rfl), (mT 935 (by decide +kernel) rfl), (mT 936 (by decide +kernel) rfl), (mT 52 (by decide +kernel) rfl), ⟨by decide +kernel, by decide +kernel, by decide +kernel⟩, by decide, T_Mo, 33, rfl⟩
theorem cl_Law_87 : CalV R_Law 87 y_Bs_leftOut (.code y_Bs_leftOut c_Bs_leftOut 2 (some (.int))) 0 8 := ⟨k_Bs_leftOut, Or.inl (mT 643 (by decide +kernel) rfl), (mT 644 (by decide +kernel) rfl), (mT 645 (by decide +kernel) rfl), (mT 43 (by decide +kernel) rfl), ⟨by decide +kernel, by decide +kernel, by decide +kernel⟩, by decide, T_Bs, 9, rfl⟩
theorem cl_Law_90 : CalV R_Law 90 y_Mo_leftOut (.code y_Mo_leftOut c_Mo_leftOut 3 (some (.int))) 0 9 := ⟨k_Mo_leftOut, Or.inl (mT 938 (by decide +kernel) rfl), (mT 939 (by decide +kernel) rfl), (mT 940 (by decide +kernel) rfl), (mT 52 (by decide +kernel) rfl), ⟨by decide +kernel, by decide +kernel, by decide +kernel⟩, by decide, T_Mo, 33, rfl⟩
end
section
/-! further rows: constants of the pool, long arrays -/
section V2
variable {G : xG} {X : xT} {cc : ByteArray} {y : MethodName} {nL : Nat} {rm : Room} {kc ks pc : Nat} {lv lv' : List (Nat × Value)} {st : List Value} {f : xF}
theorem v_ldcw (h : xOk G X cc y nL rm) {idx : Nat} {x : Int32} (z : Int) (hdg : decode cc pc = .ok (.ldc_w idx, 3)) (hc : Cond.constant y.cls idx x ∈ zT) (hz : x = iv z) (k : vV G X kc ks (pc + 3) lv (.int (iv z) :: st) f) : vV G X kc ks pc lv st f := by
  obtain ⟨p, l, e, R, s, m, args, below, meth, c, A, H0, n0, Q⟩ := X
  obtain ⟨hx, hb, rfl, hml, hown, hts, hN, hK, hA, hR, hnm⟩ := h
  subst hz
  exact fun L H locs ls h1 h2 h3 h4 h5 => lv_ldcw hx hb hown (hts _ hc) hdg (k L H locs ls h1 h2 h3 h4 h5)
theorem v_ldc2 (h : xOk G X cc y nL rm) {idx : Nat} {x : Int64} (z : Int) (hdg : decode cc pc = .ok (.ldc2_w idx, 3)) (hc : Cond.constantLong y.cls idx x ∈ zT) (hz : x = jv z) (k : vV G X kc ks (pc + 3) lv (.long (jv z) :: st) f) : vV G X kc ks pc lv st f := by
  obtain ⟨p, l, e, R, s, m, args, below, meth, c, A, H0, n0, Q⟩ := X
  obtain ⟨hx, hb, rfl, hml, hown, hts, hN, hK, hA, hR, hnm⟩ := h
  subst hz
  exact fun L H locs ls h1 h2 h3 h4 h5 => lv_ldc2 hx hb hown (hts _ hc) hdg (k L H locs ls h1 h2 h3 h4 h5)
theorem v_lconst (h : xOk G X cc y nL rm) {n : Fin 2} (z : Int) (hdg : decode cc pc = .ok (.lconst n, 1)) (hz : Int64.ofNat (n : Nat) = jv z) (k : vV G X kc ks (pc + 1) lv (.long (jv z) :: st) f) : vV G X kc ks pc lv st f := by
  obtain ⟨p, l, e, R, s, m, args, below, meth, c, A, H0, n0, Q⟩ := X
  obtain ⟨hx, hb, rfl, hml, hown, hts, hN, hK, hA, hR, hnm⟩ := h
  exact fun L H locs ls h1 h2 h3 h4 h5 => lv_lconst hx hb hdg hz (k L H locs ls h1 h2 h3 h4 h5)
theorem v_topl {x x' : Int64} (h : x = x') (k : vV G X kc ks pc lv (.long x' :: st) f) : vV G X kc ks pc lv (.long x :: st) f := h ▸ k
theorem v_mmin (h : xOk G X cc y nL rm) {idx : Nat} {a b : Int} (ha : ir a) (hb0 : ir b) (hdg : decode cc pc = .ok (.invokestatic idx, 3)) (c1 : Cond.methodLink y.cls idx Lib.Math.min.name ∈ zT) (c2 : Cond.static Lib.Math.min.name ∈ zT) (c3 : Cond.initialized "java/lang/Math" ∈ zT) (c4 : Cond.code Lib.Math.min.name Lib.Math.min.code 2 (some .int) ∈ zT) (hfr : 1 ≤ rm.frames) (hlo : (st.map fun v => v.category).sum + 13 ≤ rm.locals) (hc : kc ≤ rm.cells) (hs : ks ≤ rm.slots) (k : vV G X kc ks (pc + 3) lv (.int (iv (if b < a then b else a)) :: st) f) : vV G X kc ks pc lv (.int (iv b) :: .int (iv a) :: st) f := by
  obtain ⟨p, l, e, R, s, m, args, below, meth, c, A, H0, n0, Q⟩ := X
  obtain ⟨hx, hb, rfl, hml, hown, hts, hN, hK, hA, rfl, hnm⟩ := h
  intro L H locs ls h1 h2 h3 h4 h5
  refine va_mmin hx hb (hml.trans h5.1.symm) hown (hts _ c1) (hts _ c2) (hts _ c3) (hts _ c4) hfr hlo hc hs hdg ?_
  have e1 : (if iv b < iv a then iv b else iv a) = iv (if b < a then b else a) := by
    by_cases q : b < a
    · rw [if_pos q, if_pos ((iv_lt hb0 ha).mpr q)]
    · rw [if_neg q, if_neg (fun q9 => q ((iv_lt hb0 ha).mp q9))]
  rw [e1]
  exact k L H locs ls h1 h2 h3 h4 h5
theorem v_iaddN (h : xOk G X cc y nL rm) {a b : Nat} (hdg : decode cc pc = .ok (.iadd, 1)) (k : vV G X kc ks (pc + 1) lv (.int (iv ((a + b : Nat) : Int)) :: st) f) : vV G X kc ks pc lv (.int (iv (b : Int)) :: .int (iv (a : Int)) :: st) f := v_iadd h hdg (by rw [← Int.natCast_add]; exact k)
theorem v_imulN (h : xOk G X cc y nL rm) {a b : Nat} (hdg : decode cc pc = .ok (.imul, 1)) (k : vV G X kc ks (pc + 1) lv (.int (iv ((a * b : Nat) : Int)) :: st) f) : vV G X kc ks pc lv (.int (iv (b : Int)) :: .int (iv (a : Int)) :: st) f := v_imul h hdg (by rw [← Int.natCast_mul]; exact k)
theorem v_iincN (h : xOk G X cc y nL rm) {i a n : Nat} {n0 : Int} (hdg : decode cc pc = .ok (.iinc i n0, 3)) (hn0 : n0 = (n : Int)) (j : Nat) (hk : lv[j]? = some (i, .int (iv (a : Int)))) (hn : i < nL) (hl : (i, Value.int (iv ((a + n : Nat) : Int))) :: lv.filter (fun q => !(q.1 == i) && !(q.1 + 1 == i && q.2.category == 2)) = lv') (k : vV G X kc ks (pc + 3) lv' st f) : vV G X kc ks pc lv st f := by
  subst hn0
  exact v_iinc h hdg j hk hn (by rw [← Int.natCast_add]; exact hl) k
end V2
/-- a truth as a number -/
def pI (p : Prop) [Decidable p] : Int := if p then 1 else 0
theorem pI_t {p : Prop} [Decidable p] (h : p) : (1 : Int) = pI p := (if_pos h).symm
theorem pI_f {p : Prop} [Decidable p] (h : ¬ p) : (0 : Int) = pI p := (if_neg h).symm
theorem pI_ir (p : Prop) [Decidable p] : ir (pI p) := by unfold pI ir; split <;> omega
theorem pI_0 {p : Prop} [Decidable p] (h : pI p = 0) : ¬ p := fun q => by rw [pI, if_pos q] at h; cases h
theorem pI_1 {p : Prop} [Decidable p] (h : ¬ pI p = 0) : p := Classical.byContradiction fun q => h (if_neg q)
end
section
/-! ROOMS, the JDK, small statics; by program -/
abbrev rm_Bs_init : Room := { frames := 5, cells := 0, slots := 0, locals := 105 }
abbrev rm_Tab_init : Room := { frames := 1, cells := 0, slots := 0, locals := 20 }
abbrev rm_Lim_init : Room := { frames := 1, cells := 0, slots := 0, locals := 20 }
abbrev rm_Sur_init : Room := { frames := 3, cells := 0, slots := 0, locals := 60 }
abbrev rm_Cut_init : Room := { frames := 2, cells := 0, slots := 0, locals := 40 }
abbrev rm_Fra_init : Room := { frames := 1, cells := 0, slots := 0, locals := 20 }
abbrev rm_Tre_init : Room := { frames := 4, cells := 0, slots := 0, locals := 81 }
abbrev rm_Nod_init : Room := { frames := 3, cells := 0, slots := 0, locals := 60 }
abbrev rm_Pru_init : Room := { frames := 2, cells := 0, slots := 0, locals := 40 }
abbrev rm_Bs_column : Room := { frames := 2, cells := 0, slots := 0, locals := 43 }
abbrev rm_Bs_isColumn : Room := { frames := 0, cells := 0, slots := 0, locals := 0 }
abbrev rm_Bs_noteChange : Room := { frames := 0, cells := 0, slots := 0, locals := 0 }
abbrev rm_Tab_changeSort : Room := { frames := 1, cells := 0, slots := 0, locals := 20 }
abbrev rm_Bs_row : Room := { frames := 4, cells := 0, slots := 0, locals := 92 }
abbrev rm_Bs_ask : Room := { frames := 0, cells := 0, slots := 0, locals := 0 }
abbrev rm_Tab_takes : Room := { frames := 0, cells := 0, slots := 0, locals := 0 }
abbrev rm_Bs_isClass : Room := { frames := 0, cells := 0, slots := 0, locals := 0 }
abbrev rm_Tab_add : Room := { frames := 3, cells := 0, slots := 0, locals := 68 }
abbrev rm_Tab_enterKnown : Room := { frames := 2, cells := 0, slots := 0, locals := 43 }
abbrev rm_Tab_lastNumber : Room := { frames := 1, cells := 0, slots := 0, locals := 20 }
abbrev rm_Tab_isLeftOf : Room := { frames := 1, cells := 0, slots := 0, locals := 20 }
abbrev rm_Bs_clear : Room := { frames := 1, cells := 0, slots := 0, locals := 23 }
abbrev rm_Tab_removeAll : Room := { frames := 0, cells := 0, slots := 0, locals := 0 }
abbrev rm_Bs_settings : Room := { frames := 1, cells := 0, slots := 0, locals := 20 }
abbrev rm_Bs_nodes : Room := { frames := 7, cells := 0, slots := 0, locals := 168 }
abbrev rm_Bs_growIfChanged : Room := { frames := 6, cells := 0, slots := 0, locals := 148 }
abbrev rm_Tab_allRows : Room := { frames := 0, cells := 0, slots := 0, locals := 0 }
abbrev rm_Tre_grow : Room := { frames := 5, cells := 0, slots := 0, locals := 126 }
abbrev rm_Tre_begin : Room := { frames := 3, cells := 0, slots := 0, locals := 65 }
abbrev rm_Tab_labelOf : Room := { frames := 2, cells := 0, slots := 0, locals := 42 }
abbrev rm_Tab_countOf : Room := { frames := 1, cells := 0, slots := 0, locals := 20 }
abbrev rm_Int_bitCount : Room := { frames := 0, cells := 0, slots := 0, locals := 0 }
abbrev rm_Tre_partIfDue : Room := { frames := 4, cells := 0, slots := 0, locals := 101 }
abbrev rm_Sur_look : Room := { frames := 3, cells := 0, slots := 0, locals := 76 }
abbrev rm_Tab_canCut : Room := { frames := 2, cells := 0, slots := 0, locals := 45 }
abbrev rm_Tab_isGrouping : Room := { frames := 1, cells := 0, slots := 0, locals := 20 }
abbrev rm_Tab_isStep : Room := { frames := 1, cells := 0, slots := 0, locals := 20 }
abbrev rm_Sur_measure : Room := { frames := 2, cells := 0, slots := 0, locals := 45 }
abbrev rm_Tab_unknownOf : Room := { frames := 1, cells := 0, slots := 0, locals := 20 }
abbrev rm_Tab_leftOf : Room := { frames := 1, cells := 0, slots := 0, locals := 20 }
abbrev rm_Tab_squaresOf : Room := { frames := 1, cells := 0, slots := 0, locals := 20 }
abbrev rm_Cut_become : Room := { frames := 0, cells := 0, slots := 0, locals := 0 }
abbrev rm_Fra_become : Room := { frames := 0, cells := 0, slots := 0, locals := 0 }
abbrev rm_Sur_keepIfBetter : Room := { frames := 2, cells := 0, slots := 0, locals := 44 }
abbrev rm_Fra_compareWith : Room := { frames := 1, cells := 0, slots := 0, locals := 23 }
abbrev rm_Lon_compare : Room := { frames := 0, cells := 0, slots := 0, locals := 0 }
abbrev rm_Cut_becomeAs : Room := { frames := 1, cells := 0, slots := 0, locals := 23 }
abbrev rm_Fra_becomeAs : Room := { frames := 0, cells := 0, slots := 0, locals := 0 }
abbrev rm_Fra_isAboveHundredths : Room := { frames := 0, cells := 0, slots := 0, locals := 0 }
abbrev rm_Pru_cutBackToRoot : Room := { frames := 3, cells := 0, slots := 0, locals := 69 }
abbrev rm_Tre_find : Room := { frames := 0, cells := 0, slots := 0, locals := 0 }
abbrev rm_Nod_beginStages : Room := { frames := 1, cells := 0, slots := 0, locals := 20 }
abbrev rm_Nod_isUnparted : Room := { frames := 0, cells := 0, slots := 0, locals := 0 }
abbrev rm_Pru_recordStage : Room := { frames := 1, cells := 0, slots := 0, locals := 21 }
abbrev rm_Nod_sumUp : Room := { frames := 0, cells := 0, slots := 0, locals := 0 }
abbrev rm_Nod_stateAt : Room := { frames := 0, cells := 0, slots := 0, locals := 0 }
abbrev rm_Pru_findAlpha : Room := { frames := 2, cells := 0, slots := 0, locals := 44 }
abbrev rm_Pru_weigh : Room := { frames := 1, cells := 0, slots := 0, locals := 22 }
abbrev rm_Pru_cutBack : Room := { frames := 2, cells := 0, slots := 0, locals := 44 }
abbrev rm_Nod_loseThoseBelow : Room := { frames := 1, cells := 0, slots := 0, locals := 21 }
abbrev rm_Mat_min : Room := { frames := 0, cells := 0, slots := 0, locals := 0 }
abbrev rm_Bs_node : Room := { frames := 7, cells := 0, slots := 0, locals := 168 }
abbrev rm_Nod_cutDetail : Room := { frames := 0, cells := 0, slots := 0, locals := 0 }
abbrev rm_Nod_ownDetail : Room := { frames := 1, cells := 0, slots := 0, locals := 20 }
abbrev rm_Bs_count : Room := { frames := 7, cells := 0, slots := 0, locals := 168 }
abbrev rm_Bs_gain : Room := { frames := 7, cells := 0, slots := 0, locals := 168 }
abbrev rm_Bs_isPart : Room := { frames := 0, cells := 0, slots := 0, locals := 0 }
abbrev rm_Fra_inLowestTerms : Room := { frames := 1, cells := 0, slots := 0, locals := 24 }
abbrev rm_Fra_greatestCommonDivisor : Room := { frames := 0, cells := 0, slots := 0, locals := 0 }
abbrev rm_Bs_leaf : Room := { frames := 7, cells := 0, slots := 0, locals := 168 }
abbrev rm_Tre_whereComes : Room := { frames := 3, cells := 0, slots := 0, locals := 66 }
abbrev rm_Tab_goesLeft : Room := { frames := 2, cells := 0, slots := 0, locals := 43 }
abbrev rm_Bs_leafOf : Room := { frames := 7, cells := 0, slots := 0, locals := 168 }
abbrev rm_Tab_has : Room := { frames := 0, cells := 0, slots := 0, locals := 0 }
abbrev rm_Bs_cuts : Room := { frames := 4, cells := 0, slots := 0, locals := 101 }
abbrev rm_Bs_cutGain : Room := { frames := 3, cells := 0, slots := 0, locals := 76 }
abbrev rm_Bs_stages : Room := { frames := 7, cells := 0, slots := 0, locals := 168 }
abbrev rm_Bs_alpha : Room := { frames := 7, cells := 0, slots := 0, locals := 168 }
abbrev rm_Pru_has : Room := { frames := 0, cells := 0, slots := 0, locals := 0 }
abbrev rm_Bs_leaves : Room := { frames := 7, cells := 0, slots := 0, locals := 168 }
abbrev rm_Bs_wrong : Room := { frames := 7, cells := 0, slots := 0, locals := 168 }
abbrev rm_Bs_state : Room := { frames := 7, cells := 0, slots := 0, locals := 168 }
abbrev rm_Bs_leftOut : Room := { frames := 7, cells := 0, slots := 0, locals := 169 }
abbrev rm_Bs_isMistakenByOthers : Room := { frames := 6, cells := 0, slots := 0, locals := 148 }
abbrev rm_Mo_init : Room := { frames := 1, cells := 0, slots := 0, locals := 20 }
abbrev rm_Mo_column : Room := { frames := 0, cells := 0, slots := 0, locals := 0 }
abbrev rm_Mo_row : Room := { frames := 1, cells := 0, slots := 0, locals := 22 }
abbrev rm_Mo_isValue : Room := { frames := 0, cells := 0, slots := 0, locals := 0 }
abbrev rm_Mo_clear : Room := { frames := 0, cells := 0, slots := 0, locals := 0 }
abbrev rm_Mo_settings : Room := { frames := 0, cells := 0, slots := 0, locals := 0 }
abbrev rm_Mo_nodes : Room := { frames := 7, cells := 0, slots := 0, locals := 176 }
abbrev rm_Mo_build : Room := { frames := 6, cells := 0, slots := 0, locals := 156 }
abbrev rm_Mo_grow : Room := { frames := 5, cells := 0, slots := 0, locals := 132 }
abbrev rm_Mo_add : Room := { frames := 0, cells := 0, slots := 0, locals := 0 }
abbrev rm_Mo_isMixed : Room := { frames := 3, cells := 0, slots := 0, locals := 68 }
abbrev rm_Mo_wrongOf : Room := { frames := 2, cells := 0, slots := 0, locals := 47 }
abbrev rm_Mo_many : Room := { frames := 0, cells := 0, slots := 0, locals := 0 }
abbrev rm_Mo_labelOf : Room := { frames := 1, cells := 0, slots := 0, locals := 24 }
abbrev rm_Mo_of : Room := { frames := 0, cells := 0, slots := 0, locals := 0 }
abbrev rm_Mo_findBest : Room := { frames := 4, cells := 0, slots := 0, locals := 107 }
abbrev rm_Mo_may : Room := { frames := 3, cells := 0, slots := 0, locals := 75 }
abbrev rm_Mo_isCut : Room := { frames := 1, cells := 0, slots := 0, locals := 24 }
abbrev rm_Mo_hasValue : Room := { frames := 0, cells := 0, slots := 0, locals := 0 }
abbrev rm_Mo_greatest : Room := { frames := 0, cells := 0, slots := 0, locals := 0 }
abbrev rm_Mo_kindsOf : Room := { frames := 0, cells := 0, slots := 0, locals := 0 }
abbrev rm_Mo_leftOf : Room := { frames := 2, cells := 0, slots := 0, locals := 49 }
abbrev rm_Mo_goesLeft : Room := { frames := 1, cells := 0, slots := 0, locals := 24 }
abbrev rm_Mo_isLeft : Room := { frames := 0, cells := 0, slots := 0, locals := 0 }
abbrev rm_Mo_squares : Room := { frames := 1, cells := 0, slots := 0, locals := 24 }
abbrev rm_Mo_findStages : Room := { frames := 5, cells := 0, slots := 0, locals := 122 }
abbrev rm_Mo_nextStage : Room := { frames := 4, cells := 0, slots := 0, locals := 92 }
abbrev rm_Mo_look : Room := { frames := 3, cells := 0, slots := 0, locals := 68 }
abbrev rm_Mo_node : Room := { frames := 7, cells := 0, slots := 0, locals := 176 }
abbrev rm_Mo_isNode : Room := { frames := 0, cells := 0, slots := 0, locals := 0 }
abbrev rm_Mo_count : Room := { frames := 7, cells := 0, slots := 0, locals := 176 }
abbrev rm_Mo_gain : Room := { frames := 7, cells := 0, slots := 0, locals := 176 }
abbrev rm_Mo_lowest : Room := { frames := 1, cells := 0, slots := 0, locals := 29 }
abbrev rm_Mo_common : Room := { frames := 0, cells := 0, slots := 0, locals := 0 }
abbrev rm_Mo_leaf : Room := { frames := 7, cells := 0, slots := 0, locals := 176 }
abbrev rm_Mo_comesTo : Room := { frames := 1, cells := 0, slots := 0, locals := 24 }
abbrev rm_Mo_leafOf : Room := { frames := 7, cells := 0, slots := 0, locals := 176 }
abbrev rm_Mo_leafFor : Room := { frames := 2, cells := 0, slots := 0, locals := 45 }
abbrev rm_Mo_cuts : Room := { frames := 4, cells := 0, slots := 0, locals := 107 }
abbrev rm_Mo_cutGain : Room := { frames := 4, cells := 0, slots := 0, locals := 107 }
abbrev rm_Mo_stages : Room := { frames := 7, cells := 0, slots := 0, locals := 176 }
abbrev rm_Mo_alpha : Room := { frames := 7, cells := 0, slots := 0, locals := 176 }
abbrev rm_Mo_isStage : Room := { frames := 0, cells := 0, slots := 0, locals := 0 }
abbrev rm_Mo_leaves : Room := { frames := 7, cells := 0, slots := 0, locals := 176 }
abbrev rm_Mo_wrong : Room := { frames := 7, cells := 0, slots := 0, locals := 176 }
abbrev rm_Mo_state : Room := { frames := 7, cells := 0, slots := 0, locals := 176 }
abbrev rm_Mo_leftOut : Room := { frames := 6, cells := 0, slots := 0, locals := 156 }
set_option maxHeartbeats 1000000 in
set_option maxRecDepth 100000 in
theorem k0_Int_bitCount {G : xG} (m : Nat) (hm : m < 16777216) : ∀ l f, mI l G y_Int_bitCount (.code y_Int_bitCount c_Int_bitCount 1 (some (.int))) rm_Int_bitCount [.int (iv (((m : Nat) : Int)))] f (fun z f' => f' = f ∧ z = ((cnt m : Nat) : Int)) := by
  intro l f
  refine mI_of (rt := .int) (by decide) (Nat.le_of_ble_eq_true rfl) (fun X hX hret => ?_)
  show vV G X 0 0 0 [(0, .int (iv (((m : Nat) : Int))))] [] f
  obtain ⟨a, b, c, e1, e1b, e2, e3, ha, hb, hc, e4⟩ := bc_all m hm
  refine v_iload_n hX d_Int_bitCount_0 0 rfl ?_
  refine v_iload_n hX d_Int_bitCount_1 0 rfl ?_
  refine v_iconst hX (1) d_Int_bitCount_2 ?_
  refine v_iushr (z := (((m / 2) : Nat) : Int)) hX d_Int_bitCount_3 (iv_ushr (m) (by omega) (1) (by omega)) ?_
  refine v_ldcw hX (1431655765) d_Int_bitCount_4 (mT 425 (by decide +kernel) rfl) rfl ?_
  refine v_iand (z := ((((m / 2) &&& 1431655765) : Nat) : Int)) hX d_Int_bitCount_7 (iv_and ((m / 2)) (1431655765)) ?_
  refine v_isub hX d_Int_bitCount_8 ?_
  refine v_top (x' := iv ((a : Nat) : Int)) (congrArg iv (by omega)) ?_
  refine v_istore_n (lv' := [(0, .int (iv (((a : Nat) : Int))))]) hX d_Int_bitCount_9 rfl (by decide) rfl ?_
  refine v_iload_n hX d_Int_bitCount_10 0 rfl ?_
  refine v_ldcw hX (858993459) d_Int_bitCount_11 (mT 426 (by decide +kernel) rfl) rfl ?_
  refine v_iand (z := (((a &&& 858993459) : Nat) : Int)) hX d_Int_bitCount_14 (iv_and (a) (858993459)) ?_
  refine v_iload_n hX d_Int_bitCount_15 0 rfl ?_
  refine v_iconst hX (2) d_Int_bitCount_16 ?_
  refine v_iushr (z := (((a / 4) : Nat) : Int)) hX d_Int_bitCount_17 (iv_ushr (a) (by omega) (2) (by omega)) ?_
  refine v_ldcw hX (858993459) d_Int_bitCount_18 (mT 426 (by decide +kernel) rfl) rfl ?_
  refine v_iand (z := ((((a / 4) &&& 858993459) : Nat) : Int)) hX d_Int_bitCount_21 (iv_and ((a / 4)) (858993459)) ?_
  refine v_iaddN (a := (a &&& 858993459)) (b := ((a / 4) &&& 858993459)) hX d_Int_bitCount_22 ?_
  refine v_top (x' := iv ((b : Nat) : Int)) (congrArg iv (by omega)) ?_
  refine v_istore_n (lv' := [(0, .int (iv (((b : Nat) : Int))))]) hX d_Int_bitCount_23 rfl (by decide) rfl ?_
  refine v_iload_n hX d_Int_bitCount_24 0 rfl ?_
  refine v_iload_n hX d_Int_bitCount_25 0 rfl ?_
  refine v_iconst hX (4) d_Int_bitCount_26 ?_
  refine v_iushr (z := (((b / 16) : Nat) : Int)) hX d_Int_bitCount_27 (iv_ushr (b) (by omega) (4) (by omega)) ?_
  refine v_iaddN (a := b) (b := (b / 16)) hX d_Int_bitCount_28 ?_
  refine v_top (x' := iv (((b + b / 16) : Nat) : Int)) (congrArg iv (by omega)) ?_
  refine v_ldcw hX (252645135) d_Int_bitCount_29 (mT 427 (by decide +kernel) rfl) rfl ?_
  refine v_iand (z := ((((b + b / 16) &&& 252645135) : Nat) : Int)) hX d_Int_bitCount_32 (iv_and ((b + b / 16)) (252645135)) ?_
  refine v_top (x' := iv ((c : Nat) : Int)) (congrArg (fun q : Nat => iv (q : Int)) e3) ?_
  refine v_istore_n (lv' := [(0, .int (iv (((c : Nat) : Int))))]) hX d_Int_bitCount_33 rfl (by decide) rfl ?_
  refine v_iload_n hX d_Int_bitCount_34 0 rfl ?_
  refine v_iload_n hX d_Int_bitCount_35 0 rfl ?_
  refine v_bipush hX (8) d_Int_bitCount_36 rfl ?_
  refine v_iushr (z := (((c / 256) : Nat) : Int)) hX d_Int_bitCount_38 (iv_ushr (c) (by omega) (8) (by omega)) ?_
  refine v_iaddN (a := c) (b := (c / 256)) hX d_Int_bitCount_39 ?_
  refine v_top (x' := iv (((c + c / 256) : Nat) : Int)) (congrArg iv (by omega)) ?_
  refine v_istore_n (lv' := [(0, .int (iv ((((c + c / 256) : Nat) : Int))))]) hX d_Int_bitCount_40 rfl (by decide) rfl ?_
  refine v_iload_n hX d_Int_bitCount_41 0 rfl ?_
  refine v_iload_n hX d_Int_bitCount_42 0 rfl ?_
  refine v_bipush hX (16) d_Int_bitCount_43 rfl ?_
  refine v_iushr (z := ((((c + c / 256) / 65536) : Nat) : Int)) hX d_Int_bitCount_45 (iv_ushr ((c + c / 256)) (by omega) (16) (by omega)) ?_
  refine v_iaddN (a := (c + c / 256)) (b := ((c + c / 256) / 65536)) hX d_Int_bitCount_46 ?_
  refine v_top (x' := iv ((((c + c / 256) + (c + c / 256) / 65536) : Nat) : Int)) (congrArg iv (by omega)) ?_
  refine v_istore_n (lv' := [(0, .int (iv (((((c + c / 256) + (c + c / 256) / 65536) : Nat) : Int))))]) hX d_Int_bitCount_47 rfl (by decide) rfl ?_
  refine v_iload_n hX d_Int_bitCount_48 0 rfl ?_
  refine v_bipush hX (63) d_Int_bitCount_49 rfl ?_
  refine v_iand (z := (((((c + c / 256) + (c + c / 256) / 65536) &&& 63) : Nat) : Int)) hX d_Int_bitCount_51 (iv_and (((c + c / 256) + (c + c / 256) / 65536)) (63)) ?_
  exact hret _ _ _ _ d_Int_bitCount_52 (ir_n (by have := Nat.and_le_right (n := (c + c / 256) + (c + c / 256) / 65536) (m := 63); omega)) ⟨rfl, congrArg (fun q : Nat => (q : Int)) (((Nat.and_two_pow_sub_one_eq_mod _ 6).trans e4).trans (cnt_eq m).symm)⟩ rfl

set_option maxHeartbeats 1000000 in
set_option maxRecDepth 100000 in
theorem k0_Lon_compare {G : xG} (a b : Int) (ha : jr a) (hb : jr b) : ∀ l f, mI l G y_Lon_compare (.code y_Lon_compare c_Lon_compare 4 (some (.int))) rm_Lon_compare [.long (jv (a)), .long (jv (b))] f (fun z f' => f' = f ∧ z = (if a < b then (-1 : Int) else if a = b then 0 else 1)) := by
  intro l f
  refine mI_of (rt := .int) (by decide) (Nat.le_of_ble_eq_true rfl) (fun X hX hret => ?_)
  show vV G X 0 0 0 [(0, .long (jv (a))), (2, .long (jv (b)))] [] f
  refine v_lload_n hX d_Lon_compare_0 0 rfl ?_
  refine v_lload_n hX d_Lon_compare_1 1 rfl ?_
  refine v_lcmp hX d_Lon_compare_2 ha hb ?_
  refine v_if_ge (tgt := 10) hX d_Lon_compare_3 (by decide) (by unfold ir; split <;> first | omega | (split <;> omega)) (fun c3_1 => ?_) (fun c3_1 => ?_)
  · refine v_lload_n hX d_Lon_compare_10 0 rfl ?_
    refine v_lload_n hX d_Lon_compare_11 1 rfl ?_
    refine v_lcmp hX d_Lon_compare_12 ha hb ?_
    refine v_if_ne (tgt := 20) hX d_Lon_compare_13 (by decide) (by unfold ir; split <;> first | omega | (split <;> omega)) (fun c13_2 => ?_) (fun c13_2 => ?_)
    · refine v_iconst hX (1) d_Lon_compare_20 ?_
      exact hret _ _ _ _ d_Lon_compare_21 (by unfold ir; omega) ⟨rfl, (by first | (rw [if_pos (by omega)]; done) | (rw [if_neg (by omega), if_pos (by omega)]; done) | (rw [if_neg (by omega), if_neg (by omega)]; done))⟩ rfl
    · refine v_iconst hX (0) d_Lon_compare_16 ?_
      refine v_goto (tgt := 21) hX d_Lon_compare_17 (by decide) ?_
      exact hret _ _ _ _ d_Lon_compare_21 (by unfold ir; omega) ⟨rfl, (by first | (rw [if_pos (by omega)]; done) | (rw [if_neg (by omega), if_pos (by omega)]; done) | (rw [if_neg (by omega), if_neg (by omega)]; done))⟩ rfl
  · refine v_iconst hX (-1) d_Lon_compare_6 ?_
    refine v_goto (tgt := 21) hX d_Lon_compare_7 (by decide) ?_
    exact hret _ _ _ _ d_Lon_compare_21 (by unfold ir; omega) ⟨rfl, (by first | (rw [if_pos (by omega)]; done) | (rw [if_neg (by omega), if_pos (by omega)]; done) | (rw [if_neg (by omega), if_neg (by omega)]; done))⟩ rfl

set_option maxHeartbeats 1000000 in
set_option maxRecDepth 100000 in
theorem k0_Bs_isColumn {G : xG} (a : Int) (ha : ir a) : ∀ l f, mI l G y_Bs_isColumn (.code y_Bs_isColumn c_Bs_isColumn 1 (some (.boolean))) rm_Bs_isColumn [.int (iv (a))] f (fun z f' => f' = f ∧ z = pI (0 ≤ a ∧ a < 4)) := by
  intro l f
  refine mI_of (rt := .boolean) (by decide) (Nat.le_of_ble_eq_true rfl) (fun X hX hret => ?_)
  show vV G X 0 0 0 [(0, .int (iv (a)))] [] f
  refine v_iload_n hX d_Bs_isColumn_0 0 rfl ?_
  refine v_if_lt (tgt := 13) hX d_Bs_isColumn_1 (by decide) (by first | assumption | (unfold ir at *; omega)) (fun c1_1 => ?_) (fun c1_1 => ?_)
  · refine v_iconst hX (0) d_Bs_isColumn_13 ?_
    exact hret _ _ _ _ d_Bs_isColumn_14 (by first | assumption | (unfold ir at *; omega)) ⟨rfl, (pI_f (by omega))⟩ rfl
  · refine v_iload_n hX d_Bs_isColumn_4 0 rfl ?_
    refine v_iconst hX (4) d_Bs_isColumn_5 ?_
    refine v_icmp_ge (tgt := 13) hX d_Bs_isColumn_6 (by decide) (by first | assumption | (unfold ir at *; omega)) (by first | assumption | (unfold ir at *; omega)) (fun c6_2 => ?_) (fun c6_2 => ?_)
    · refine v_iconst hX (0) d_Bs_isColumn_13 ?_
      exact hret _ _ _ _ d_Bs_isColumn_14 (by first | assumption | (unfold ir at *; omega)) ⟨rfl, (pI_f (by omega))⟩ rfl
    · refine v_iconst hX (1) d_Bs_isColumn_9 ?_
      refine v_goto (tgt := 14) hX d_Bs_isColumn_10 (by decide) ?_
      exact hret _ _ _ _ d_Bs_isColumn_14 (by first | assumption | (unfold ir at *; omega)) ⟨rfl, (pI_t (by omega))⟩ rfl

set_option maxHeartbeats 1000000 in
set_option maxRecDepth 100000 in
theorem k0_Bs_isClass {G : xG} (a : Int) (ha : ir a) : ∀ l f, mI l G y_Bs_isClass (.code y_Bs_isClass c_Bs_isClass 1 (some (.boolean))) rm_Bs_isClass [.int (iv (a))] f (fun z f' => f' = f ∧ z = pI (0 ≤ a ∧ a < 3)) := by
  intro l f
  refine mI_of (rt := .boolean) (by decide) (Nat.le_of_ble_eq_true rfl) (fun X hX hret => ?_)
  show vV G X 0 0 0 [(0, .int (iv (a)))] [] f
  refine v_iload_n hX d_Bs_isClass_0 0 rfl ?_
  refine v_if_lt (tgt := 13) hX d_Bs_isClass_1 (by decide) (by first | assumption | (unfold ir at *; omega)) (fun c1_1 => ?_) (fun c1_1 => ?_)
  · refine v_iconst hX (0) d_Bs_isClass_13 ?_
    exact hret _ _ _ _ d_Bs_isClass_14 (by first | assumption | (unfold ir at *; omega)) ⟨rfl, (pI_f (by omega))⟩ rfl
  · refine v_iload_n hX d_Bs_isClass_4 0 rfl ?_
    refine v_iconst hX (3) d_Bs_isClass_5 ?_
    refine v_icmp_ge (tgt := 13) hX d_Bs_isClass_6 (by decide) (by first | assumption | (unfold ir at *; omega)) (by first | assumption | (unfold ir at *; omega)) (fun c6_2 => ?_) (fun c6_2 => ?_)
    · refine v_iconst hX (0) d_Bs_isClass_13 ?_
      exact hret _ _ _ _ d_Bs_isClass_14 (by first | assumption | (unfold ir at *; omega)) ⟨rfl, (pI_f (by omega))⟩ rfl
    · refine v_iconst hX (1) d_Bs_isClass_9 ?_
      refine v_goto (tgt := 14) hX d_Bs_isClass_10 (by decide) ?_
      exact hret _ _ _ _ d_Bs_isClass_14 (by first | assumption | (unfold ir at *; omega)) ⟨rfl, (pI_t (by omega))⟩ rfl

set_option maxHeartbeats 1000000 in
set_option maxRecDepth 100000 in
theorem k0_Bs_isPart {G : xG} (a : Int) (ha : ir a) : ∀ l f, mI l G y_Bs_isPart (.code y_Bs_isPart c_Bs_isPart 1 (some (.boolean))) rm_Bs_isPart [.int (iv (a))] f (fun z f' => f' = f ∧ z = pI (a = 0 ∨ a = 1)) := by
  intro l f
  refine mI_of (rt := .boolean) (by decide) (Nat.le_of_ble_eq_true rfl) (fun X hX hret => ?_)
  show vV G X 0 0 0 [(0, .int (iv (a)))] [] f
  refine v_iload_n hX d_Bs_isPart_0 0 rfl ?_
  refine v_if_eq (tgt := 9) hX d_Bs_isPart_1 (by decide) (by first | assumption | (unfold ir at *; omega)) (fun c1_1 => ?_) (fun c1_1 => ?_)
  · refine v_iconst hX (1) d_Bs_isPart_9 ?_
    refine v_goto (tgt := 14) hX d_Bs_isPart_10 (by decide) ?_
    exact hret _ _ _ _ d_Bs_isPart_14 (by first | assumption | (unfold ir at *; omega)) ⟨rfl, (pI_t (by omega))⟩ rfl
  · refine v_iload_n hX d_Bs_isPart_4 0 rfl ?_
    refine v_iconst hX (1) d_Bs_isPart_5 ?_
    refine v_icmp_ne (tgt := 13) hX d_Bs_isPart_6 (by decide) (by first | assumption | (unfold ir at *; omega)) (by first | assumption | (unfold ir at *; omega)) (fun c6_2 => ?_) (fun c6_2 => ?_)
    · refine v_iconst hX (0) d_Bs_isPart_13 ?_
      exact hret _ _ _ _ d_Bs_isPart_14 (by first | assumption | (unfold ir at *; omega)) ⟨rfl, (pI_f (by omega))⟩ rfl
    · refine v_iconst hX (1) d_Bs_isPart_9 ?_
      refine v_goto (tgt := 14) hX d_Bs_isPart_10 (by decide) ?_
      exact hret _ _ _ _ d_Bs_isPart_14 (by first | assumption | (unfold ir at *; omega)) ⟨rfl, (pI_t (by omega))⟩ rfl
end
section
/-! WHAT THE CLASS COMPUTES, in numbers: rows are told by a mask; rC, rK, rL: the masks that the table keeps; so: the sorts; le: LEAST -/
def nd (a b : Nat) : Nat := a ^^^ (a &&& b)
def kLeft (rK : Nat → Nat) (rL : Nat → Nat → Nat) (rows c num side : Nat) : Nat := if side = 0 then (rows &&& rL c num) ||| nd rows (rK c) else rows &&& rL c num
noncomputable def kCnt (rC : Nat → Nat) (rows k : Nat) : Nat := cnt (rows &&& rC k)
noncomputable def kSq (rC : Nat → Nat) (rows : Nat) : Nat := kCnt rC rows 0 * kCnt rC rows 0 + kCnt rC rows 1 * kCnt rC rows 1 + kCnt rC rows 2 * kCnt rC rows 2
noncomputable def kLab (rC : Nat → Nat) (rows : Nat) : Nat := if kCnt rC rows (if kCnt rC rows 0 < kCnt rC rows 1 then 1 else 0) < kCnt rC rows 2 then 2 else if kCnt rC rows 0 < kCnt rC rows 1 then 1 else 0
def kHad (rL : Nat → Nat → Nat) (rows c : Nat) : Nat → Nat
  | 0 => 0
  | k + 1 => if rows &&& rL c (2 ^ k) = 0 then kHad rL rows c k else kHad rL rows c k ||| 2 ^ k
/-- the lowest set bit -/
def low (m : Nat) : Nat := m &&& (4294967296 - m)
def kStep (rK : Nat → Nat) (rL : Nat → Nat → Nat) (rows c num : Nat) : Bool := decide (rows &&& rL c num ≠ (if num = 0 then 0 else rows &&& rL c (num - 1))) && decide (rows &&& rL c num ≠ rows &&& rK c)
def kGrp (rL : Nat → Nat → Nat) (rows c num : Nat) : Bool := decide (nd num (kHad rL rows c 6) = 0) && decide (num &&& low (kHad rL rows c 6) ≠ 0) && decide (num ≠ kHad rL rows c 6)
def kCan (so rK : Nat → Nat) (rL : Nat → Nat → Nat) (rows c num : Nat) : Bool := if so c = 1 then decide (num ≤ 63) && kGrp rL rows c num else decide (num ≤ 100) && kStep rK rL rows c num
noncomputable def kMay (rK : Nat → Nat) (rL : Nat → Nat → Nat) (le rows c num side : Nat) : Bool := !(decide (side = 1) && decide (nd rows (rK c) = 0)) && decide (le ≤ cnt (kLeft rK rL rows c num side)) && decide (le ≤ cnt (nd rows (kLeft rK rL rows c num side)))
/-- a CUT's GAIN: what it has above and below -/
noncomputable def kAb (rC rK : Nat → Nat) (rL : Nat → Nat → Nat) (rows c num side : Nat) : Int := (((kSq rC (kLeft rK rL rows c num side) * cnt (nd rows (kLeft rK rL rows c num side)) + kSq rC (nd rows (kLeft rK rL rows c num side)) * cnt (kLeft rK rL rows c num side)) * (cnt (kLeft rK rL rows c num side) + cnt (nd rows (kLeft rK rL rows c num side))) : Nat) : Int) - ((kSq rC rows * cnt (kLeft rK rL rows c num side) * cnt (nd rows (kLeft rK rL rows c num side)) : Nat) : Int)
noncomputable def kBe (rK : Nat → Nat) (rL : Nat → Nat → Nat) (rows c num side : Nat) : Nat := cnt (kLeft rK rL rows c num side) * cnt (nd rows (kLeft rK rL rows c num side)) * (cnt (kLeft rK rL rows c num side) + cnt (nd rows (kLeft rK rL rows c num side)))
theorem nd_bit (a b i : Nat) : (nd a b).testBit i = (a.testBit i && !b.testBit i) := by
  unfold nd
  rw [Nat.testBit_xor, Nat.testBit_and]
  cases a.testBit i <;> cases b.testBit i <;> rfl
theorem nd_and (a b : Nat) : nd a b &&& a = nd a b := by
  apply Nat.eq_of_testBit_eq
  intro i
  rw [Nat.testBit_and, nd_bit]
  cases a.testBit i <;> cases b.testBit i <;> rfl
theorem nd_le (a b : Nat) : nd a b ≤ a := by
  have h := @Nat.and_le_right (nd a b) a
  rw [nd_and] at h
  exact h
theorem or_lt {a b : Nat} (k : Nat) (ha : a < 2 ^ k) (hb : b < 2 ^ k) : a ||| b < 2 ^ k := Nat.or_lt_two_pow ha hb
theorem kLeft_lt {rK : Nat → Nat} {rL : Nat → Nat → Nat} {rows c num side : Nat} (h : rows < 16777216) : kLeft rK rL rows c num side < 16777216 := by
  unfold kLeft
  have h1 : rows &&& rL c num < 2 ^ 24 := Nat.lt_of_le_of_lt Nat.and_le_left h
  split
  · exact or_lt 24 h1 (Nat.lt_of_le_of_lt (nd_le _ _) h)
  · exact h1
theorem kHad_lt (rL : Nat → Nat → Nat) (rows c : Nat) : ∀ k, kHad rL rows c k < 2 ^ k
  | 0 => by show 0 < 1; decide
  | k + 1 => by
    have h := kHad_lt rL rows c k
    have h2 : 2 ^ k < 2 ^ (k + 1) := Nat.pow_lt_pow_right (by decide) (by omega)
    unfold kHad
    split
    · omega
    · exact or_lt (k + 1) (by omega) h2
/-- a known value v goes left at the number num, in a column of sort s -/
def lfP (s num v : Nat) : Bool := if s = 1 then decide ((num / 2 ^ v) &&& 1 = 1) else decide (v ≤ num)
/-- a value goes left by a CUT -/
def kGo (s : Nat) (v : Int) (num side : Nat) : Bool := if v < 0 then decide (side = 0) else lfP s num v.toNat
/-- a value that a column has -/
def tk (s : Nat) (v : Int) : Bool := decide (-1 ≤ v) && decide (v ≤ (if s = 1 then 5 else 100))
theorem kCnt_le (rC : Nat → Nat) (rows k : Nat) : kCnt rC rows k ≤ 24 := cnt_le _
theorem kSq_le (rC : Nat → Nat) (rows : Nat) : kSq rC rows ≤ 1728 := by
  have h0 := Nat.mul_le_mul (kCnt_le rC rows 0) (kCnt_le rC rows 0)
  have h1 := Nat.mul_le_mul (kCnt_le rC rows 1) (kCnt_le rC rows 1)
  have h2 := Nat.mul_le_mul (kCnt_le rC rows 2) (kCnt_le rC rows 2)
  unfold kSq
  omega
theorem kLab_lt (rC : Nat → Nat) (rows : Nat) : kLab rC rows < 3 := by
  unfold kLab
  repeat' split
  all_goals omega
theorem kLab_00 {rC : Nat → Nat} {rows : Nat} (h1 : kCnt rC rows 1 ≤ kCnt rC rows 0) (h2 : kCnt rC rows 2 ≤ kCnt rC rows 0) : kLab rC rows = 0 := by
  unfold kLab
  rw [if_neg (Nat.not_lt.mpr h1), if_neg (Nat.not_lt.mpr h2)]
theorem kLab_02 {rC : Nat → Nat} {rows : Nat} (h1 : kCnt rC rows 1 ≤ kCnt rC rows 0) (h2 : kCnt rC rows 0 < kCnt rC rows 2) : kLab rC rows = 2 := by
  unfold kLab
  rw [if_neg (Nat.not_lt.mpr h1), if_pos h2]
theorem kLab_11 {rC : Nat → Nat} {rows : Nat} (h1 : kCnt rC rows 0 < kCnt rC rows 1) (h2 : kCnt rC rows 2 ≤ kCnt rC rows 1) : kLab rC rows = 1 := by
  unfold kLab
  rw [if_pos h1, if_neg (Nat.not_lt.mpr h2)]
theorem kLab_12 {rC : Nat → Nat} {rows : Nat} (h1 : kCnt rC rows 0 < kCnt rC rows 1) (h2 : kCnt rC rows 1 < kCnt rC rows 2) : kLab rC rows = 2 := by
  unfold kLab
  rw [if_pos h1, if_pos h2]
theorem kCan_g {so rK : Nat → Nat} {rL : Nat → Nat → Nat} {rows c num : Nat} (h : so c = 1) (h1 : num ≤ 63) (h2 : kGrp rL rows c num = true) : kCan so rK rL rows c num = true := by
  unfold kCan
  rw [if_pos h, h2, decide_eq_true h1]
  rfl
theorem kCan_s {so rK : Nat → Nat} {rL : Nat → Nat → Nat} {rows c num : Nat} (h : ¬ so c = 1) (h1 : num ≤ 100) (h2 : kStep rK rL rows c num = true) : kCan so rK rL rows c num = true := by
  unfold kCan
  rw [if_neg h, h2, decide_eq_true h1]
  rfl
theorem kCan_or {so rK : Nat → Nat} {rL : Nat → Nat → Nat} {rows c num : Nat} (q : kCan so rK rL rows c num = true) : (so c = 1 ∧ num ≤ 63 ∧ kGrp rL rows c num = true) ∨ (¬ so c = 1 ∧ num ≤ 100 ∧ kStep rK rL rows c num = true) := by
  unfold kCan at q
  by_cases h : so c = 1
  · rw [if_pos h, Bool.and_eq_true, decide_eq_true_eq] at q
    exact Or.inl ⟨h, q⟩
  · rw [if_neg h, Bool.and_eq_true, decide_eq_true_eq] at q
    exact Or.inr ⟨h, q⟩
theorem tk_s {s : Nat} {v : Int} (h1 : -1 ≤ v) (h2 : s = 1 → v ≤ 5) (h3 : ¬ s = 1 → v ≤ 100) : tk s v = true := by
  unfold tk
  by_cases h : s = 1
  · rw [if_pos h, decide_eq_true h1, decide_eq_true (h2 h)]; rfl
  · rw [if_neg h, decide_eq_true h1, decide_eq_true (h3 h)]; rfl
theorem tk_of {s : Nat} {v : Int} (h : tk s v = true) : -1 ≤ v ∧ v ≤ 100 ∧ (s = 1 → v ≤ 5) := by
  unfold tk at h
  rw [Bool.and_eq_true, decide_eq_true_eq, decide_eq_true_eq] at h
  obtain ⟨h1, h2⟩ := h
  by_cases q : s = 1
  · rw [if_pos q] at h2
    exact ⟨h1, by omega, fun _ => h2⟩
  · rw [if_neg q] at h2
    exact ⟨h1, h2, fun e => absurd e q⟩
def tks (so : Nat → Nat) (a : Nat → Int) : Bool := tk (so 0) (a 0) && tk (so 1) (a 1) && tk (so 2) (a 2) && tk (so 3) (a 3)
theorem tks_iff {so : Nat → Nat} {a : Nat → Int} : tks so a = true ↔ ∀ q, q < 4 → tk (so q) (a q) = true := by
  unfold tks
  rw [Bool.and_eq_true, Bool.and_eq_true, Bool.and_eq_true]
  constructor
  · intro h q hq
    obtain ⟨⟨⟨h0, h1⟩, h2⟩, h3⟩ := h
    match q, hq with
    | 0, _ => exact h0
    | 1, _ => exact h1
    | 2, _ => exact h2
    | 3, _ => exact h3
  · intro h
    exact ⟨⟨⟨h 0 (by decide), h 1 (by decide)⟩, h 2 (by decide)⟩, h 3 (by decide)⟩
end
section
/-! THE CLASS'S CELLS, by their numbers: 0 BestSplits, 1 Table, 2 Limits, 3 Survey, 4 tried, 5 its gain, 6 best, 7 its gain, 8 tree, 9 treeOfOthers, 10 Pruning, 11 asked,
12 values, 13 classes, 14 sorts, 15 rowsOfClass, 16 rowsKnown, 17 rowsLeft, 18 tree.all, 19 treeOfOthers.all, 20 alphas, 21 leafCounts, 22 wrongSums, 23 ofNode, 24.. rowsLeft's rows, 28.. values' rows, 52.. alphas' fractions,
76 + 141 t + 3 n: node n of tree t, its cut, its gain -/
def pTab (G : xG) (ad : Nat → Nat) (σ : xF) (n : Nat) (val : Nat → Nat → Int) (cl so rC rK : Nat → Nat) (rL : Nat → Nat → Nat) : Prop :=
  σ 1 = eO cTab [.ref (ad 12), .ref (ad 13), .int (iv n), .ref (ad 14), .ref (ad 15), .ref (ad 16), .ref (ad 17)] ∧
  σ 12 = eR G 1 24 (fun r => if r < 24 then some (ad (28 + r)) else none) ∧
  σ 13 = eJ G 24 (fun r => (cl r : Int)) ∧ σ 14 = eJ G 4 (fun c => (so c : Int)) ∧ σ 15 = eJ G 3 (fun k => (rC k : Int)) ∧ σ 16 = eJ G 4 (fun c => (rK c : Int)) ∧
  σ 17 = eR G 1 4 (fun c => if c < 4 then some (ad (24 + c)) else none) ∧
  (∀ c, c < 4 → σ (24 + c) = eJ G 101 (fun k => (rL c k : Int))) ∧ (∀ r, r < 24 → σ (28 + r) = eJ G 4 (val r))
/-- the bounds of what the table holds -/
def bTab (n : Nat) (cl so rC rK : Nat → Nat) (rL : Nat → Nat → Nat) : Prop := n ≤ 24 ∧ (∀ r, cl r < 3) ∧ (∀ c, so c < 2) ∧ (∀ k, rC k < 16777216) ∧ (∀ c, rK c < 16777216) ∧ ∀ c k, rL c k < 16777216
def pLim (σ : xF) (de le wo : Nat) : Prop := σ 2 = eO cLim [.int (iv de), .int (iv le), .int (iv wo)]
def pFra (σ : xF) (i : Nat) (a b : Int) : Prop := σ i = eO cFra [.int (iv a), .int (iv b)]
def pCut (ad : Nat → Nat) (σ : xF) (i g : Nat) (c num side : Int) : Prop := σ i = eO cCut [.ref (ad g), .int (iv c), .int (iv num), .int (iv side)]
def pSur (ad : Nat → Nat) (σ : xF) : Prop := σ 3 = eO cSur [.ref (ad 4), .ref (ad 6), .ref (ad 1), .ref (ad 2)]
theorem pTab.up {G : xG} {ad : Nat → Nat} {σ : xF} {n : Nat} {val : Nat → Nat → Int} {cl so rC rK : Nat → Nat} {rL : Nat → Nat → Nat} (h : pTab G ad σ n val cl so rC rK rL) {σ' : xF} (hs : ∀ i, i = 1 ∨ (12 ≤ i ∧ i ≤ 17) ∨ (24 ≤ i ∧ i ≤ 51) → σ' i = σ i) : pTab G ad σ' n val cl so rC rK rL := by
  obtain ⟨a1, a2, a3, a4, a5, a6, a7, a8, a9⟩ := h
  refine ⟨(hs 1 (by omega)).trans a1, (hs 12 (by omega)).trans a2, (hs 13 (by omega)).trans a3, (hs 14 (by omega)).trans a4, (hs 15 (by omega)).trans a5, (hs 16 (by omega)).trans a6, (hs 17 (by omega)).trans a7, fun c hc => (hs _ (by omega)).trans (a8 c hc), fun r hr => (hs _ (by omega)).trans (a9 r hr)⟩
end
section
/-! THE TABLE, read; by program -/
set_option maxHeartbeats 1000000 in
set_option maxRecDepth 100000 in
theorem m_Tab_has {G : xG} {f0 : xF} {ad : Nat → Nat} (hj : adOk ad 400) {σ : xF} {n : Nat} {val : Nat → Nat → Int} {cl so rC rK : Nat → Nat} {rL : Nat → Nat → Nat} (hT : pTab G ad σ n val cl so rC rK rL) (hB : bTab n cl so rC rK rL) (r : Int) (hr : ir r) : ∀ l, gI l G f0 ad 400 y_Tab_has (.code y_Tab_has c_Tab_has 2 (some (.boolean))) rm_Tab_has [.ref (ad 1), .int (iv (r))] σ (fun z σ' => σ' = σ ∧ z = pI (0 ≤ r ∧ r < n)) := by
  intro l
  refine mI_of (rt := .boolean) (by decide) (Nat.le_of_ble_eq_true rfl) (fun X hX hret => ?_)
  show vV G X 0 0 0 [(0, .ref (ad 1)), (1, .int (iv (r)))] [] (ov f0 ad 400 σ)
  obtain ⟨a1, a2, a3, a4, a5, a6, a7, a8, a9⟩ := id hT
  obtain ⟨b1, b2, b3, b4, b5, b6⟩ := id hB
  refine v_iload_n hX d_Tab_has_0 1 rfl ?_
  refine v_if_lt (tgt := 22) hX d_Tab_has_1 (by decide) (by first | assumption | (unfold ir at *; omega)) (fun c1_1 => ?_) (fun c1_1 => ?_)
  · refine v_iconst hX (0) d_Tab_has_22 ?_
    exact hret _ _ _ _ d_Tab_has_23 (by first | assumption | (unfold ir at *; omega)) ⟨_, rfl, rfl, (pI_f (by omega))⟩ rfl
  · refine v_iload_n hX d_Tab_has_4 1 rfl ?_
    refine v_aload_n hX d_Tab_has_5 0 rfl ?_
    refine g_get (i := 1) hX hj fl_Tab_20 d_Tab_has_6 (by omega) a1 rfl ?_
    refine v_icmp_ge (tgt := 22) hX d_Tab_has_9 (by decide) (by first | assumption | (unfold ir at *; omega)) (by first | assumption | (unfold ir at *; omega)) (fun c9_2 => ?_) (fun c9_2 => ?_)
    · refine v_iconst hX (0) d_Tab_has_22 ?_
      exact hret _ _ _ _ d_Tab_has_23 (by first | assumption | (unfold ir at *; omega)) ⟨_, rfl, rfl, (pI_f (by omega))⟩ rfl
    · refine v_iload_n hX d_Tab_has_12 1 rfl ?_
      refine v_bipush hX (24) d_Tab_has_13 rfl ?_
      refine v_icmp_ge (tgt := 22) hX d_Tab_has_15 (by decide) (by first | assumption | (unfold ir at *; omega)) (by first | assumption | (unfold ir at *; omega)) (fun c15_3 => ?_) (fun c15_3 => ?_)
      · refine v_iconst hX (0) d_Tab_has_22 ?_
        exact hret _ _ _ _ d_Tab_has_23 (by first | assumption | (unfold ir at *; omega)) ⟨_, rfl, rfl, (pI_f (by omega))⟩ rfl
      · refine v_iconst hX (1) d_Tab_has_18 ?_
        refine v_goto (tgt := 23) hX d_Tab_has_19 (by decide) ?_
        exact hret _ _ _ _ d_Tab_has_23 (by first | assumption | (unfold ir at *; omega)) ⟨_, rfl, rfl, (pI_t (by omega))⟩ rfl

set_option maxHeartbeats 1000000 in
set_option maxRecDepth 100000 in
theorem m_Tab_allRows {G : xG} {f0 : xF} {ad : Nat → Nat} (hj : adOk ad 400) {σ : xF} {n : Nat} {val : Nat → Nat → Int} {cl so rC rK : Nat → Nat} {rL : Nat → Nat → Nat} (hT : pTab G ad σ n val cl so rC rK rL) (hB : bTab n cl so rC rK rL)  : ∀ l, gI l G f0 ad 400 y_Tab_allRows (.code y_Tab_allRows c_Tab_allRows 1 (some (.int))) rm_Tab_allRows [.ref (ad 1)] σ (fun z σ' => σ' = σ ∧ z = ((2 ^ n - 1 : Nat) : Int)) := by
  intro l
  refine mI_of (rt := .int) (by decide) (Nat.le_of_ble_eq_true rfl) (fun X hX hret => ?_)
  show vV G X 0 0 0 [(0, .ref (ad 1))] [] (ov f0 ad 400 σ)
  obtain ⟨a1, a2, a3, a4, a5, a6, a7, a8, a9⟩ := id hT
  obtain ⟨b1, b2, b3, b4, b5, b6⟩ := id hB
  refine v_iconst hX (1) d_Tab_allRows_0 ?_
  refine v_aload_n hX d_Tab_allRows_1 0 rfl ?_
  refine g_get (i := 1) hX hj fl_Tab_20 d_Tab_allRows_2 (by omega) a1 rfl ?_
  refine v_ishl (z := (((2 ^ n) : Nat) : Int)) hX d_Tab_allRows_5 (iv_shl1 (n) (by omega)) ?_
  refine v_iconst hX (1) d_Tab_allRows_6 ?_
  refine v_isub hX d_Tab_allRows_7 ?_
  have h2 : 0 < 2 ^ n := Nat.two_pow_pos n
  have h3 : 2 ^ n ≤ 2 ^ 24 := Nat.pow_le_pow_right (by decide) b1
  exact hret _ _ _ _ d_Tab_allRows_8 (by unfold ir; omega) ⟨_, rfl, rfl, by omega⟩ rfl

set_option maxHeartbeats 1000000 in
set_option maxRecDepth 100000 in
theorem m_Tab_lastNumber {G : xG} {f0 : xF} {ad : Nat → Nat} (hj : adOk ad 400) {σ : xF} {n : Nat} {val : Nat → Nat → Int} {cl so rC rK : Nat → Nat} {rL : Nat → Nat → Nat} (hT : pTab G ad σ n val cl so rC rK rL) (hB : bTab n cl so rC rK rL) (c : Nat) (hc : c < 4) : ∀ l, gI l G f0 ad 400 y_Tab_lastNumber (.code y_Tab_lastNumber c_Tab_lastNumber 2 (some (.int))) rm_Tab_lastNumber [.ref (ad 1), .int (iv (((c : Nat) : Int)))] σ (fun z σ' => σ' = σ ∧ z = (if so c = 1 then 63 else 100)) := by
  intro l
  refine mI_of (rt := .int) (by decide) (Nat.le_of_ble_eq_true rfl) (fun X hX hret => ?_)
  show vV G X 0 0 0 [(0, .ref (ad 1)), (1, .int (iv (((c : Nat) : Int))))] [] (ov f0 ad 400 σ)
  obtain ⟨a1, a2, a3, a4, a5, a6, a7, a8, a9⟩ := id hT
  obtain ⟨b1, b2, b3, b4, b5, b6⟩ := id hB
  refine v_iload_n hX d_Tab_lastNumber_0 1 rfl ?_
  refine g_callSI (As := [.int (iv (((c : Nat) : Int)))]) (st := []) hX (k0_Bs_isColumn (((c : Nat) : Int)) (by first | assumption | (unfold ir at *; omega))) cl_Tab_36 d_Tab_lastNumber_1 rfl ⟨by decide, by decide⟩ ⟨by decide, by decide⟩ (Nat.le_of_ble_eq_true rfl) (fun z1 hz2 hp3 => ?_)
  have z1e : z1 = 1 := hp3.trans (if_pos (by omega))
  subst z1e
  refine v_if_eq (tgt := 22) hX d_Tab_lastNumber_4 (by decide) (by have := b3 c; unfold ir; omega) (fun c9 => absurd c9 (by omega)) (fun c9 => ?_)
  refine v_aload_n hX d_Tab_lastNumber_7 0 rfl ?_
  refine g_get (i := 1) hX hj fl_Tab_24 d_Tab_lastNumber_8 (by omega) a1 rfl ?_
  refine v_iload_n hX d_Tab_lastNumber_11 1 rfl ?_
  refine g_iald (i := 14) hX hj d_Tab_lastNumber_12 (by omega) a4 (by decide) (c) rfl (by omega) ?_
  refine v_iconst hX (1) d_Tab_lastNumber_13 ?_
  refine v_icmp_ne (tgt := 22) hX d_Tab_lastNumber_14 (by decide) (by have := b3 c; unfold ir; omega) (by have := b3 c; unfold ir; omega) (fun c14_2 => ?_) (fun c14_2 => ?_)
  · refine v_bipush hX (100) d_Tab_lastNumber_22 rfl ?_
    exact hret _ _ _ _ d_Tab_lastNumber_24 (by have := b3 c; unfold ir; omega) ⟨_, rfl, rfl, (by first | (rw [if_pos (by omega)]; done) | (rw [if_neg (by omega)]; done))⟩ rfl
  · refine v_bipush hX (63) d_Tab_lastNumber_17 rfl ?_
    refine v_goto (tgt := 24) hX d_Tab_lastNumber_19 (by decide) ?_
    exact hret _ _ _ _ d_Tab_lastNumber_24 (by have := b3 c; unfold ir; omega) ⟨_, rfl, rfl, (by first | (rw [if_pos (by omega)]; done) | (rw [if_neg (by omega)]; done))⟩ rfl

set_option maxHeartbeats 1000000 in
set_option maxRecDepth 100000 in
theorem m_Tab_countOf {G : xG} {f0 : xF} {ad : Nat → Nat} (hj : adOk ad 400) {σ : xF} {n : Nat} {val : Nat → Nat → Int} {cl so rC rK : Nat → Nat} {rL : Nat → Nat → Nat} (hT : pTab G ad σ n val cl so rC rK rL) (hB : bTab n cl so rC rK rL) (rows k : Nat) (hR : rows < 16777216) (hk : k < 3) : ∀ l, gI l G f0 ad 400 y_Tab_countOf (.code y_Tab_countOf c_Tab_countOf 3 (some (.int))) rm_Tab_countOf [.ref (ad 1), .int (iv (((rows : Nat) : Int))), .int (iv (((k : Nat) : Int)))] σ (fun z σ' => σ' = σ ∧ z = ((kCnt rC rows k : Nat) : Int)) := by
  intro l
  refine mI_of (rt := .int) (by decide) (Nat.le_of_ble_eq_true rfl) (fun X hX hret => ?_)
  show vV G X 0 0 0 [(0, .ref (ad 1)), (1, .int (iv (((rows : Nat) : Int)))), (2, .int (iv (((k : Nat) : Int))))] [] (ov f0 ad 400 σ)
  obtain ⟨a1, a2, a3, a4, a5, a6, a7, a8, a9⟩ := id hT
  obtain ⟨b1, b2, b3, b4, b5, b6⟩ := id hB
  refine v_iload_n hX d_Tab_countOf_0 2 rfl ?_
  refine g_callSI (As := [.int (iv (((k : Nat) : Int)))]) (st := []) hX (k0_Bs_isClass (((k : Nat) : Int)) (by first | assumption | (unfold ir at *; omega))) cl_Tab_40 d_Tab_countOf_1 rfl ⟨by decide, by decide⟩ ⟨by decide, by decide⟩ (Nat.le_of_ble_eq_true rfl) (fun z1 hz2 hp3 => ?_)
  have z1e : z1 = 1 := hp3.trans (if_pos (by omega))
  subst z1e
  refine v_if_eq (tgt := 21) hX d_Tab_countOf_4 (by decide) (by have := cnt_le (rows &&& rC k); unfold ir; omega) (fun c9 => absurd c9 (by omega)) (fun c9 => ?_)
  refine v_iload_n hX d_Tab_countOf_7 1 rfl ?_
  refine v_aload_n hX d_Tab_countOf_8 0 rfl ?_
  refine g_get (i := 1) hX hj fl_Tab_27 d_Tab_countOf_9 (by omega) a1 rfl ?_
  refine v_iload_n hX d_Tab_countOf_12 2 rfl ?_
  refine g_iald (i := 15) hX hj d_Tab_countOf_13 (by omega) a5 (by decide) (k) rfl (by omega) ?_
  refine v_iand (z := (((rows &&& (rC k)) : Nat) : Int)) hX d_Tab_countOf_14 (iv_and (rows) ((rC k))) ?_
  refine g_callSI (As := [.int (iv ((((rows &&& (rC k)) : Nat) : Int)))]) (st := []) hX (k0_Int_bitCount (rows &&& (rC k)) (Nat.lt_of_le_of_lt Nat.and_le_left (by omega))) cl_Tab_72 d_Tab_countOf_15 rfl ⟨by decide, by decide⟩ ⟨by decide, by decide⟩ (Nat.le_of_ble_eq_true rfl) (fun z4 hz5 hp6 => ?_)
  subst hp6
  refine v_goto (tgt := 22) hX d_Tab_countOf_18 (by decide) ?_
  exact hret _ _ _ _ d_Tab_countOf_22 (by have := cnt_le (rows &&& rC k); unfold ir; omega) ⟨_, rfl, rfl, rfl⟩ rfl

set_option maxHeartbeats 1000000 in
set_option maxRecDepth 100000 in
theorem m_Tab_squaresOf {G : xG} {f0 : xF} {ad : Nat → Nat} (hj : adOk ad 400) {σ : xF} {n : Nat} {val : Nat → Nat → Int} {cl so rC rK : Nat → Nat} {rL : Nat → Nat → Nat} (hT : pTab G ad σ n val cl so rC rK rL) (hB : bTab n cl so rC rK rL) (rows : Nat) (hR : rows < 16777216) : ∀ l, gI l G f0 ad 400 y_Tab_squaresOf (.code y_Tab_squaresOf c_Tab_squaresOf 5 (some (.int))) rm_Tab_squaresOf [.ref (ad 1), .int (iv (((rows : Nat) : Int)))] σ (fun z σ' => σ' = σ ∧ z = ((kSq rC rows : Nat) : Int)) := by
  intro l
  refine mI_of (rt := .int) (by decide) (Nat.le_of_ble_eq_true rfl) (fun X hX hret => ?_)
  show vV G X 0 0 0 [(0, .ref (ad 1)), (1, .int (iv (((rows : Nat) : Int))))] [] (ov f0 ad 400 σ)
  obtain ⟨a1, a2, a3, a4, a5, a6, a7, a8, a9⟩ := id hT
  obtain ⟨b1, b2, b3, b4, b5, b6⟩ := id hB
  have p0 := cnt_le (rows &&& rC 0)
  have p1 := cnt_le (rows &&& rC 1)
  have p2 := cnt_le (rows &&& rC 2)
  have q0 := Nat.mul_le_mul p0 p0
  have q1 := Nat.mul_le_mul p1 p1
  have q2 := Nat.mul_le_mul p2 p2
  refine v_iconst hX (0) d_Tab_squaresOf_0 ?_
  refine v_istore_n (lv' := [(2, .int (iv (0))), (0, .ref (ad 1)), (1, .int (iv (((rows : Nat) : Int))))]) hX d_Tab_squaresOf_1 rfl (by decide) rfl ?_
  refine v_iconst hX (0) d_Tab_squaresOf_2 ?_
  refine v_istore_n (lv' := [(3, .int (iv (0))), (2, .int (iv (0))), (0, .ref (ad 1)), (1, .int (iv (((rows : Nat) : Int))))]) hX d_Tab_squaresOf_3 rfl (by decide) rfl ?_
  refine v_iload_n hX d_Tab_squaresOf_4 0 rfl ?_
  refine v_iconst hX (3) d_Tab_squaresOf_5 ?_
  refine v_icmp_ge (tgt := 36) hX d_Tab_squaresOf_6 (by decide) (by unfold ir; omega) (by unfold ir; omega) (fun c9 => absurd c9 (by omega)) (fun c9 => ?_)
  refine v_iload_n hX d_Tab_squaresOf_9 3 rfl ?_
  refine v_aload_n hX d_Tab_squaresOf_10 2 rfl ?_
  refine g_get (i := 1) hX hj fl_Tab_27 d_Tab_squaresOf_11 (by omega) a1 rfl ?_
  refine v_iload_n hX d_Tab_squaresOf_14 0 rfl ?_
  refine g_iald (i := 15) hX hj d_Tab_squaresOf_15 (by omega) a5 (by decide) (0) rfl (by omega) ?_
  refine v_iand (z := (((rows &&& (rC 0)) : Nat) : Int)) hX d_Tab_squaresOf_16 (iv_and (rows) ((rC 0))) ?_
  refine g_callSI (As := [.int (iv ((((rows &&& (rC 0)) : Nat) : Int)))]) (st := []) hX (k0_Int_bitCount (rows &&& (rC 0)) (Nat.lt_of_le_of_lt Nat.and_le_left (by omega))) cl_Tab_72 d_Tab_squaresOf_17 rfl ⟨by decide, by decide⟩ ⟨by decide, by decide⟩ (Nat.le_of_ble_eq_true rfl) (fun z1 hz2 hp3 => ?_)
  subst hp3
  refine v_istore (lv' := [(4, .int (iv ((((cnt (rows &&& (rC 0))) : Nat) : Int)))), (3, .int (iv (0))), (2, .int (iv (0))), (0, .ref (ad 1)), (1, .int (iv (((rows : Nat) : Int))))]) hX d_Tab_squaresOf_20 (by decide) rfl ?_
  refine v_iload_n hX d_Tab_squaresOf_22 2 rfl ?_
  refine v_iload hX d_Tab_squaresOf_23 0 rfl ?_
  refine v_iload hX d_Tab_squaresOf_25 0 rfl ?_
  refine v_imulN (a := (cnt (rows &&& (rC 0)))) (b := (cnt (rows &&& (rC 0)))) hX d_Tab_squaresOf_27 ?_
  refine v_iaddN (a := 0) (b := ((cnt (rows &&& (rC 0))) * (cnt (rows &&& (rC 0))))) hX d_Tab_squaresOf_28 ?_
  refine v_istore_n (lv' := [(2, .int (iv ((((0 + ((cnt (rows &&& (rC 0))) * (cnt (rows &&& (rC 0))))) : Nat) : Int)))), (4, .int (iv ((((cnt (rows &&& (rC 0))) : Nat) : Int)))), (3, .int (iv (0))), (0, .ref (ad 1)), (1, .int (iv (((rows : Nat) : Int))))]) hX d_Tab_squaresOf_29 rfl (by decide) rfl ?_
  refine v_iincN (a := 0) (n := 1) (lv' := [(3, .int (iv (1))), (2, .int (iv ((((0 + ((cnt (rows &&& (rC 0))) * (cnt (rows &&& (rC 0))))) : Nat) : Int)))), (4, .int (iv ((((cnt (rows &&& (rC 0))) : Nat) : Int)))), (0, .ref (ad 1)), (1, .int (iv (((rows : Nat) : Int))))]) hX d_Tab_squaresOf_30 rfl 2 rfl (by decide) rfl ?_
  refine v_goto (tgt := 4) hX d_Tab_squaresOf_33 (by decide) ?_
  refine v_iload_n hX d_Tab_squaresOf_4 0 rfl ?_
  refine v_iconst hX (3) d_Tab_squaresOf_5 ?_
  refine v_icmp_ge (tgt := 36) hX d_Tab_squaresOf_6 (by decide) (by unfold ir; omega) (by unfold ir; omega) (fun c9 => absurd c9 (by omega)) (fun c9 => ?_)
  refine v_iload_n hX d_Tab_squaresOf_9 4 rfl ?_
  refine v_aload_n hX d_Tab_squaresOf_10 3 rfl ?_
  refine g_get (i := 1) hX hj fl_Tab_27 d_Tab_squaresOf_11 (by omega) a1 rfl ?_
  refine v_iload_n hX d_Tab_squaresOf_14 0 rfl ?_
  refine g_iald (i := 15) hX hj d_Tab_squaresOf_15 (by omega) a5 (by decide) (1) rfl (by omega) ?_
  refine v_iand (z := (((rows &&& (rC 1)) : Nat) : Int)) hX d_Tab_squaresOf_16 (iv_and (rows) ((rC 1))) ?_
  refine g_callSI (As := [.int (iv ((((rows &&& (rC 1)) : Nat) : Int)))]) (st := []) hX (k0_Int_bitCount (rows &&& (rC 1)) (Nat.lt_of_le_of_lt Nat.and_le_left (by omega))) cl_Tab_72 d_Tab_squaresOf_17 rfl ⟨by decide, by decide⟩ ⟨by decide, by decide⟩ (Nat.le_of_ble_eq_true rfl) (fun z4 hz5 hp6 => ?_)
  subst hp6
  refine v_istore (lv' := [(4, .int (iv ((((cnt (rows &&& (rC 1))) : Nat) : Int)))), (3, .int (iv (1))), (2, .int (iv ((((0 + ((cnt (rows &&& (rC 0))) * (cnt (rows &&& (rC 0))))) : Nat) : Int)))), (0, .ref (ad 1)), (1, .int (iv (((rows : Nat) : Int))))]) hX d_Tab_squaresOf_20 (by decide) rfl ?_
  refine v_iload_n hX d_Tab_squaresOf_22 2 rfl ?_
  refine v_iload hX d_Tab_squaresOf_23 0 rfl ?_
  refine v_iload hX d_Tab_squaresOf_25 0 rfl ?_
  refine v_imulN (a := (cnt (rows &&& (rC 1)))) (b := (cnt (rows &&& (rC 1)))) hX d_Tab_squaresOf_27 ?_
  refine v_iaddN (a := (0 + ((cnt (rows &&& (rC 0))) * (cnt (rows &&& (rC 0)))))) (b := ((cnt (rows &&& (rC 1))) * (cnt (rows &&& (rC 1))))) hX d_Tab_squaresOf_28 ?_
  refine v_istore_n (lv' := [(2, .int (iv (((((0 + ((cnt (rows &&& (rC 0))) * (cnt (rows &&& (rC 0))))) + ((cnt (rows &&& (rC 1))) * (cnt (rows &&& (rC 1))))) : Nat) : Int)))), (4, .int (iv ((((cnt (rows &&& (rC 1))) : Nat) : Int)))), (3, .int (iv (1))), (0, .ref (ad 1)), (1, .int (iv (((rows : Nat) : Int))))]) hX d_Tab_squaresOf_29 rfl (by decide) rfl ?_
  refine v_iincN (a := 1) (n := 1) (lv' := [(3, .int (iv (2))), (2, .int (iv (((((0 + ((cnt (rows &&& (rC 0))) * (cnt (rows &&& (rC 0))))) + ((cnt (rows &&& (rC 1))) * (cnt (rows &&& (rC 1))))) : Nat) : Int)))), (4, .int (iv ((((cnt (rows &&& (rC 1))) : Nat) : Int)))), (0, .ref (ad 1)), (1, .int (iv (((rows : Nat) : Int))))]) hX d_Tab_squaresOf_30 rfl 2 rfl (by decide) rfl ?_
  refine v_goto (tgt := 4) hX d_Tab_squaresOf_33 (by decide) ?_
  refine v_iload_n hX d_Tab_squaresOf_4 0 rfl ?_
  refine v_iconst hX (3) d_Tab_squaresOf_5 ?_
  refine v_icmp_ge (tgt := 36) hX d_Tab_squaresOf_6 (by decide) (by unfold ir; omega) (by unfold ir; omega) (fun c9 => absurd c9 (by omega)) (fun c9 => ?_)
  refine v_iload_n hX d_Tab_squaresOf_9 4 rfl ?_
  refine v_aload_n hX d_Tab_squaresOf_10 3 rfl ?_
  refine g_get (i := 1) hX hj fl_Tab_27 d_Tab_squaresOf_11 (by omega) a1 rfl ?_
  refine v_iload_n hX d_Tab_squaresOf_14 0 rfl ?_
  refine g_iald (i := 15) hX hj d_Tab_squaresOf_15 (by omega) a5 (by decide) (2) rfl (by omega) ?_
  refine v_iand (z := (((rows &&& (rC 2)) : Nat) : Int)) hX d_Tab_squaresOf_16 (iv_and (rows) ((rC 2))) ?_
  refine g_callSI (As := [.int (iv ((((rows &&& (rC 2)) : Nat) : Int)))]) (st := []) hX (k0_Int_bitCount (rows &&& (rC 2)) (Nat.lt_of_le_of_lt Nat.and_le_left (by omega))) cl_Tab_72 d_Tab_squaresOf_17 rfl ⟨by decide, by decide⟩ ⟨by decide, by decide⟩ (Nat.le_of_ble_eq_true rfl) (fun z7 hz8 hp9 => ?_)
  subst hp9
  refine v_istore (lv' := [(4, .int (iv ((((cnt (rows &&& (rC 2))) : Nat) : Int)))), (3, .int (iv (2))), (2, .int (iv (((((0 + ((cnt (rows &&& (rC 0))) * (cnt (rows &&& (rC 0))))) + ((cnt (rows &&& (rC 1))) * (cnt (rows &&& (rC 1))))) : Nat) : Int)))), (0, .ref (ad 1)), (1, .int (iv (((rows : Nat) : Int))))]) hX d_Tab_squaresOf_20 (by decide) rfl ?_
  refine v_iload_n hX d_Tab_squaresOf_22 2 rfl ?_
  refine v_iload hX d_Tab_squaresOf_23 0 rfl ?_
  refine v_iload hX d_Tab_squaresOf_25 0 rfl ?_
  refine v_imulN (a := (cnt (rows &&& (rC 2)))) (b := (cnt (rows &&& (rC 2)))) hX d_Tab_squaresOf_27 ?_
  refine v_iaddN (a := ((0 + ((cnt (rows &&& (rC 0))) * (cnt (rows &&& (rC 0))))) + ((cnt (rows &&& (rC 1))) * (cnt (rows &&& (rC 1)))))) (b := ((cnt (rows &&& (rC 2))) * (cnt (rows &&& (rC 2))))) hX d_Tab_squaresOf_28 ?_
  refine v_istore_n (lv' := [(2, .int (iv ((((((0 + ((cnt (rows &&& (rC 0))) * (cnt (rows &&& (rC 0))))) + ((cnt (rows &&& (rC 1))) * (cnt (rows &&& (rC 1))))) + ((cnt (rows &&& (rC 2))) * (cnt (rows &&& (rC 2))))) : Nat) : Int)))), (4, .int (iv ((((cnt (rows &&& (rC 2))) : Nat) : Int)))), (3, .int (iv (2))), (0, .ref (ad 1)), (1, .int (iv (((rows : Nat) : Int))))]) hX d_Tab_squaresOf_29 rfl (by decide) rfl ?_
  refine v_iincN (a := 2) (n := 1) (lv' := [(3, .int (iv (3))), (2, .int (iv ((((((0 + ((cnt (rows &&& (rC 0))) * (cnt (rows &&& (rC 0))))) + ((cnt (rows &&& (rC 1))) * (cnt (rows &&& (rC 1))))) + ((cnt (rows &&& (rC 2))) * (cnt (rows &&& (rC 2))))) : Nat) : Int)))), (4, .int (iv ((((cnt (rows &&& (rC 2))) : Nat) : Int)))), (0, .ref (ad 1)), (1, .int (iv (((rows : Nat) : Int))))]) hX d_Tab_squaresOf_30 rfl 2 rfl (by decide) rfl ?_
  refine v_goto (tgt := 4) hX d_Tab_squaresOf_33 (by decide) ?_
  refine v_iload_n hX d_Tab_squaresOf_4 0 rfl ?_
  refine v_iconst hX (3) d_Tab_squaresOf_5 ?_
  refine v_icmp_ge (tgt := 36) hX d_Tab_squaresOf_6 (by decide) (by unfold ir; omega) (by unfold ir; omega) (fun c9 => ?_) (fun c9 => absurd c9 (by omega))
  refine v_iload_n hX d_Tab_squaresOf_36 1 rfl ?_
  exact hret _ _ _ _ d_Tab_squaresOf_37 (ir_n (by omega)) ⟨_, rfl, rfl, (by simp only [kSq, kCnt, Nat.zero_add])⟩ rfl

set_option maxHeartbeats 1000000 in
set_option maxRecDepth 100000 in
theorem m_Tab_unknownOf {G : xG} {f0 : xF} {ad : Nat → Nat} (hj : adOk ad 400) {σ : xF} {n : Nat} {val : Nat → Nat → Int} {cl so rC rK : Nat → Nat} {rL : Nat → Nat → Nat} (hT : pTab G ad σ n val cl so rC rK rL) (hB : bTab n cl so rC rK rL) (rows c : Nat) (hR : rows < 16777216) (hc : c < 4) : ∀ l, gI l G f0 ad 400 y_Tab_unknownOf (.code y_Tab_unknownOf c_Tab_unknownOf 3 (some (.int))) rm_Tab_unknownOf [.ref (ad 1), .int (iv (((rows : Nat) : Int))), .int (iv (((c : Nat) : Int)))] σ (fun z σ' => σ' = σ ∧ z = ((nd rows (rK c) : Nat) : Int)) := by
  intro l
  refine mI_of (rt := .int) (by decide) (Nat.le_of_ble_eq_true rfl) (fun X hX hret => ?_)
  show vV G X 0 0 0 [(0, .ref (ad 1)), (1, .int (iv (((rows : Nat) : Int)))), (2, .int (iv (((c : Nat) : Int))))] [] (ov f0 ad 400 σ)
  obtain ⟨a1, a2, a3, a4, a5, a6, a7, a8, a9⟩ := id hT
  obtain ⟨b1, b2, b3, b4, b5, b6⟩ := id hB
  refine v_iload_n hX d_Tab_unknownOf_0 2 rfl ?_
  refine g_callSI (As := [.int (iv (((c : Nat) : Int)))]) (st := []) hX (k0_Bs_isColumn (((c : Nat) : Int)) (by first | assumption | (unfold ir at *; omega))) cl_Tab_36 d_Tab_unknownOf_1 rfl ⟨by decide, by decide⟩ ⟨by decide, by decide⟩ (Nat.le_of_ble_eq_true rfl) (fun z1 hz2 hp3 => ?_)
  have z1e : z1 = 1 := hp3.trans (if_pos (by omega))
  subst z1e
  refine v_if_eq (tgt := 20) hX d_Tab_unknownOf_4 (by decide) (by first | assumption | (unfold ir at *; omega)) (fun c9 => absurd c9 (by omega)) (fun c9 => ?_)
  refine v_iload_n hX d_Tab_unknownOf_7 1 rfl ?_
  refine v_aload_n hX d_Tab_unknownOf_8 0 rfl ?_
  refine g_get (i := 1) hX hj fl_Tab_30 d_Tab_unknownOf_9 (by omega) a1 rfl ?_
  refine v_iload_n hX d_Tab_unknownOf_12 2 rfl ?_
  refine g_iald (i := 16) hX hj d_Tab_unknownOf_13 (by omega) a6 (by decide) (c) rfl (by omega) ?_
  refine v_iconst hX (-1) d_Tab_unknownOf_14 ?_
  refine v_ixor (z := (-1 - (((rK c) : Nat) : Int))) hX d_Tab_unknownOf_15 (iv_not ((rK c))) ?_
  refine v_iand (z := (((nd rows (rK c)) : Nat) : Int)) hX d_Tab_unknownOf_16 (iv_andnot (rows) ((rK c))) ?_
  refine v_goto (tgt := 21) hX d_Tab_unknownOf_17 (by decide) ?_
  exact hret _ _ _ _ d_Tab_unknownOf_21 (ir_n (Nat.lt_of_le_of_lt (nd_le _ _) (by omega))) ⟨_, rfl, rfl, rfl⟩ rfl

set_option maxHeartbeats 1000000 in
set_option maxRecDepth 100000 in
theorem m_Tab_labelOf {G : xG} {f0 : xF} {ad : Nat → Nat} (hj : adOk ad 400) {σ : xF} {n : Nat} {val : Nat → Nat → Int} {cl so rC rK : Nat → Nat} {rL : Nat → Nat → Nat} (hT : pTab G ad σ n val cl so rC rK rL) (hB : bTab n cl so rC rK rL) (rows : Nat) (hR : rows < 16777216) : ∀ l, gI l G f0 ad 400 y_Tab_labelOf (.code y_Tab_labelOf c_Tab_labelOf 4 (some (.int))) rm_Tab_labelOf [.ref (ad 1), .int (iv (((rows : Nat) : Int)))] σ (fun z σ' => σ' = σ ∧ z = ((kLab rC rows : Nat) : Int)) := by
  intro l
  refine mI_of (rt := .int) (by decide) (Nat.le_of_ble_eq_true rfl) (fun X hX hret => ?_)
  show vV G X 0 0 0 [(0, .ref (ad 1)), (1, .int (iv (((rows : Nat) : Int))))] [] (ov f0 ad 400 σ)
  obtain ⟨a1, a2, a3, a4, a5, a6, a7, a8, a9⟩ := id hT
  obtain ⟨b1, b2, b3, b4, b5, b6⟩ := id hB
  have p0 := kCnt_le rC rows 0
  have p1 := kCnt_le rC rows 1
  have p2 := kCnt_le rC rows 2
  refine v_iconst hX (0) d_Tab_labelOf_0 ?_
  refine v_istore_n (lv' := [(2, .int (iv (0))), (0, .ref (ad 1)), (1, .int (iv (((rows : Nat) : Int))))]) hX d_Tab_labelOf_1 rfl (by decide) rfl ?_
  refine v_iconst hX (1) d_Tab_labelOf_2 ?_
  refine v_istore_n (lv' := [(3, .int (iv (1))), (2, .int (iv (0))), (0, .ref (ad 1)), (1, .int (iv (((rows : Nat) : Int))))]) hX d_Tab_labelOf_3 rfl (by decide) rfl ?_
  refine v_iload_n hX d_Tab_labelOf_4 0 rfl ?_
  refine v_iconst hX (3) d_Tab_labelOf_5 ?_
  refine v_icmp_ge (tgt := 32) hX d_Tab_labelOf_6 (by decide) (by unfold ir; omega) (by unfold ir; omega) (fun c9 => absurd c9 (by omega)) (fun c9 => ?_)
  refine v_aload_n hX d_Tab_labelOf_9 2 rfl ?_
  refine v_iload_n hX d_Tab_labelOf_10 3 rfl ?_
  refine v_iload_n hX d_Tab_labelOf_11 0 rfl ?_
  refine g_callVI (As := [.int (iv (((rows : Nat) : Int))), .int (iv (1))]) (st := []) hX hj (i := 1) (by omega) a1 (m_Tab_countOf hj hT hB rows 1 hR (by omega)) cl_Tab_77 d_Tab_labelOf_12 rfl ⟨by decide, by decide⟩ ⟨by decide, by decide⟩ (Nat.le_of_ble_eq_true rfl) (fun z1 σ2 hz3 hp4 => ?_)
  obtain ⟨he5, hv6⟩ := hp4
  rw [he5]
  subst hv6
  refine v_aload_n hX d_Tab_labelOf_15 2 rfl ?_
  refine v_iload_n hX d_Tab_labelOf_16 3 rfl ?_
  refine v_iload_n hX d_Tab_labelOf_17 1 rfl ?_
  refine g_callVI (As := [.int (iv (((rows : Nat) : Int))), .int (iv (0))]) (st := [.int (iv ((((kCnt rC rows 1) : Nat) : Int)))]) hX hj (i := 1) (by omega) a1 (m_Tab_countOf hj hT hB rows 0 hR (by omega)) cl_Tab_77 d_Tab_labelOf_18 rfl ⟨by decide, by decide⟩ ⟨by decide, by decide⟩ (Nat.le_of_ble_eq_true rfl) (fun z7 σ8 hz9 hp10 => ?_)
  obtain ⟨he11, hv12⟩ := hp10
  rw [he11]
  subst hv12
  refine v_icmp_le (tgt := 26) hX d_Tab_labelOf_21 (by decide) (by unfold ir; omega) (by unfold ir; omega) (fun c21_2 => ?_) (fun c21_2 => ?_)
  · refine v_iincN (a := 1) (n := 1) (lv' := [(3, .int (iv (2))), (2, .int (iv (0))), (0, .ref (ad 1)), (1, .int (iv (((rows : Nat) : Int))))]) hX d_Tab_labelOf_26 rfl 0 rfl (by decide) rfl ?_
    refine v_goto (tgt := 4) hX d_Tab_labelOf_29 (by decide) ?_
    refine v_iload_n hX d_Tab_labelOf_4 0 rfl ?_
    refine v_iconst hX (3) d_Tab_labelOf_5 ?_
    refine v_icmp_ge (tgt := 32) hX d_Tab_labelOf_6 (by decide) (by unfold ir; omega) (by unfold ir; omega) (fun c9 => absurd c9 (by omega)) (fun c9 => ?_)
    refine v_aload_n hX d_Tab_labelOf_9 2 rfl ?_
    refine v_iload_n hX d_Tab_labelOf_10 3 rfl ?_
    refine v_iload_n hX d_Tab_labelOf_11 0 rfl ?_
    refine g_callVI (As := [.int (iv (((rows : Nat) : Int))), .int (iv (2))]) (st := []) hX hj (i := 1) (by omega) a1 (m_Tab_countOf hj hT hB rows 2 hR (by omega)) cl_Tab_77 d_Tab_labelOf_12 rfl ⟨by decide, by decide⟩ ⟨by decide, by decide⟩ (Nat.le_of_ble_eq_true rfl) (fun z13 σ14 hz15 hp16 => ?_)
    obtain ⟨he17, hv18⟩ := hp16
    rw [he17]
    subst hv18
    refine v_aload_n hX d_Tab_labelOf_15 2 rfl ?_
    refine v_iload_n hX d_Tab_labelOf_16 3 rfl ?_
    refine v_iload_n hX d_Tab_labelOf_17 1 rfl ?_
    refine g_callVI (As := [.int (iv (((rows : Nat) : Int))), .int (iv (0))]) (st := [.int (iv ((((kCnt rC rows 2) : Nat) : Int)))]) hX hj (i := 1) (by omega) a1 (m_Tab_countOf hj hT hB rows 0 hR (by omega)) cl_Tab_77 d_Tab_labelOf_18 rfl ⟨by decide, by decide⟩ ⟨by decide, by decide⟩ (Nat.le_of_ble_eq_true rfl) (fun z19 σ20 hz21 hp22 => ?_)
    obtain ⟨he23, hv24⟩ := hp22
    rw [he23]
    subst hv24
    refine v_icmp_le (tgt := 26) hX d_Tab_labelOf_21 (by decide) (by unfold ir; omega) (by unfold ir; omega) (fun c21_4 => ?_) (fun c21_4 => ?_)
    · refine v_iincN (a := 2) (n := 1) (lv' := [(3, .int (iv (3))), (2, .int (iv (0))), (0, .ref (ad 1)), (1, .int (iv (((rows : Nat) : Int))))]) hX d_Tab_labelOf_26 rfl 0 rfl (by decide) rfl ?_
      refine v_goto (tgt := 4) hX d_Tab_labelOf_29 (by decide) ?_
      refine v_iload_n hX d_Tab_labelOf_4 0 rfl ?_
      refine v_iconst hX (3) d_Tab_labelOf_5 ?_
      refine v_icmp_ge (tgt := 32) hX d_Tab_labelOf_6 (by decide) (by unfold ir; omega) (by unfold ir; omega) (fun c9 => ?_) (fun c9 => absurd c9 (by omega))
      refine v_iload_n hX d_Tab_labelOf_32 1 rfl ?_
      exact hret _ _ _ _ d_Tab_labelOf_33 (by unfold ir; omega) ⟨_, rfl, rfl, (by first | (rw [kLab_00 (by omega) (by omega)]; rfl) | (rw [kLab_02 (by omega) (by omega)]; rfl) | (rw [kLab_11 (by omega) (by omega)]; rfl) | (rw [kLab_12 (by omega) (by omega)]; rfl))⟩ rfl
    · refine v_iload_n hX d_Tab_labelOf_24 0 rfl ?_
      refine v_istore_n (lv' := [(2, .int (iv (2))), (3, .int (iv (2))), (0, .ref (ad 1)), (1, .int (iv (((rows : Nat) : Int))))]) hX d_Tab_labelOf_25 rfl (by decide) rfl ?_
      refine v_iincN (a := 2) (n := 1) (lv' := [(3, .int (iv (3))), (2, .int (iv (2))), (0, .ref (ad 1)), (1, .int (iv (((rows : Nat) : Int))))]) hX d_Tab_labelOf_26 rfl 1 rfl (by decide) rfl ?_
      refine v_goto (tgt := 4) hX d_Tab_labelOf_29 (by decide) ?_
      refine v_iload_n hX d_Tab_labelOf_4 0 rfl ?_
      refine v_iconst hX (3) d_Tab_labelOf_5 ?_
      refine v_icmp_ge (tgt := 32) hX d_Tab_labelOf_6 (by decide) (by unfold ir; omega) (by unfold ir; omega) (fun c9 => ?_) (fun c9 => absurd c9 (by omega))
      refine v_iload_n hX d_Tab_labelOf_32 1 rfl ?_
      exact hret _ _ _ _ d_Tab_labelOf_33 (by unfold ir; omega) ⟨_, rfl, rfl, (by first | (rw [kLab_00 (by omega) (by omega)]; rfl) | (rw [kLab_02 (by omega) (by omega)]; rfl) | (rw [kLab_11 (by omega) (by omega)]; rfl) | (rw [kLab_12 (by omega) (by omega)]; rfl))⟩ rfl
  · refine v_iload_n hX d_Tab_labelOf_24 0 rfl ?_
    refine v_istore_n (lv' := [(2, .int (iv (1))), (3, .int (iv (1))), (0, .ref (ad 1)), (1, .int (iv (((rows : Nat) : Int))))]) hX d_Tab_labelOf_25 rfl (by decide) rfl ?_
    refine v_iincN (a := 1) (n := 1) (lv' := [(3, .int (iv (2))), (2, .int (iv (1))), (0, .ref (ad 1)), (1, .int (iv (((rows : Nat) : Int))))]) hX d_Tab_labelOf_26 rfl 1 rfl (by decide) rfl ?_
    refine v_goto (tgt := 4) hX d_Tab_labelOf_29 (by decide) ?_
    refine v_iload_n hX d_Tab_labelOf_4 0 rfl ?_
    refine v_iconst hX (3) d_Tab_labelOf_5 ?_
    refine v_icmp_ge (tgt := 32) hX d_Tab_labelOf_6 (by decide) (by unfold ir; omega) (by unfold ir; omega) (fun c9 => absurd c9 (by omega)) (fun c9 => ?_)
    refine v_aload_n hX d_Tab_labelOf_9 2 rfl ?_
    refine v_iload_n hX d_Tab_labelOf_10 3 rfl ?_
    refine v_iload_n hX d_Tab_labelOf_11 0 rfl ?_
    refine g_callVI (As := [.int (iv (((rows : Nat) : Int))), .int (iv (2))]) (st := []) hX hj (i := 1) (by omega) a1 (m_Tab_countOf hj hT hB rows 2 hR (by omega)) cl_Tab_77 d_Tab_labelOf_12 rfl ⟨by decide, by decide⟩ ⟨by decide, by decide⟩ (Nat.le_of_ble_eq_true rfl) (fun z25 σ26 hz27 hp28 => ?_)
    obtain ⟨he29, hv30⟩ := hp28
    rw [he29]
    subst hv30
    refine v_aload_n hX d_Tab_labelOf_15 2 rfl ?_
    refine v_iload_n hX d_Tab_labelOf_16 3 rfl ?_
    refine v_iload_n hX d_Tab_labelOf_17 1 rfl ?_
    refine g_callVI (As := [.int (iv (((rows : Nat) : Int))), .int (iv (1))]) (st := [.int (iv ((((kCnt rC rows 2) : Nat) : Int)))]) hX hj (i := 1) (by omega) a1 (m_Tab_countOf hj hT hB rows 1 hR (by omega)) cl_Tab_77 d_Tab_labelOf_18 rfl ⟨by decide, by decide⟩ ⟨by decide, by decide⟩ (Nat.le_of_ble_eq_true rfl) (fun z31 σ32 hz33 hp34 => ?_)
    obtain ⟨he35, hv36⟩ := hp34
    rw [he35]
    subst hv36
    refine v_icmp_le (tgt := 26) hX d_Tab_labelOf_21 (by decide) (by unfold ir; omega) (by unfold ir; omega) (fun c21_8 => ?_) (fun c21_8 => ?_)
    · refine v_iincN (a := 2) (n := 1) (lv' := [(3, .int (iv (3))), (2, .int (iv (1))), (0, .ref (ad 1)), (1, .int (iv (((rows : Nat) : Int))))]) hX d_Tab_labelOf_26 rfl 0 rfl (by decide) rfl ?_
      refine v_goto (tgt := 4) hX d_Tab_labelOf_29 (by decide) ?_
      refine v_iload_n hX d_Tab_labelOf_4 0 rfl ?_
      refine v_iconst hX (3) d_Tab_labelOf_5 ?_
      refine v_icmp_ge (tgt := 32) hX d_Tab_labelOf_6 (by decide) (by unfold ir; omega) (by unfold ir; omega) (fun c9 => ?_) (fun c9 => absurd c9 (by omega))
      refine v_iload_n hX d_Tab_labelOf_32 1 rfl ?_
      exact hret _ _ _ _ d_Tab_labelOf_33 (by unfold ir; omega) ⟨_, rfl, rfl, (by first | (rw [kLab_00 (by omega) (by omega)]; rfl) | (rw [kLab_02 (by omega) (by omega)]; rfl) | (rw [kLab_11 (by omega) (by omega)]; rfl) | (rw [kLab_12 (by omega) (by omega)]; rfl))⟩ rfl
    · refine v_iload_n hX d_Tab_labelOf_24 0 rfl ?_
      refine v_istore_n (lv' := [(2, .int (iv (2))), (3, .int (iv (2))), (0, .ref (ad 1)), (1, .int (iv (((rows : Nat) : Int))))]) hX d_Tab_labelOf_25 rfl (by decide) rfl ?_
      refine v_iincN (a := 2) (n := 1) (lv' := [(3, .int (iv (3))), (2, .int (iv (2))), (0, .ref (ad 1)), (1, .int (iv (((rows : Nat) : Int))))]) hX d_Tab_labelOf_26 rfl 1 rfl (by decide) rfl ?_
      refine v_goto (tgt := 4) hX d_Tab_labelOf_29 (by decide) ?_
      refine v_iload_n hX d_Tab_labelOf_4 0 rfl ?_
      refine v_iconst hX (3) d_Tab_labelOf_5 ?_
      refine v_icmp_ge (tgt := 32) hX d_Tab_labelOf_6 (by decide) (by unfold ir; omega) (by unfold ir; omega) (fun c9 => ?_) (fun c9 => absurd c9 (by omega))
      refine v_iload_n hX d_Tab_labelOf_32 1 rfl ?_
      exact hret _ _ _ _ d_Tab_labelOf_33 (by unfold ir; omega) ⟨_, rfl, rfl, (by first | (rw [kLab_00 (by omega) (by omega)]; rfl) | (rw [kLab_02 (by omega) (by omega)]; rfl) | (rw [kLab_11 (by omega) (by omega)]; rfl) | (rw [kLab_12 (by omega) (by omega)]; rfl))⟩ rfl

set_option maxHeartbeats 1000000 in
set_option maxRecDepth 100000 in
theorem m_Tab_leftOf {G : xG} {f0 : xF} {ad : Nat → Nat} (hj : adOk ad 400) {σ : xF} {n : Nat} {val : Nat → Nat → Int} {cl so rC rK : Nat → Nat} {rL : Nat → Nat → Nat} (hT : pTab G ad σ n val cl so rC rK rL) (hB : bTab n cl so rC rK rL) (rows c num side : Nat) (hR : rows < 16777216) (hc : c < 4) (hn : num ≤ 100) (hs : side ≤ 1) : ∀ l, gI l G f0 ad 400 y_Tab_leftOf (.code y_Tab_leftOf c_Tab_leftOf 6 (some (.int))) rm_Tab_leftOf [.ref (ad 1), .int (iv (((rows : Nat) : Int))), .int (iv (((c : Nat) : Int))), .int (iv (((num : Nat) : Int))), .int (iv (((side : Nat) : Int)))] σ (fun z σ' => σ' = σ ∧ z = ((kLeft rK rL rows c num side : Nat) : Int)) := by
  intro l
  refine mI_of (rt := .int) (by decide) (Nat.le_of_ble_eq_true rfl) (fun X hX hret => ?_)
  show vV G X 0 0 0 [(0, .ref (ad 1)), (1, .int (iv (((rows : Nat) : Int)))), (2, .int (iv (((c : Nat) : Int)))), (3, .int (iv (((num : Nat) : Int)))), (4, .int (iv (((side : Nat) : Int))))] [] (ov f0 ad 400 σ)
  obtain ⟨a1, a2, a3, a4, a5, a6, a7, a8, a9⟩ := id hT
  obtain ⟨b1, b2, b3, b4, b5, b6⟩ := id hB
  refine v_iload_n hX d_Tab_leftOf_0 2 rfl ?_
  refine g_callSI (As := [.int (iv (((c : Nat) : Int)))]) (st := []) hX (k0_Bs_isColumn (((c : Nat) : Int)) (by first | assumption | (unfold ir at *; omega))) cl_Tab_36 d_Tab_leftOf_1 rfl ⟨by decide, by decide⟩ ⟨by decide, by decide⟩ (Nat.le_of_ble_eq_true rfl) (fun z1 hz2 hp3 => ?_)
  have z1e : z1 = 1 := hp3.trans (if_pos (by omega))
  subst z1e
  refine v_if_eq (tgt := 17) hX d_Tab_leftOf_4 (by decide) (by first | assumption | (unfold ir at *; omega)) (fun c9 => absurd c9 (by omega)) (fun c9 => ?_)
  refine v_iload_n hX d_Tab_leftOf_7 3 rfl ?_
  refine v_if_lt (tgt := 17) hX d_Tab_leftOf_8 (by decide) (by first | assumption | (unfold ir at *; omega)) (fun c8_2 => absurd c8_2 (by omega)) (fun c8_2 => ?_)
  refine v_iload_n hX d_Tab_leftOf_11 3 rfl ?_
  refine v_bipush hX (100) d_Tab_leftOf_12 rfl ?_
  refine v_icmp_le (tgt := 19) hX d_Tab_leftOf_14 (by decide) (by first | assumption | (unfold ir at *; omega)) (by first | assumption | (unfold ir at *; omega)) (fun c14_3 => ?_) (fun c14_3 => absurd c14_3 (by omega))
  refine v_iload_n hX d_Tab_leftOf_19 1 rfl ?_
  refine v_aload_n hX d_Tab_leftOf_20 0 rfl ?_
  refine g_get (i := 1) hX hj fl_Tab_33 d_Tab_leftOf_21 (by omega) a1 rfl ?_
  refine v_iload_n hX d_Tab_leftOf_24 2 rfl ?_
  refine g_aaldA (i := 17) hX hj d_Tab_leftOf_25 (by omega) a7 rfl (by decide) (c) rfl (by omega) (if_pos (by omega)) ?_
  refine v_iload_n hX d_Tab_leftOf_26 3 rfl ?_
  refine g_iald (i := 24 + c) hX hj d_Tab_leftOf_27 (by omega) (a8 c (by omega)) (by decide) (num) rfl (by omega) ?_
  refine v_iand (z := (((rows &&& (rL c num)) : Nat) : Int)) hX d_Tab_leftOf_28 (iv_and (rows) ((rL c num))) ?_
  refine v_istore (lv' := [(5, .int (iv ((((rows &&& (rL c num)) : Nat) : Int)))), (0, .ref (ad 1)), (1, .int (iv (((rows : Nat) : Int)))), (2, .int (iv (((c : Nat) : Int)))), (3, .int (iv (((num : Nat) : Int)))), (4, .int (iv (((side : Nat) : Int))))]) hX d_Tab_leftOf_29 (by decide) rfl ?_
  refine v_iload hX d_Tab_leftOf_31 5 rfl ?_
  refine v_if_ne (tgt := 52) hX d_Tab_leftOf_33 (by decide) (by first | assumption | (unfold ir at *; omega)) (fun c33_4 => ?_) (fun c33_4 => ?_)
  · refine v_iload hX d_Tab_leftOf_52 0 rfl ?_
    exact hret _ _ _ _ d_Tab_leftOf_54 (ir_n (by have h1 : rows &&& rL c num < 2 ^ 24 := Nat.lt_of_le_of_lt Nat.and_le_left hR; have h2 : (rows &&& rL c num) ||| nd rows (rK c) < 2 ^ 24 := or_lt 24 h1 (Nat.lt_of_le_of_lt (nd_le _ _) hR); omega)) ⟨_, rfl, rfl, (by unfold kLeft; first | (rw [if_pos (by omega)]; done) | (rw [if_neg (by omega)]; done))⟩ rfl
  · refine v_iload hX d_Tab_leftOf_36 0 rfl ?_
    refine v_iload_n hX d_Tab_leftOf_38 2 rfl ?_
    refine v_aload_n hX d_Tab_leftOf_39 1 rfl ?_
    refine g_get (i := 1) hX hj fl_Tab_30 d_Tab_leftOf_40 (by omega) a1 rfl ?_
    refine v_iload_n hX d_Tab_leftOf_43 3 rfl ?_
    refine g_iald (i := 16) hX hj d_Tab_leftOf_44 (by omega) a6 (by decide) (c) rfl (by omega) ?_
    refine v_iconst hX (-1) d_Tab_leftOf_45 ?_
    refine v_ixor (z := (-1 - (((rK c) : Nat) : Int))) hX d_Tab_leftOf_46 (iv_not ((rK c))) ?_
    refine v_iand (z := (((nd rows (rK c)) : Nat) : Int)) hX d_Tab_leftOf_47 (iv_andnot (rows) ((rK c))) ?_
    refine v_ior (z := ((((rows &&& (rL c num)) ||| (nd rows (rK c))) : Nat) : Int)) hX d_Tab_leftOf_48 (iv_or ((rows &&& (rL c num))) ((nd rows (rK c)))) ?_
    refine v_goto (tgt := 54) hX d_Tab_leftOf_49 (by decide) ?_
    exact hret _ _ _ _ d_Tab_leftOf_54 (ir_n (by have h1 : rows &&& rL c num < 2 ^ 24 := Nat.lt_of_le_of_lt Nat.and_le_left hR; have h2 : (rows &&& rL c num) ||| nd rows (rK c) < 2 ^ 24 := or_lt 24 h1 (Nat.lt_of_le_of_lt (nd_le _ _) hR); omega)) ⟨_, rfl, rfl, (by unfold kLeft; first | (rw [if_pos (by omega)]; done) | (rw [if_neg (by omega)]; done))⟩ rfl

set_option maxHeartbeats 1000000 in
set_option maxRecDepth 100000 in
theorem m_Tab_isLeftOf {G : xG} {f0 : xF} {ad : Nat → Nat} (hj : adOk ad 400) {σ : xF} {n : Nat} {val : Nat → Nat → Int} {cl so rC rK : Nat → Nat} {rL : Nat → Nat → Nat} (hT : pTab G ad σ n val cl so rC rK rL) (hB : bTab n cl so rC rK rL) (c num v : Nat) (hc : c < 4) (hn : num ≤ 100) (hv : v ≤ 100) (hv2 : so c = 1 → v ≤ 5) : ∀ l, gI l G f0 ad 400 y_Tab_isLeftOf (.code y_Tab_isLeftOf c_Tab_isLeftOf 4 (some (.boolean))) rm_Tab_isLeftOf [.ref (ad 1), .int (iv (((c : Nat) : Int))), .int (iv (((num : Nat) : Int))), .int (iv (((v : Nat) : Int)))] σ (fun z σ' => σ' = σ ∧ z = pI (lfP (so c) num v = true)) := by
  intro l
  refine mI_of (rt := .boolean) (by decide) (Nat.le_of_ble_eq_true rfl) (fun X hX hret => ?_)
  show vV G X 0 0 0 [(0, .ref (ad 1)), (1, .int (iv (((c : Nat) : Int)))), (2, .int (iv (((num : Nat) : Int)))), (3, .int (iv (((v : Nat) : Int))))] [] (ov f0 ad 400 σ)
  obtain ⟨a1, a2, a3, a4, a5, a6, a7, a8, a9⟩ := id hT
  obtain ⟨b1, b2, b3, b4, b5, b6⟩ := id hB
  refine v_iload_n hX d_Tab_isLeftOf_0 1 rfl ?_
  refine g_callSI (As := [.int (iv (((c : Nat) : Int)))]) (st := []) hX (k0_Bs_isColumn (((c : Nat) : Int)) (by first | assumption | (unfold ir at *; omega))) cl_Tab_36 d_Tab_isLeftOf_1 rfl ⟨by decide, by decide⟩ ⟨by decide, by decide⟩ (Nat.le_of_ble_eq_true rfl) (fun z1 hz2 hp3 => ?_)
  have z1e : z1 = 1 := hp3.trans (if_pos (by omega))
  subst z1e
  refine v_if_eq (tgt := 32) hX d_Tab_isLeftOf_4 (by decide) (by first | (unfold ir; omega) | (have := b3 c; unfold ir; omega) | (have := @Nat.and_le_right (num / 2 ^ v) 1; unfold ir; omega)) (fun c9 => absurd c9 (by omega)) (fun c9 => ?_)
  refine v_aload_n hX d_Tab_isLeftOf_7 0 rfl ?_
  refine g_get (i := 1) hX hj fl_Tab_24 d_Tab_isLeftOf_8 (by omega) a1 rfl ?_
  refine v_iload_n hX d_Tab_isLeftOf_11 1 rfl ?_
  refine g_iald (i := 14) hX hj d_Tab_isLeftOf_12 (by omega) a4 (by decide) (c) rfl (by omega) ?_
  refine v_iconst hX (1) d_Tab_isLeftOf_13 ?_
  refine v_icmp_ne (tgt := 32) hX d_Tab_isLeftOf_14 (by decide) (by first | (unfold ir; omega) | (have := b3 c; unfold ir; omega) | (have := @Nat.and_le_right (num / 2 ^ v) 1; unfold ir; omega)) (by first | (unfold ir; omega) | (have := b3 c; unfold ir; omega) | (have := @Nat.and_le_right (num / 2 ^ v) 1; unfold ir; omega)) (fun c14_2 => ?_) (fun c14_2 => ?_)
  · refine v_iload_n hX d_Tab_isLeftOf_32 3 rfl ?_
    refine v_iload_n hX d_Tab_isLeftOf_33 2 rfl ?_
    refine v_icmp_gt (tgt := 41) hX d_Tab_isLeftOf_34 (by decide) (by first | (unfold ir; omega) | (have := b3 c; unfold ir; omega) | (have := @Nat.and_le_right (num / 2 ^ v) 1; unfold ir; omega)) (by first | (unfold ir; omega) | (have := b3 c; unfold ir; omega) | (have := @Nat.and_le_right (num / 2 ^ v) 1; unfold ir; omega)) (fun c34_3 => ?_) (fun c34_3 => ?_)
    · refine v_iconst hX (0) d_Tab_isLeftOf_41 ?_
      exact hret _ _ _ _ d_Tab_isLeftOf_42 (by first | (unfold ir; omega) | (have := b3 c; unfold ir; omega) | (have := @Nat.and_le_right (num / 2 ^ v) 1; unfold ir; omega)) ⟨_, rfl, rfl, (pI_f (by unfold lfP; first | (rw [if_pos (by omega)]; exact ne_true_of_eq_false (decide_eq_false (by omega))) | (rw [if_neg (by omega)]; exact ne_true_of_eq_false (decide_eq_false (by omega)))))⟩ rfl
    · refine v_iconst hX (1) d_Tab_isLeftOf_37 ?_
      refine v_goto (tgt := 42) hX d_Tab_isLeftOf_38 (by decide) ?_
      exact hret _ _ _ _ d_Tab_isLeftOf_42 (by first | (unfold ir; omega) | (have := b3 c; unfold ir; omega) | (have := @Nat.and_le_right (num / 2 ^ v) 1; unfold ir; omega)) ⟨_, rfl, rfl, (pI_t (by unfold lfP; first | (rw [if_pos (by omega)]; exact decide_eq_true (by omega)) | (rw [if_neg (by omega)]; exact decide_eq_true (by omega))))⟩ rfl
  · refine v_iload_n hX d_Tab_isLeftOf_17 2 rfl ?_
    refine v_iload_n hX d_Tab_isLeftOf_18 3 rfl ?_
    refine v_ishr (z := (((num / 2 ^ v) : Nat) : Int)) hX d_Tab_isLeftOf_19 (iv_shr (num) (by omega) (v) (by omega)) ?_
    refine v_iconst hX (1) d_Tab_isLeftOf_20 ?_
    refine v_iand (z := ((((num / 2 ^ v) &&& 1) : Nat) : Int)) hX d_Tab_isLeftOf_21 (iv_and ((num / 2 ^ v)) (1)) ?_
    refine v_iconst hX (1) d_Tab_isLeftOf_22 ?_
    refine v_icmp_ne (tgt := 30) hX d_Tab_isLeftOf_23 (by decide) (by first | (unfold ir; omega) | (have := b3 c; unfold ir; omega) | (have := @Nat.and_le_right (num / 2 ^ v) 1; unfold ir; omega)) (by first | (unfold ir; omega) | (have := b3 c; unfold ir; omega) | (have := @Nat.and_le_right (num / 2 ^ v) 1; unfold ir; omega)) (fun c23_4 => ?_) (fun c23_4 => ?_)
    · refine v_iconst hX (0) d_Tab_isLeftOf_30 ?_
      exact hret _ _ _ _ d_Tab_isLeftOf_31 (by first | (unfold ir; omega) | (have := b3 c; unfold ir; omega) | (have := @Nat.and_le_right (num / 2 ^ v) 1; unfold ir; omega)) ⟨_, rfl, rfl, (pI_f (by unfold lfP; first | (rw [if_pos (by omega)]; exact ne_true_of_eq_false (decide_eq_false (by omega))) | (rw [if_neg (by omega)]; exact ne_true_of_eq_false (decide_eq_false (by omega)))))⟩ rfl
    · refine v_iconst hX (1) d_Tab_isLeftOf_26 ?_
      refine v_goto (tgt := 31) hX d_Tab_isLeftOf_27 (by decide) ?_
      exact hret _ _ _ _ d_Tab_isLeftOf_31 (by first | (unfold ir; omega) | (have := b3 c; unfold ir; omega) | (have := @Nat.and_le_right (num / 2 ^ v) 1; unfold ir; omega)) ⟨_, rfl, rfl, (pI_t (by unfold lfP; first | (rw [if_pos (by omega)]; exact decide_eq_true (by omega)) | (rw [if_neg (by omega)]; exact decide_eq_true (by omega))))⟩ rfl

set_option maxHeartbeats 1000000 in
set_option maxRecDepth 100000 in
theorem m_Tab_isStep {G : xG} {f0 : xF} {ad : Nat → Nat} (hj : adOk ad 400) {σ : xF} {n : Nat} {val : Nat → Nat → Int} {cl so rC rK : Nat → Nat} {rL : Nat → Nat → Nat} (hT : pTab G ad σ n val cl so rC rK rL) (hB : bTab n cl so rC rK rL) (rows c num : Nat) (hR : rows < 16777216) (hc : c < 4) (hn : num ≤ 100) : ∀ l, gI l G f0 ad 400 y_Tab_isStep (.code y_Tab_isStep c_Tab_isStep 6 (some (.boolean))) rm_Tab_isStep [.ref (ad 1), .int (iv (((rows : Nat) : Int))), .int (iv (((c : Nat) : Int))), .int (iv (((num : Nat) : Int)))] σ (fun z σ' => σ' = σ ∧ z = pI (kStep rK rL rows c num = true)) := by
  intro l
  refine mI_of (rt := .boolean) (by decide) (Nat.le_of_ble_eq_true rfl) (fun X hX hret => ?_)
  show vV G X 0 0 0 [(0, .ref (ad 1)), (1, .int (iv (((rows : Nat) : Int)))), (2, .int (iv (((c : Nat) : Int)))), (3, .int (iv (((num : Nat) : Int))))] [] (ov f0 ad 400 σ)
  obtain ⟨a1, a2, a3, a4, a5, a6, a7, a8, a9⟩ := id hT
  obtain ⟨b1, b2, b3, b4, b5, b6⟩ := id hB
  refine v_iload_n hX d_Tab_isStep_0 2 rfl ?_
  refine g_callSI (As := [.int (iv (((c : Nat) : Int)))]) (st := []) hX (k0_Bs_isColumn (((c : Nat) : Int)) (by first | assumption | (unfold ir at *; omega))) cl_Tab_36 d_Tab_isStep_1 rfl ⟨by decide, by decide⟩ ⟨by decide, by decide⟩ (Nat.le_of_ble_eq_true rfl) (fun z1 hz2 hp3 => ?_)
  have z1e : z1 = 1 := hp3.trans (if_pos (by omega))
  subst z1e
  refine v_if_eq (tgt := 17) hX d_Tab_isStep_4 (by decide) (by have h1 := @Nat.and_le_left rows (rL c num); have h2 := @Nat.and_le_left rows (rL c (num - 1)); have h3 := @Nat.and_le_left rows (rK c); unfold ir; omega) (fun c9 => absurd c9 (by omega)) (fun c9 => ?_)
  refine v_iload_n hX d_Tab_isStep_7 3 rfl ?_
  refine v_if_lt (tgt := 17) hX d_Tab_isStep_8 (by decide) (by have h1 := @Nat.and_le_left rows (rL c num); have h2 := @Nat.and_le_left rows (rL c (num - 1)); have h3 := @Nat.and_le_left rows (rK c); unfold ir; omega) (fun c8_2 => absurd c8_2 (by omega)) (fun c8_2 => ?_)
  refine v_iload_n hX d_Tab_isStep_11 3 rfl ?_
  refine v_bipush hX (100) d_Tab_isStep_12 rfl ?_
  refine v_icmp_le (tgt := 19) hX d_Tab_isStep_14 (by decide) (by have h1 := @Nat.and_le_left rows (rL c num); have h2 := @Nat.and_le_left rows (rL c (num - 1)); have h3 := @Nat.and_le_left rows (rK c); unfold ir; omega) (by have h1 := @Nat.and_le_left rows (rL c num); have h2 := @Nat.and_le_left rows (rL c (num - 1)); have h3 := @Nat.and_le_left rows (rK c); unfold ir; omega) (fun c14_3 => ?_) (fun c14_3 => absurd c14_3 (by omega))
  refine v_iload_n hX d_Tab_isStep_19 1 rfl ?_
  refine v_aload_n hX d_Tab_isStep_20 0 rfl ?_
  refine g_get (i := 1) hX hj fl_Tab_33 d_Tab_isStep_21 (by omega) a1 rfl ?_
  refine v_iload_n hX d_Tab_isStep_24 2 rfl ?_
  refine g_aaldA (i := 17) hX hj d_Tab_isStep_25 (by omega) a7 rfl (by decide) (c) rfl (by omega) (if_pos (by omega)) ?_
  refine v_iload_n hX d_Tab_isStep_26 3 rfl ?_
  refine g_iald (i := 24 + c) hX hj d_Tab_isStep_27 (by omega) (a8 c (by omega)) (by decide) (num) rfl (by omega) ?_
  refine v_iand (z := (((rows &&& (rL c num)) : Nat) : Int)) hX d_Tab_isStep_28 (iv_and (rows) ((rL c num))) ?_
  refine v_istore (lv' := [(4, .int (iv ((((rows &&& (rL c num)) : Nat) : Int)))), (0, .ref (ad 1)), (1, .int (iv (((rows : Nat) : Int)))), (2, .int (iv (((c : Nat) : Int)))), (3, .int (iv (((num : Nat) : Int))))]) hX d_Tab_isStep_29 (by decide) rfl ?_
  refine v_iload_n hX d_Tab_isStep_31 4 rfl ?_
  refine v_if_ne (tgt := 39) hX d_Tab_isStep_32 (by decide) (by have h1 := @Nat.and_le_left rows (rL c num); have h2 := @Nat.and_le_left rows (rL c (num - 1)); have h3 := @Nat.and_le_left rows (rK c); unfold ir; omega) (fun c32_4 => ?_) (fun c32_4 => ?_)
  · refine v_iload_n hX d_Tab_isStep_39 2 rfl ?_
    refine v_aload_n hX d_Tab_isStep_40 1 rfl ?_
    refine g_get (i := 1) hX hj fl_Tab_33 d_Tab_isStep_41 (by omega) a1 rfl ?_
    refine v_iload_n hX d_Tab_isStep_44 3 rfl ?_
    refine g_aaldA (i := 17) hX hj d_Tab_isStep_45 (by omega) a7 rfl (by decide) (c) rfl (by omega) (if_pos (by omega)) ?_
    refine v_iload_n hX d_Tab_isStep_46 4 rfl ?_
    refine v_iconst hX (1) d_Tab_isStep_47 ?_
    refine v_isub hX d_Tab_isStep_48 ?_
    refine v_top (x' := iv (((num - 1) : Nat) : Int)) (congrArg iv (by omega)) ?_
    refine g_iald (i := 24 + c) hX hj d_Tab_isStep_49 (by omega) (a8 c (by omega)) (by decide) ((num - 1)) rfl (by omega) ?_
    refine v_iand (z := (((rows &&& (rL c (num - 1))) : Nat) : Int)) hX d_Tab_isStep_50 (iv_and (rows) ((rL c (num - 1)))) ?_
    refine v_istore (lv' := [(5, .int (iv ((((rows &&& (rL c (num - 1))) : Nat) : Int)))), (4, .int (iv ((((rows &&& (rL c num)) : Nat) : Int)))), (0, .ref (ad 1)), (1, .int (iv (((rows : Nat) : Int)))), (2, .int (iv (((c : Nat) : Int)))), (3, .int (iv (((num : Nat) : Int))))]) hX d_Tab_isStep_51 (by decide) rfl ?_
    refine v_iload hX d_Tab_isStep_53 1 rfl ?_
    refine v_iload hX d_Tab_isStep_55 0 rfl ?_
    refine v_icmp_eq (tgt := 77) hX d_Tab_isStep_57 (by decide) (by have h1 := @Nat.and_le_left rows (rL c num); have h2 := @Nat.and_le_left rows (rL c (num - 1)); have h3 := @Nat.and_le_left rows (rK c); unfold ir; omega) (by have h1 := @Nat.and_le_left rows (rL c num); have h2 := @Nat.and_le_left rows (rL c (num - 1)); have h3 := @Nat.and_le_left rows (rK c); unfold ir; omega) (fun c57_5 => ?_) (fun c57_5 => ?_)
    · refine v_iconst hX (0) d_Tab_isStep_77 ?_
      exact hret _ _ _ _ d_Tab_isStep_78 (by have h1 := @Nat.and_le_left rows (rL c num); have h2 := @Nat.and_le_left rows (rL c (num - 1)); have h3 := @Nat.and_le_left rows (rK c); unfold ir; omega) ⟨_, rfl, rfl, (pI_f (by unfold kStep; (first | rw [if_pos (by omega)] | rw [if_neg (by omega)]); simp only [Bool.and_eq_true, decide_eq_true_eq]; intro q; obtain ⟨q1, q2⟩ := q; omega))⟩ rfl
    · refine v_iload hX d_Tab_isStep_60 1 rfl ?_
      refine v_iload_n hX d_Tab_isStep_62 3 rfl ?_
      refine v_aload_n hX d_Tab_isStep_63 2 rfl ?_
      refine g_get (i := 1) hX hj fl_Tab_30 d_Tab_isStep_64 (by omega) a1 rfl ?_
      refine v_iload_n hX d_Tab_isStep_67 4 rfl ?_
      refine g_iald (i := 16) hX hj d_Tab_isStep_68 (by omega) a6 (by decide) (c) rfl (by omega) ?_
      refine v_iand (z := (((rows &&& (rK c)) : Nat) : Int)) hX d_Tab_isStep_69 (iv_and (rows) ((rK c))) ?_
      refine v_icmp_eq (tgt := 77) hX d_Tab_isStep_70 (by decide) (by have h1 := @Nat.and_le_left rows (rL c num); have h2 := @Nat.and_le_left rows (rL c (num - 1)); have h3 := @Nat.and_le_left rows (rK c); unfold ir; omega) (by have h1 := @Nat.and_le_left rows (rL c num); have h2 := @Nat.and_le_left rows (rL c (num - 1)); have h3 := @Nat.and_le_left rows (rK c); unfold ir; omega) (fun c70_6 => ?_) (fun c70_6 => ?_)
      · refine v_iconst hX (0) d_Tab_isStep_77 ?_
        exact hret _ _ _ _ d_Tab_isStep_78 (by have h1 := @Nat.and_le_left rows (rL c num); have h2 := @Nat.and_le_left rows (rL c (num - 1)); have h3 := @Nat.and_le_left rows (rK c); unfold ir; omega) ⟨_, rfl, rfl, (pI_f (by unfold kStep; (first | rw [if_pos (by omega)] | rw [if_neg (by omega)]); simp only [Bool.and_eq_true, decide_eq_true_eq]; intro q; obtain ⟨q1, q2⟩ := q; omega))⟩ rfl
      · refine v_iconst hX (1) d_Tab_isStep_73 ?_
        refine v_goto (tgt := 78) hX d_Tab_isStep_74 (by decide) ?_
        exact hret _ _ _ _ d_Tab_isStep_78 (by have h1 := @Nat.and_le_left rows (rL c num); have h2 := @Nat.and_le_left rows (rL c (num - 1)); have h3 := @Nat.and_le_left rows (rK c); unfold ir; omega) ⟨_, rfl, rfl, (pI_t (by unfold kStep; (first | rw [if_pos (by omega)] | rw [if_neg (by omega)]); simp only [Bool.and_eq_true, decide_eq_true_eq]; constructor <;> omega))⟩ rfl
  · refine v_iconst hX (0) d_Tab_isStep_35 ?_
    refine v_goto (tgt := 51) hX d_Tab_isStep_36 (by decide) ?_
    refine v_istore (lv' := [(5, .int (iv (0))), (4, .int (iv ((((rows &&& (rL c num)) : Nat) : Int)))), (0, .ref (ad 1)), (1, .int (iv (((rows : Nat) : Int)))), (2, .int (iv (((c : Nat) : Int)))), (3, .int (iv (((num : Nat) : Int))))]) hX d_Tab_isStep_51 (by decide) rfl ?_
    refine v_iload hX d_Tab_isStep_53 1 rfl ?_
    refine v_iload hX d_Tab_isStep_55 0 rfl ?_
    refine v_icmp_eq (tgt := 77) hX d_Tab_isStep_57 (by decide) (by have h1 := @Nat.and_le_left rows (rL c num); have h2 := @Nat.and_le_left rows (rL c (num - 1)); have h3 := @Nat.and_le_left rows (rK c); unfold ir; omega) (by have h1 := @Nat.and_le_left rows (rL c num); have h2 := @Nat.and_le_left rows (rL c (num - 1)); have h3 := @Nat.and_le_left rows (rK c); unfold ir; omega) (fun c57_7 => ?_) (fun c57_7 => ?_)
    · refine v_iconst hX (0) d_Tab_isStep_77 ?_
      exact hret _ _ _ _ d_Tab_isStep_78 (by have h1 := @Nat.and_le_left rows (rL c num); have h2 := @Nat.and_le_left rows (rL c (num - 1)); have h3 := @Nat.and_le_left rows (rK c); unfold ir; omega) ⟨_, rfl, rfl, (pI_f (by unfold kStep; (first | rw [if_pos (by omega)] | rw [if_neg (by omega)]); simp only [Bool.and_eq_true, decide_eq_true_eq]; intro q; obtain ⟨q1, q2⟩ := q; omega))⟩ rfl
    · refine v_iload hX d_Tab_isStep_60 1 rfl ?_
      refine v_iload_n hX d_Tab_isStep_62 3 rfl ?_
      refine v_aload_n hX d_Tab_isStep_63 2 rfl ?_
      refine g_get (i := 1) hX hj fl_Tab_30 d_Tab_isStep_64 (by omega) a1 rfl ?_
      refine v_iload_n hX d_Tab_isStep_67 4 rfl ?_
      refine g_iald (i := 16) hX hj d_Tab_isStep_68 (by omega) a6 (by decide) (c) rfl (by omega) ?_
      refine v_iand (z := (((rows &&& (rK c)) : Nat) : Int)) hX d_Tab_isStep_69 (iv_and (rows) ((rK c))) ?_
      refine v_icmp_eq (tgt := 77) hX d_Tab_isStep_70 (by decide) (by have h1 := @Nat.and_le_left rows (rL c num); have h2 := @Nat.and_le_left rows (rL c (num - 1)); have h3 := @Nat.and_le_left rows (rK c); unfold ir; omega) (by have h1 := @Nat.and_le_left rows (rL c num); have h2 := @Nat.and_le_left rows (rL c (num - 1)); have h3 := @Nat.and_le_left rows (rK c); unfold ir; omega) (fun c70_8 => ?_) (fun c70_8 => ?_)
      · refine v_iconst hX (0) d_Tab_isStep_77 ?_
        exact hret _ _ _ _ d_Tab_isStep_78 (by have h1 := @Nat.and_le_left rows (rL c num); have h2 := @Nat.and_le_left rows (rL c (num - 1)); have h3 := @Nat.and_le_left rows (rK c); unfold ir; omega) ⟨_, rfl, rfl, (pI_f (by unfold kStep; (first | rw [if_pos (by omega)] | rw [if_neg (by omega)]); simp only [Bool.and_eq_true, decide_eq_true_eq]; intro q; obtain ⟨q1, q2⟩ := q; omega))⟩ rfl
      · refine v_iconst hX (1) d_Tab_isStep_73 ?_
        refine v_goto (tgt := 78) hX d_Tab_isStep_74 (by decide) ?_
        exact hret _ _ _ _ d_Tab_isStep_78 (by have h1 := @Nat.and_le_left rows (rL c num); have h2 := @Nat.and_le_left rows (rL c (num - 1)); have h3 := @Nat.and_le_left rows (rK c); unfold ir; omega) ⟨_, rfl, rfl, (pI_t (by unfold kStep; (first | rw [if_pos (by omega)] | rw [if_neg (by omega)]); simp only [Bool.and_eq_true, decide_eq_true_eq]; constructor <;> omega))⟩ rfl

set_option maxHeartbeats 1000000 in
set_option maxRecDepth 100000 in
theorem m_Tab_isGrouping {G : xG} {f0 : xF} {ad : Nat → Nat} (hj : adOk ad 400) {σ : xF} {n : Nat} {val : Nat → Nat → Int} {cl so rC rK : Nat → Nat} {rL : Nat → Nat → Nat} (hT : pTab G ad σ n val cl so rC rK rL) (hB : bTab n cl so rC rK rL) (rows c num : Nat) (hR : rows < 16777216) (hc : c < 4) (hn : num ≤ 63) : ∀ l, gI l G f0 ad 400 y_Tab_isGrouping (.code y_Tab_isGrouping c_Tab_isGrouping 6 (some (.boolean))) rm_Tab_isGrouping [.ref (ad 1), .int (iv (((rows : Nat) : Int))), .int (iv (((c : Nat) : Int))), .int (iv (((num : Nat) : Int)))] σ (fun z σ' => σ' = σ ∧ z = pI (kGrp rL rows c num = true)) := by
  intro l
  refine mI_of (rt := .boolean) (by decide) (Nat.le_of_ble_eq_true rfl) (fun X hX hret => ?_)
  show vV G X 0 0 0 [(0, .ref (ad 1)), (1, .int (iv (((rows : Nat) : Int)))), (2, .int (iv (((c : Nat) : Int)))), (3, .int (iv (((num : Nat) : Int))))] [] (ov f0 ad 400 σ)
  obtain ⟨a1, a2, a3, a4, a5, a6, a7, a8, a9⟩ := id hT
  obtain ⟨b1, b2, b3, b4, b5, b6⟩ := id hB
  refine v_iload_n hX d_Tab_isGrouping_0 2 rfl ?_
  refine g_callSI (As := [.int (iv (((c : Nat) : Int)))]) (st := []) hX (k0_Bs_isColumn (((c : Nat) : Int)) (by first | assumption | (unfold ir at *; omega))) cl_Tab_36 d_Tab_isGrouping_1 rfl ⟨by decide, by decide⟩ ⟨by decide, by decide⟩ (Nat.le_of_ble_eq_true rfl) (fun z1 hz2 hp3 => ?_)
  have z1e : z1 = 1 := hp3.trans (if_pos (by omega))
  subst z1e
  refine v_if_ne (tgt := 9) hX d_Tab_isGrouping_4 (by decide) (by unfold ir; omega) (fun c9 => ?_) (fun c9 => absurd c9 (by omega))
  refine v_iconst hX (0) d_Tab_isGrouping_9 ?_
  refine v_istore (lv' := [(4, .int (iv (0))), (0, .ref (ad 1)), (1, .int (iv (((rows : Nat) : Int)))), (2, .int (iv (((c : Nat) : Int)))), (3, .int (iv (((num : Nat) : Int))))]) hX d_Tab_isGrouping_10 (by decide) rfl ?_
  refine v_iconst hX (0) d_Tab_isGrouping_12 ?_
  refine v_istore (lv' := [(5, .int (iv (0))), (4, .int (iv (0))), (0, .ref (ad 1)), (1, .int (iv (((rows : Nat) : Int)))), (2, .int (iv (((c : Nat) : Int)))), (3, .int (iv (((num : Nat) : Int))))]) hX d_Tab_isGrouping_13 (by decide) rfl ?_
  have LOOP : ∀ (fuel : Nat) (k : Nat) (h : Nat), 6 - k < fuel → (k ≤ 6) → (h = kHad rL rows c k) → vV G X 0 0 15 [(0, .ref (ad 1)), (1, .int (iv (((rows : Nat) : Int)))), (2, .int (iv (((c : Nat) : Int)))), (3, .int (iv (((num : Nat) : Int)))), (4, .int (iv (((h : Nat) : Int)))), (5, .int (iv (((k : Nat) : Int))))] [] (ov f0 ad 400 σ) := by
    intro fuel
    induction fuel with
    | zero => intro k h hm; exact absurd hm (Nat.not_lt_zero _)
    | succ fuel ih_LOOP =>
      intro k h hm hk hh
      have hk2 : 2 ^ k ≤ 2 ^ 6 := Nat.pow_le_pow_right (by decide) hk
      have hk3 := kHad_lt rL rows c k
      refine v_iload hX d_Tab_isGrouping_15 5 rfl ?_
      refine v_iconst hX (5) d_Tab_isGrouping_17 ?_
      refine v_icmp_gt (tgt := 52) hX d_Tab_isGrouping_18 (by decide) (by unfold ir; omega) (by unfold ir; omega) (fun c18_2 => ?_) (fun c18_2 => ?_)
      · have ek : k = 6 := by omega
        subst ek
        subst hh
        refine v_iload hX d_Tab_isGrouping_52 4 rfl ?_
        refine v_iload hX d_Tab_isGrouping_54 4 rfl ?_
        refine v_ineg hX d_Tab_isGrouping_56 ?_
        refine v_iand (z := ((low (kHad rL rows c 6) : Nat) : Int)) hX d_Tab_isGrouping_57 (iv_low _ hk3) ?_
        refine v_istore (lv' := [(5, .int (iv ((((low (kHad rL rows c 6)) : Nat) : Int)))), (0, .ref (ad 1)), (1, .int (iv (((rows : Nat) : Int)))), (2, .int (iv (((c : Nat) : Int)))), (3, .int (iv (((num : Nat) : Int)))), (4, .int (iv ((((kHad rL rows c 6) : Nat) : Int))))]) hX d_Tab_isGrouping_58 (by decide) rfl ?_
        refine v_iload_n hX d_Tab_isGrouping_60 4 rfl ?_
        refine v_iload hX d_Tab_isGrouping_61 5 rfl ?_
        refine v_iconst hX (-1) d_Tab_isGrouping_63 ?_
        refine v_ixor (z := (-1 - (((kHad rL rows c 6) : Nat) : Int))) hX d_Tab_isGrouping_64 (iv_not ((kHad rL rows c 6))) ?_
        refine v_iand (z := (((nd num (kHad rL rows c 6)) : Nat) : Int)) hX d_Tab_isGrouping_65 (iv_andnot (num) ((kHad rL rows c 6))) ?_
        refine v_if_ne (tgt := 86) hX d_Tab_isGrouping_66 (by decide) (by have h1 := nd_le num (kHad rL rows c 6); unfold ir; omega) (fun c66_3 => ?_) (fun c66_3 => ?_)
        · refine v_iconst hX (0) d_Tab_isGrouping_86 ?_
          exact hret _ _ _ _ d_Tab_isGrouping_87 (by unfold ir; omega) ⟨_, rfl, rfl, (pI_f (by unfold kGrp; simp only [Bool.and_eq_true, decide_eq_true_eq]; intro q; obtain ⟨⟨q1, q2⟩, q3⟩ := q; omega))⟩ rfl
        · refine v_iload_n hX d_Tab_isGrouping_69 4 rfl ?_
          refine v_iload hX d_Tab_isGrouping_70 0 rfl ?_
          refine v_iand (z := (((num &&& (low (kHad rL rows c 6))) : Nat) : Int)) hX d_Tab_isGrouping_72 (iv_and (num) ((low (kHad rL rows c 6)))) ?_
          refine v_if_eq (tgt := 86) hX d_Tab_isGrouping_73 (by decide) (by have h2 := @Nat.and_le_left num (low (kHad rL rows c 6)); unfold ir; omega) (fun c73_4 => ?_) (fun c73_4 => ?_)
          · refine v_iconst hX (0) d_Tab_isGrouping_86 ?_
            exact hret _ _ _ _ d_Tab_isGrouping_87 (by unfold ir; omega) ⟨_, rfl, rfl, (pI_f (by unfold kGrp; simp only [Bool.and_eq_true, decide_eq_true_eq]; intro q; obtain ⟨⟨q1, q2⟩, q3⟩ := q; omega))⟩ rfl
          · refine v_iload_n hX d_Tab_isGrouping_76 4 rfl ?_
            refine v_iload hX d_Tab_isGrouping_77 5 rfl ?_
            refine v_icmp_eq (tgt := 86) hX d_Tab_isGrouping_79 (by decide) (by have h3 := kHad_lt rL rows c 6; unfold ir; omega) (by have h3 := kHad_lt rL rows c 6; unfold ir; omega) (fun c79_5 => ?_) (fun c79_5 => ?_)
            · refine v_iconst hX (0) d_Tab_isGrouping_86 ?_
              exact hret _ _ _ _ d_Tab_isGrouping_87 (by unfold ir; omega) ⟨_, rfl, rfl, (pI_f (by unfold kGrp; simp only [Bool.and_eq_true, decide_eq_true_eq]; intro q; obtain ⟨⟨q1, q2⟩, q3⟩ := q; omega))⟩ rfl
            · refine v_iconst hX (1) d_Tab_isGrouping_82 ?_
              refine v_goto (tgt := 87) hX d_Tab_isGrouping_83 (by decide) ?_
              exact hret _ _ _ _ d_Tab_isGrouping_87 (by unfold ir; omega) ⟨_, rfl, rfl, (pI_t (by unfold kGrp; simp only [Bool.and_eq_true, decide_eq_true_eq]; refine ⟨⟨?_, ?_⟩, ?_⟩ <;> omega))⟩ rfl
      · refine v_iload_n hX d_Tab_isGrouping_21 1 rfl ?_
        refine v_aload_n hX d_Tab_isGrouping_22 0 rfl ?_
        refine g_get (i := 1) hX hj fl_Tab_33 d_Tab_isGrouping_23 (by omega) a1 rfl ?_
        refine v_iload_n hX d_Tab_isGrouping_26 2 rfl ?_
        refine g_aaldA (i := 17) hX hj d_Tab_isGrouping_27 (by omega) a7 rfl (by decide) (c) rfl (by omega) (if_pos (by omega)) ?_
        refine v_iconst hX (1) d_Tab_isGrouping_28 ?_
        refine v_iload hX d_Tab_isGrouping_29 5 rfl ?_
        refine v_ishl (z := (((2 ^ k) : Nat) : Int)) hX d_Tab_isGrouping_31 (iv_shl1 (k) (by omega)) ?_
        refine g_iald (i := 24 + c) hX hj d_Tab_isGrouping_32 (by omega) (a8 c (by omega)) (by decide) ((2 ^ k)) rfl (by omega) ?_
        refine v_iand (z := (((rows &&& (rL c (2 ^ k))) : Nat) : Int)) hX d_Tab_isGrouping_33 (iv_and (rows) ((rL c (2 ^ k)))) ?_
        refine v_if_eq (tgt := 46) hX d_Tab_isGrouping_34 (by decide) (by have h4 := @Nat.and_le_left rows (rL c (2 ^ k)); unfold ir; omega) (fun c34_6 => ?_) (fun c34_6 => ?_)
        · refine v_iincN (a := k) (n := 1) (lv' := [(5, .int (iv ((((k + 1) : Nat) : Int)))), (0, .ref (ad 1)), (1, .int (iv (((rows : Nat) : Int)))), (2, .int (iv (((c : Nat) : Int)))), (3, .int (iv (((num : Nat) : Int)))), (4, .int (iv (((h : Nat) : Int))))]) hX d_Tab_isGrouping_46 rfl 5 rfl (by decide) rfl ?_
          refine v_goto (tgt := 15) hX d_Tab_isGrouping_49 (by decide) ?_
          refine v_lv [1, 2, 3, 4, 5, 0] rfl ?_
          exact ih_LOOP (k + 1) (h) (by omega) (by omega) (by rw [hh]; show _ = kHad rL rows c (k + 1); rw [kHad, if_pos (by omega)])
        · refine v_iload hX d_Tab_isGrouping_37 4 rfl ?_
          refine v_iconst hX (1) d_Tab_isGrouping_39 ?_
          refine v_iload hX d_Tab_isGrouping_40 5 rfl ?_
          refine v_ishl (z := (((2 ^ k) : Nat) : Int)) hX d_Tab_isGrouping_42 (iv_shl1 (k) (by omega)) ?_
          refine v_ior (z := (((h ||| (2 ^ k)) : Nat) : Int)) hX d_Tab_isGrouping_43 (iv_or (h) ((2 ^ k))) ?_
          refine v_istore (lv' := [(4, .int (iv ((((h ||| (2 ^ k)) : Nat) : Int)))), (0, .ref (ad 1)), (1, .int (iv (((rows : Nat) : Int)))), (2, .int (iv (((c : Nat) : Int)))), (3, .int (iv (((num : Nat) : Int)))), (5, .int (iv (((k : Nat) : Int))))]) hX d_Tab_isGrouping_44 (by decide) rfl ?_
          refine v_iincN (a := k) (n := 1) (lv' := [(5, .int (iv ((((k + 1) : Nat) : Int)))), (4, .int (iv ((((h ||| (2 ^ k)) : Nat) : Int)))), (0, .ref (ad 1)), (1, .int (iv (((rows : Nat) : Int)))), (2, .int (iv (((c : Nat) : Int)))), (3, .int (iv (((num : Nat) : Int))))]) hX d_Tab_isGrouping_46 rfl 5 rfl (by decide) rfl ?_
          refine v_goto (tgt := 15) hX d_Tab_isGrouping_49 (by decide) ?_
          refine v_lv [2, 3, 4, 5, 1, 0] rfl ?_
          exact ih_LOOP (k + 1) ((h ||| (2 ^ k))) (by omega) (by omega) (by rw [hh]; show _ = kHad rL rows c (k + 1); rw [kHad, if_neg (by omega)])
  refine v_lv [2, 3, 4, 5, 1, 0] rfl ?_
  exact LOOP _ (0) (0) (Nat.lt_succ_self _) (by decide) rfl

set_option maxHeartbeats 1000000 in
set_option maxRecDepth 100000 in
theorem m_Tab_canCut {G : xG} {f0 : xF} {ad : Nat → Nat} (hj : adOk ad 400) {σ : xF} {n : Nat} {val : Nat → Nat → Int} {cl so rC rK : Nat → Nat} {rL : Nat → Nat → Nat} (hT : pTab G ad σ n val cl so rC rK rL) (hB : bTab n cl so rC rK rL) (rows c : Nat) (num : Int) (hR : rows < 16777216) (hc : c < 4) (hn : ir num) : ∀ l, gI l G f0 ad 400 y_Tab_canCut (.code y_Tab_canCut c_Tab_canCut 4 (some (.boolean))) rm_Tab_canCut [.ref (ad 1), .int (iv (((rows : Nat) : Int))), .int (iv (((c : Nat) : Int))), .int (iv (num))] σ (fun z σ' => σ' = σ ∧ z = pI (0 ≤ num ∧ kCan so rK rL rows c num.toNat = true)) := by
  intro l
  refine mI_of (rt := .boolean) (by decide) (Nat.le_of_ble_eq_true rfl) (fun X hX hret => ?_)
  show vV G X 0 0 0 [(0, .ref (ad 1)), (1, .int (iv (((rows : Nat) : Int)))), (2, .int (iv (((c : Nat) : Int)))), (3, .int (iv (num)))] [] (ov f0 ad 400 σ)
  obtain ⟨a1, a2, a3, a4, a5, a6, a7, a8, a9⟩ := id hT
  obtain ⟨b1, b2, b3, b4, b5, b6⟩ := id hB
  refine v_iload_n hX d_Tab_canCut_0 2 rfl ?_
  refine g_callSI (As := [.int (iv (((c : Nat) : Int)))]) (st := []) hX (k0_Bs_isColumn (((c : Nat) : Int)) (by first | assumption | (unfold ir at *; omega))) cl_Tab_36 d_Tab_canCut_1 rfl ⟨by decide, by decide⟩ ⟨by decide, by decide⟩ (Nat.le_of_ble_eq_true rfl) (fun z1 hz2 hp3 => ?_)
  have z1e : z1 = 1 := hp3.trans (if_pos (by omega))
  subst z1e
  refine v_if_eq (tgt := 20) hX d_Tab_canCut_4 (by decide) (by first | assumption | (have := b3 c; unfold ir at *; omega)) (fun c9 => absurd c9 (by omega)) (fun c9 => ?_)
  refine v_iload_n hX d_Tab_canCut_7 3 rfl ?_
  refine v_if_lt (tgt := 20) hX d_Tab_canCut_8 (by decide) (by first | assumption | (have := b3 c; unfold ir at *; omega)) (fun c8_2 => ?_) (fun c8_2 => ?_)
  · refine v_iconst hX (0) d_Tab_canCut_20 ?_
    exact hret _ _ _ _ d_Tab_canCut_21 (by unfold ir; omega) ⟨_, rfl, rfl, pI_f (fun q => by obtain ⟨q0, q⟩ := q; rcases kCan_or q with ⟨g1, g2, g3⟩ | ⟨g1, g2, g3⟩ <;> first | omega | (exact absurd g3 (by assumption)))⟩ rfl
  · refine v_iload_n hX d_Tab_canCut_11 3 rfl ?_
    refine v_aload_n hX d_Tab_canCut_12 0 rfl ?_
    refine v_iload_n hX d_Tab_canCut_13 2 rfl ?_
    refine g_callVI (As := [.int (iv (((c : Nat) : Int)))]) (st := [.int (iv (num))]) hX hj (i := 1) (by omega) a1 (m_Tab_lastNumber hj hT hB c (by omega)) cl_Tab_47 d_Tab_canCut_14 rfl ⟨by decide, by decide⟩ ⟨by decide, by decide⟩ (Nat.le_of_ble_eq_true rfl) (fun z4 σ5 hz6 hp7 => ?_)
    obtain ⟨he8, hv9⟩ := hp7
    rw [he8]
    have hl1 : so c = 1 → z4 = 63 := fun h => hv9.trans (if_pos h)
    have hl2 : ¬ so c = 1 → z4 = 100 := fun h => hv9.trans (if_neg h)
    refine v_icmp_le (tgt := 22) hX d_Tab_canCut_17 (by decide) (by first | assumption | (have := b3 c; unfold ir at *; omega)) (by first | assumption | (have := b3 c; unfold ir at *; omega)) (fun c17_3 => ?_) (fun c17_3 => ?_)
    · refine v_aload_n hX d_Tab_canCut_22 0 rfl ?_
      refine g_get (i := 1) hX hj fl_Tab_24 d_Tab_canCut_23 (by omega) a1 rfl ?_
      refine v_iload_n hX d_Tab_canCut_26 2 rfl ?_
      refine g_iald (i := 14) hX hj d_Tab_canCut_27 (by omega) a4 (by decide) (c) rfl (by omega) ?_
      refine v_iconst hX (1) d_Tab_canCut_28 ?_
      refine v_icmp_ne (tgt := 42) hX d_Tab_canCut_29 (by decide) (by first | assumption | (have := b3 c; unfold ir at *; omega)) (by first | assumption | (have := b3 c; unfold ir at *; omega)) (fun c29_4 => ?_) (fun c29_4 => ?_)
      · refine v_aload_n hX d_Tab_canCut_42 0 rfl ?_
        refine v_iload_n hX d_Tab_canCut_43 1 rfl ?_
        refine v_iload_n hX d_Tab_canCut_44 2 rfl ?_
        refine v_iload_n hX d_Tab_canCut_45 3 rfl ?_
        refine v_top (x' := iv ((num.toNat : Nat) : Int)) (congrArg iv (by omega)) ?_
        refine g_callVI (As := [.int (iv (((rows : Nat) : Int))), .int (iv (((c : Nat) : Int))), .int (iv (((num.toNat : Nat) : Int)))]) (st := []) hX hj (i := 1) (by omega) a1 (m_Tab_isStep hj hT hB rows c num.toNat hR hc (by omega)) cl_Tab_69 d_Tab_canCut_46 rfl ⟨by decide, by decide⟩ ⟨by decide, by decide⟩ (Nat.le_of_ble_eq_true rfl) (fun z10 σ11 hz12 hp13 => ?_)
        obtain ⟨he14, hv15⟩ := hp13
        rw [he14]
        by_cases qz10 : kStep rK rL rows c num.toNat = true
        · have z10e : z10 = 1 := hv15.trans (if_pos qz10)
          subst z10e
          exact hret _ _ _ _ d_Tab_canCut_49 (by unfold ir; omega) ⟨_, rfl, rfl, pI_t ⟨by omega, (by first | exact kCan_g (by omega) (by omega) (by assumption) | exact kCan_s (by omega) (by omega) (by assumption))⟩⟩ rfl
        · have z10e : z10 = 0 := hv15.trans (if_neg qz10)
          subst z10e
          exact hret _ _ _ _ d_Tab_canCut_49 (by unfold ir; omega) ⟨_, rfl, rfl, pI_f (fun q => by obtain ⟨q0, q⟩ := q; rcases kCan_or q with ⟨g1, g2, g3⟩ | ⟨g1, g2, g3⟩ <;> first | omega | (exact absurd g3 (by assumption)))⟩ rfl
      · refine v_aload_n hX d_Tab_canCut_32 0 rfl ?_
        refine v_iload_n hX d_Tab_canCut_33 1 rfl ?_
        refine v_iload_n hX d_Tab_canCut_34 2 rfl ?_
        refine v_iload_n hX d_Tab_canCut_35 3 rfl ?_
        refine v_top (x' := iv ((num.toNat : Nat) : Int)) (congrArg iv (by omega)) ?_
        refine g_callVI (As := [.int (iv (((rows : Nat) : Int))), .int (iv (((c : Nat) : Int))), .int (iv (((num.toNat : Nat) : Int)))]) (st := []) hX hj (i := 1) (by omega) a1 (m_Tab_isGrouping hj hT hB rows c num.toNat hR hc (by omega)) cl_Tab_66 d_Tab_canCut_36 rfl ⟨by decide, by decide⟩ ⟨by decide, by decide⟩ (Nat.le_of_ble_eq_true rfl) (fun z16 σ17 hz18 hp19 => ?_)
        obtain ⟨he20, hv21⟩ := hp19
        rw [he20]
        by_cases qz16 : kGrp rL rows c num.toNat = true
        · have z16e : z16 = 1 := hv21.trans (if_pos qz16)
          subst z16e
          refine v_goto (tgt := 49) hX d_Tab_canCut_39 (by decide) ?_
          exact hret _ _ _ _ d_Tab_canCut_49 (by unfold ir; omega) ⟨_, rfl, rfl, pI_t ⟨by omega, (by first | exact kCan_g (by omega) (by omega) (by assumption) | exact kCan_s (by omega) (by omega) (by assumption))⟩⟩ rfl
        · have z16e : z16 = 0 := hv21.trans (if_neg qz16)
          subst z16e
          refine v_goto (tgt := 49) hX d_Tab_canCut_39 (by decide) ?_
          exact hret _ _ _ _ d_Tab_canCut_49 (by unfold ir; omega) ⟨_, rfl, rfl, pI_f (fun q => by obtain ⟨q0, q⟩ := q; rcases kCan_or q with ⟨g1, g2, g3⟩ | ⟨g1, g2, g3⟩ <;> first | omega | (exact absurd g3 (by assumption)))⟩ rfl
    · refine v_iconst hX (0) d_Tab_canCut_20 ?_
      exact hret _ _ _ _ d_Tab_canCut_21 (by unfold ir; omega) ⟨_, rfl, rfl, pI_f (fun q => by obtain ⟨q0, q⟩ := q; rcases kCan_or q with ⟨g1, g2, g3⟩ | ⟨g1, g2, g3⟩ <;> first | omega | (exact absurd g3 (by assumption)))⟩ rfl

set_option maxHeartbeats 1000000 in
set_option maxRecDepth 100000 in
theorem m_Tab_takes {G : xG} {f0 : xF} {ad : Nat → Nat} (hj : adOk ad 400) {σ : xF} {n : Nat} {val : Nat → Nat → Int} {cl so rC rK : Nat → Nat} {rL : Nat → Nat → Nat} (hT : pTab G ad σ n val cl so rC rK rL) (hB : bTab n cl so rC rK rL) (i : Nat) (hi : i < 400) (a : Nat → Int) (ha : σ i = eJ G 4 a) (hr : ∀ q, ir (a q)) : ∀ l, gI l G f0 ad 400 y_Tab_takes (.code y_Tab_takes c_Tab_takes 4 (some (.boolean))) rm_Tab_takes [.ref (ad 1), .ref (ad i)] σ (fun z σ' => σ' = σ ∧ z = pI (tks so a = true)) := by
  intro l
  refine mI_of (rt := .boolean) (by decide) (Nat.le_of_ble_eq_true rfl) (fun X hX hret => ?_)
  show vV G X 0 0 0 [(0, .ref (ad 1)), (1, .ref (ad i))] [] (ov f0 ad 400 σ)
  obtain ⟨a1, a2, a3, a4, a5, a6, a7, a8, a9⟩ := id hT
  obtain ⟨b1, b2, b3, b4, b5, b6⟩ := id hB
  refine v_iconst hX (0) d_Tab_takes_0 ?_
  refine v_istore_n (lv' := [(2, .int (iv (0))), (0, .ref (ad 1)), (1, .ref (ad i))]) hX d_Tab_takes_1 rfl (by decide) rfl ?_
  have LOOP : ∀ (fuel : Nat) (c : Nat), 4 - c < fuel → (c ≤ 4) → (∀ q, q < c → tk (so q) (a q) = true) → vV G X 0 0 2 [(0, .ref (ad 1)), (1, .ref (ad i)), (2, .int (iv (((c : Nat) : Int))))] [] (ov f0 ad 400 σ) := by
    intro fuel
    induction fuel with
    | zero => intro c hm; exact absurd hm (Nat.not_lt_zero _)
    | succ fuel ih_LOOP =>
      intro c hm hc hh
      refine v_iload_n hX d_Tab_takes_2 2 rfl ?_
      refine v_iconst hX (4) d_Tab_takes_3 ?_
      refine v_icmp_ge (tgt := 52) hX d_Tab_takes_4 (by decide) (by first | exact hr _ | (have := b3 c; unfold ir; omega)) (by first | exact hr _ | (have := b3 c; unfold ir; omega)) (fun c4_1 => ?_) (fun c4_1 => ?_)
      · refine v_iconst hX (1) d_Tab_takes_52 ?_
        exact hret _ _ _ _ d_Tab_takes_53 (by unfold ir; omega) ⟨_, rfl, rfl, pI_t (tks_iff.mpr (fun q h => hh q (by omega)))⟩ rfl
      · refine v_iload_n hX d_Tab_takes_7 2 rfl ?_
        refine v_aload_n hX d_Tab_takes_8 1 rfl ?_
        refine g_alenJ (i := i) hX hj d_Tab_takes_9 (by omega) ha ?_
        refine v_icmp_ge (tgt := 52) hX d_Tab_takes_10 (by decide) (by first | exact hr _ | (have := b3 c; unfold ir; omega)) (by first | exact hr _ | (have := b3 c; unfold ir; omega)) (fun c10_2 => absurd c10_2 (by omega)) (fun c10_2 => ?_)
        refine v_aload_n hX d_Tab_takes_13 0 rfl ?_
        refine g_get (i := 1) hX hj fl_Tab_24 d_Tab_takes_14 (by omega) a1 rfl ?_
        refine v_iload_n hX d_Tab_takes_17 2 rfl ?_
        refine g_iald (i := 14) hX hj d_Tab_takes_18 (by omega) a4 (by decide) (c) rfl (by omega) ?_
        refine v_iconst hX (1) d_Tab_takes_19 ?_
        refine v_icmp_ne (tgt := 27) hX d_Tab_takes_20 (by decide) (by first | exact hr _ | (have := b3 c; unfold ir; omega)) (by first | exact hr _ | (have := b3 c; unfold ir; omega)) (fun c20_3 => ?_) (fun c20_3 => ?_)
        · refine v_bipush hX (100) d_Tab_takes_27 rfl ?_
          refine v_istore_n (lv' := [(3, .int (iv (100))), (0, .ref (ad 1)), (1, .ref (ad i)), (2, .int (iv (((c : Nat) : Int))))]) hX d_Tab_takes_29 rfl (by decide) rfl ?_
          refine v_aload_n hX d_Tab_takes_30 2 rfl ?_
          refine v_iload_n hX d_Tab_takes_31 3 rfl ?_
          refine g_iald (i := i) hX hj d_Tab_takes_32 (by omega) ha (by decide) (c) rfl (by omega) ?_
          refine v_iconst hX (-1) d_Tab_takes_33 ?_
          refine v_icmp_lt (tgt := 44) hX d_Tab_takes_34 (by decide) (by first | exact hr _ | (have := b3 c; unfold ir; omega)) (by first | exact hr _ | (have := b3 c; unfold ir; omega)) (fun c34_4 => ?_) (fun c34_4 => ?_)
          · refine v_iconst hX (0) d_Tab_takes_44 ?_
            exact hret _ _ _ _ d_Tab_takes_45 (by unfold ir; omega) ⟨_, rfl, rfl, pI_f (fun q => by have g := tk_of (tks_iff.mp q c (by omega)); omega)⟩ rfl
          · refine v_aload_n hX d_Tab_takes_37 2 rfl ?_
            refine v_iload_n hX d_Tab_takes_38 3 rfl ?_
            refine g_iald (i := i) hX hj d_Tab_takes_39 (by omega) ha (by decide) (c) rfl (by omega) ?_
            refine v_iload_n hX d_Tab_takes_40 0 rfl ?_
            refine v_icmp_le (tgt := 46) hX d_Tab_takes_41 (by decide) (by first | exact hr _ | (have := b3 c; unfold ir; omega)) (by first | exact hr _ | (have := b3 c; unfold ir; omega)) (fun c41_5 => ?_) (fun c41_5 => ?_)
            · refine v_iincN (a := c) (n := 1) (lv' := [(2, .int (iv ((((c + 1) : Nat) : Int)))), (3, .int (iv (100))), (0, .ref (ad 1)), (1, .ref (ad i))]) hX d_Tab_takes_46 rfl 3 rfl (by decide) rfl ?_
              refine v_goto (tgt := 2) hX d_Tab_takes_49 (by decide) ?_
              refine v_lv [2, 3, 0] rfl ?_
              exact ih_LOOP (c + 1) (by omega) (by omega) (lt_s (p := fun q => tk (so q) (a q) = true) hh (tk_s (by omega) (by omega) (by omega)))
            · refine v_iconst hX (0) d_Tab_takes_44 ?_
              exact hret _ _ _ _ d_Tab_takes_45 (by unfold ir; omega) ⟨_, rfl, rfl, pI_f (fun q => by have g := tk_of (tks_iff.mp q c (by omega)); omega)⟩ rfl
        · refine v_iconst hX (5) d_Tab_takes_23 ?_
          refine v_goto (tgt := 29) hX d_Tab_takes_24 (by decide) ?_
          refine v_istore_n (lv' := [(3, .int (iv (5))), (0, .ref (ad 1)), (1, .ref (ad i)), (2, .int (iv (((c : Nat) : Int))))]) hX d_Tab_takes_29 rfl (by decide) rfl ?_
          refine v_aload_n hX d_Tab_takes_30 2 rfl ?_
          refine v_iload_n hX d_Tab_takes_31 3 rfl ?_
          refine g_iald (i := i) hX hj d_Tab_takes_32 (by omega) ha (by decide) (c) rfl (by omega) ?_
          refine v_iconst hX (-1) d_Tab_takes_33 ?_
          refine v_icmp_lt (tgt := 44) hX d_Tab_takes_34 (by decide) (by first | exact hr _ | (have := b3 c; unfold ir; omega)) (by first | exact hr _ | (have := b3 c; unfold ir; omega)) (fun c34_6 => ?_) (fun c34_6 => ?_)
          · refine v_iconst hX (0) d_Tab_takes_44 ?_
            exact hret _ _ _ _ d_Tab_takes_45 (by unfold ir; omega) ⟨_, rfl, rfl, pI_f (fun q => by have g := tk_of (tks_iff.mp q c (by omega)); omega)⟩ rfl
          · refine v_aload_n hX d_Tab_takes_37 2 rfl ?_
            refine v_iload_n hX d_Tab_takes_38 3 rfl ?_
            refine g_iald (i := i) hX hj d_Tab_takes_39 (by omega) ha (by decide) (c) rfl (by omega) ?_
            refine v_iload_n hX d_Tab_takes_40 0 rfl ?_
            refine v_icmp_le (tgt := 46) hX d_Tab_takes_41 (by decide) (by first | exact hr _ | (have := b3 c; unfold ir; omega)) (by first | exact hr _ | (have := b3 c; unfold ir; omega)) (fun c41_7 => ?_) (fun c41_7 => ?_)
            · refine v_iincN (a := c) (n := 1) (lv' := [(2, .int (iv ((((c + 1) : Nat) : Int)))), (3, .int (iv (5))), (0, .ref (ad 1)), (1, .ref (ad i))]) hX d_Tab_takes_46 rfl 3 rfl (by decide) rfl ?_
              refine v_goto (tgt := 2) hX d_Tab_takes_49 (by decide) ?_
              refine v_lv [2, 3, 0] rfl ?_
              exact ih_LOOP (c + 1) (by omega) (by omega) (lt_s (p := fun q => tk (so q) (a q) = true) hh (tk_s (by omega) (by omega) (by omega)))
            · refine v_iconst hX (0) d_Tab_takes_44 ?_
              exact hret _ _ _ _ d_Tab_takes_45 (by unfold ir; omega) ⟨_, rfl, rfl, pI_f (fun q => by have g := tk_of (tks_iff.mp q c (by omega)); omega)⟩ rfl
  refine v_lv [1, 2, 0] rfl ?_
  exact LOOP _ (0) (Nat.lt_succ_self _) (by decide) (fun q h => absurd h (Nat.not_lt_zero _))

set_option maxHeartbeats 1000000 in
set_option maxRecDepth 100000 in
theorem m_Tab_goesLeft {G : xG} {f0 : xF} {ad : Nat → Nat} (hj : adOk ad 400) {σ : xF} {n : Nat} {val : Nat → Nat → Int} {cl so rC rK : Nat → Nat} {rL : Nat → Nat → Nat} (hT : pTab G ad σ n val cl so rC rK rL) (hB : bTab n cl so rC rK rL) (i j g : Nat) (hi : i < 400) (hjj : j < 400) (a : Nat → Int) (ha : σ i = eJ G 4 a) (c num side : Nat) (hcu : pCut ad σ j g c num side) (hc : c < 4) (hn : num ≤ 100) (hs : side ≤ 1) (hv : tk (so c) (a c) = true) : ∀ l, gI l G f0 ad 400 y_Tab_goesLeft (.code y_Tab_goesLeft c_Tab_goesLeft 4 (some (.boolean))) rm_Tab_goesLeft [.ref (ad 1), .ref (ad i), .ref (ad j)] σ (fun z σ' => σ' = σ ∧ z = pI (kGo (so c) (a c) num side = true)) := by
  intro l
  refine mI_of (rt := .boolean) (by decide) (Nat.le_of_ble_eq_true rfl) (fun X hX hret => ?_)
  show vV G X 0 0 0 [(0, .ref (ad 1)), (1, .ref (ad i)), (2, .ref (ad j))] [] (ov f0 ad 400 σ)
  obtain ⟨a1, a2, a3, a4, a5, a6, a7, a8, a9⟩ := id hT
  obtain ⟨b1, b2, b3, b4, b5, b6⟩ := id hB
  have hv0 := tk_of hv
  obtain ⟨v1, v2, v3⟩ := hv0
  refine v_aload_n hX d_Tab_goesLeft_0 2 rfl ?_
  refine g_get (i := j) hX hj fl_Tab_55 d_Tab_goesLeft_1 (by omega) hcu rfl ?_
  refine v_istore_n (lv' := [(3, .int (iv (((c : Nat) : Int)))), (0, .ref (ad 1)), (1, .ref (ad i)), (2, .ref (ad j))]) hX d_Tab_goesLeft_4 rfl (by decide) rfl ?_
  refine v_iload_n hX d_Tab_goesLeft_5 0 rfl ?_
  refine g_callSI (As := [.int (iv (((c : Nat) : Int)))]) (st := []) hX (k0_Bs_isColumn (((c : Nat) : Int)) (by first | assumption | (unfold ir at *; omega))) cl_Tab_36 d_Tab_goesLeft_6 rfl ⟨by decide, by decide⟩ ⟨by decide, by decide⟩ (Nat.le_of_ble_eq_true rfl) (fun z1 hz2 hp3 => ?_)
  have z1e : z1 = 1 := hp3.trans (if_pos (by omega))
  subst z1e
  refine v_if_eq (tgt := 25) hX d_Tab_goesLeft_9 (by decide) (by unfold ir; omega) (fun c9 => absurd c9 (by omega)) (fun c9 => ?_)
  refine v_iload_n hX d_Tab_goesLeft_12 0 rfl ?_
  refine v_aload_n hX d_Tab_goesLeft_13 2 rfl ?_
  refine g_alenJ (i := i) hX hj d_Tab_goesLeft_14 (by omega) ha ?_
  refine v_icmp_ge (tgt := 25) hX d_Tab_goesLeft_15 (by decide) (by unfold ir; omega) (by unfold ir; omega) (fun c15_2 => absurd c15_2 (by omega)) (fun c15_2 => ?_)
  refine v_aload_n hX d_Tab_goesLeft_18 2 rfl ?_
  refine v_iload_n hX d_Tab_goesLeft_19 0 rfl ?_
  refine g_iald (i := i) hX hj d_Tab_goesLeft_20 (by omega) ha (by decide) (c) rfl (by omega) ?_
  refine v_iconst hX (-1) d_Tab_goesLeft_21 ?_
  refine v_icmp_ne (tgt := 38) hX d_Tab_goesLeft_22 (by decide) (by unfold ir; omega) (by unfold ir; omega) (fun c22_3 => ?_) (fun c22_3 => ?_)
  · refine v_aload_n hX d_Tab_goesLeft_38 1 rfl ?_
    refine v_iload_n hX d_Tab_goesLeft_39 0 rfl ?_
    refine v_aload_n hX d_Tab_goesLeft_40 3 rfl ?_
    refine g_get (i := j) hX hj fl_Tab_63 d_Tab_goesLeft_41 (by omega) hcu rfl ?_
    refine v_aload_n hX d_Tab_goesLeft_44 2 rfl ?_
    refine v_iload_n hX d_Tab_goesLeft_45 0 rfl ?_
    refine g_iald (i := i) hX hj d_Tab_goesLeft_46 (by omega) ha (by decide) (c) rfl (by omega) ?_
    refine v_top (x' := iv (((a c).toNat : Nat) : Int)) (congrArg iv (by omega)) ?_
    refine g_callVI (As := [.int (iv (((c : Nat) : Int))), .int (iv (((num : Nat) : Int))), .int (iv ((((a c).toNat : Nat) : Int)))]) (st := []) hX hj (i := 1) (by omega) a1 (m_Tab_isLeftOf hj hT hB c num (a c).toNat hc hn (by omega) (by omega)) cl_Tab_51 d_Tab_goesLeft_47 rfl ⟨by decide, by decide⟩ ⟨by decide, by decide⟩ (Nat.le_of_ble_eq_true rfl) (fun z4 σ5 hz6 hp7 => ?_)
    obtain ⟨he8, hv9⟩ := hp7
    rw [he8]
    by_cases qz4 : lfP (so c) num (a c).toNat = true
    · have z4e : z4 = 1 := hv9.trans (if_pos qz4)
      subst z4e
      exact hret _ _ _ _ d_Tab_goesLeft_50 (by unfold ir; omega) ⟨_, rfl, rfl, pI_t (by unfold kGo; rw [if_neg (by omega)]; assumption)⟩ rfl
    · have z4e : z4 = 0 := hv9.trans (if_neg qz4)
      subst z4e
      exact hret _ _ _ _ d_Tab_goesLeft_50 (by unfold ir; omega) ⟨_, rfl, rfl, pI_f (by unfold kGo; rw [if_neg (by omega)]; assumption)⟩ rfl
  · refine v_aload_n hX d_Tab_goesLeft_25 3 rfl ?_
    refine g_get (i := j) hX hj fl_Tab_60 d_Tab_goesLeft_26 (by omega) hcu rfl ?_
    refine v_if_ne (tgt := 36) hX d_Tab_goesLeft_29 (by decide) (by unfold ir; omega) (fun c29_4 => ?_) (fun c29_4 => ?_)
    · refine v_iconst hX (0) d_Tab_goesLeft_36 ?_
      exact hret _ _ _ _ d_Tab_goesLeft_37 (by unfold ir; omega) ⟨_, rfl, rfl, pI_f (by unfold kGo; rw [if_pos (by omega)]; exact ne_true_of_eq_false (decide_eq_false (by omega)))⟩ rfl
    · refine v_iconst hX (1) d_Tab_goesLeft_32 ?_
      refine v_goto (tgt := 37) hX d_Tab_goesLeft_33 (by decide) ?_
      exact hret _ _ _ _ d_Tab_goesLeft_37 (by unfold ir; omega) ⟨_, rfl, rfl, pI_t (by unfold kGo; rw [if_pos (by omega)]; exact decide_eq_true (by omega))⟩ rfl
end
section
/-! numbers for the fractions -/
theorem cmp_ex (a b : Int) : ∃ z : Int, z = (if b < a then 1 else if a = b then 0 else -1) ∧ (-1 ≤ z ∧ z ≤ 1) ∧ (z < 0 ↔ a < b) ∧ (z = 0 ↔ a = b) ∧ (0 < z ↔ b < a) := by
  refine ⟨_, rfl, ?_⟩
  by_cases h1 : b < a
  · rw [if_pos h1]; omega
  · by_cases h2 : a = b
    · rw [if_neg h1, if_pos h2]; omega
    · rw [if_neg h1, if_neg h2]; omega
theorem jr_mul {a b : Int} (ha : ir a) (hb : ir b) : jr (a * b) := by
  have h1 : a.natAbs ≤ 2147483648 := by unfold ir at ha; omega
  have h2 : b.natAbs ≤ 2147483648 := by unfold ir at hb; omega
  have h3 : (a * b).natAbs ≤ 2147483648 * 2147483648 := by rw [Int.natAbs_mul]; exact Nat.mul_le_mul h1 h2
  unfold jr
  omega
theorem gcd_half {g l : Nat} (h0 : 0 < l) (h : l ≤ g) : 2 * (l * (g % l)) ≤ g * l := by
  have h1 : g % l < l := Nat.mod_lt _ h0
  have h2 := Nat.div_add_mod g l
  have h3 : 1 ≤ g / l := (Nat.one_le_div_iff h0).mpr h
  have h4 : l ≤ l * (g / l) := Nat.le_mul_of_pos_right l h3
  have h5 : 2 * (g % l) ≤ g := by omega
  calc 2 * (l * (g % l)) = l * (2 * (g % l)) := by rw [Nat.mul_left_comm]
    _ ≤ l * g := Nat.mul_le_mul_left l h5
    _ = g * l := Nat.mul_comm l g
/-- Euclid's way, i steps on from a, b -/
def gcI (a b i g l : Nat) : Prop := Nat.gcd g l = Nat.gcd a b ∧ 0 < g + l ∧ g < 2147483648 ∧ l < 2147483648 ∧ ((i = 0 ∧ g = a ∧ l = b) ∨ (1 ≤ i ∧ l < g ∧ 2 ^ (i - 1) * (g * l) ≤ a * b))
theorem gcI_0 {a b : Nat} (ha : a < 2147483648) (hb : b < 2147483648) (h0 : 0 < b) : gcI a b 0 a b := ⟨rfl, by omega, ha, hb, Or.inl ⟨rfl, rfl, rfl⟩⟩
theorem gcI_s {a b i g l : Nat} (h : gcI a b i g l) (h0 : l ≠ 0) : gcI a b (i + 1) l (g % l) := by
  obtain ⟨h1, h2, h3, h4, h5⟩ := h
  have hm : g % l < l := Nat.mod_lt _ (by omega)
  refine ⟨?_, by omega, h4, by omega, Or.inr ⟨by omega, hm, ?_⟩⟩
  · rw [← h1, Nat.gcd_comm g l, Nat.gcd_rec l g, Nat.gcd_comm]
  · rcases h5 with ⟨rfl, rfl, rfl⟩ | ⟨q1, q2, q3⟩
    · show 2 ^ 0 * (l * (g % l)) ≤ g * l
      rw [Nat.pow_zero, Nat.one_mul]
      have : g % l ≤ g := Nat.mod_le _ _
      calc l * (g % l) ≤ l * g := Nat.mul_le_mul_left l this
        _ = g * l := Nat.mul_comm l g
    · have h6 := gcd_half (by omega : 0 < l) (by omega : l ≤ g)
      have h7 : 2 ^ (i + 1 - 1) * (l * (g % l)) = 2 ^ (i - 1) * (2 * (l * (g % l))) := by
        have e : 2 ^ (i + 1 - 1) = 2 ^ (i - 1) * 2 := by rw [show i + 1 - 1 = (i - 1) + 1 by omega, Nat.pow_succ]
        rw [e, Nat.mul_assoc]
      rw [h7]
      exact Nat.le_trans (Nat.mul_le_mul_left _ h6) q3
theorem gcI_e {a b i g l : Nat} (ha : a < 2147483648) (hb : b < 2147483648) (h : gcI a b i g l) (hi : 64 ≤ i) : l = 0 := by
  obtain ⟨h1, h2, h3, h4, h5⟩ := h
  rcases h5 with ⟨q, -, -⟩ | ⟨q1, q2, q3⟩
  · omega
  · have h6 : a * b < 2147483648 * 2147483648 := Nat.mul_lt_mul'' ha hb
    have h7 : 2 ^ 63 ≤ 2 ^ (i - 1) := Nat.pow_le_pow_right (by decide) (by omega)
    rcases Nat.eq_zero_or_pos (g * l) with h8 | h8
    · rcases Nat.mul_eq_zero.mp h8 with h9 | h9
      · omega
      · exact h9
    · have h9 : 2 ^ (i - 1) * 1 ≤ 2 ^ (i - 1) * (g * l) := Nat.mul_le_mul_left _ h8
      omega
theorem gcI_g {a b i g : Nat} (h : gcI a b i g 0) : g = Nat.gcd a b := by
  have := h.1
  rw [Nat.gcd_zero_right] at this
  exact this
theorem kAb_ir (rC rK : Nat → Nat) (rL : Nat → Nat → Nat) (rows c num side : Nat) : ir (kAb rC rK rL rows c num side) := by
  have h1 := kSq_le rC (kLeft rK rL rows c num side)
  have h2 := kSq_le rC (nd rows (kLeft rK rL rows c num side))
  have h3 := kSq_le rC rows
  have h4 := cnt_le (kLeft rK rL rows c num side)
  have h5 := cnt_le (nd rows (kLeft rK rL rows c num side))
  unfold kAb
  generalize kSq rC (kLeft rK rL rows c num side) = x at *
  generalize kSq rC (nd rows (kLeft rK rL rows c num side)) = y at *
  generalize kSq rC rows = w at *
  generalize cnt (kLeft rK rL rows c num side) = p at *
  generalize cnt (nd rows (kLeft rK rL rows c num side)) = q at *
  have g1 : x * q ≤ 1728 * 24 := Nat.mul_le_mul h1 h5
  have g2 : y * p ≤ 1728 * 24 := Nat.mul_le_mul h2 h4
  have g3 : (x * q + y * p) * (p + q) ≤ (1728 * 24 + 1728 * 24) * (24 + 24) := Nat.mul_le_mul (by omega) (by omega)
  have g4 : w * p * q ≤ 1728 * 24 * 24 := Nat.mul_le_mul (Nat.mul_le_mul h3 h4) h5
  unfold ir
  generalize (x * q + y * p) * (p + q) = u at *
  generalize w * p * q = v at *
  omega
theorem kBe_le (rK : Nat → Nat) (rL : Nat → Nat → Nat) (rows c num side : Nat) : kBe rK rL rows c num side ≤ 27648 := by
  have h4 := cnt_le (kLeft rK rL rows c num side)
  have h5 := cnt_le (nd rows (kLeft rK rL rows c num side))
  unfold kBe
  have h6 : cnt (kLeft rK rL rows c num side) + cnt (nd rows (kLeft rK rL rows c num side)) ≤ 48 := by omega
  exact Nat.mul_le_mul (Nat.mul_le_mul h4 h5) h6
end
section
/-! FRACTIONS AND CUTS; by program -/
set_option maxHeartbeats 1000000 in
set_option maxRecDepth 100000 in
theorem m_Fra_become {G : xG} {f0 : xF} {ad : Nat → Nat} (hj : adOk ad 400) {σ : xF} (i : Nat) (iM : i < 400) (x y : Int) (hf : pFra σ i x y) (a b : Int) : ∀ l, gVo l G f0 ad 400 y_Fra_become (.code y_Fra_become c_Fra_become 3 none) rm_Fra_become [.ref (ad i), .int (iv (a)), .int (iv (b))] σ (fun σ' => σ' = va_up σ i (eO 1 [.int (iv a), .int (iv b)])) := by
  intro l
  refine mV_of (by decide) (Nat.le_of_ble_eq_true rfl) (fun X hX hret => ?_)
  show vV G X 0 0 0 [(0, .ref (ad i)), (1, .int (iv (a))), (2, .int (iv (b)))] [] (ov f0 ad 400 σ)
  refine v_aload_n hX d_Fra_become_0 0 rfl ?_
  refine v_iload_n hX d_Fra_become_1 1 rfl ?_
  refine g_put (i := i) (fs' := [.int (iv (a)), .int (iv (y))]) hX hj pf_Fra_9 d_Fra_become_2 (by omega) hf rfl rfl (Nat.le_of_ble_eq_true rfl) rfl ?_
  obtain ⟨σ1, hs2⟩ : ∃ s9, s9 = va_up σ (i) (eO 1 [.int (iv (a)), .int (iv (y))]) := ⟨_, rfl⟩
  rw [← hs2]
  have hf4 : σ1 (i) = (eO 1 [.int (iv (a)), .int (iv (y))]) := by rw [hs2, va_up_self]
  refine v_aload_n hX d_Fra_become_5 0 rfl ?_
  refine v_iload_n hX d_Fra_become_6 2 rfl ?_
  refine g_put (i := i) (fs' := [.int (iv (a)), .int (iv (b))]) hX hj pf_Fra_15 d_Fra_become_7 (by omega) hf4 rfl rfl (Nat.le_of_ble_eq_true rfl) rfl ?_
  obtain ⟨σ5, hs6⟩ : ∃ s9, s9 = va_up σ1 (i) (eO 1 [.int (iv (a)), .int (iv (b))]) := ⟨_, rfl⟩
  rw [← hs6]
  have hf8 : σ5 (i) = (eO 1 [.int (iv (a)), .int (iv (b))]) := by rw [hs6, va_up_self]
  exact hret _ _ _ d_Fra_become_10 ⟨_, rfl, (by rw [hs6, hs2, bx_uu])⟩

set_option maxHeartbeats 1000000 in
set_option maxRecDepth 100000 in
theorem m_Fra_becomeAs {G : xG} {f0 : xF} {ad : Nat → Nat} (hj : adOk ad 400) {σ : xF} (i : Nat) (iM : i < 400) (x y : Int) (hf : pFra σ i x y) (j : Nat) (jM : j < 400) (a b : Int) (hg : pFra σ j a b) (hij : j ≠ i) : ∀ l, gVo l G f0 ad 400 y_Fra_becomeAs (.code y_Fra_becomeAs c_Fra_becomeAs 2 none) rm_Fra_becomeAs [.ref (ad i), .ref (ad j)] σ (fun σ' => σ' = va_up σ i (eO 1 [.int (iv a), .int (iv b)])) := by
  intro l
  refine mV_of (by decide) (Nat.le_of_ble_eq_true rfl) (fun X hX hret => ?_)
  show vV G X 0 0 0 [(0, .ref (ad i)), (1, .ref (ad j))] [] (ov f0 ad 400 σ)
  refine v_aload_n hX d_Fra_becomeAs_0 0 rfl ?_
  refine v_aload_n hX d_Fra_becomeAs_1 1 rfl ?_
  refine g_get (i := j) hX hj fl_Fra_9 d_Fra_becomeAs_2 (by omega) hg rfl ?_
  refine g_put (i := i) (fs' := [.int (iv (a)), .int (iv (y))]) hX hj pf_Fra_9 d_Fra_becomeAs_5 (by omega) hf rfl rfl (Nat.le_of_ble_eq_true rfl) rfl ?_
  obtain ⟨σ1, hs2⟩ : ∃ s9, s9 = va_up σ (i) (eO 1 [.int (iv (a)), .int (iv (y))]) := ⟨_, rfl⟩
  rw [← hs2]
  have hf4 := (show σ1 (j) = σ (j) by rw [hs2, va_up_ne _ _ (by omega)]).trans hg
  have hf5 : σ1 (i) = (eO 1 [.int (iv (a)), .int (iv (y))]) := by rw [hs2, va_up_self]
  refine v_aload_n hX d_Fra_becomeAs_8 0 rfl ?_
  refine v_aload_n hX d_Fra_becomeAs_9 1 rfl ?_
  refine g_get (i := j) hX hj fl_Fra_15 d_Fra_becomeAs_10 (by omega) hf4 rfl ?_
  refine g_put (i := i) (fs' := [.int (iv (a)), .int (iv (b))]) hX hj pf_Fra_15 d_Fra_becomeAs_13 (by omega) hf5 rfl rfl (Nat.le_of_ble_eq_true rfl) rfl ?_
  obtain ⟨σ6, hs7⟩ : ∃ s9, s9 = va_up σ1 (i) (eO 1 [.int (iv (a)), .int (iv (b))]) := ⟨_, rfl⟩
  rw [← hs7]
  have hf8 := (show σ6 (j) = σ1 (j) by rw [hs7, va_up_ne _ _ (by omega)]).trans hf4
  have hf10 : σ6 (i) = (eO 1 [.int (iv (a)), .int (iv (b))]) := by rw [hs7, va_up_self]
  exact hret _ _ _ d_Fra_becomeAs_16 ⟨_, rfl, (by rw [hs7, hs2, bx_uu])⟩

set_option maxHeartbeats 1000000 in
set_option maxRecDepth 100000 in
theorem m_Fra_compareWith {G : xG} {f0 : xF} {ad : Nat → Nat} (hj : adOk ad 400) {σ : xF} (i : Nat) (iM : i < 400) (x y : Int) (hf : pFra σ i x y) (j : Nat) (jM : j < 400) (a b : Int) (hg : pFra σ j a b) (rx : ir x) (ry : ir y) (ra : ir a) (rb : ir b) : ∀ l, gI l G f0 ad 400 y_Fra_compareWith (.code y_Fra_compareWith c_Fra_compareWith 2 (some (.int))) rm_Fra_compareWith [.ref (ad i), .ref (ad j)] σ (fun z σ' => σ' = σ ∧ z = (if x * b < a * y then (-1 : Int) else if x * b = a * y then 0 else 1)) := by
  intro l
  refine mI_of (rt := .int) (by decide) (Nat.le_of_ble_eq_true rfl) (fun X hX hret => ?_)
  show vV G X 0 0 0 [(0, .ref (ad i)), (1, .ref (ad j))] [] (ov f0 ad 400 σ)
  refine v_aload_n hX d_Fra_compareWith_0 0 rfl ?_
  refine g_get (i := i) hX hj fl_Fra_9 d_Fra_compareWith_1 (by omega) hf rfl ?_
  refine v_i2l hX d_Fra_compareWith_4 (by assumption) ?_
  refine v_aload_n hX d_Fra_compareWith_5 1 rfl ?_
  refine g_get (i := j) hX hj fl_Fra_15 d_Fra_compareWith_6 (by omega) hg rfl ?_
  refine v_i2l hX d_Fra_compareWith_9 (by assumption) ?_
  refine v_lmul hX d_Fra_compareWith_10 ?_
  refine v_aload_n hX d_Fra_compareWith_11 1 rfl ?_
  refine g_get (i := j) hX hj fl_Fra_9 d_Fra_compareWith_12 (by omega) hg rfl ?_
  refine v_i2l hX d_Fra_compareWith_15 (by assumption) ?_
  refine v_aload_n hX d_Fra_compareWith_16 0 rfl ?_
  refine g_get (i := i) hX hj fl_Fra_15 d_Fra_compareWith_17 (by omega) hf rfl ?_
  refine v_i2l hX d_Fra_compareWith_20 (by assumption) ?_
  refine v_lmul hX d_Fra_compareWith_21 ?_
  refine g_callSI (As := [.long (jv ((x * b))), .long (jv ((a * y)))]) (st := []) hX (k0_Lon_compare ((x * b)) ((a * y)) (jr_mul (by assumption) (by assumption)) (jr_mul (by assumption) (by assumption))) cl_Fra_18 d_Fra_compareWith_22 rfl ⟨by decide, by decide⟩ ⟨by decide, by decide⟩ (Nat.le_of_ble_eq_true rfl) (fun z1 hz2 hp3 => ?_)
  exact hret _ _ _ _ d_Fra_compareWith_25 (by assumption) ⟨_, rfl, rfl, hp3⟩ rfl

set_option maxHeartbeats 1000000 in
set_option maxRecDepth 100000 in
theorem m_Fra_isAboveHundredths {G : xG} {f0 : xF} {ad : Nat → Nat} (hj : adOk ad 400) {σ : xF} (i : Nat) (iM : i < 400) (x y : Int) (hf : pFra σ i x y) (w : Int) (rx : ir x) (ry : ir y) (rw : ir w) : ∀ l, gI l G f0 ad 400 y_Fra_isAboveHundredths (.code y_Fra_isAboveHundredths c_Fra_isAboveHundredths 2 (some (.boolean))) rm_Fra_isAboveHundredths [.ref (ad i), .int (iv (w))] σ (fun z σ' => σ' = σ ∧ z = pI (w * y < 100 * x)) := by
  intro l
  refine mI_of (rt := .boolean) (by decide) (Nat.le_of_ble_eq_true rfl) (fun X hX hret => ?_)
  show vV G X 0 0 0 [(0, .ref (ad i)), (1, .int (iv (w)))] [] (ov f0 ad 400 σ)
  refine v_ldc2 hX (100) d_Fra_isAboveHundredths_0 (mT 499 (by decide +kernel) rfl) rfl ?_
  refine v_aload_n hX d_Fra_isAboveHundredths_3 0 rfl ?_
  refine g_get (i := i) hX hj fl_Fra_9 d_Fra_isAboveHundredths_4 (by omega) hf rfl ?_
  refine v_i2l hX d_Fra_isAboveHundredths_7 (by first | assumption | (unfold ir; omega)) ?_
  refine v_lmul hX d_Fra_isAboveHundredths_8 ?_
  refine v_iload_n hX d_Fra_isAboveHundredths_9 1 rfl ?_
  refine v_i2l hX d_Fra_isAboveHundredths_10 (by first | assumption | (unfold ir; omega)) ?_
  refine v_aload_n hX d_Fra_isAboveHundredths_11 0 rfl ?_
  refine g_get (i := i) hX hj fl_Fra_15 d_Fra_isAboveHundredths_12 (by omega) hf rfl ?_
  refine v_i2l hX d_Fra_isAboveHundredths_15 (by first | assumption | (unfold ir; omega)) ?_
  refine v_lmul hX d_Fra_isAboveHundredths_16 ?_
  refine v_lcmp hX d_Fra_isAboveHundredths_17 (jr_mul (by unfold ir; omega) rx) (jr_mul rw ry) ?_
  obtain ⟨z1, hz1, hz1r, hz1a, hz1b, hz1c⟩ := cmp_ex ((100 * x)) ((w * y))
  rw [← hz1]
  refine v_if_le (tgt := 25) hX d_Fra_isAboveHundredths_18 (by decide) (by first | assumption | (unfold ir; omega)) (fun c18_1 => ?_) (fun c18_1 => ?_)
  · refine v_iconst hX (0) d_Fra_isAboveHundredths_25 ?_
    exact hret _ _ _ _ d_Fra_isAboveHundredths_26 (by unfold ir; omega) ⟨_, rfl, rfl, (pI_f (by omega))⟩ rfl
  · refine v_iconst hX (1) d_Fra_isAboveHundredths_21 ?_
    refine v_goto (tgt := 26) hX d_Fra_isAboveHundredths_22 (by decide) ?_
    exact hret _ _ _ _ d_Fra_isAboveHundredths_26 (by unfold ir; omega) ⟨_, rfl, rfl, (pI_t (by omega))⟩ rfl

set_option maxHeartbeats 1000000 in
set_option maxRecDepth 100000 in
theorem m_Fra_greatestCommonDivisor {G : xG} {f0 : xF} {ad : Nat → Nat} (hj : adOk ad 400) {σ : xF} (i : Nat) (hi : i < 400) (a b : Nat) (hf : pFra σ i a b) (ha : a < 2147483648) (hb : b < 2147483648) (h0 : 0 < b) : ∀ l, gI l G f0 ad 400 y_Fra_greatestCommonDivisor (.code y_Fra_greatestCommonDivisor c_Fra_greatestCommonDivisor 5 (some (.int))) rm_Fra_greatestCommonDivisor [.ref (ad i)] σ (fun z σ' => σ' = σ ∧ z = ((Nat.gcd a b : Nat) : Int)) := by
  intro l
  refine mI_of (rt := .int) (by decide) (Nat.le_of_ble_eq_true rfl) (fun X hX hret => ?_)
  show vV G X 0 0 0 [(0, .ref (ad i))] [] (ov f0 ad 400 σ)
  refine v_aload_n hX d_Fra_greatestCommonDivisor_0 0 rfl ?_
  refine g_get (i := i) hX hj fl_Fra_9 d_Fra_greatestCommonDivisor_1 (by omega) hf rfl ?_
  refine v_istore_n (lv' := [(1, .int (iv (((a : Nat) : Int)))), (0, .ref (ad i))]) hX d_Fra_greatestCommonDivisor_4 rfl (by decide) rfl ?_
  refine v_aload_n hX d_Fra_greatestCommonDivisor_5 1 rfl ?_
  refine g_get (i := i) hX hj fl_Fra_15 d_Fra_greatestCommonDivisor_6 (by omega) hf rfl ?_
  refine v_istore_n (lv' := [(2, .int (iv (((b : Nat) : Int)))), (1, .int (iv (((a : Nat) : Int)))), (0, .ref (ad i))]) hX d_Fra_greatestCommonDivisor_9 rfl (by decide) rfl ?_
  refine v_iconst hX (0) d_Fra_greatestCommonDivisor_10 ?_
  refine v_istore_n (lv' := [(3, .int (iv (0))), (2, .int (iv (((b : Nat) : Int)))), (1, .int (iv (((a : Nat) : Int)))), (0, .ref (ad i))]) hX d_Fra_greatestCommonDivisor_11 rfl (by decide) rfl ?_
  have LOOP : ∀ (fuel : Nat) (k : Nat) (g : Nat) (q : Nat), 64 - k < fuel → (k ≤ 64) → (gcI a b k g q) → vV G X 0 0 12 [(0, .ref (ad i)), (1, .int (iv (((g : Nat) : Int)))), (2, .int (iv (((q : Nat) : Int)))), (3, .int (iv (((k : Nat) : Int))))] [] (ov f0 ad 400 σ) := by
    intro fuel
    induction fuel with
    | zero => intro k g q hm; exact absurd hm (Nat.not_lt_zero _)
    | succ fuel ih_LOOP =>
      intro k g q hm hk hh
      obtain ⟨g1, g2, g3, g4, -⟩ := id hh
      refine v_iload_n hX d_Fra_greatestCommonDivisor_12 3 rfl ?_
      refine v_bipush hX (64) d_Fra_greatestCommonDivisor_13 rfl ?_
      refine v_icmp_ge (tgt := 38) hX d_Fra_greatestCommonDivisor_15 (by decide) (by unfold ir; omega) (by unfold ir; omega) (fun c15_1 => ?_) (fun c15_1 => ?_)
      · refine v_iload_n hX d_Fra_greatestCommonDivisor_38 1 rfl ?_
        have e0 : q = 0 := by first | omega | exact gcI_e ha hb hh (by omega)
        subst e0
        exact hret _ _ _ _ d_Fra_greatestCommonDivisor_39 (ir_n g3) ⟨_, rfl, rfl, congrArg (fun q : Nat => (q : Int)) (gcI_g hh)⟩ rfl
      · refine v_iload_n hX d_Fra_greatestCommonDivisor_18 2 rfl ?_
        refine v_if_eq (tgt := 38) hX d_Fra_greatestCommonDivisor_19 (by decide) (by unfold ir; omega) (fun c19_2 => ?_) (fun c19_2 => ?_)
        · refine v_iload_n hX d_Fra_greatestCommonDivisor_38 1 rfl ?_
          have e0 : q = 0 := by first | omega | exact gcI_e ha hb hh (by omega)
          subst e0
          exact hret _ _ _ _ d_Fra_greatestCommonDivisor_39 (ir_n g3) ⟨_, rfl, rfl, congrArg (fun q : Nat => (q : Int)) (gcI_g hh)⟩ rfl
        · refine v_iload_n hX d_Fra_greatestCommonDivisor_22 1 rfl ?_
          refine v_iload_n hX d_Fra_greatestCommonDivisor_23 2 rfl ?_
          refine v_irem (z := (((g % q) : Nat) : Int)) hX d_Fra_greatestCommonDivisor_24 (iv_ne0 (ir_n (by omega)) (by omega)) (iv_rem (g) (q) (by omega) (by omega) (by omega)) ?_
          refine v_istore (lv' := [(4, .int (iv ((((g % q) : Nat) : Int)))), (0, .ref (ad i)), (1, .int (iv (((g : Nat) : Int)))), (2, .int (iv (((q : Nat) : Int)))), (3, .int (iv (((k : Nat) : Int))))]) hX d_Fra_greatestCommonDivisor_25 (by decide) rfl ?_
          refine v_iload_n hX d_Fra_greatestCommonDivisor_27 3 rfl ?_
          refine v_istore_n (lv' := [(1, .int (iv (((q : Nat) : Int)))), (4, .int (iv ((((g % q) : Nat) : Int)))), (0, .ref (ad i)), (2, .int (iv (((q : Nat) : Int)))), (3, .int (iv (((k : Nat) : Int))))]) hX d_Fra_greatestCommonDivisor_28 rfl (by decide) rfl ?_
          refine v_iload hX d_Fra_greatestCommonDivisor_29 1 rfl ?_
          refine v_istore_n (lv' := [(2, .int (iv ((((g % q) : Nat) : Int)))), (1, .int (iv (((q : Nat) : Int)))), (4, .int (iv ((((g % q) : Nat) : Int)))), (0, .ref (ad i)), (3, .int (iv (((k : Nat) : Int))))]) hX d_Fra_greatestCommonDivisor_31 rfl (by decide) rfl ?_
          refine v_iincN (a := k) (n := 1) (lv' := [(3, .int (iv ((((k + 1) : Nat) : Int)))), (2, .int (iv ((((g % q) : Nat) : Int)))), (1, .int (iv (((q : Nat) : Int)))), (4, .int (iv ((((g % q) : Nat) : Int)))), (0, .ref (ad i))]) hX d_Fra_greatestCommonDivisor_32 rfl 4 rfl (by decide) rfl ?_
          refine v_goto (tgt := 12) hX d_Fra_greatestCommonDivisor_35 (by decide) ?_
          refine v_lv [4, 2, 1, 0] rfl ?_
          exact ih_LOOP (k + 1) (q) (g % q) (by omega) (by omega) (gcI_s hh (by omega))
  refine v_lv [3, 2, 1, 0] rfl ?_
  exact LOOP _ (0) (a) (b) (Nat.lt_succ_self _) (by decide) (gcI_0 ha hb h0)

set_option maxHeartbeats 1000000 in
set_option maxRecDepth 100000 in
theorem m_Fra_inLowestTerms {G : xG} {f0 : xF} {ad : Nat → Nat} (hj : adOk ad 400) {σ : xF} (i : Nat) (hi : i < 400) (a b : Nat) (hf : pFra σ i a b) (ha : a < 2147483648) (hb : b < 2147483648) (h0 : 0 < b) (part : Int) (hp : part = 0 ∨ part = 1) : ∀ l, gI l G f0 ad 400 y_Fra_inLowestTerms (.code y_Fra_inLowestTerms c_Fra_inLowestTerms 4 (some (.int))) rm_Fra_inLowestTerms [.ref (ad i), .int (iv (part))] σ (fun z σ' => σ' = σ ∧ z = (((if part = 0 then a else b) / Nat.gcd a b : Nat) : Int)) := by
  intro l
  refine mI_of (rt := .int) (by decide) (Nat.le_of_ble_eq_true rfl) (fun X hX hret => ?_)
  show vV G X 0 0 0 [(0, .ref (ad i)), (1, .int (iv (part)))] [] (ov f0 ad 400 σ)
  have hg : 0 < Nat.gcd a b := Nat.gcd_pos_of_pos_right a h0
  have hg2 : Nat.gcd a b ≤ b := Nat.gcd_le_right a h0
  have d1 := Nat.div_le_self a (Nat.gcd a b)
  have d2 := Nat.div_le_self b (Nat.gcd a b)
  refine v_aload_n hX d_Fra_inLowestTerms_0 0 rfl ?_
  refine g_callVI (As := []) (st := []) hX hj (i := i) (by omega) hf (m_Fra_greatestCommonDivisor hj i hi a b hf ha hb h0) cl_Fra_26 d_Fra_inLowestTerms_1 rfl ⟨by decide, by decide⟩ ⟨by decide, by decide⟩ (Nat.le_of_ble_eq_true rfl) (fun z1 σ2 hz3 hp4 => ?_)
  obtain ⟨he5, hv6⟩ := hp4
  rw [he5]
  subst hv6
  refine v_istore_n (lv' := [(2, .int (iv ((((Nat.gcd a b) : Nat) : Int)))), (0, .ref (ad i)), (1, .int (iv (part)))]) hX d_Fra_inLowestTerms_4 rfl (by decide) rfl ?_
  refine v_iload_n hX d_Fra_inLowestTerms_5 2 rfl ?_
  refine v_if_ne (tgt := 16) hX d_Fra_inLowestTerms_6 (by decide) (by unfold ir; omega) (fun c6_1 => ?_) (fun c6_1 => ?_)
  · refine v_aload_n hX d_Fra_inLowestTerms_16 1 rfl ?_
    refine g_get (i := i) hX hj fl_Fra_15 d_Fra_inLowestTerms_17 (by omega) hf rfl ?_
    refine v_istore_n (lv' := [(3, .int (iv (((b : Nat) : Int)))), (2, .int (iv ((((Nat.gcd a b) : Nat) : Int)))), (0, .ref (ad i)), (1, .int (iv (part)))]) hX d_Fra_inLowestTerms_20 rfl (by decide) rfl ?_
    refine v_iload_n hX d_Fra_inLowestTerms_21 1 rfl ?_
    refine v_if_ne (tgt := 29) hX d_Fra_inLowestTerms_22 (by decide) (by unfold ir; omega) (fun c22_2 => ?_) (fun c22_2 => absurd c22_2 (by omega))
    refine v_iload_n hX d_Fra_inLowestTerms_29 0 rfl ?_
    refine v_iload_n hX d_Fra_inLowestTerms_30 1 rfl ?_
    refine v_idiv (z := (((b / (Nat.gcd a b)) : Nat) : Int)) hX d_Fra_inLowestTerms_31 (iv_ne0 (ir_n (by omega)) (by omega)) (iv_div (b) ((Nat.gcd a b)) (by omega) (by omega) (by omega)) ?_
    exact hret _ _ _ _ d_Fra_inLowestTerms_32 (by first | exact ir_n (Nat.lt_of_le_of_lt d1 ha) | exact ir_n (Nat.lt_of_le_of_lt d2 hb)) ⟨_, rfl, rfl, (by first | (rw [if_pos (by omega)]; done) | (rw [if_neg (by omega)]; done))⟩ rfl
  · refine v_aload_n hX d_Fra_inLowestTerms_9 1 rfl ?_
    refine g_get (i := i) hX hj fl_Fra_9 d_Fra_inLowestTerms_10 (by omega) hf rfl ?_
    refine v_goto (tgt := 20) hX d_Fra_inLowestTerms_13 (by decide) ?_
    refine v_istore_n (lv' := [(3, .int (iv (((a : Nat) : Int)))), (2, .int (iv ((((Nat.gcd a b) : Nat) : Int)))), (0, .ref (ad i)), (1, .int (iv (part)))]) hX d_Fra_inLowestTerms_20 rfl (by decide) rfl ?_
    refine v_iload_n hX d_Fra_inLowestTerms_21 1 rfl ?_
    refine v_if_ne (tgt := 29) hX d_Fra_inLowestTerms_22 (by decide) (by unfold ir; omega) (fun c22_3 => ?_) (fun c22_3 => absurd c22_3 (by omega))
    refine v_iload_n hX d_Fra_inLowestTerms_29 0 rfl ?_
    refine v_iload_n hX d_Fra_inLowestTerms_30 1 rfl ?_
    refine v_idiv (z := (((a / (Nat.gcd a b)) : Nat) : Int)) hX d_Fra_inLowestTerms_31 (iv_ne0 (ir_n (by omega)) (by omega)) (iv_div (a) ((Nat.gcd a b)) (by omega) (by omega) (by omega)) ?_
    exact hret _ _ _ _ d_Fra_inLowestTerms_32 (by first | exact ir_n (Nat.lt_of_le_of_lt d1 ha) | exact ir_n (Nat.lt_of_le_of_lt d2 hb)) ⟨_, rfl, rfl, (by first | (rw [if_pos (by omega)]; done) | (rw [if_neg (by omega)]; done))⟩ rfl

set_option maxHeartbeats 1000000 in
set_option maxRecDepth 100000 in
theorem m_Cut_become {G : xG} {f0 : xF} {ad : Nat → Nat} (hj : adOk ad 400) {σ : xF} (i g : Nat) (iM : i < 400) (x0 x1 x2 : Int) (hci : pCut ad σ i g x0 x1 x2) (a b c : Int) : ∀ l, gVo l G f0 ad 400 y_Cut_become (.code y_Cut_become c_Cut_become 4 none) rm_Cut_become [.ref (ad i), .int (iv (a)), .int (iv (b)), .int (iv (c))] σ (fun σ' => σ' = va_up σ i (eO 0 [.ref (ad g), .int (iv a), .int (iv b), .int (iv c)])) := by
  intro l
  refine mV_of (by decide) (Nat.le_of_ble_eq_true rfl) (fun X hX hret => ?_)
  show vV G X 0 0 0 [(0, .ref (ad i)), (1, .int (iv (a))), (2, .int (iv (b))), (3, .int (iv (c)))] [] (ov f0 ad 400 σ)
  refine v_aload_n hX d_Cut_become_0 0 rfl ?_
  refine v_iload_n hX d_Cut_become_1 1 rfl ?_
  refine g_put (i := i) (fs' := [.ref (ad g), .int (iv (a)), .int (iv (x1)), .int (iv (x2))]) hX hj pf_Cut_16 d_Cut_become_2 (by omega) hci rfl rfl (Nat.le_of_ble_eq_true rfl) rfl ?_
  obtain ⟨σ1, hs2⟩ : ∃ s9, s9 = va_up σ (i) (eO 0 [.ref (ad g), .int (iv (a)), .int (iv (x1)), .int (iv (x2))]) := ⟨_, rfl⟩
  rw [← hs2]
  have hf4 : σ1 (i) = (eO 0 [.ref (ad g), .int (iv (a)), .int (iv (x1)), .int (iv (x2))]) := by rw [hs2, va_up_self]
  refine v_aload_n hX d_Cut_become_5 0 rfl ?_
  refine v_iload_n hX d_Cut_become_6 2 rfl ?_
  refine g_put (i := i) (fs' := [.ref (ad g), .int (iv (a)), .int (iv (b)), .int (iv (x2))]) hX hj pf_Cut_20 d_Cut_become_7 (by omega) hf4 rfl rfl (Nat.le_of_ble_eq_true rfl) rfl ?_
  obtain ⟨σ5, hs6⟩ : ∃ s9, s9 = va_up σ1 (i) (eO 0 [.ref (ad g), .int (iv (a)), .int (iv (b)), .int (iv (x2))]) := ⟨_, rfl⟩
  rw [← hs6]
  have hf8 : σ5 (i) = (eO 0 [.ref (ad g), .int (iv (a)), .int (iv (b)), .int (iv (x2))]) := by rw [hs6, va_up_self]
  refine v_aload_n hX d_Cut_become_10 0 rfl ?_
  refine v_iload_n hX d_Cut_become_11 3 rfl ?_
  refine g_put (i := i) (fs' := [.ref (ad g), .int (iv (a)), .int (iv (b)), .int (iv (c))]) hX hj pf_Cut_23 d_Cut_become_12 (by omega) hf8 rfl rfl (Nat.le_of_ble_eq_true rfl) rfl ?_
  obtain ⟨σ9, hs10⟩ : ∃ s9, s9 = va_up σ5 (i) (eO 0 [.ref (ad g), .int (iv (a)), .int (iv (b)), .int (iv (c))]) := ⟨_, rfl⟩
  rw [← hs10]
  have hf12 : σ9 (i) = (eO 0 [.ref (ad g), .int (iv (a)), .int (iv (b)), .int (iv (c))]) := by rw [hs10, va_up_self]
  exact hret _ _ _ d_Cut_become_15 ⟨_, rfl, (by rw [hs10, hs6, hs2, bx_uu, bx_uu])⟩

set_option maxHeartbeats 1000000 in
set_option maxRecDepth 100000 in
theorem m_Cut_becomeAs {G : xG} {f0 : xF} {ad : Nat → Nat} (hj : adOk ad 400) {σ : xF} (i gi : Nat) (iM : i < 400) (x0 x1 x2 : Int) (hci : pCut ad σ i gi x0 x1 x2) (j gj : Nat) (jM : j < 400) (y0 y1 y2 : Int) (hcj : pCut ad σ j gj y0 y1 y2) (giM : gi < 400) (gjM : gj < 400) (a b c d : Int) (hfi : pFra σ gi a b) (hfj : pFra σ gj c d) (hij : j ≠ i) (hgg : gj ≠ gi) (h1 : gi ≠ i) (h2 : gj ≠ i) (h3 : gi ≠ j) (h4 : gj ≠ j) : ∀ l, gVo l G f0 ad 400 y_Cut_becomeAs (.code y_Cut_becomeAs c_Cut_becomeAs 2 none) rm_Cut_becomeAs [.ref (ad i), .ref (ad j)] σ (fun σ' => σ' = va_up (va_up σ i (eO 0 [.ref (ad gi), .int (iv y0), .int (iv y1), .int (iv y2)])) gi (eO 1 [.int (iv c), .int (iv d)])) := by
  intro l
  refine mV_of (by decide) (Nat.le_of_ble_eq_true rfl) (fun X hX hret => ?_)
  show vV G X 0 0 0 [(0, .ref (ad i)), (1, .ref (ad j))] [] (ov f0 ad 400 σ)
  refine v_aload_n hX d_Cut_becomeAs_0 0 rfl ?_
  refine v_aload_n hX d_Cut_becomeAs_1 1 rfl ?_
  refine g_get (i := j) hX hj fl_Cut_16 d_Cut_becomeAs_2 (by omega) hcj rfl ?_
  refine v_aload_n hX d_Cut_becomeAs_5 1 rfl ?_
  refine g_get (i := j) hX hj fl_Cut_20 d_Cut_becomeAs_6 (by omega) hcj rfl ?_
  refine v_aload_n hX d_Cut_becomeAs_9 1 rfl ?_
  refine g_get (i := j) hX hj fl_Cut_23 d_Cut_becomeAs_10 (by omega) hcj rfl ?_
  refine g_callVV (As := [.int (iv (y0)), .int (iv (y1)), .int (iv (y2))]) (st := []) hX hj (i := i) (by omega) hci (m_Cut_become hj i gi iM x0 x1 x2 hci y0 y1 y2) cl_Cut_26 d_Cut_becomeAs_13 rfl ⟨by decide, by decide⟩ ⟨by decide, by decide⟩ (Nat.le_of_ble_eq_true rfl) (fun σ2 hp4 => ?_)
  have hf5 := (show σ2 (j) = σ (j) by rw [hp4, va_up_ne _ _ (by omega)]).trans hcj
  have hf6 := (show σ2 (gi) = σ (gi) by rw [hp4, va_up_ne _ _ (by omega)]).trans hfi
  have hf7 := (show σ2 (gj) = σ (gj) by rw [hp4, va_up_ne _ _ (by omega)]).trans hfj
  have hf8 : σ2 (i) = (eO 0 [.ref (ad gi), .int (iv y0), .int (iv y1), .int (iv y2)]) := by rw [hp4, va_up_self]
  refine v_aload_n hX d_Cut_becomeAs_16 0 rfl ?_
  refine g_get (i := i) hX hj fl_Cut_10 d_Cut_becomeAs_17 (by omega) hf8 rfl ?_
  refine v_aload_n hX d_Cut_becomeAs_20 1 rfl ?_
  refine g_get (i := j) hX hj fl_Cut_10 d_Cut_becomeAs_21 (by omega) hf5 rfl ?_
  refine g_callVV (As := [.ref (ad gj)]) (st := []) hX hj (i := gi) (by omega) hf6 (m_Fra_becomeAs hj gi giM a b hf6 gj gjM c d hf7 hgg) cl_Cut_30 d_Cut_becomeAs_24 rfl ⟨by decide, by decide⟩ ⟨by decide, by decide⟩ (Nat.le_of_ble_eq_true rfl) (fun σ10 hp12 => ?_)
  have hf13 := (show σ10 (j) = σ2 (j) by rw [hp12, va_up_ne _ _ (by omega)]).trans hf5
  have hf14 := (show σ10 (gj) = σ2 (gj) by rw [hp12, va_up_ne _ _ (by omega)]).trans hf7
  have hf15 := (show σ10 (i) = σ2 (i) by rw [hp12, va_up_ne _ _ (by omega)]).trans hf8
  have hf16 : σ10 (gi) = (eO 1 [.int (iv c), .int (iv d)]) := by rw [hp12, va_up_self]
  exact hret _ _ _ d_Cut_becomeAs_27 ⟨_, rfl, (by rw [hp12, hp4])⟩
end
section
/-! THE SURVEY in numbers -/
theorem kMay_t {rK : Nat → Nat} {rL : Nat → Nat → Nat} {le rows c num side : Nat} (h1 : side = 1 → ¬ nd rows (rK c) = 0) (h2 : le ≤ cnt (kLeft rK rL rows c num side)) (h3 : le ≤ cnt (nd rows (kLeft rK rL rows c num side))) : kMay rK rL le rows c num side = true := by
  unfold kMay
  rw [decide_eq_true h2, decide_eq_true h3, Bool.and_true, Bool.and_true]
  by_cases h : side = 1
  · rw [decide_eq_true h, decide_eq_false (h1 h)]; rfl
  · rw [decide_eq_false h]; rfl
theorem kMay_of {rK : Nat → Nat} {rL : Nat → Nat → Nat} {le rows c num side : Nat} (q : kMay rK rL le rows c num side = true) : (side = 1 → ¬ nd rows (rK c) = 0) ∧ le ≤ cnt (kLeft rK rL rows c num side) ∧ le ≤ cnt (nd rows (kLeft rK rL rows c num side)) := by
  unfold kMay at q
  rw [Bool.and_eq_true, Bool.and_eq_true, decide_eq_true_eq, decide_eq_true_eq] at q
  obtain ⟨⟨q1, q2⟩, q3⟩ := q
  refine ⟨fun h1 h2 => ?_, q2, q3⟩
  rw [decide_eq_true h1, decide_eq_true h2] at q1
  cases q1
/-- what the survey has found so far: how many, and the best of them -/
abbrev lkB : Type := Nat × Int × Int × Int × Int × Int
noncomputable def lkS (rC rK : Nat → Nat) (rL : Nat → Nat → Nat) (le rows c num side : Nat) (B : lkB) : lkB :=
  if kMay rK rL le rows c num side = true then
    (if B.1 = 0 ∨ B.2.2.2.2.1 * (kBe rK rL rows c num side : Int) < kAb rC rK rL rows c num side * B.2.2.2.2.2 then (B.1 + 1, (c : Int), (num : Int), (side : Int), kAb rC rK rL rows c num side, (kBe rK rL rows c num side : Int)) else (B.1 + 1, B.2))
  else B
noncomputable def lk2 (so rC rK : Nat → Nat) (rL : Nat → Nat → Nat) (le rows c num : Nat) (B : lkB) : lkB := if kCan so rK rL rows c num = true then lkS rC rK rL le rows c num 1 (lkS rC rK rL le rows c num 0 B) else B
noncomputable def lk1 (so rC rK : Nat → Nat) (rL : Nat → Nat → Nat) (le rows c : Nat) : Nat → lkB → lkB
  | 0, B => B
  | k + 1, B => lk2 so rC rK rL le rows c k (lk1 so rC rK rL le rows c k B)
noncomputable def lk0 (so rC rK : Nat → Nat) (rL : Nat → Nat → Nat) (le rows : Nat) : Nat → lkB → lkB
  | 0, B => B
  | c + 1, B => lk1 so rC rK rL le rows c 101 (lk0 so rC rK rL le rows c B)
/-- the cells of the survey: since σ only 4 to 7 have changed; the best is B -/
def lkI (ad : Nat → Nat) (σ σv : xF) (B : lkB) : Prop := (∀ q, q ≠ 4 → q ≠ 5 → q ≠ 6 → q ≠ 7 → σv q = σ q) ∧ (∃ c n s : Int, pCut ad σv 4 5 c n s) ∧ (∃ a b : Int, pFra σv 5 a b) ∧ pCut ad σv 6 7 B.2.1 B.2.2.1 B.2.2.2.1 ∧ pFra σv 7 B.2.2.2.2.1 B.2.2.2.2.2 ∧ ir B.2.2.2.2.1 ∧ ir B.2.2.2.2.2
end
section
/-! THE SURVEY; by program -/
set_option maxHeartbeats 1000000 in
set_option maxRecDepth 100000 in
theorem m_Sur_measure {G : xG} {f0 : xF} {ad : Nat → Nat} (hj : adOk ad 400) {σ : xF} {n : Nat} {val : Nat → Nat → Int} {cl so rC rK : Nat → Nat} {rL : Nat → Nat → Nat} (hT : pTab G ad σ n val cl so rC rK rL) (hB : bTab n cl so rC rK rL) (hS : pSur ad σ) {le de wo : Nat} (hL : pLim σ de le wo) (hle : le ≤ 10) (x0 x1 x2 u v : Int) (hc4 : pCut ad σ 4 5 x0 x1 x2) (hf5 : pFra σ 5 u v) (rows c num side : Nat) (hR : rows < 16777216) (hc : c < 4) (hn : num ≤ 100) (hs : side ≤ 1) : ∀ l, gI l G f0 ad 400 y_Sur_measure (.code y_Sur_measure c_Sur_measure 12 (some (.boolean))) rm_Sur_measure [.ref (ad 3), .int (iv (((rows : Nat) : Int))), .int (iv (((c : Nat) : Int))), .int (iv (((num : Nat) : Int))), .int (iv (((side : Nat) : Int)))] σ (fun z σ' => (kMay rK rL le rows c num side = true ∧ z = 1 ∧ σ' = va_up (va_up σ 4 (eO 0 [.ref (ad 5), .int (iv c), .int (iv num), .int (iv side)])) 5 (eO 1 [.int (iv (kAb rC rK rL rows c num side)), .int (iv ((kBe rK rL rows c num side : Nat) : Int))])) ∨ (¬ kMay rK rL le rows c num side = true ∧ z = 0 ∧ σ' = σ)) := by
  intro l
  refine mI_of (rt := .boolean) (by decide) (Nat.le_of_ble_eq_true rfl) (fun X hX hret => ?_)
  show vV G X 0 0 0 [(0, .ref (ad 3)), (1, .int (iv (((rows : Nat) : Int)))), (2, .int (iv (((c : Nat) : Int)))), (3, .int (iv (((num : Nat) : Int)))), (4, .int (iv (((side : Nat) : Int))))] [] (ov f0 ad 400 σ)
  have hLl : (kLeft rK rL rows c num side) < 16777216 := kLeft_lt hR
  have hRr : (nd rows (kLeft rK rL rows c num side)) < 16777216 := Nat.lt_of_le_of_lt (nd_le _ _) hR
  have cL := cnt_le (kLeft rK rL rows c num side)
  have cR := cnt_le (nd rows (kLeft rK rL rows c num side))
  refine v_iload hX d_Sur_measure_0 4 rfl ?_
  refine v_iconst hX (1) d_Sur_measure_2 ?_
  refine v_icmp_ne (tgt := 20) hX d_Sur_measure_3 (by decide) (by unfold ir; omega) (by unfold ir; omega) (fun c3_1 => ?_) (fun c3_1 => ?_)
  · refine v_aload_n hX d_Sur_measure_20 0 rfl ?_
    refine g_get (i := 3) hX hj fl_Sur_21 d_Sur_measure_21 (by omega) hS rfl ?_
    refine v_iload_n hX d_Sur_measure_24 1 rfl ?_
    refine v_iload_n hX d_Sur_measure_25 2 rfl ?_
    refine v_iload_n hX d_Sur_measure_26 3 rfl ?_
    refine v_iload hX d_Sur_measure_27 4 rfl ?_
    refine g_callVI (As := [.int (iv (((rows : Nat) : Int))), .int (iv (((c : Nat) : Int))), .int (iv (((num : Nat) : Int))), .int (iv (((side : Nat) : Int)))]) (st := []) hX hj (i := 1) (by omega) hT.1 (m_Tab_leftOf hj hT hB rows c num side hR hc hn hs) cl_Sur_61 d_Sur_measure_29 rfl ⟨by decide, by decide⟩ ⟨by decide, by decide⟩ (Nat.le_of_ble_eq_true rfl) (fun z1 σ2 hz3 hp4 => ?_)
    obtain ⟨he5, hv6⟩ := hp4
    rw [he5]
    subst hv6
    refine v_istore (lv' := [(5, .int (iv ((((kLeft rK rL rows c num side) : Nat) : Int)))), (0, .ref (ad 3)), (1, .int (iv (((rows : Nat) : Int)))), (2, .int (iv (((c : Nat) : Int)))), (3, .int (iv (((num : Nat) : Int)))), (4, .int (iv (((side : Nat) : Int))))]) hX d_Sur_measure_32 (by decide) rfl ?_
    refine v_iload_n hX d_Sur_measure_34 2 rfl ?_
    refine v_iload hX d_Sur_measure_35 0 rfl ?_
    refine v_iconst hX (-1) d_Sur_measure_37 ?_
    refine v_ixor (z := (-1 - (((kLeft rK rL rows c num side) : Nat) : Int))) hX d_Sur_measure_38 (iv_not ((kLeft rK rL rows c num side))) ?_
    refine v_iand (z := (((nd rows (kLeft rK rL rows c num side)) : Nat) : Int)) hX d_Sur_measure_39 (iv_andnot (rows) ((kLeft rK rL rows c num side))) ?_
    refine v_istore (lv' := [(6, .int (iv ((((nd rows (kLeft rK rL rows c num side)) : Nat) : Int)))), (5, .int (iv ((((kLeft rK rL rows c num side) : Nat) : Int)))), (0, .ref (ad 3)), (1, .int (iv (((rows : Nat) : Int)))), (2, .int (iv (((c : Nat) : Int)))), (3, .int (iv (((num : Nat) : Int)))), (4, .int (iv (((side : Nat) : Int))))]) hX d_Sur_measure_40 (by decide) rfl ?_
    refine v_iload hX d_Sur_measure_42 1 rfl ?_
    refine g_callSI (As := [.int (iv ((((kLeft rK rL rows c num side) : Nat) : Int)))]) (st := []) hX (k0_Int_bitCount (kLeft rK rL rows c num side) (by first | exact hLl | exact hRr)) cl_Sur_65 d_Sur_measure_44 rfl ⟨by decide, by decide⟩ ⟨by decide, by decide⟩ (Nat.le_of_ble_eq_true rfl) (fun z7 hz8 hp9 => ?_)
    subst hp9
    refine v_istore (lv' := [(7, .int (iv ((((cnt (kLeft rK rL rows c num side)) : Nat) : Int)))), (6, .int (iv ((((nd rows (kLeft rK rL rows c num side)) : Nat) : Int)))), (5, .int (iv ((((kLeft rK rL rows c num side) : Nat) : Int)))), (0, .ref (ad 3)), (1, .int (iv (((rows : Nat) : Int)))), (2, .int (iv (((c : Nat) : Int)))), (3, .int (iv (((num : Nat) : Int)))), (4, .int (iv (((side : Nat) : Int))))]) hX d_Sur_measure_47 (by decide) rfl ?_
    refine v_iload hX d_Sur_measure_49 1 rfl ?_
    refine g_callSI (As := [.int (iv ((((nd rows (kLeft rK rL rows c num side)) : Nat) : Int)))]) (st := []) hX (k0_Int_bitCount (nd rows (kLeft rK rL rows c num side)) (by first | exact hLl | exact hRr)) cl_Sur_65 d_Sur_measure_51 rfl ⟨by decide, by decide⟩ ⟨by decide, by decide⟩ (Nat.le_of_ble_eq_true rfl) (fun z10 hz11 hp12 => ?_)
    subst hp12
    refine v_istore (lv' := [(8, .int (iv ((((cnt (nd rows (kLeft rK rL rows c num side))) : Nat) : Int)))), (7, .int (iv ((((cnt (kLeft rK rL rows c num side)) : Nat) : Int)))), (6, .int (iv ((((nd rows (kLeft rK rL rows c num side)) : Nat) : Int)))), (5, .int (iv ((((kLeft rK rL rows c num side) : Nat) : Int)))), (0, .ref (ad 3)), (1, .int (iv (((rows : Nat) : Int)))), (2, .int (iv (((c : Nat) : Int)))), (3, .int (iv (((num : Nat) : Int)))), (4, .int (iv (((side : Nat) : Int))))]) hX d_Sur_measure_54 (by decide) rfl ?_
    refine v_iload hX d_Sur_measure_56 1 rfl ?_
    refine v_aload_n hX d_Sur_measure_58 4 rfl ?_
    refine g_get (i := 3) hX hj fl_Sur_25 d_Sur_measure_59 (by omega) hS rfl ?_
    refine g_get (i := 2) hX hj fl_Sur_71 d_Sur_measure_62 (by omega) hL rfl ?_
    refine v_icmp_lt (tgt := 80) hX d_Sur_measure_65 (by decide) (by unfold ir; omega) (by unfold ir; omega) (fun c65_2 => ?_) (fun c65_2 => ?_)
    · refine v_iconst hX (0) d_Sur_measure_80 ?_
      exact hret _ _ _ _ d_Sur_measure_81 (by unfold ir; omega) ⟨_, rfl, Or.inr ⟨fun q => by obtain ⟨q1, q2, q3⟩ := kMay_of q; omega, rfl, rfl⟩⟩ rfl
    · refine v_iload hX d_Sur_measure_68 0 rfl ?_
      refine v_aload_n hX d_Sur_measure_70 4 rfl ?_
      refine g_get (i := 3) hX hj fl_Sur_25 d_Sur_measure_71 (by omega) hS rfl ?_
      refine g_get (i := 2) hX hj fl_Sur_71 d_Sur_measure_74 (by omega) hL rfl ?_
      refine v_icmp_ge (tgt := 82) hX d_Sur_measure_77 (by decide) (by unfold ir; omega) (by unfold ir; omega) (fun c77_3 => ?_) (fun c77_3 => ?_)
      · refine v_iload hX d_Sur_measure_82 1 rfl ?_
        refine v_iload hX d_Sur_measure_84 0 rfl ?_
        refine v_iaddN (a := (cnt (kLeft rK rL rows c num side))) (b := (cnt (nd rows (kLeft rK rL rows c num side)))) hX d_Sur_measure_86 ?_
        refine v_istore (lv' := [(9, .int (iv (((((cnt (kLeft rK rL rows c num side)) + (cnt (nd rows (kLeft rK rL rows c num side)))) : Nat) : Int)))), (8, .int (iv ((((cnt (nd rows (kLeft rK rL rows c num side))) : Nat) : Int)))), (7, .int (iv ((((cnt (kLeft rK rL rows c num side)) : Nat) : Int)))), (6, .int (iv ((((nd rows (kLeft rK rL rows c num side)) : Nat) : Int)))), (5, .int (iv ((((kLeft rK rL rows c num side) : Nat) : Int)))), (0, .ref (ad 3)), (1, .int (iv (((rows : Nat) : Int)))), (2, .int (iv (((c : Nat) : Int)))), (3, .int (iv (((num : Nat) : Int)))), (4, .int (iv (((side : Nat) : Int))))]) hX d_Sur_measure_87 (by decide) rfl ?_
        refine v_aload_n hX d_Sur_measure_89 5 rfl ?_
        refine g_get (i := 3) hX hj fl_Sur_21 d_Sur_measure_90 (by omega) hS rfl ?_
        refine v_iload hX d_Sur_measure_93 4 rfl ?_
        refine g_callVI (As := [.int (iv ((((kLeft rK rL rows c num side) : Nat) : Int)))]) (st := []) hX hj (i := 1) (by omega) hT.1 (m_Tab_squaresOf hj hT hB (kLeft rK rL rows c num side) (by first | exact hR | exact hLl | exact hRr)) cl_Sur_77 d_Sur_measure_95 rfl ⟨by decide, by decide⟩ ⟨by decide, by decide⟩ (Nat.le_of_ble_eq_true rfl) (fun z13 σ14 hz15 hp16 => ?_)
        obtain ⟨he17, hv18⟩ := hp16
        rw [he17]
        subst hv18
        refine v_iload hX d_Sur_measure_98 1 rfl ?_
        refine v_imulN (a := (kSq rC (kLeft rK rL rows c num side))) (b := (cnt (nd rows (kLeft rK rL rows c num side)))) hX d_Sur_measure_100 ?_
        refine v_aload_n hX d_Sur_measure_101 5 rfl ?_
        refine g_get (i := 3) hX hj fl_Sur_21 d_Sur_measure_102 (by omega) hS rfl ?_
        refine v_iload hX d_Sur_measure_105 3 rfl ?_
        refine g_callVI (As := [.int (iv ((((nd rows (kLeft rK rL rows c num side)) : Nat) : Int)))]) (st := [.int (iv (((((kSq rC (kLeft rK rL rows c num side)) * (cnt (nd rows (kLeft rK rL rows c num side)))) : Nat) : Int)))]) hX hj (i := 1) (by omega) hT.1 (m_Tab_squaresOf hj hT hB (nd rows (kLeft rK rL rows c num side)) (by first | exact hR | exact hLl | exact hRr)) cl_Sur_77 d_Sur_measure_107 rfl ⟨by decide, by decide⟩ ⟨by decide, by decide⟩ (Nat.le_of_ble_eq_true rfl) (fun z19 σ20 hz21 hp22 => ?_)
        obtain ⟨he23, hv24⟩ := hp22
        rw [he23]
        subst hv24
        refine v_iload hX d_Sur_measure_110 2 rfl ?_
        refine v_imulN (a := (kSq rC (nd rows (kLeft rK rL rows c num side)))) (b := (cnt (kLeft rK rL rows c num side))) hX d_Sur_measure_112 ?_
        refine v_iaddN (a := ((kSq rC (kLeft rK rL rows c num side)) * (cnt (nd rows (kLeft rK rL rows c num side))))) (b := ((kSq rC (nd rows (kLeft rK rL rows c num side))) * (cnt (kLeft rK rL rows c num side)))) hX d_Sur_measure_113 ?_
        refine v_istore (lv' := [(10, .int (iv ((((((kSq rC (kLeft rK rL rows c num side)) * (cnt (nd rows (kLeft rK rL rows c num side)))) + ((kSq rC (nd rows (kLeft rK rL rows c num side))) * (cnt (kLeft rK rL rows c num side)))) : Nat) : Int)))), (9, .int (iv (((((cnt (kLeft rK rL rows c num side)) + (cnt (nd rows (kLeft rK rL rows c num side)))) : Nat) : Int)))), (8, .int (iv ((((cnt (nd rows (kLeft rK rL rows c num side))) : Nat) : Int)))), (7, .int (iv ((((cnt (kLeft rK rL rows c num side)) : Nat) : Int)))), (6, .int (iv ((((nd rows (kLeft rK rL rows c num side)) : Nat) : Int)))), (5, .int (iv ((((kLeft rK rL rows c num side) : Nat) : Int)))), (0, .ref (ad 3)), (1, .int (iv (((rows : Nat) : Int)))), (2, .int (iv (((c : Nat) : Int)))), (3, .int (iv (((num : Nat) : Int)))), (4, .int (iv (((side : Nat) : Int))))]) hX d_Sur_measure_114 (by decide) rfl ?_
        refine v_aload_n hX d_Sur_measure_116 6 rfl ?_
        refine g_get (i := 3) hX hj fl_Sur_21 d_Sur_measure_117 (by omega) hS rfl ?_
        refine v_iload_n hX d_Sur_measure_120 7 rfl ?_
        refine g_callVI (As := [.int (iv (((rows : Nat) : Int)))]) (st := []) hX hj (i := 1) (by omega) hT.1 (m_Tab_squaresOf hj hT hB rows (by first | exact hR | exact hLl | exact hRr)) cl_Sur_77 d_Sur_measure_121 rfl ⟨by decide, by decide⟩ ⟨by decide, by decide⟩ (Nat.le_of_ble_eq_true rfl) (fun z25 σ26 hz27 hp28 => ?_)
        obtain ⟨he29, hv30⟩ := hp28
        rw [he29]
        subst hv30
        refine v_iload hX d_Sur_measure_124 3 rfl ?_
        refine v_imulN (a := (kSq rC rows)) (b := (cnt (kLeft rK rL rows c num side))) hX d_Sur_measure_126 ?_
        refine v_iload hX d_Sur_measure_127 2 rfl ?_
        refine v_imulN (a := ((kSq rC rows) * (cnt (kLeft rK rL rows c num side)))) (b := (cnt (nd rows (kLeft rK rL rows c num side)))) hX d_Sur_measure_129 ?_
        refine v_istore (lv' := [(11, .int (iv ((((((kSq rC rows) * (cnt (kLeft rK rL rows c num side))) * (cnt (nd rows (kLeft rK rL rows c num side)))) : Nat) : Int)))), (10, .int (iv ((((((kSq rC (kLeft rK rL rows c num side)) * (cnt (nd rows (kLeft rK rL rows c num side)))) + ((kSq rC (nd rows (kLeft rK rL rows c num side))) * (cnt (kLeft rK rL rows c num side)))) : Nat) : Int)))), (9, .int (iv (((((cnt (kLeft rK rL rows c num side)) + (cnt (nd rows (kLeft rK rL rows c num side)))) : Nat) : Int)))), (8, .int (iv ((((cnt (nd rows (kLeft rK rL rows c num side))) : Nat) : Int)))), (7, .int (iv ((((cnt (kLeft rK rL rows c num side)) : Nat) : Int)))), (6, .int (iv ((((nd rows (kLeft rK rL rows c num side)) : Nat) : Int)))), (5, .int (iv ((((kLeft rK rL rows c num side) : Nat) : Int)))), (0, .ref (ad 3)), (1, .int (iv (((rows : Nat) : Int)))), (2, .int (iv (((c : Nat) : Int)))), (3, .int (iv (((num : Nat) : Int)))), (4, .int (iv (((side : Nat) : Int))))]) hX d_Sur_measure_130 (by decide) rfl ?_
        refine v_aload_n hX d_Sur_measure_132 7 rfl ?_
        refine g_get (i := 3) hX hj fl_Sur_12 d_Sur_measure_133 (by omega) hS rfl ?_
        refine v_iload_n hX d_Sur_measure_136 9 rfl ?_
        refine v_iload_n hX d_Sur_measure_137 10 rfl ?_
        refine v_iload hX d_Sur_measure_138 11 rfl ?_
        refine g_callVV (As := [.int (iv (((c : Nat) : Int))), .int (iv (((num : Nat) : Int))), .int (iv (((side : Nat) : Int)))]) (st := []) hX hj (i := 4) (by omega) hc4 (m_Cut_become hj 4 5 (by decide) x0 x1 x2 hc4 c num side) cl_Sur_80 d_Sur_measure_140 rfl ⟨by decide, by decide⟩ ⟨by decide, by decide⟩ (Nat.le_of_ble_eq_true rfl) (fun σ32 hp34 => ?_)
        have hf35 := (show σ32 (3) = σ (3) by rw [hp34, va_up_ne _ _ (by omega)]).trans hS
        have hf36 := (show σ32 (2) = σ (2) by rw [hp34, va_up_ne _ _ (by omega)]).trans hL
        have hf37 := (show σ32 (5) = σ (5) by rw [hp34, va_up_ne _ _ (by omega)]).trans hf5
        have hf38 := (show σ32 (1) = σ (1) by rw [hp34, va_up_ne _ _ (by omega)]).trans hT.1
        have hf39 : σ32 (4) = (eO 0 [.ref (ad 5), .int (iv c), .int (iv num), .int (iv side)]) := by rw [hp34, va_up_self]
        refine v_aload_n hX d_Sur_measure_143 7 rfl ?_
        refine g_get (i := 3) hX hj fl_Sur_12 d_Sur_measure_144 (by omega) hf35 rfl ?_
        refine g_get (i := 4) hX hj fl_Sur_43 d_Sur_measure_147 (by omega) hf39 rfl ?_
        refine v_iload hX d_Sur_measure_150 1 rfl ?_
        refine v_iload hX d_Sur_measure_152 2 rfl ?_
        refine v_imulN (a := (((kSq rC (kLeft rK rL rows c num side)) * (cnt (nd rows (kLeft rK rL rows c num side)))) + ((kSq rC (nd rows (kLeft rK rL rows c num side))) * (cnt (kLeft rK rL rows c num side))))) (b := ((cnt (kLeft rK rL rows c num side)) + (cnt (nd rows (kLeft rK rL rows c num side))))) hX d_Sur_measure_154 ?_
        refine v_iload hX d_Sur_measure_155 0 rfl ?_
        refine v_isub hX d_Sur_measure_157 ?_
        refine v_top (x' := iv (kAb rC rK rL rows c num side)) rfl ?_
        refine v_iload hX d_Sur_measure_158 4 rfl ?_
        refine v_iload hX d_Sur_measure_160 3 rfl ?_
        refine v_imulN (a := (cnt (kLeft rK rL rows c num side))) (b := (cnt (nd rows (kLeft rK rL rows c num side)))) hX d_Sur_measure_162 ?_
        refine v_iload hX d_Sur_measure_163 2 rfl ?_
        refine v_imulN (a := ((cnt (kLeft rK rL rows c num side)) * (cnt (nd rows (kLeft rK rL rows c num side))))) (b := ((cnt (kLeft rK rL rows c num side)) + (cnt (nd rows (kLeft rK rL rows c num side))))) hX d_Sur_measure_165 ?_
        refine v_top (x' := iv (((kBe rK rL rows c num side) : Nat) : Int)) rfl ?_
        refine g_callVV (As := [.int (iv ((kAb rC rK rL rows c num side))), .int (iv ((((kBe rK rL rows c num side) : Nat) : Int)))]) (st := []) hX hj (i := 5) (by omega) hf37 (m_Fra_become hj 5 (by decide) u v hf37 (kAb rC rK rL rows c num side) ((kBe rK rL rows c num side : Nat) : Int)) cl_Sur_84 d_Sur_measure_166 rfl ⟨by decide, by decide⟩ ⟨by decide, by decide⟩ (Nat.le_of_ble_eq_true rfl) (fun σ41 hp43 => ?_)
        have hf44 := (show σ41 (3) = σ32 (3) by rw [hp43, va_up_ne _ _ (by omega)]).trans hf35
        have hf45 := (show σ41 (2) = σ32 (2) by rw [hp43, va_up_ne _ _ (by omega)]).trans hf36
        have hf46 := (show σ41 (1) = σ32 (1) by rw [hp43, va_up_ne _ _ (by omega)]).trans hf38
        have hf47 := (show σ41 (4) = σ32 (4) by rw [hp43, va_up_ne _ _ (by omega)]).trans hf39
        have hf48 : σ41 (5) = (eO 1 [.int (iv (kAb rC rK rL rows c num side)), .int (iv ((kBe rK rL rows c num side : Nat) : Int))]) := by rw [hp43, va_up_self]
        refine v_iconst hX (1) d_Sur_measure_169 ?_
        exact hret _ _ _ _ d_Sur_measure_170 (by unfold ir; omega) ⟨_, rfl, Or.inl ⟨kMay_t (by omega) (by omega) (by omega), rfl, by rw [hp43, hp34]⟩⟩ rfl
      · refine v_iconst hX (0) d_Sur_measure_80 ?_
        exact hret _ _ _ _ d_Sur_measure_81 (by unfold ir; omega) ⟨_, rfl, Or.inr ⟨fun q => by obtain ⟨q1, q2, q3⟩ := kMay_of q; omega, rfl, rfl⟩⟩ rfl
  · refine v_aload_n hX d_Sur_measure_6 0 rfl ?_
    refine g_get (i := 3) hX hj fl_Sur_21 d_Sur_measure_7 (by omega) hS rfl ?_
    refine v_iload_n hX d_Sur_measure_10 1 rfl ?_
    refine v_iload_n hX d_Sur_measure_11 2 rfl ?_
    refine g_callVI (As := [.int (iv (((rows : Nat) : Int))), .int (iv (((c : Nat) : Int)))]) (st := []) hX hj (i := 1) (by omega) hT.1 (m_Tab_unknownOf hj hT hB rows c hR hc) cl_Sur_57 d_Sur_measure_12 rfl ⟨by decide, by decide⟩ ⟨by decide, by decide⟩ (Nat.le_of_ble_eq_true rfl) (fun z49 σ50 hz51 hp52 => ?_)
    obtain ⟨he53, hv54⟩ := hp52
    rw [he53]
    subst hv54
    refine v_if_ne (tgt := 20) hX d_Sur_measure_15 (by decide) (ir_n (Nat.lt_of_le_of_lt (nd_le _ _) (by omega))) (fun c15_4 => ?_) (fun c15_4 => ?_)
    · refine v_aload_n hX d_Sur_measure_20 0 rfl ?_
      refine g_get (i := 3) hX hj fl_Sur_21 d_Sur_measure_21 (by omega) hS rfl ?_
      refine v_iload_n hX d_Sur_measure_24 1 rfl ?_
      refine v_iload_n hX d_Sur_measure_25 2 rfl ?_
      refine v_iload_n hX d_Sur_measure_26 3 rfl ?_
      refine v_iload hX d_Sur_measure_27 4 rfl ?_
      refine g_callVI (As := [.int (iv (((rows : Nat) : Int))), .int (iv (((c : Nat) : Int))), .int (iv (((num : Nat) : Int))), .int (iv (((side : Nat) : Int)))]) (st := []) hX hj (i := 1) (by omega) hT.1 (m_Tab_leftOf hj hT hB rows c num side hR hc hn hs) cl_Sur_61 d_Sur_measure_29 rfl ⟨by decide, by decide⟩ ⟨by decide, by decide⟩ (Nat.le_of_ble_eq_true rfl) (fun z55 σ56 hz57 hp58 => ?_)
      obtain ⟨he59, hv60⟩ := hp58
      rw [he59]
      subst hv60
      refine v_istore (lv' := [(5, .int (iv ((((kLeft rK rL rows c num side) : Nat) : Int)))), (0, .ref (ad 3)), (1, .int (iv (((rows : Nat) : Int)))), (2, .int (iv (((c : Nat) : Int)))), (3, .int (iv (((num : Nat) : Int)))), (4, .int (iv (((side : Nat) : Int))))]) hX d_Sur_measure_32 (by decide) rfl ?_
      refine v_iload_n hX d_Sur_measure_34 2 rfl ?_
      refine v_iload hX d_Sur_measure_35 0 rfl ?_
      refine v_iconst hX (-1) d_Sur_measure_37 ?_
      refine v_ixor (z := (-1 - (((kLeft rK rL rows c num side) : Nat) : Int))) hX d_Sur_measure_38 (iv_not ((kLeft rK rL rows c num side))) ?_
      refine v_iand (z := (((nd rows (kLeft rK rL rows c num side)) : Nat) : Int)) hX d_Sur_measure_39 (iv_andnot (rows) ((kLeft rK rL rows c num side))) ?_
      refine v_istore (lv' := [(6, .int (iv ((((nd rows (kLeft rK rL rows c num side)) : Nat) : Int)))), (5, .int (iv ((((kLeft rK rL rows c num side) : Nat) : Int)))), (0, .ref (ad 3)), (1, .int (iv (((rows : Nat) : Int)))), (2, .int (iv (((c : Nat) : Int)))), (3, .int (iv (((num : Nat) : Int)))), (4, .int (iv (((side : Nat) : Int))))]) hX d_Sur_measure_40 (by decide) rfl ?_
      refine v_iload hX d_Sur_measure_42 1 rfl ?_
      refine g_callSI (As := [.int (iv ((((kLeft rK rL rows c num side) : Nat) : Int)))]) (st := []) hX (k0_Int_bitCount (kLeft rK rL rows c num side) (by first | exact hLl | exact hRr)) cl_Sur_65 d_Sur_measure_44 rfl ⟨by decide, by decide⟩ ⟨by decide, by decide⟩ (Nat.le_of_ble_eq_true rfl) (fun z61 hz62 hp63 => ?_)
      subst hp63
      refine v_istore (lv' := [(7, .int (iv ((((cnt (kLeft rK rL rows c num side)) : Nat) : Int)))), (6, .int (iv ((((nd rows (kLeft rK rL rows c num side)) : Nat) : Int)))), (5, .int (iv ((((kLeft rK rL rows c num side) : Nat) : Int)))), (0, .ref (ad 3)), (1, .int (iv (((rows : Nat) : Int)))), (2, .int (iv (((c : Nat) : Int)))), (3, .int (iv (((num : Nat) : Int)))), (4, .int (iv (((side : Nat) : Int))))]) hX d_Sur_measure_47 (by decide) rfl ?_
      refine v_iload hX d_Sur_measure_49 1 rfl ?_
      refine g_callSI (As := [.int (iv ((((nd rows (kLeft rK rL rows c num side)) : Nat) : Int)))]) (st := []) hX (k0_Int_bitCount (nd rows (kLeft rK rL rows c num side)) (by first | exact hLl | exact hRr)) cl_Sur_65 d_Sur_measure_51 rfl ⟨by decide, by decide⟩ ⟨by decide, by decide⟩ (Nat.le_of_ble_eq_true rfl) (fun z64 hz65 hp66 => ?_)
      subst hp66
      refine v_istore (lv' := [(8, .int (iv ((((cnt (nd rows (kLeft rK rL rows c num side))) : Nat) : Int)))), (7, .int (iv ((((cnt (kLeft rK rL rows c num side)) : Nat) : Int)))), (6, .int (iv ((((nd rows (kLeft rK rL rows c num side)) : Nat) : Int)))), (5, .int (iv ((((kLeft rK rL rows c num side) : Nat) : Int)))), (0, .ref (ad 3)), (1, .int (iv (((rows : Nat) : Int)))), (2, .int (iv (((c : Nat) : Int)))), (3, .int (iv (((num : Nat) : Int)))), (4, .int (iv (((side : Nat) : Int))))]) hX d_Sur_measure_54 (by decide) rfl ?_
      refine v_iload hX d_Sur_measure_56 1 rfl ?_
      refine v_aload_n hX d_Sur_measure_58 4 rfl ?_
      refine g_get (i := 3) hX hj fl_Sur_25 d_Sur_measure_59 (by omega) hS rfl ?_
      refine g_get (i := 2) hX hj fl_Sur_71 d_Sur_measure_62 (by omega) hL rfl ?_
      refine v_icmp_lt (tgt := 80) hX d_Sur_measure_65 (by decide) (by unfold ir; omega) (by unfold ir; omega) (fun c65_5 => ?_) (fun c65_5 => ?_)
      · refine v_iconst hX (0) d_Sur_measure_80 ?_
        exact hret _ _ _ _ d_Sur_measure_81 (by unfold ir; omega) ⟨_, rfl, Or.inr ⟨fun q => by obtain ⟨q1, q2, q3⟩ := kMay_of q; omega, rfl, rfl⟩⟩ rfl
      · refine v_iload hX d_Sur_measure_68 0 rfl ?_
        refine v_aload_n hX d_Sur_measure_70 4 rfl ?_
        refine g_get (i := 3) hX hj fl_Sur_25 d_Sur_measure_71 (by omega) hS rfl ?_
        refine g_get (i := 2) hX hj fl_Sur_71 d_Sur_measure_74 (by omega) hL rfl ?_
        refine v_icmp_ge (tgt := 82) hX d_Sur_measure_77 (by decide) (by unfold ir; omega) (by unfold ir; omega) (fun c77_6 => ?_) (fun c77_6 => ?_)
        · refine v_iload hX d_Sur_measure_82 1 rfl ?_
          refine v_iload hX d_Sur_measure_84 0 rfl ?_
          refine v_iaddN (a := (cnt (kLeft rK rL rows c num side))) (b := (cnt (nd rows (kLeft rK rL rows c num side)))) hX d_Sur_measure_86 ?_
          refine v_istore (lv' := [(9, .int (iv (((((cnt (kLeft rK rL rows c num side)) + (cnt (nd rows (kLeft rK rL rows c num side)))) : Nat) : Int)))), (8, .int (iv ((((cnt (nd rows (kLeft rK rL rows c num side))) : Nat) : Int)))), (7, .int (iv ((((cnt (kLeft rK rL rows c num side)) : Nat) : Int)))), (6, .int (iv ((((nd rows (kLeft rK rL rows c num side)) : Nat) : Int)))), (5, .int (iv ((((kLeft rK rL rows c num side) : Nat) : Int)))), (0, .ref (ad 3)), (1, .int (iv (((rows : Nat) : Int)))), (2, .int (iv (((c : Nat) : Int)))), (3, .int (iv (((num : Nat) : Int)))), (4, .int (iv (((side : Nat) : Int))))]) hX d_Sur_measure_87 (by decide) rfl ?_
          refine v_aload_n hX d_Sur_measure_89 5 rfl ?_
          refine g_get (i := 3) hX hj fl_Sur_21 d_Sur_measure_90 (by omega) hS rfl ?_
          refine v_iload hX d_Sur_measure_93 4 rfl ?_
          refine g_callVI (As := [.int (iv ((((kLeft rK rL rows c num side) : Nat) : Int)))]) (st := []) hX hj (i := 1) (by omega) hT.1 (m_Tab_squaresOf hj hT hB (kLeft rK rL rows c num side) (by first | exact hR | exact hLl | exact hRr)) cl_Sur_77 d_Sur_measure_95 rfl ⟨by decide, by decide⟩ ⟨by decide, by decide⟩ (Nat.le_of_ble_eq_true rfl) (fun z67 σ68 hz69 hp70 => ?_)
          obtain ⟨he71, hv72⟩ := hp70
          rw [he71]
          subst hv72
          refine v_iload hX d_Sur_measure_98 1 rfl ?_
          refine v_imulN (a := (kSq rC (kLeft rK rL rows c num side))) (b := (cnt (nd rows (kLeft rK rL rows c num side)))) hX d_Sur_measure_100 ?_
          refine v_aload_n hX d_Sur_measure_101 5 rfl ?_
          refine g_get (i := 3) hX hj fl_Sur_21 d_Sur_measure_102 (by omega) hS rfl ?_
          refine v_iload hX d_Sur_measure_105 3 rfl ?_
          refine g_callVI (As := [.int (iv ((((nd rows (kLeft rK rL rows c num side)) : Nat) : Int)))]) (st := [.int (iv (((((kSq rC (kLeft rK rL rows c num side)) * (cnt (nd rows (kLeft rK rL rows c num side)))) : Nat) : Int)))]) hX hj (i := 1) (by omega) hT.1 (m_Tab_squaresOf hj hT hB (nd rows (kLeft rK rL rows c num side)) (by first | exact hR | exact hLl | exact hRr)) cl_Sur_77 d_Sur_measure_107 rfl ⟨by decide, by decide⟩ ⟨by decide, by decide⟩ (Nat.le_of_ble_eq_true rfl) (fun z73 σ74 hz75 hp76 => ?_)
          obtain ⟨he77, hv78⟩ := hp76
          rw [he77]
          subst hv78
          refine v_iload hX d_Sur_measure_110 2 rfl ?_
          refine v_imulN (a := (kSq rC (nd rows (kLeft rK rL rows c num side)))) (b := (cnt (kLeft rK rL rows c num side))) hX d_Sur_measure_112 ?_
          refine v_iaddN (a := ((kSq rC (kLeft rK rL rows c num side)) * (cnt (nd rows (kLeft rK rL rows c num side))))) (b := ((kSq rC (nd rows (kLeft rK rL rows c num side))) * (cnt (kLeft rK rL rows c num side)))) hX d_Sur_measure_113 ?_
          refine v_istore (lv' := [(10, .int (iv ((((((kSq rC (kLeft rK rL rows c num side)) * (cnt (nd rows (kLeft rK rL rows c num side)))) + ((kSq rC (nd rows (kLeft rK rL rows c num side))) * (cnt (kLeft rK rL rows c num side)))) : Nat) : Int)))), (9, .int (iv (((((cnt (kLeft rK rL rows c num side)) + (cnt (nd rows (kLeft rK rL rows c num side)))) : Nat) : Int)))), (8, .int (iv ((((cnt (nd rows (kLeft rK rL rows c num side))) : Nat) : Int)))), (7, .int (iv ((((cnt (kLeft rK rL rows c num side)) : Nat) : Int)))), (6, .int (iv ((((nd rows (kLeft rK rL rows c num side)) : Nat) : Int)))), (5, .int (iv ((((kLeft rK rL rows c num side) : Nat) : Int)))), (0, .ref (ad 3)), (1, .int (iv (((rows : Nat) : Int)))), (2, .int (iv (((c : Nat) : Int)))), (3, .int (iv (((num : Nat) : Int)))), (4, .int (iv (((side : Nat) : Int))))]) hX d_Sur_measure_114 (by decide) rfl ?_
          refine v_aload_n hX d_Sur_measure_116 6 rfl ?_
          refine g_get (i := 3) hX hj fl_Sur_21 d_Sur_measure_117 (by omega) hS rfl ?_
          refine v_iload_n hX d_Sur_measure_120 7 rfl ?_
          refine g_callVI (As := [.int (iv (((rows : Nat) : Int)))]) (st := []) hX hj (i := 1) (by omega) hT.1 (m_Tab_squaresOf hj hT hB rows (by first | exact hR | exact hLl | exact hRr)) cl_Sur_77 d_Sur_measure_121 rfl ⟨by decide, by decide⟩ ⟨by decide, by decide⟩ (Nat.le_of_ble_eq_true rfl) (fun z79 σ80 hz81 hp82 => ?_)
          obtain ⟨he83, hv84⟩ := hp82
          rw [he83]
          subst hv84
          refine v_iload hX d_Sur_measure_124 3 rfl ?_
          refine v_imulN (a := (kSq rC rows)) (b := (cnt (kLeft rK rL rows c num side))) hX d_Sur_measure_126 ?_
          refine v_iload hX d_Sur_measure_127 2 rfl ?_
          refine v_imulN (a := ((kSq rC rows) * (cnt (kLeft rK rL rows c num side)))) (b := (cnt (nd rows (kLeft rK rL rows c num side)))) hX d_Sur_measure_129 ?_
          refine v_istore (lv' := [(11, .int (iv ((((((kSq rC rows) * (cnt (kLeft rK rL rows c num side))) * (cnt (nd rows (kLeft rK rL rows c num side)))) : Nat) : Int)))), (10, .int (iv ((((((kSq rC (kLeft rK rL rows c num side)) * (cnt (nd rows (kLeft rK rL rows c num side)))) + ((kSq rC (nd rows (kLeft rK rL rows c num side))) * (cnt (kLeft rK rL rows c num side)))) : Nat) : Int)))), (9, .int (iv (((((cnt (kLeft rK rL rows c num side)) + (cnt (nd rows (kLeft rK rL rows c num side)))) : Nat) : Int)))), (8, .int (iv ((((cnt (nd rows (kLeft rK rL rows c num side))) : Nat) : Int)))), (7, .int (iv ((((cnt (kLeft rK rL rows c num side)) : Nat) : Int)))), (6, .int (iv ((((nd rows (kLeft rK rL rows c num side)) : Nat) : Int)))), (5, .int (iv ((((kLeft rK rL rows c num side) : Nat) : Int)))), (0, .ref (ad 3)), (1, .int (iv (((rows : Nat) : Int)))), (2, .int (iv (((c : Nat) : Int)))), (3, .int (iv (((num : Nat) : Int)))), (4, .int (iv (((side : Nat) : Int))))]) hX d_Sur_measure_130 (by decide) rfl ?_
          refine v_aload_n hX d_Sur_measure_132 7 rfl ?_
          refine g_get (i := 3) hX hj fl_Sur_12 d_Sur_measure_133 (by omega) hS rfl ?_
          refine v_iload_n hX d_Sur_measure_136 9 rfl ?_
          refine v_iload_n hX d_Sur_measure_137 10 rfl ?_
          refine v_iload hX d_Sur_measure_138 11 rfl ?_
          refine g_callVV (As := [.int (iv (((c : Nat) : Int))), .int (iv (((num : Nat) : Int))), .int (iv (((side : Nat) : Int)))]) (st := []) hX hj (i := 4) (by omega) hc4 (m_Cut_become hj 4 5 (by decide) x0 x1 x2 hc4 c num side) cl_Sur_80 d_Sur_measure_140 rfl ⟨by decide, by decide⟩ ⟨by decide, by decide⟩ (Nat.le_of_ble_eq_true rfl) (fun σ86 hp88 => ?_)
          have hf89 := (show σ86 (3) = σ (3) by rw [hp88, va_up_ne _ _ (by omega)]).trans hS
          have hf90 := (show σ86 (2) = σ (2) by rw [hp88, va_up_ne _ _ (by omega)]).trans hL
          have hf91 := (show σ86 (5) = σ (5) by rw [hp88, va_up_ne _ _ (by omega)]).trans hf5
          have hf92 := (show σ86 (1) = σ (1) by rw [hp88, va_up_ne _ _ (by omega)]).trans hT.1
          have hf93 : σ86 (4) = (eO 0 [.ref (ad 5), .int (iv c), .int (iv num), .int (iv side)]) := by rw [hp88, va_up_self]
          refine v_aload_n hX d_Sur_measure_143 7 rfl ?_
          refine g_get (i := 3) hX hj fl_Sur_12 d_Sur_measure_144 (by omega) hf89 rfl ?_
          refine g_get (i := 4) hX hj fl_Sur_43 d_Sur_measure_147 (by omega) hf93 rfl ?_
          refine v_iload hX d_Sur_measure_150 1 rfl ?_
          refine v_iload hX d_Sur_measure_152 2 rfl ?_
          refine v_imulN (a := (((kSq rC (kLeft rK rL rows c num side)) * (cnt (nd rows (kLeft rK rL rows c num side)))) + ((kSq rC (nd rows (kLeft rK rL rows c num side))) * (cnt (kLeft rK rL rows c num side))))) (b := ((cnt (kLeft rK rL rows c num side)) + (cnt (nd rows (kLeft rK rL rows c num side))))) hX d_Sur_measure_154 ?_
          refine v_iload hX d_Sur_measure_155 0 rfl ?_
          refine v_isub hX d_Sur_measure_157 ?_
          refine v_top (x' := iv (kAb rC rK rL rows c num side)) rfl ?_
          refine v_iload hX d_Sur_measure_158 4 rfl ?_
          refine v_iload hX d_Sur_measure_160 3 rfl ?_
          refine v_imulN (a := (cnt (kLeft rK rL rows c num side))) (b := (cnt (nd rows (kLeft rK rL rows c num side)))) hX d_Sur_measure_162 ?_
          refine v_iload hX d_Sur_measure_163 2 rfl ?_
          refine v_imulN (a := ((cnt (kLeft rK rL rows c num side)) * (cnt (nd rows (kLeft rK rL rows c num side))))) (b := ((cnt (kLeft rK rL rows c num side)) + (cnt (nd rows (kLeft rK rL rows c num side))))) hX d_Sur_measure_165 ?_
          refine v_top (x' := iv (((kBe rK rL rows c num side) : Nat) : Int)) rfl ?_
          refine g_callVV (As := [.int (iv ((kAb rC rK rL rows c num side))), .int (iv ((((kBe rK rL rows c num side) : Nat) : Int)))]) (st := []) hX hj (i := 5) (by omega) hf91 (m_Fra_become hj 5 (by decide) u v hf91 (kAb rC rK rL rows c num side) ((kBe rK rL rows c num side : Nat) : Int)) cl_Sur_84 d_Sur_measure_166 rfl ⟨by decide, by decide⟩ ⟨by decide, by decide⟩ (Nat.le_of_ble_eq_true rfl) (fun σ95 hp97 => ?_)
          have hf98 := (show σ95 (3) = σ86 (3) by rw [hp97, va_up_ne _ _ (by omega)]).trans hf89
          have hf99 := (show σ95 (2) = σ86 (2) by rw [hp97, va_up_ne _ _ (by omega)]).trans hf90
          have hf100 := (show σ95 (1) = σ86 (1) by rw [hp97, va_up_ne _ _ (by omega)]).trans hf92
          have hf101 := (show σ95 (4) = σ86 (4) by rw [hp97, va_up_ne _ _ (by omega)]).trans hf93
          have hf102 : σ95 (5) = (eO 1 [.int (iv (kAb rC rK rL rows c num side)), .int (iv ((kBe rK rL rows c num side : Nat) : Int))]) := by rw [hp97, va_up_self]
          refine v_iconst hX (1) d_Sur_measure_169 ?_
          exact hret _ _ _ _ d_Sur_measure_170 (by unfold ir; omega) ⟨_, rfl, Or.inl ⟨kMay_t (by omega) (by omega) (by omega), rfl, by rw [hp97, hp88]⟩⟩ rfl
        · refine v_iconst hX (0) d_Sur_measure_80 ?_
          exact hret _ _ _ _ d_Sur_measure_81 (by unfold ir; omega) ⟨_, rfl, Or.inr ⟨fun q => by obtain ⟨q1, q2, q3⟩ := kMay_of q; omega, rfl, rfl⟩⟩ rfl
    · refine v_iconst hX (0) d_Sur_measure_18 ?_
      exact hret _ _ _ _ d_Sur_measure_19 (by unfold ir; omega) ⟨_, rfl, Or.inr ⟨fun q => by obtain ⟨q1, q2, q3⟩ := kMay_of q; omega, rfl, rfl⟩⟩ rfl

set_option maxHeartbeats 1000000 in
set_option maxRecDepth 100000 in
theorem m_Sur_keepIfBetter {G : xG} {f0 : xF} {ad : Nat → Nat} (hj : adOk ad 400) {σ : xF} (hS : pSur ad σ) (x0 x1 x2 u v y0 y1 y2 a b : Int) (hc4 : pCut ad σ 4 5 x0 x1 x2) (hf5 : pFra σ 5 u v) (hc6 : pCut ad σ 6 7 y0 y1 y2) (hf7 : pFra σ 7 a b) (ru : ir u) (rv : ir v) (ra : ir a) (rb : ir b) (t : Int) (ht : t = 0 ∨ t = 1) : ∀ l, gVo l G f0 ad 400 y_Sur_keepIfBetter (.code y_Sur_keepIfBetter c_Sur_keepIfBetter 2 none) rm_Sur_keepIfBetter [.ref (ad 3), .int (iv (t))] σ (fun σ' => ((t = 1 ∨ a * v < u * b) ∧ σ' = va_up (va_up σ 6 (eO 0 [.ref (ad 7), .int (iv x0), .int (iv x1), .int (iv x2)])) 7 (eO 1 [.int (iv u), .int (iv v)])) ∨ (¬ (t = 1 ∨ a * v < u * b) ∧ σ' = σ)) := by
  intro l
  refine mV_of (by decide) (Nat.le_of_ble_eq_true rfl) (fun X hX hret => ?_)
  show vV G X 0 0 0 [(0, .ref (ad 3)), (1, .int (iv (t)))] [] (ov f0 ad 400 σ)
  refine v_iload_n hX d_Sur_keepIfBetter_0 1 rfl ?_
  refine v_if_ne (tgt := 24) hX d_Sur_keepIfBetter_1 (by decide) (by unfold ir; omega) (fun c1_1 => ?_) (fun c1_1 => ?_)
  · refine v_aload_n hX d_Sur_keepIfBetter_24 0 rfl ?_
    refine g_get (i := 3) hX hj fl_Sur_18 d_Sur_keepIfBetter_25 (by omega) hS rfl ?_
    refine v_aload_n hX d_Sur_keepIfBetter_28 0 rfl ?_
    refine g_get (i := 3) hX hj fl_Sur_12 d_Sur_keepIfBetter_29 (by omega) hS rfl ?_
    refine g_callVV (As := [.ref (ad 4)]) (st := []) hX hj (i := 6) (by omega) hc6 (m_Cut_becomeAs hj 6 7 (by decide) y0 y1 y2 hc6 4 5 (by decide) x0 x1 x2 hc4 (by decide) (by decide) a b u v hf7 hf5 (by decide) (by decide) (by decide) (by decide) (by decide) (by decide)) cl_Sur_53 d_Sur_keepIfBetter_32 rfl ⟨by decide, by decide⟩ ⟨by decide, by decide⟩ (Nat.le_of_ble_eq_true rfl) (fun σ2 hp4 => ?_)
    exact hret _ _ _ d_Sur_keepIfBetter_35 ⟨_, rfl, Or.inl ⟨by omega, hp4⟩⟩
  · refine v_aload_n hX d_Sur_keepIfBetter_4 0 rfl ?_
    refine g_get (i := 3) hX hj fl_Sur_12 d_Sur_keepIfBetter_5 (by omega) hS rfl ?_
    refine g_get (i := 4) hX hj fl_Sur_43 d_Sur_keepIfBetter_8 (by omega) hc4 rfl ?_
    refine v_aload_n hX d_Sur_keepIfBetter_11 0 rfl ?_
    refine g_get (i := 3) hX hj fl_Sur_18 d_Sur_keepIfBetter_12 (by omega) hS rfl ?_
    refine g_get (i := 6) hX hj fl_Sur_43 d_Sur_keepIfBetter_15 (by omega) hc6 rfl ?_
    refine g_callVI (As := [.ref (ad 7)]) (st := []) hX hj (i := 5) (by omega) hf5 (m_Fra_compareWith hj 5 (by decide) u v hf5 7 (by decide) a b hf7 ru rv ra rb) cl_Sur_47 d_Sur_keepIfBetter_18 rfl ⟨by decide, by decide⟩ ⟨by decide, by decide⟩ (Nat.le_of_ble_eq_true rfl) (fun z5 σ6 hz7 hp8 => ?_)
    obtain ⟨he9, hv10⟩ := hp8
    rw [he9]
    have hv1 : 0 < z5 ↔ a * v < u * b := by rw [hv10]; split <;> first | omega | (split <;> omega)
    refine v_if_le (tgt := 35) hX d_Sur_keepIfBetter_21 (by decide) (by unfold ir; omega) (fun c21_2 => ?_) (fun c21_2 => ?_)
    · exact hret _ _ _ d_Sur_keepIfBetter_35 ⟨_, rfl, Or.inr ⟨by omega, rfl⟩⟩
    · refine v_aload_n hX d_Sur_keepIfBetter_24 0 rfl ?_
      refine g_get (i := 3) hX hj fl_Sur_18 d_Sur_keepIfBetter_25 (by omega) hS rfl ?_
      refine v_aload_n hX d_Sur_keepIfBetter_28 0 rfl ?_
      refine g_get (i := 3) hX hj fl_Sur_12 d_Sur_keepIfBetter_29 (by omega) hS rfl ?_
      refine g_callVV (As := [.ref (ad 4)]) (st := []) hX hj (i := 6) (by omega) hc6 (m_Cut_becomeAs hj 6 7 (by decide) y0 y1 y2 hc6 4 5 (by decide) x0 x1 x2 hc4 (by decide) (by decide) a b u v hf7 hf5 (by decide) (by decide) (by decide) (by decide) (by decide) (by decide)) cl_Sur_53 d_Sur_keepIfBetter_32 rfl ⟨by decide, by decide⟩ ⟨by decide, by decide⟩ (Nat.le_of_ble_eq_true rfl) (fun σ12 hp14 => ?_)
      exact hret _ _ _ d_Sur_keepIfBetter_35 ⟨_, rfl, Or.inl ⟨by omega, hp14⟩⟩
end
section
/-! THE SURVEY'S LOOPS in numbers -/
noncomputable def lkD (rC rK : Nat → Nat) (rL : Nat → Nat → Nat) (le rows c num : Nat) : Nat → lkB → lkB
  | 0, B => B
  | d + 1, B => lkS rC rK rL le rows c num d (lkD rC rK rL le rows c num d B)
theorem lk_no {rC rK : Nat → Nat} {rL : Nat → Nat → Nat} {le rows c num side : Nat} {B : lkB} (h : ¬ kMay rK rL le rows c num side = true) : lkS rC rK rL le rows c num side B = B := by
  unfold lkS
  rw [if_neg h]
theorem lk_a {rC rK : Nat → Nat} {rL : Nat → Nat → Nat} {le rows c num side : Nat} {B : lkB} (h : kMay rK rL le rows c num side = true) (h2 : B.1 = 0 ∨ B.2.2.2.2.1 * (kBe rK rL rows c num side : Int) < kAb rC rK rL rows c num side * B.2.2.2.2.2) : lkS rC rK rL le rows c num side B = (B.1 + 1, (c : Int), (num : Int), (side : Int), kAb rC rK rL rows c num side, (kBe rK rL rows c num side : Int)) := by
  unfold lkS
  rw [if_pos h, if_pos h2]
theorem lk_b {rC rK : Nat → Nat} {rL : Nat → Nat → Nat} {le rows c num side : Nat} {B : lkB} (h : kMay rK rL le rows c num side = true) (h2 : ¬ (B.1 = 0 ∨ B.2.2.2.2.1 * (kBe rK rL rows c num side : Int) < kAb rC rK rL rows c num side * B.2.2.2.2.2)) : lkS rC rK rL le rows c num side B = (B.1 + 1, B.2) := by
  unfold lkS
  rw [if_pos h, if_neg h2]
theorem lkI_tr {ad : Nat → Nat} {σ σv : xF} {B : lkB} (h : lkI ad σ σv B) {c n s a b : Int} {σw : xF} (hw : σw = va_up (va_up σv 4 (eO 0 [.ref (ad 5), .int (iv c), .int (iv n), .int (iv s)])) 5 (eO 1 [.int (iv a), .int (iv b)])) : lkI ad σ σw B ∧ pCut ad σw 4 5 c n s ∧ pFra σw 5 a b := by
  obtain ⟨h1, h2, h3, h4, h5, h6, h7⟩ := h
  have e4 : pCut ad σw 4 5 c n s := by unfold pCut; rw [hw, va_up_ne _ _ (by decide), va_up_self]
  have e5 : pFra σw 5 a b := by unfold pFra; rw [hw, va_up_self]
  refine ⟨⟨fun q q4 q5 q6 q7 => ?_, ⟨c, n, s, e4⟩, ⟨a, b, e5⟩, ?_, ?_, h6, h7⟩, e4, e5⟩
  · rw [hw, va_up_ne _ _ q5, va_up_ne _ _ q4]; exact h1 q q4 q5 q6 q7
  · unfold pCut; rw [hw, va_up_ne _ _ (by decide), va_up_ne _ _ (by decide)]; exact h4
  · unfold pFra; rw [hw, va_up_ne _ _ (by decide), va_up_ne _ _ (by decide)]; exact h5
theorem lkI_be {ad : Nat → Nat} {σ σv : xF} {B : lkB} (h : lkI ad σ σv B) {f : Nat} {c n s a b : Int} (ra : ir a) (rb : ir b) {σw : xF} (hw : σw = va_up (va_up σv 6 (eO 0 [.ref (ad 7), .int (iv c), .int (iv n), .int (iv s)])) 7 (eO 1 [.int (iv a), .int (iv b)])) : lkI ad σ σw (f, c, n, s, a, b) := by
  obtain ⟨h1, ⟨c4, n4, s4, h2⟩, ⟨a5, b5, h3⟩, h4, h5, h6, h7⟩ := h
  refine ⟨fun q q4 q5 q6 q7 => ?_, ⟨c4, n4, s4, ?_⟩, ⟨a5, b5, ?_⟩, ?_, ?_, ra, rb⟩
  · rw [hw, va_up_ne _ _ q7, va_up_ne _ _ q6]; exact h1 q q4 q5 q6 q7
  · unfold pCut; rw [hw, va_up_ne _ _ (by decide), va_up_ne _ _ (by decide)]; exact h2
  · unfold pFra; rw [hw, va_up_ne _ _ (by decide), va_up_ne _ _ (by decide)]; exact h3
  · unfold pCut; rw [hw, va_up_ne _ _ (by decide), va_up_self]
  · unfold pFra; rw [hw, va_up_self]
theorem lkI_n {ad : Nat → Nat} {σ σv : xF} {B : lkB} (h : lkI ad σ σv B) (f : Nat) : lkI ad σ σv (f, B.2) := h
theorem lkI_tab {G : xG} {ad : Nat → Nat} {σ σv : xF} {B : lkB} (h : lkI ad σ σv B) {n : Nat} {val : Nat → Nat → Int} {cl so rC rK : Nat → Nat} {rL : Nat → Nat → Nat} (hT : pTab G ad σ n val cl so rC rK rL) : pTab G ad σv n val cl so rC rK rL := hT.up (fun i hi => h.1 i (by omega) (by omega) (by omega) (by omega))
end
section
/-! THE SURVEY LOOKS; by program -/
set_option maxHeartbeats 1000000 in
set_option maxRecDepth 100000 in
theorem m_Sur_look {G : xG} {f0 : xF} {ad : Nat → Nat} (hj : adOk ad 400) {σ : xF} {n : Nat} {val : Nat → Nat → Int} {cl so rC rK : Nat → Nat} {rL : Nat → Nat → Nat} (hT : pTab G ad σ n val cl so rC rK rL) (hB : bTab n cl so rC rK rL) (hS : pSur ad σ) {le de wo : Nat} (hL : pLim σ de le wo) (hle : le ≤ 10) (B0 : Int × Int × Int × Int × Int) (hI0 : lkI ad σ σ (0, B0)) (rows : Nat) (hR : rows < 16777216) : ∀ l, gI l G f0 ad 400 y_Sur_look (.code y_Sur_look c_Sur_look 6 (some (.int))) rm_Sur_look [.ref (ad 3), .int (iv (((rows : Nat) : Int)))] σ (fun z σ' => ∃ B, B = lk0 so rC rK rL le rows 4 (0, B0) ∧ z = ((B.1 : Nat) : Int) ∧ lkI ad σ σ' B) := by
  intro l
  refine mI_of (rt := .int) (by decide) (Nat.le_of_ble_eq_true rfl) (fun X hX hret => ?_)
  show vV G X 0 0 0 [(0, .ref (ad 3)), (1, .int (iv (((rows : Nat) : Int))))] [] (ov f0 ad 400 σ)
  refine v_iconst hX (0) d_Sur_look_0 ?_
  refine v_istore_n (lv' := [(2, .int (iv (0))), (0, .ref (ad 3)), (1, .int (iv (((rows : Nat) : Int))))]) hX d_Sur_look_1 rfl (by decide) rfl ?_
  refine v_iconst hX (0) d_Sur_look_2 ?_
  refine v_istore_n (lv' := [(3, .int (iv (0))), (2, .int (iv (0))), (0, .ref (ad 3)), (1, .int (iv (((rows : Nat) : Int))))]) hX d_Sur_look_3 rfl (by decide) rfl ?_
  have LC : ∀ (fuel : Nat) (c : Nat) (σv : xF) (B : lkB), 4 - c < fuel → (c ≤ 4) → (B = lk0 so rC rK rL le rows c (0, B0)) → (lkI ad σ σv B) → (B.1 ≤ 202 * c) → vV G X 0 0 4 [(0, .ref (ad 3)), (1, .int (iv (((rows : Nat) : Int)))), (2, .int (iv (((B.1 : Nat) : Int)))), (3, .int (iv (((c : Nat) : Int))))] [] (ov f0 ad 400 σv) := by
    intro fuel
    induction fuel with
    | zero => intro c σv B hm; exact absurd hm (Nat.not_lt_zero _)
    | succ fuel ih_LC =>
      intro c σv B hm hc hBe hI hb
      have hTv := lkI_tab hI hT
      have hSv : pSur ad σv := (hI.1 3 (by decide) (by decide) (by decide) (by decide)).trans hS
      have hLv : pLim σv de le wo := (hI.1 2 (by decide) (by decide) (by decide) (by decide)).trans hL
      refine v_iload_n hX d_Sur_look_4 3 rfl ?_
      refine v_iconst hX (4) d_Sur_look_5 ?_
      refine v_icmp_ge (tgt := 92) hX d_Sur_look_6 (by decide) (by unfold ir; omega) (by unfold ir; omega) (fun c6_1 => ?_) (fun c6_1 => ?_)
      · refine v_iload_n hX d_Sur_look_92 2 rfl ?_
        have e : c = 4 := by omega
        subst e
        exact hret _ _ _ _ d_Sur_look_93 (ir_n (by omega)) ⟨_, rfl, B, hBe, rfl, hI⟩ rfl
      · refine v_iconst hX (0) d_Sur_look_9 ?_
        refine v_istore (lv' := [(4, .int (iv (0))), (0, .ref (ad 3)), (1, .int (iv (((rows : Nat) : Int)))), (2, .int (iv (((B.1 : Nat) : Int)))), (3, .int (iv (((c : Nat) : Int))))]) hX d_Sur_look_10 (by decide) rfl ?_
        have LN : ∀ (fuel : Nat) (k : Nat) (σw : xF) (D : lkB), 101 - k < fuel → (k ≤ 101) → (D = lk1 so rC rK rL le rows c k B) → (lkI ad σ σw D) → (D.1 ≤ 202 * c + 2 * k) → vV G X 0 0 12 [(0, .ref (ad 3)), (1, .int (iv (((rows : Nat) : Int)))), (2, .int (iv (((D.1 : Nat) : Int)))), (3, .int (iv (((c : Nat) : Int)))), (4, .int (iv (((k : Nat) : Int))))] [] (ov f0 ad 400 σw) := by
          intro fuel
          induction fuel with
          | zero => intro k σw D hm; exact absurd hm (Nat.not_lt_zero _)
          | succ fuel ih_LN =>
            intro k σw D hm hk hDe hI hd
            have hTv := lkI_tab hI hT
            have hSv : pSur ad σw := (hI.1 3 (by decide) (by decide) (by decide) (by decide)).trans hS
            have hLv : pLim σw de le wo := (hI.1 2 (by decide) (by decide) (by decide) (by decide)).trans hL
            refine v_iload hX d_Sur_look_12 4 rfl ?_
            refine v_bipush hX (100) d_Sur_look_14 rfl ?_
            refine v_icmp_gt (tgt := 86) hX d_Sur_look_16 (by decide) (by unfold ir; omega) (by unfold ir; omega) (fun c16_2 => ?_) (fun c16_2 => ?_)
            · refine v_iincN (a := c) (n := 1) (lv' := [(3, .int (iv ((((c + 1) : Nat) : Int)))), (0, .ref (ad 3)), (1, .int (iv (((rows : Nat) : Int)))), (2, .int (iv (((D.1 : Nat) : Int)))), (4, .int (iv (((k : Nat) : Int))))]) hX d_Sur_look_86 rfl 3 rfl (by decide) rfl ?_
              refine v_goto (tgt := 4) hX d_Sur_look_89 (by decide) ?_
              refine v_lv [1, 2, 3, 0] rfl ?_
              exact ih_LC (c + 1) (σw) (D) (by omega) (by omega) (by have e : k = 101 := (by omega); subst e; rw [hDe, hBe]; rfl) hI (by omega)
            · refine v_aload_n hX d_Sur_look_19 0 rfl ?_
              refine g_get (i := 3) hX hj fl_Sur_21 d_Sur_look_20 (by omega) hSv rfl ?_
              refine v_iload_n hX d_Sur_look_23 1 rfl ?_
              refine v_iload_n hX d_Sur_look_24 3 rfl ?_
              refine v_iload hX d_Sur_look_25 4 rfl ?_
              refine g_callVI (As := [.int (iv (((rows : Nat) : Int))), .int (iv (((c : Nat) : Int))), .int (iv (((k : Nat) : Int)))]) (st := []) hX hj (i := 1) (by omega) hTv.1 (m_Tab_canCut hj hTv hB rows c (k : Int) hR (by omega) (ir_n (by omega))) cl_Sur_29 d_Sur_look_27 rfl ⟨by decide, by decide⟩ ⟨by decide, by decide⟩ (Nat.le_of_ble_eq_true rfl) (fun z1 σ2 hz3 hp4 => ?_)
              obtain ⟨he5, hv6⟩ := hp4
              rw [he5]
              by_cases qc : kCan so rK rL rows c k = true
              · have z1e : z1 = 1 := hv6.trans (if_pos ⟨by omega, by rw [Int.toNat_natCast]; exact qc⟩)
                subst z1e
                refine v_if_ne (tgt := 36) hX d_Sur_look_30 (by decide) (by unfold ir; omega) (fun c9 => ?_) (fun c9 => absurd c9 (by omega))
                refine v_iconst hX (0) d_Sur_look_36 ?_
                refine v_istore (lv' := [(5, .int (iv (0))), (0, .ref (ad 3)), (1, .int (iv (((rows : Nat) : Int)))), (2, .int (iv (((D.1 : Nat) : Int)))), (3, .int (iv (((c : Nat) : Int)))), (4, .int (iv (((k : Nat) : Int))))]) hX d_Sur_look_37 (by decide) rfl ?_
                have LS : ∀ (fuel : Nat) (d : Nat) (σx : xF) (E : lkB), 2 - d < fuel → (d ≤ 2) → (E = lkD rC rK rL le rows c k d D) → (lkI ad σ σx E) → (E.1 ≤ 202 * c + 2 * k + d) → vV G X 0 0 39 [(0, .ref (ad 3)), (1, .int (iv (((rows : Nat) : Int)))), (2, .int (iv (((E.1 : Nat) : Int)))), (3, .int (iv (((c : Nat) : Int)))), (4, .int (iv (((k : Nat) : Int)))), (5, .int (iv (((d : Nat) : Int))))] [] (ov f0 ad 400 σx) := by
                  intro fuel
                  induction fuel with
                  | zero => intro d σx E hm; exact absurd hm (Nat.not_lt_zero _)
                  | succ fuel ih_LS =>
                    intro d σx E hm hdd hEe hI he
                    have hTv := lkI_tab hI hT
                    have hSv : pSur ad σx := (hI.1 3 (by decide) (by decide) (by decide) (by decide)).trans hS
                    have hLv : pLim σx de le wo := (hI.1 2 (by decide) (by decide) (by decide) (by decide)).trans hL
                    obtain ⟨x0, x1, x2, h4⟩ := hI.2.1
                    obtain ⟨u5, v5, h5⟩ := hI.2.2.1
                    refine v_iload hX d_Sur_look_39 5 rfl ?_
                    refine v_iconst hX (1) d_Sur_look_41 ?_
                    refine v_icmp_gt (tgt := 80) hX d_Sur_look_42 (by decide) (by unfold ir; omega) (by unfold ir; omega) (fun c42_4 => ?_) (fun c42_4 => ?_)
                    · refine v_iincN (a := k) (n := 1) (lv' := [(4, .int (iv ((((k + 1) : Nat) : Int)))), (0, .ref (ad 3)), (1, .int (iv (((rows : Nat) : Int)))), (2, .int (iv (((E.1 : Nat) : Int)))), (3, .int (iv (((c : Nat) : Int)))), (5, .int (iv (((d : Nat) : Int))))]) hX d_Sur_look_80 rfl 4 rfl (by decide) rfl ?_
                      refine v_goto (tgt := 12) hX d_Sur_look_83 (by decide) ?_
                      refine v_lv [1, 2, 3, 4, 0] rfl ?_
                      exact ih_LN (k + 1) (σx) (E) (by omega) (by omega) (by show E = lk2 so rC rK rL le rows c k (lk1 so rC rK rL le rows c k B); have e : d = 2 := (by omega); subst e; rw [← hDe, hEe]; unfold lk2; rw [if_pos (by assumption)]; rfl) hI (by omega)
                    · refine v_aload_n hX d_Sur_look_45 0 rfl ?_
                      refine v_iload_n hX d_Sur_look_46 1 rfl ?_
                      refine v_iload_n hX d_Sur_look_47 3 rfl ?_
                      refine v_iload hX d_Sur_look_48 4 rfl ?_
                      refine v_iload hX d_Sur_look_50 5 rfl ?_
                      refine g_callVI (As := [.int (iv (((rows : Nat) : Int))), .int (iv (((c : Nat) : Int))), .int (iv (((k : Nat) : Int))), .int (iv (((d : Nat) : Int)))]) (st := []) hX hj (i := 3) (by omega) hSv (m_Sur_measure hj hTv hB hSv hLv hle x0 x1 x2 u5 v5 h4 h5 rows c k d hR (by omega) (by omega) (by omega)) cl_Sur_35 d_Sur_look_52 rfl ⟨by decide, by decide⟩ ⟨by decide, by decide⟩ (Nat.le_of_ble_eq_true rfl) (fun z7 σ8 hz9 hp10 => ?_)
                      rcases hp10 with ⟨m1, m2, m3⟩ | ⟨m1, m2, m3⟩
                      · subst m2
                        obtain ⟨hJ, hj4, hj5⟩ := lkI_tr hI m3
                        have hSx : pSur ad σ8 := (hJ.1 3 (by decide) (by decide) (by decide) (by decide)).trans hS
                        have rbe : ir ((kBe rK rL rows c k d : Nat) : Int) := ir_n (by have := kBe_le rK rL rows c k d; omega)
                        refine v_if_eq (tgt := 74) hX d_Sur_look_55 (by decide) (by unfold ir; omega) (fun c9 => absurd c9 (by omega)) (fun c9 => ?_)
                        refine v_aload_n hX d_Sur_look_58 0 rfl ?_
                        refine v_iload_n hX d_Sur_look_59 2 rfl ?_
                        refine v_if_ne (tgt := 67) hX d_Sur_look_60 (by decide) (by unfold ir; omega) (fun c60_6 => ?_) (fun c60_6 => ?_)
                        · refine v_iconst hX (0) d_Sur_look_67 ?_
                          refine g_callVV (As := [.int (iv (0))]) (st := []) hX hj (i := 3) (by omega) hSx (m_Sur_keepIfBetter hj hSx (c : Int) (k : Int) (d : Int) (kAb rC rK rL rows c k d) ((kBe rK rL rows c k d : Nat) : Int) E.2.1 E.2.2.1 E.2.2.2.1 E.2.2.2.2.1 E.2.2.2.2.2 hj4 hj5 hJ.2.2.2.1 hJ.2.2.2.2.1 (kAb_ir _ _ _ _ _ _ _) rbe hJ.2.2.2.2.2.1 hJ.2.2.2.2.2.2 0 (by omega)) cl_Sur_39 d_Sur_look_68 rfl ⟨by decide, by decide⟩ ⟨by decide, by decide⟩ (Nat.le_of_ble_eq_true rfl) (fun σ12 hp14 => ?_)
                          rcases hp14 with ⟨k1, k2⟩ | ⟨k1, k2⟩
                          · refine v_iincN (a := E.1) (n := 1) (lv' := [(2, .int (iv ((((E.1 + 1) : Nat) : Int)))), (0, .ref (ad 3)), (1, .int (iv (((rows : Nat) : Int)))), (3, .int (iv (((c : Nat) : Int)))), (4, .int (iv (((k : Nat) : Int)))), (5, .int (iv (((d : Nat) : Int))))]) hX d_Sur_look_71 rfl 2 rfl (by decide) rfl ?_
                            refine v_iincN (a := d) (n := 1) (lv' := [(5, .int (iv ((((d + 1) : Nat) : Int)))), (2, .int (iv ((((E.1 + 1) : Nat) : Int)))), (0, .ref (ad 3)), (1, .int (iv (((rows : Nat) : Int)))), (3, .int (iv (((c : Nat) : Int)))), (4, .int (iv (((k : Nat) : Int))))]) hX d_Sur_look_74 rfl 5 rfl (by decide) rfl ?_
                            refine v_goto (tgt := 39) hX d_Sur_look_77 (by decide) ?_
                            refine v_lv [2, 3, 1, 4, 5, 0] rfl ?_
                            exact ih_LS (d + 1) (σ12) ((E.1 + 1, (c : Int), (k : Int), (d : Int), kAb rC rK rL rows c k d, (kBe rK rL rows c k d : Int))) (by omega) (by omega) (by show _ = lkS rC rK rL le rows c k d (lkD rC rK rL le rows c k d D); rw [← hEe, lk_a m1 (by omega)]) (lkI_be hJ (kAb_ir _ _ _ _ _ _ _) rbe k2) (by show E.1 + 1 ≤ _; omega)
                          · rw [k2]
                            refine v_iincN (a := E.1) (n := 1) (lv' := [(2, .int (iv ((((E.1 + 1) : Nat) : Int)))), (0, .ref (ad 3)), (1, .int (iv (((rows : Nat) : Int)))), (3, .int (iv (((c : Nat) : Int)))), (4, .int (iv (((k : Nat) : Int)))), (5, .int (iv (((d : Nat) : Int))))]) hX d_Sur_look_71 rfl 2 rfl (by decide) rfl ?_
                            refine v_iincN (a := d) (n := 1) (lv' := [(5, .int (iv ((((d + 1) : Nat) : Int)))), (2, .int (iv ((((E.1 + 1) : Nat) : Int)))), (0, .ref (ad 3)), (1, .int (iv (((rows : Nat) : Int)))), (3, .int (iv (((c : Nat) : Int)))), (4, .int (iv (((k : Nat) : Int))))]) hX d_Sur_look_74 rfl 5 rfl (by decide) rfl ?_
                            refine v_goto (tgt := 39) hX d_Sur_look_77 (by decide) ?_
                            refine v_lv [2, 3, 1, 4, 5, 0] rfl ?_
                            exact ih_LS (d + 1) (σ8) ((E.1 + 1, E.2)) (by omega) (by omega) (by show _ = lkS rC rK rL le rows c k d (lkD rC rK rL le rows c k d D); rw [← hEe, lk_b m1 (by omega)]) hJ (by show E.1 + 1 ≤ _; omega)
                        · refine v_iconst hX (1) d_Sur_look_63 ?_
                          refine v_goto (tgt := 68) hX d_Sur_look_64 (by decide) ?_
                          refine g_callVV (As := [.int (iv (1))]) (st := []) hX hj (i := 3) (by omega) hSx (m_Sur_keepIfBetter hj hSx (c : Int) (k : Int) (d : Int) (kAb rC rK rL rows c k d) ((kBe rK rL rows c k d : Nat) : Int) E.2.1 E.2.2.1 E.2.2.2.1 E.2.2.2.2.1 E.2.2.2.2.2 hj4 hj5 hJ.2.2.2.1 hJ.2.2.2.2.1 (kAb_ir _ _ _ _ _ _ _) rbe hJ.2.2.2.2.2.1 hJ.2.2.2.2.2.2 1 (by omega)) cl_Sur_39 d_Sur_look_68 rfl ⟨by decide, by decide⟩ ⟨by decide, by decide⟩ (Nat.le_of_ble_eq_true rfl) (fun σ16 hp18 => ?_)
                          rcases hp18 with ⟨k1, k2⟩ | ⟨k1, k2⟩
                          · refine v_iincN (a := E.1) (n := 1) (lv' := [(2, .int (iv ((((E.1 + 1) : Nat) : Int)))), (0, .ref (ad 3)), (1, .int (iv (((rows : Nat) : Int)))), (3, .int (iv (((c : Nat) : Int)))), (4, .int (iv (((k : Nat) : Int)))), (5, .int (iv (((d : Nat) : Int))))]) hX d_Sur_look_71 rfl 2 rfl (by decide) rfl ?_
                            refine v_iincN (a := d) (n := 1) (lv' := [(5, .int (iv ((((d + 1) : Nat) : Int)))), (2, .int (iv ((((E.1 + 1) : Nat) : Int)))), (0, .ref (ad 3)), (1, .int (iv (((rows : Nat) : Int)))), (3, .int (iv (((c : Nat) : Int)))), (4, .int (iv (((k : Nat) : Int))))]) hX d_Sur_look_74 rfl 5 rfl (by decide) rfl ?_
                            refine v_goto (tgt := 39) hX d_Sur_look_77 (by decide) ?_
                            refine v_lv [2, 3, 1, 4, 5, 0] rfl ?_
                            exact ih_LS (d + 1) (σ16) ((E.1 + 1, (c : Int), (k : Int), (d : Int), kAb rC rK rL rows c k d, (kBe rK rL rows c k d : Int))) (by omega) (by omega) (by show _ = lkS rC rK rL le rows c k d (lkD rC rK rL le rows c k d D); rw [← hEe, lk_a m1 (by omega)]) (lkI_be hJ (kAb_ir _ _ _ _ _ _ _) rbe k2) (by show E.1 + 1 ≤ _; omega)
                          · rw [k2]
                            refine v_iincN (a := E.1) (n := 1) (lv' := [(2, .int (iv ((((E.1 + 1) : Nat) : Int)))), (0, .ref (ad 3)), (1, .int (iv (((rows : Nat) : Int)))), (3, .int (iv (((c : Nat) : Int)))), (4, .int (iv (((k : Nat) : Int)))), (5, .int (iv (((d : Nat) : Int))))]) hX d_Sur_look_71 rfl 2 rfl (by decide) rfl ?_
                            refine v_iincN (a := d) (n := 1) (lv' := [(5, .int (iv ((((d + 1) : Nat) : Int)))), (2, .int (iv ((((E.1 + 1) : Nat) : Int)))), (0, .ref (ad 3)), (1, .int (iv (((rows : Nat) : Int)))), (3, .int (iv (((c : Nat) : Int)))), (4, .int (iv (((k : Nat) : Int))))]) hX d_Sur_look_74 rfl 5 rfl (by decide) rfl ?_
                            refine v_goto (tgt := 39) hX d_Sur_look_77 (by decide) ?_
                            refine v_lv [2, 3, 1, 4, 5, 0] rfl ?_
                            exact ih_LS (d + 1) (σ8) ((E.1 + 1, E.2)) (by omega) (by omega) (by show _ = lkS rC rK rL le rows c k d (lkD rC rK rL le rows c k d D); rw [← hEe, lk_b m1 (by omega)]) hJ (by show E.1 + 1 ≤ _; omega)
                      · subst m2
                        rw [m3]
                        refine v_if_eq (tgt := 74) hX d_Sur_look_55 (by decide) (by unfold ir; omega) (fun c9 => ?_) (fun c9 => absurd c9 (by omega))
                        refine v_iincN (a := d) (n := 1) (lv' := [(5, .int (iv ((((d + 1) : Nat) : Int)))), (0, .ref (ad 3)), (1, .int (iv (((rows : Nat) : Int)))), (2, .int (iv (((E.1 : Nat) : Int)))), (3, .int (iv (((c : Nat) : Int)))), (4, .int (iv (((k : Nat) : Int))))]) hX d_Sur_look_74 rfl 5 rfl (by decide) rfl ?_
                        refine v_goto (tgt := 39) hX d_Sur_look_77 (by decide) ?_
                        refine v_lv [1, 2, 3, 4, 5, 0] rfl ?_
                        exact ih_LS (d + 1) (σx) (E) (by omega) (by omega) (by show E = lkS rC rK rL le rows c k d (lkD rC rK rL le rows c k d D); rw [← hEe, lk_no m1]) hI (by omega)
                refine v_lv [1, 2, 3, 4, 5, 0] rfl ?_
                exact LS _ (0) (σw) (D) (Nat.lt_succ_self _) (by decide) rfl hI (by omega)
              · have z1e : z1 = 0 := hv6.trans (if_neg (fun q => qc (by have := q.2; rw [Int.toNat_natCast] at this; exact this)))
                subst z1e
                refine v_if_ne (tgt := 36) hX d_Sur_look_30 (by decide) (by unfold ir; omega) (fun c9 => absurd c9 (by omega)) (fun c9 => ?_)
                refine v_goto (tgt := 80) hX d_Sur_look_33 (by decide) ?_
                refine v_iincN (a := k) (n := 1) (lv' := [(4, .int (iv ((((k + 1) : Nat) : Int)))), (0, .ref (ad 3)), (1, .int (iv (((rows : Nat) : Int)))), (2, .int (iv (((D.1 : Nat) : Int)))), (3, .int (iv (((c : Nat) : Int))))]) hX d_Sur_look_80 rfl 4 rfl (by decide) rfl ?_
                refine v_goto (tgt := 12) hX d_Sur_look_83 (by decide) ?_
                refine v_lv [1, 2, 3, 4, 0] rfl ?_
                exact ih_LN (k + 1) (σw) (D) (by omega) (by omega) (by show D = lk2 so rC rK rL le rows c k (lk1 so rC rK rL le rows c k B); rw [← hDe]; unfold lk2; rw [if_neg (by assumption)]) hI (by omega)
        refine v_lv [1, 2, 3, 4, 0] rfl ?_
        exact LN _ (0) (σv) (B) (Nat.lt_succ_self _) (by decide) rfl hI (by omega)
  refine v_lv [2, 3, 1, 0] rfl ?_
  exact LC _ (0) (σ) ((0, B0)) (Nat.lt_succ_self _) (by decide) rfl hI0 (Nat.le_refl 0)
end
section
/-! NODES: the node at cell b, its cut at b + 1, its gain at b + 2; its number num, its numbers F (by the places of the fields; 12 to 16: column, number, side, above, below); ch: the cell of its left child (the right one's is 3 on) -/
def lC (ad : Nat → Nat) (ch : Option Nat) : Value := match ch with
  | none => .null
  | some q => .ref (ad q)
def nodE (ad : Nat → Nat) (b num : Nat) (F : Nat → Int) (ch : Option Nat) : va_E := eO 3 [.int (iv num), .ref (ad (b + 1)), .int (iv (F 2)), .int (iv (F 3)), .int (iv (F 4)), .int (iv (F 5)), lC ad ch, lC ad (ch.map (fun q => q + 3)), .int (iv (F 8)), .int (iv (F 9)), .int (iv (F 10)), .int (iv (F 11))]
def pNod (ad : Nat → Nat) (σ : xF) (b num : Nat) (F : Nat → Int) (ch : Option Nat) : Prop := σ b = nodE ad b num F ch ∧ pCut ad σ (b + 1) (b + 2) (F 12) (F 13) (F 14) ∧ pFra σ (b + 2) (F 15) (F 16)
/-- F with one place changed -/
def fU (F : Nat → Int) (k : Nat) (z : Int) : Nat → Int := va_up F k z
theorem lC_n (ad : Nat → Nat) : lC ad none = .null := rfl
theorem lC_s (ad : Nat → Nat) (q : Nat) : lC ad (some q) = .ref (ad q) := rfl
end
section
/-! NODES; by program -/
set_option maxHeartbeats 1000000 in
set_option maxRecDepth 100000 in
theorem m_Nod_isUnparted {G : xG} {f0 : xF} {ad : Nat → Nat} (hj : adOk ad 400) {σ : xF} (b num : Nat) (bM : b + 2 < 400) (F : Nat → Int) (ch : Option Nat) (hN : pNod ad σ b num F ch) : ∀ l, gI l G f0 ad 400 y_Nod_isUnparted (.code y_Nod_isUnparted c_Nod_isUnparted 1 (some (.boolean))) rm_Nod_isUnparted [.ref (ad b)] σ (fun z σ' => σ' = σ ∧ z = pI (ch = none)) := by
  intro l
  refine mI_of (rt := .boolean) (by decide) (Nat.le_of_ble_eq_true rfl) (fun X hX hret => ?_)
  show vV G X 0 0 0 [(0, .ref (ad b))] [] (ov f0 ad 400 σ)
  rcases ch with _ | q
  · have hn1 := hN.1
    refine v_aload_n hX d_Nod_isUnparted_0 0 rfl ?_
    refine g_get (i := b) hX hj fl_Nod_22 d_Nod_isUnparted_1 (by omega) hn1 rfl ?_
    refine v_ifnullN (tgt := 14) hX d_Nod_isUnparted_4 (by decide) ?_
    refine v_iconst hX (1) d_Nod_isUnparted_14 ?_
    refine v_goto (tgt := 19) hX d_Nod_isUnparted_15 (by decide) ?_
    exact hret _ _ _ _ d_Nod_isUnparted_19 (by unfold ir; omega) ⟨_, rfl, rfl, (pI_t rfl)⟩ rfl
  · have hn1 := hN.1
    refine v_aload_n hX d_Nod_isUnparted_0 0 rfl ?_
    refine g_get (i := b) hX hj fl_Nod_22 d_Nod_isUnparted_1 (by omega) hn1 rfl ?_
    refine v_ifnull hX d_Nod_isUnparted_4 ?_
    refine v_aload_n hX d_Nod_isUnparted_7 0 rfl ?_
    refine g_get (i := b) hX hj fl_Nod_26 d_Nod_isUnparted_8 (by omega) hn1 rfl ?_
    refine v_ifnonnull (tgt := 18) hX d_Nod_isUnparted_11 (by decide) ?_
    refine v_iconst hX (0) d_Nod_isUnparted_18 ?_
    exact hret _ _ _ _ d_Nod_isUnparted_19 (by unfold ir; omega) ⟨_, rfl, rfl, (pI_f (fun h => by cases h))⟩ rfl

set_option maxHeartbeats 1000000 in
set_option maxRecDepth 100000 in
theorem m_Nod_stateAt {G : xG} {f0 : xF} {ad : Nat → Nat} (hj : adOk ad 400) {σ : xF} (b num : Nat) (bM : b + 2 < 400) (F : Nat → Int) (ch : Option Nat) (hN : pNod ad σ b num F ch) (s : Int) (hs : ir s) (h8 : ir (F 8)) (h9 : ir (F 9)) : ∀ l, gI l G f0 ad 400 y_Nod_stateAt (.code y_Nod_stateAt c_Nod_stateAt 2 (some (.int))) rm_Nod_stateAt [.ref (ad b), .int (iv (s))] σ (fun z σ' => σ' = σ ∧ z = (if F 9 ≤ s then (2 : Int) else if F 8 ≤ s then 1 else 0)) := by
  intro l
  refine mI_of (rt := .int) (by decide) (Nat.le_of_ble_eq_true rfl) (fun X hX hret => ?_)
  show vV G X 0 0 0 [(0, .ref (ad b)), (1, .int (iv (s)))] [] (ov f0 ad 400 σ)
  have hn1 := hN.1
  refine v_iload_n hX d_Nod_stateAt_0 1 rfl ?_
  refine v_aload_n hX d_Nod_stateAt_1 0 rfl ?_
  refine g_get (i := b) hX hj fl_Nod_54 d_Nod_stateAt_2 (by omega) hn1 rfl ?_
  refine v_icmp_lt (tgt := 10) hX d_Nod_stateAt_5 (by decide) (by first | assumption | (unfold ir; omega)) (by first | assumption | (unfold ir; omega)) (fun c5_1 => ?_) (fun c5_1 => ?_)
  · refine v_iload_n hX d_Nod_stateAt_10 1 rfl ?_
    refine v_aload_n hX d_Nod_stateAt_11 0 rfl ?_
    refine g_get (i := b) hX hj fl_Nod_57 d_Nod_stateAt_12 (by omega) hn1 rfl ?_
    refine v_icmp_lt (tgt := 22) hX d_Nod_stateAt_15 (by decide) (by first | assumption | (unfold ir; omega)) (by first | assumption | (unfold ir; omega)) (fun c15_2 => ?_) (fun c15_2 => ?_)
    · refine v_iconst hX (0) d_Nod_stateAt_22 ?_
      exact hret _ _ _ _ d_Nod_stateAt_23 (by first | assumption | (unfold ir; omega)) ⟨_, rfl, rfl, (by first | (rw [if_pos (by omega)]; done) | (rw [if_neg (by omega), if_pos (by omega)]; done) | (rw [if_neg (by omega), if_neg (by omega)]; done))⟩ rfl
    · refine v_iconst hX (1) d_Nod_stateAt_18 ?_
      refine v_goto (tgt := 23) hX d_Nod_stateAt_19 (by decide) ?_
      exact hret _ _ _ _ d_Nod_stateAt_23 (by first | assumption | (unfold ir; omega)) ⟨_, rfl, rfl, (by first | (rw [if_pos (by omega)]; done) | (rw [if_neg (by omega), if_pos (by omega)]; done) | (rw [if_neg (by omega), if_neg (by omega)]; done))⟩ rfl
  · refine v_iconst hX (2) d_Nod_stateAt_8 ?_
    exact hret _ _ _ _ d_Nod_stateAt_9 (by first | assumption | (unfold ir; omega)) ⟨_, rfl, rfl, (by first | (rw [if_pos (by omega)]; done) | (rw [if_neg (by omega), if_pos (by omega)]; done) | (rw [if_neg (by omega), if_neg (by omega)]; done))⟩ rfl

set_option maxHeartbeats 1000000 in
set_option maxRecDepth 100000 in
theorem m_Nod_ownDetail {G : xG} {f0 : xF} {ad : Nat → Nat} (hj : adOk ad 400) {σ : xF} (b num : Nat) (bM : b + 2 < 400) (F : Nat → Int) (ch : Option Nat) (hN : pNod ad σ b num F ch) (ro : Nat) (hro : ro < 16777216) (h2 : F 2 = (ro : Int)) (r3 : ir (F 3)) (r4 : ir (F 4)) (r5 : ir (F 5)) (wh : Int) (h5 : 5 ≤ wh) (h8 : wh ≤ 8) : ∀ l, gI l G f0 ad 400 y_Nod_ownDetail (.code y_Nod_ownDetail c_Nod_ownDetail 2 (some (.int))) rm_Nod_ownDetail [.ref (ad b), .int (iv (wh))] σ (fun z σ' => σ' = σ ∧ z = (if wh = 5 then F 3 else if wh = 6 then ((cnt ro : Nat) : Int) else if wh = 7 then F 4 else F 5)) := by
  intro l
  refine mI_of (rt := .int) (by decide) (Nat.le_of_ble_eq_true rfl) (fun X hX hret => ?_)
  show vV G X 0 0 0 [(0, .ref (ad b)), (1, .int (iv (wh)))] [] (ov f0 ad 400 σ)
  have hn1 := hN.1
  have hcn := cnt_le ro
  refine v_iload_n hX d_Nod_ownDetail_0 1 rfl ?_
  rcases (show wh = 5 ∨ wh = 6 ∨ wh = 7 ∨ wh = 8 by omega) with rfl | rfl | rfl | rfl
  · refine v_tableIn (tgt := 28) hX d_Nod_ownDetail_1 (by unfold ir; omega) (by decide) (by decide) rfl (by decide) ?_
    refine v_aload_n hX d_Nod_ownDetail_28 0 rfl ?_
    refine g_get (i := b) hX hj fl_Nod_36 d_Nod_ownDetail_29 (by omega) hn1 rfl ?_
    exact hret _ _ _ _ d_Nod_ownDetail_32 (by first | assumption | (unfold ir; omega)) ⟨_, rfl, rfl, rfl⟩ rfl
  · refine v_tableIn (tgt := 33) hX d_Nod_ownDetail_1 (by unfold ir; omega) (by decide) (by decide) rfl (by decide) ?_
    refine v_aload_n hX d_Nod_ownDetail_33 0 rfl ?_
    refine g_get (i := b) hX hj fl_Nod_39 d_Nod_ownDetail_34 (by omega) hn1 rfl ?_
    refine v_top (x' := iv ((ro : Nat) : Int)) (congrArg iv h2) ?_
    refine g_callSI (As := [.int (iv (((ro : Nat) : Int)))]) (st := []) hX (k0_Int_bitCount ro hro) cl_Nod_42 d_Nod_ownDetail_37 rfl ⟨by decide, by decide⟩ ⟨by decide, by decide⟩ (Nat.le_of_ble_eq_true rfl) (fun z1 hz2 hp3 => ?_)
    subst hp3
    exact hret _ _ _ _ d_Nod_ownDetail_40 (by first | assumption | (unfold ir; omega)) ⟨_, rfl, rfl, rfl⟩ rfl
  · refine v_tableIn (tgt := 41) hX d_Nod_ownDetail_1 (by unfold ir; omega) (by decide) (by decide) rfl (by decide) ?_
    refine v_aload_n hX d_Nod_ownDetail_41 0 rfl ?_
    refine g_get (i := b) hX hj fl_Nod_48 d_Nod_ownDetail_42 (by omega) hn1 rfl ?_
    exact hret _ _ _ _ d_Nod_ownDetail_45 (by first | assumption | (unfold ir; omega)) ⟨_, rfl, rfl, rfl⟩ rfl
  · refine v_tableOut (tgt := 46) hX d_Nod_ownDetail_1 (by unfold ir; omega) (by decide) (by decide) ?_
    refine v_aload_n hX d_Nod_ownDetail_46 0 rfl ?_
    refine g_get (i := b) hX hj fl_Nod_51 d_Nod_ownDetail_47 (by omega) hn1 rfl ?_
    exact hret _ _ _ _ d_Nod_ownDetail_50 (by first | assumption | (unfold ir; omega)) ⟨_, rfl, rfl, rfl⟩ rfl

set_option maxHeartbeats 1000000 in
set_option maxRecDepth 100000 in
theorem m_Nod_cutDetail {G : xG} {f0 : xF} {ad : Nat → Nat} (hj : adOk ad 400) {σ : xF} (b num : Nat) (bM : b + 2 < 400) (F : Nat → Int) (ch : Option Nat) (hN : pNod ad σ b num F ch) (ln : Nat) (F1 F2 : Nat → Int) (c1 c2 : Option Nat) (hK : ∀ q, ch = some q → b + 2 < q ∧ q + 5 < 400 ∧ pNod ad σ q ln F1 c1 ∧ pNod ad σ (q + 3) (ln + 1) F2 c2) (hln : ln < 100) (r12 : ir (F 12)) (r13 : ir (F 13)) (r14 : ir (F 14)) (wh : Int) (h0 : 0 ≤ wh) (h4 : wh ≤ 4) : ∀ l, gI l G f0 ad 400 y_Nod_cutDetail (.code y_Nod_cutDetail c_Nod_cutDetail 2 (some (.int))) rm_Nod_cutDetail [.ref (ad b), .int (iv (wh))] σ (fun z σ' => σ' = σ ∧ z = (if ch = none then (-3 : Int) else if wh = 0 then F 12 else if wh = 1 then F 13 else if wh = 2 then F 14 else if wh = 3 then (ln : Int) else ((ln + 1 : Nat) : Int))) := by
  intro l
  refine mI_of (rt := .int) (by decide) (Nat.le_of_ble_eq_true rfl) (fun X hX hret => ?_)
  show vV G X 0 0 0 [(0, .ref (ad b)), (1, .int (iv (wh)))] [] (ov f0 ad 400 σ)
  rcases ch with _ | q
  · have hn1 := hN.1
    refine v_aload_n hX d_Nod_cutDetail_0 0 rfl ?_
    refine g_get (i := b) hX hj fl_Nod_22 d_Nod_cutDetail_1 (by omega) hn1 rfl ?_
    refine v_ifnullN (tgt := 14) hX d_Nod_cutDetail_4 (by decide) ?_
    refine v_bipush hX (-3) d_Nod_cutDetail_14 rfl ?_
    exact hret _ _ _ _ d_Nod_cutDetail_16 (by first | assumption | (unfold ir; omega)) ⟨_, rfl, rfl, rfl⟩ rfl
  · have hn1 := hN.1
    have hq1 := hK _ rfl
    refine v_aload_n hX d_Nod_cutDetail_0 0 rfl ?_
    refine g_get (i := b) hX hj fl_Nod_22 d_Nod_cutDetail_1 (by omega) hn1 rfl ?_
    refine v_ifnull hX d_Nod_cutDetail_4 ?_
    refine v_aload_n hX d_Nod_cutDetail_7 0 rfl ?_
    refine g_get (i := b) hX hj fl_Nod_26 d_Nod_cutDetail_8 (by omega) hn1 rfl ?_
    refine v_ifnonnull (tgt := 17) hX d_Nod_cutDetail_11 (by decide) ?_
    refine v_iload_n hX d_Nod_cutDetail_17 1 rfl ?_
    rcases (show wh = 0 ∨ wh = 1 ∨ wh = 2 ∨ wh = 3 ∨ wh = 4 by omega) with rfl | rfl | rfl | rfl | rfl
    · refine v_tableIn (tgt := 48) hX d_Nod_cutDetail_18 (by unfold ir; omega) (by decide) (by decide) rfl (by decide) ?_
      refine v_aload_n hX d_Nod_cutDetail_48 0 rfl ?_
      refine g_get (i := b) hX hj fl_Nod_12 d_Nod_cutDetail_49 (by omega) hn1 rfl ?_
      refine g_get (i := b + 1) hX hj fl_Nod_29 d_Nod_cutDetail_52 (by omega) hN.2.1 rfl ?_
      exact hret _ _ _ _ d_Nod_cutDetail_55 (by first | assumption | (unfold ir; omega)) ⟨_, rfl, rfl, rfl⟩ rfl
    · refine v_tableIn (tgt := 56) hX d_Nod_cutDetail_18 (by unfold ir; omega) (by decide) (by decide) rfl (by decide) ?_
      refine v_aload_n hX d_Nod_cutDetail_56 0 rfl ?_
      refine g_get (i := b) hX hj fl_Nod_12 d_Nod_cutDetail_57 (by omega) hn1 rfl ?_
      refine g_get (i := b + 1) hX hj fl_Nod_32 d_Nod_cutDetail_60 (by omega) hN.2.1 rfl ?_
      exact hret _ _ _ _ d_Nod_cutDetail_63 (by first | assumption | (unfold ir; omega)) ⟨_, rfl, rfl, rfl⟩ rfl
    · refine v_tableIn (tgt := 64) hX d_Nod_cutDetail_18 (by unfold ir; omega) (by decide) (by decide) rfl (by decide) ?_
      refine v_aload_n hX d_Nod_cutDetail_64 0 rfl ?_
      refine g_get (i := b) hX hj fl_Nod_12 d_Nod_cutDetail_65 (by omega) hn1 rfl ?_
      refine g_get (i := b + 1) hX hj fl_Nod_33 d_Nod_cutDetail_68 (by omega) hN.2.1 rfl ?_
      exact hret _ _ _ _ d_Nod_cutDetail_71 (by first | assumption | (unfold ir; omega)) ⟨_, rfl, rfl, rfl⟩ rfl
    · refine v_tableIn (tgt := 72) hX d_Nod_cutDetail_18 (by unfold ir; omega) (by decide) (by decide) rfl (by decide) ?_
      refine v_aload_n hX d_Nod_cutDetail_72 0 rfl ?_
      refine g_get (i := b) hX hj fl_Nod_22 d_Nod_cutDetail_73 (by omega) hn1 rfl ?_
      refine g_get (i := q) hX hj fl_Nod_18 d_Nod_cutDetail_76 (by omega) hq1.2.2.1.1 rfl ?_
      exact hret _ _ _ _ d_Nod_cutDetail_79 (by first | assumption | (unfold ir; omega)) ⟨_, rfl, rfl, rfl⟩ rfl
    · refine v_tableOut (tgt := 80) hX d_Nod_cutDetail_18 (by unfold ir; omega) (by decide) (by decide) ?_
      refine v_aload_n hX d_Nod_cutDetail_80 0 rfl ?_
      refine g_get (i := b) hX hj fl_Nod_26 d_Nod_cutDetail_81 (by omega) hn1 rfl ?_
      refine g_get (i := q + 3) hX hj fl_Nod_18 d_Nod_cutDetail_84 (by omega) hq1.2.2.2.1 rfl ?_
      exact hret _ _ _ _ d_Nod_cutDetail_87 (by first | assumption | (unfold ir; omega)) ⟨_, rfl, rfl, rfl⟩ rfl

set_option maxHeartbeats 1000000 in
set_option maxRecDepth 100000 in
theorem m_Nod_beginStages {G : xG} {f0 : xF} {ad : Nat → Nat} (hj : adOk ad 400) {σ : xF} (b num : Nat) (bM : b + 2 < 400) (F : Nat → Int) (ch : Option Nat) (hN : pNod ad σ b num F ch) : ∀ l, gVo l G f0 ad 400 y_Nod_beginStages (.code y_Nod_beginStages c_Nod_beginStages 1 none) rm_Nod_beginStages [.ref (ad b)] σ (fun σ' => σ' = va_up σ b (nodE ad b num (va_up (va_up F 8 (if ch = none then 0 else 24)) 9 24) ch)) := by
  intro l
  refine mV_of (by decide) (Nat.le_of_ble_eq_true rfl) (fun X hX hret => ?_)
  show vV G X 0 0 0 [(0, .ref (ad b))] [] (ov f0 ad 400 σ)
  rcases ch with _ | q
  · have hn1 := hN.1
    refine v_aload_n hX d_Nod_beginStages_0 0 rfl ?_
    refine v_aload_n hX d_Nod_beginStages_1 0 rfl ?_
    refine g_callVI (As := []) (st := [.ref (ad b)]) hX hj (i := b) (by omega) hn1 (m_Nod_isUnparted hj b num bM F none hN) cl_Nod_60 d_Nod_beginStages_2 rfl ⟨by decide, by decide⟩ ⟨by decide, by decide⟩ (Nat.le_of_ble_eq_true rfl) (fun z1 σ2 hz3 hp4 => ?_)
    obtain ⟨he9, hv9⟩ := hp4
    rw [he9]
    have e9 : z1 = 1 := hv9.trans (if_pos rfl)
    subst e9
    refine v_if_eq (tgt := 12) hX d_Nod_beginStages_5 (by decide) (by unfold ir; omega) (fun c9 => absurd c9 (by omega)) (fun c9 => ?_)
    refine v_iconst hX (0) d_Nod_beginStages_8 ?_
    refine v_goto (tgt := 14) hX d_Nod_beginStages_9 (by decide) ?_
    refine g_put (i := b) (fs' := [.int (iv (((num : Nat) : Int))), .ref (ad (b + 1)), .int (iv ((F 2))), .int (iv ((F 3))), .int (iv ((F 4))), .int (iv ((F 5))), .null, .null, .int (iv (0)), .int (iv ((F 9))), .int (iv ((F 10))), .int (iv ((F 11)))]) hX hj pf_Nod_57 d_Nod_beginStages_14 (by omega) hn1 rfl rfl (Nat.le_of_ble_eq_true rfl) rfl ?_
    obtain ⟨σ5, hs6⟩ : ∃ s9, s9 = va_up σ (b) (eO 3 [.int (iv (((num : Nat) : Int))), .ref (ad (b + 1)), .int (iv ((F 2))), .int (iv ((F 3))), .int (iv ((F 4))), .int (iv ((F 5))), .null, .null, .int (iv (0)), .int (iv ((F 9))), .int (iv ((F 10))), .int (iv ((F 11)))]) := ⟨_, rfl⟩
    rw [← hs6]
    have hf8 : σ5 (b) = (eO 3 [.int (iv (((num : Nat) : Int))), .ref (ad (b + 1)), .int (iv ((F 2))), .int (iv ((F 3))), .int (iv ((F 4))), .int (iv ((F 5))), .null, .null, .int (iv (0)), .int (iv ((F 9))), .int (iv ((F 10))), .int (iv ((F 11)))]) := by rw [hs6, va_up_self]
    refine v_aload_n hX d_Nod_beginStages_17 0 rfl ?_
    refine v_bipush hX (24) d_Nod_beginStages_18 rfl ?_
    refine g_put (i := b) (fs' := [.int (iv (((num : Nat) : Int))), .ref (ad (b + 1)), .int (iv ((F 2))), .int (iv ((F 3))), .int (iv ((F 4))), .int (iv ((F 5))), .null, .null, .int (iv (0)), .int (iv (24)), .int (iv ((F 10))), .int (iv ((F 11)))]) hX hj pf_Nod_54 d_Nod_beginStages_20 (by omega) hf8 rfl rfl (Nat.le_of_ble_eq_true rfl) rfl ?_
    obtain ⟨σ9, hs10⟩ : ∃ s9, s9 = va_up σ5 (b) (eO 3 [.int (iv (((num : Nat) : Int))), .ref (ad (b + 1)), .int (iv ((F 2))), .int (iv ((F 3))), .int (iv ((F 4))), .int (iv ((F 5))), .null, .null, .int (iv (0)), .int (iv (24)), .int (iv ((F 10))), .int (iv ((F 11)))]) := ⟨_, rfl⟩
    rw [← hs10]
    have hf12 : σ9 (b) = (eO 3 [.int (iv (((num : Nat) : Int))), .ref (ad (b + 1)), .int (iv ((F 2))), .int (iv ((F 3))), .int (iv ((F 4))), .int (iv ((F 5))), .null, .null, .int (iv (0)), .int (iv (24)), .int (iv ((F 10))), .int (iv ((F 11)))]) := by rw [hs10, va_up_self]
    exact hret _ _ _ d_Nod_beginStages_23 ⟨_, rfl, (by rw [hs10, hs6, bx_uu]; rfl)⟩
  · have hn1 := hN.1
    refine v_aload_n hX d_Nod_beginStages_0 0 rfl ?_
    refine v_aload_n hX d_Nod_beginStages_1 0 rfl ?_
    refine g_callVI (As := []) (st := [.ref (ad b)]) hX hj (i := b) (by omega) hn1 (m_Nod_isUnparted hj b num bM F (some q) hN) cl_Nod_60 d_Nod_beginStages_2 rfl ⟨by decide, by decide⟩ ⟨by decide, by decide⟩ (Nat.le_of_ble_eq_true rfl) (fun z1 σ2 hz3 hp4 => ?_)
    obtain ⟨he9, hv9⟩ := hp4
    rw [he9]
    have e9 : z1 = 0 := hv9.trans (if_neg (fun h => by cases h))
    subst e9
    refine v_if_eq (tgt := 12) hX d_Nod_beginStages_5 (by decide) (by unfold ir; omega) (fun c9 => ?_) (fun c9 => absurd c9 (by omega))
    refine v_bipush hX (24) d_Nod_beginStages_12 rfl ?_
    refine g_put (i := b) (fs' := [.int (iv (((num : Nat) : Int))), .ref (ad (b + 1)), .int (iv ((F 2))), .int (iv ((F 3))), .int (iv ((F 4))), .int (iv ((F 5))), .ref (ad q), .ref (ad (q + 3)), .int (iv (24)), .int (iv ((F 9))), .int (iv ((F 10))), .int (iv ((F 11)))]) hX hj pf_Nod_57 d_Nod_beginStages_14 (by omega) hn1 rfl rfl (Nat.le_of_ble_eq_true rfl) rfl ?_
    obtain ⟨σ5, hs6⟩ : ∃ s9, s9 = va_up σ (b) (eO 3 [.int (iv (((num : Nat) : Int))), .ref (ad (b + 1)), .int (iv ((F 2))), .int (iv ((F 3))), .int (iv ((F 4))), .int (iv ((F 5))), .ref (ad q), .ref (ad (q + 3)), .int (iv (24)), .int (iv ((F 9))), .int (iv ((F 10))), .int (iv ((F 11)))]) := ⟨_, rfl⟩
    rw [← hs6]
    have hf8 : σ5 (b) = (eO 3 [.int (iv (((num : Nat) : Int))), .ref (ad (b + 1)), .int (iv ((F 2))), .int (iv ((F 3))), .int (iv ((F 4))), .int (iv ((F 5))), .ref (ad q), .ref (ad (q + 3)), .int (iv (24)), .int (iv ((F 9))), .int (iv ((F 10))), .int (iv ((F 11)))]) := by rw [hs6, va_up_self]
    refine v_aload_n hX d_Nod_beginStages_17 0 rfl ?_
    refine v_bipush hX (24) d_Nod_beginStages_18 rfl ?_
    refine g_put (i := b) (fs' := [.int (iv (((num : Nat) : Int))), .ref (ad (b + 1)), .int (iv ((F 2))), .int (iv ((F 3))), .int (iv ((F 4))), .int (iv ((F 5))), .ref (ad q), .ref (ad (q + 3)), .int (iv (24)), .int (iv (24)), .int (iv ((F 10))), .int (iv ((F 11)))]) hX hj pf_Nod_54 d_Nod_beginStages_20 (by omega) hf8 rfl rfl (Nat.le_of_ble_eq_true rfl) rfl ?_
    obtain ⟨σ9, hs10⟩ : ∃ s9, s9 = va_up σ5 (b) (eO 3 [.int (iv (((num : Nat) : Int))), .ref (ad (b + 1)), .int (iv ((F 2))), .int (iv ((F 3))), .int (iv ((F 4))), .int (iv ((F 5))), .ref (ad q), .ref (ad (q + 3)), .int (iv (24)), .int (iv (24)), .int (iv ((F 10))), .int (iv ((F 11)))]) := ⟨_, rfl⟩
    rw [← hs10]
    have hf12 : σ9 (b) = (eO 3 [.int (iv (((num : Nat) : Int))), .ref (ad (b + 1)), .int (iv ((F 2))), .int (iv ((F 3))), .int (iv ((F 4))), .int (iv ((F 5))), .ref (ad q), .ref (ad (q + 3)), .int (iv (24)), .int (iv (24)), .int (iv ((F 10))), .int (iv ((F 11)))]) := by rw [hs10, va_up_self]
    exact hret _ _ _ d_Nod_beginStages_23 ⟨_, rfl, (by rw [hs10, hs6, bx_uu]; rfl)⟩

set_option maxHeartbeats 1000000 in
set_option maxRecDepth 100000 in
theorem m_Nod_sumUp {G : xG} {f0 : xF} {ad : Nat → Nat} (hj : adOk ad 400) {σ : xF} (b num : Nat) (bM : b + 2 < 400) (F : Nat → Int) (ch : Option Nat) (hN : pNod ad σ b num F ch) (ln : Nat) (F1 F2 : Nat → Int) (c1 c2 : Option Nat) (hK : ∀ q, ch = some q → b + 2 < q ∧ q + 5 < 400 ∧ pNod ad σ q ln F1 c1 ∧ pNod ad σ (q + 3) (ln + 1) F2 c2) (s : Int) (hs : ir s) (h8 : ir (F 8)) : ∀ l, gVo l G f0 ad 400 y_Nod_sumUp (.code y_Nod_sumUp c_Nod_sumUp 2 none) rm_Nod_sumUp [.ref (ad b), .int (iv (s))] σ (fun σ' => σ' = va_up σ b (nodE ad b num (va_up (va_up F 10 (if ch = none ∨ F 8 ≤ s then 1 else F1 10 + F2 10)) 11 (if ch = none ∨ F 8 ≤ s then F 5 else F1 11 + F2 11)) ch)) := by
  intro l
  refine mV_of (by decide) (Nat.le_of_ble_eq_true rfl) (fun X hX hret => ?_)
  show vV G X 0 0 0 [(0, .ref (ad b)), (1, .int (iv (s)))] [] (ov f0 ad 400 σ)
  rcases ch with _ | q
  · have hn1 := hN.1
    refine v_aload_n hX d_Nod_sumUp_0 0 rfl ?_
    refine g_get (i := b) hX hj fl_Nod_22 d_Nod_sumUp_1 (by omega) hn1 rfl ?_
    refine v_ifnullN (tgt := 22) hX d_Nod_sumUp_4 (by decide) ?_
    refine v_aload_n hX d_Nod_sumUp_22 0 rfl ?_
    refine v_iconst hX (1) d_Nod_sumUp_23 ?_
    refine g_put (i := b) (fs' := [.int (iv (((num : Nat) : Int))), .ref (ad (b + 1)), .int (iv ((F 2))), .int (iv ((F 3))), .int (iv ((F 4))), .int (iv ((F 5))), .null, .null, .int (iv ((F 8))), .int (iv ((F 9))), .int (iv (1)), .int (iv ((F 11)))]) hX hj pf_Nod_64 d_Nod_sumUp_24 (by omega) hn1 rfl rfl (Nat.le_of_ble_eq_true rfl) rfl ?_
    obtain ⟨σ1, hs2⟩ : ∃ s9, s9 = va_up σ (b) (eO 3 [.int (iv (((num : Nat) : Int))), .ref (ad (b + 1)), .int (iv ((F 2))), .int (iv ((F 3))), .int (iv ((F 4))), .int (iv ((F 5))), .null, .null, .int (iv ((F 8))), .int (iv ((F 9))), .int (iv (1)), .int (iv ((F 11)))]) := ⟨_, rfl⟩
    rw [← hs2]
    have hf4 := (show σ1 (b + 1) = σ (b + 1) by rw [hs2, va_up_ne _ _ (by omega)]).trans hN.2.1
    have hf5 : σ1 (b) = (eO 3 [.int (iv (((num : Nat) : Int))), .ref (ad (b + 1)), .int (iv ((F 2))), .int (iv ((F 3))), .int (iv ((F 4))), .int (iv ((F 5))), .null, .null, .int (iv ((F 8))), .int (iv ((F 9))), .int (iv (1)), .int (iv ((F 11)))]) := by rw [hs2, va_up_self]
    refine v_aload_n hX d_Nod_sumUp_27 0 rfl ?_
    refine v_aload_n hX d_Nod_sumUp_28 0 rfl ?_
    refine g_get (i := b) hX hj fl_Nod_51 d_Nod_sumUp_29 (by omega) hf5 rfl ?_
    refine g_put (i := b) (fs' := [.int (iv (((num : Nat) : Int))), .ref (ad (b + 1)), .int (iv ((F 2))), .int (iv ((F 3))), .int (iv ((F 4))), .int (iv ((F 5))), .null, .null, .int (iv ((F 8))), .int (iv ((F 9))), .int (iv (1)), .int (iv ((F 5)))]) hX hj pf_Nod_67 d_Nod_sumUp_32 (by omega) hf5 rfl rfl (Nat.le_of_ble_eq_true rfl) rfl ?_
    obtain ⟨σ6, hs7⟩ : ∃ s9, s9 = va_up σ1 (b) (eO 3 [.int (iv (((num : Nat) : Int))), .ref (ad (b + 1)), .int (iv ((F 2))), .int (iv ((F 3))), .int (iv ((F 4))), .int (iv ((F 5))), .null, .null, .int (iv ((F 8))), .int (iv ((F 9))), .int (iv (1)), .int (iv ((F 5)))]) := ⟨_, rfl⟩
    rw [← hs7]
    have hf8 := (show σ6 (b + 1) = σ1 (b + 1) by rw [hs7, va_up_ne _ _ (by omega)]).trans hf4
    have hf10 : σ6 (b) = (eO 3 [.int (iv (((num : Nat) : Int))), .ref (ad (b + 1)), .int (iv ((F 2))), .int (iv ((F 3))), .int (iv ((F 4))), .int (iv ((F 5))), .null, .null, .int (iv ((F 8))), .int (iv ((F 9))), .int (iv (1)), .int (iv ((F 5)))]) := by rw [hs7, va_up_self]
    refine v_goto (tgt := 76) hX d_Nod_sumUp_35 (by decide) ?_
    exact hret _ _ _ d_Nod_sumUp_76 ⟨_, rfl, (by rw [hs7, hs2, bx_uu, if_pos (by first | exact Or.inl rfl | exact Or.inr (by omega)), if_pos (by first | exact Or.inl rfl | exact Or.inr (by omega))]; rfl)⟩
  · have hn1 := hN.1
    have hq1 := hK _ rfl
    refine v_aload_n hX d_Nod_sumUp_0 0 rfl ?_
    refine g_get (i := b) hX hj fl_Nod_22 d_Nod_sumUp_1 (by omega) hn1 rfl ?_
    refine v_ifnull hX d_Nod_sumUp_4 ?_
    refine v_aload_n hX d_Nod_sumUp_7 0 rfl ?_
    refine g_get (i := b) hX hj fl_Nod_26 d_Nod_sumUp_8 (by omega) hn1 rfl ?_
    refine v_ifnull hX d_Nod_sumUp_11 ?_
    refine v_iload_n hX d_Nod_sumUp_14 1 rfl ?_
    refine v_aload_n hX d_Nod_sumUp_15 0 rfl ?_
    refine g_get (i := b) hX hj fl_Nod_57 d_Nod_sumUp_16 (by omega) hn1 rfl ?_
    refine v_icmp_lt (tgt := 38) hX d_Nod_sumUp_19 (by decide) (by assumption) (by assumption) (fun c19_1 => ?_) (fun c19_1 => ?_)
    · refine v_aload_n hX d_Nod_sumUp_38 0 rfl ?_
      refine v_aload_n hX d_Nod_sumUp_39 0 rfl ?_
      refine g_get (i := b) hX hj fl_Nod_22 d_Nod_sumUp_40 (by omega) hn1 rfl ?_
      refine g_get (i := q) hX hj fl_Nod_64 d_Nod_sumUp_43 (by omega) hq1.2.2.1.1 rfl ?_
      refine v_aload_n hX d_Nod_sumUp_46 0 rfl ?_
      refine g_get (i := b) hX hj fl_Nod_26 d_Nod_sumUp_47 (by omega) hn1 rfl ?_
      refine g_get (i := q + 3) hX hj fl_Nod_64 d_Nod_sumUp_50 (by omega) hq1.2.2.2.1 rfl ?_
      refine v_iadd hX d_Nod_sumUp_53 ?_
      refine g_put (i := b) (fs' := [.int (iv (((num : Nat) : Int))), .ref (ad (b + 1)), .int (iv ((F 2))), .int (iv ((F 3))), .int (iv ((F 4))), .int (iv ((F 5))), .ref (ad q), .ref (ad (q + 3)), .int (iv ((F 8))), .int (iv ((F 9))), .int (iv (((F1 10) + (F2 10)))), .int (iv ((F 11)))]) hX hj pf_Nod_64 d_Nod_sumUp_54 (by omega) hn1 rfl rfl (Nat.le_of_ble_eq_true rfl) rfl ?_
      obtain ⟨σ1, hs2⟩ : ∃ s9, s9 = va_up σ (b) (eO 3 [.int (iv (((num : Nat) : Int))), .ref (ad (b + 1)), .int (iv ((F 2))), .int (iv ((F 3))), .int (iv ((F 4))), .int (iv ((F 5))), .ref (ad q), .ref (ad (q + 3)), .int (iv ((F 8))), .int (iv ((F 9))), .int (iv (((F1 10) + (F2 10)))), .int (iv ((F 11)))]) := ⟨_, rfl⟩
      rw [← hs2]
      have hf4 := (show σ1 (b + 1) = σ (b + 1) by rw [hs2, va_up_ne _ _ (by omega)]).trans hN.2.1
      have hf5 := (show σ1 (q) = σ (q) by rw [hs2, va_up_ne _ _ (by omega)]).trans hq1.2.2.1.1
      have hf6 := (show σ1 (q + 3) = σ (q + 3) by rw [hs2, va_up_ne _ _ (by omega)]).trans hq1.2.2.2.1
      have hf7 : σ1 (b) = (eO 3 [.int (iv (((num : Nat) : Int))), .ref (ad (b + 1)), .int (iv ((F 2))), .int (iv ((F 3))), .int (iv ((F 4))), .int (iv ((F 5))), .ref (ad q), .ref (ad (q + 3)), .int (iv ((F 8))), .int (iv ((F 9))), .int (iv (((F1 10) + (F2 10)))), .int (iv ((F 11)))]) := by rw [hs2, va_up_self]
      refine v_aload_n hX d_Nod_sumUp_57 0 rfl ?_
      refine v_aload_n hX d_Nod_sumUp_58 0 rfl ?_
      refine g_get (i := b) hX hj fl_Nod_22 d_Nod_sumUp_59 (by omega) hf7 rfl ?_
      refine g_get (i := q) hX hj fl_Nod_67 d_Nod_sumUp_62 (by omega) hf5 rfl ?_
      refine v_aload_n hX d_Nod_sumUp_65 0 rfl ?_
      refine g_get (i := b) hX hj fl_Nod_26 d_Nod_sumUp_66 (by omega) hf7 rfl ?_
      refine g_get (i := q + 3) hX hj fl_Nod_67 d_Nod_sumUp_69 (by omega) hf6 rfl ?_
      refine v_iadd hX d_Nod_sumUp_72 ?_
      refine g_put (i := b) (fs' := [.int (iv (((num : Nat) : Int))), .ref (ad (b + 1)), .int (iv ((F 2))), .int (iv ((F 3))), .int (iv ((F 4))), .int (iv ((F 5))), .ref (ad q), .ref (ad (q + 3)), .int (iv ((F 8))), .int (iv ((F 9))), .int (iv (((F1 10) + (F2 10)))), .int (iv (((F1 11) + (F2 11))))]) hX hj pf_Nod_67 d_Nod_sumUp_73 (by omega) hf7 rfl rfl (Nat.le_of_ble_eq_true rfl) rfl ?_
      obtain ⟨σ8, hs9⟩ : ∃ s9, s9 = va_up σ1 (b) (eO 3 [.int (iv (((num : Nat) : Int))), .ref (ad (b + 1)), .int (iv ((F 2))), .int (iv ((F 3))), .int (iv ((F 4))), .int (iv ((F 5))), .ref (ad q), .ref (ad (q + 3)), .int (iv ((F 8))), .int (iv ((F 9))), .int (iv (((F1 10) + (F2 10)))), .int (iv (((F1 11) + (F2 11))))]) := ⟨_, rfl⟩
      rw [← hs9]
      have hf10 := (show σ8 (b + 1) = σ1 (b + 1) by rw [hs9, va_up_ne _ _ (by omega)]).trans hf4
      have hf11 := (show σ8 (q) = σ1 (q) by rw [hs9, va_up_ne _ _ (by omega)]).trans hf5
      have hf12 := (show σ8 (q + 3) = σ1 (q + 3) by rw [hs9, va_up_ne _ _ (by omega)]).trans hf6
      have hf14 : σ8 (b) = (eO 3 [.int (iv (((num : Nat) : Int))), .ref (ad (b + 1)), .int (iv ((F 2))), .int (iv ((F 3))), .int (iv ((F 4))), .int (iv ((F 5))), .ref (ad q), .ref (ad (q + 3)), .int (iv ((F 8))), .int (iv ((F 9))), .int (iv (((F1 10) + (F2 10)))), .int (iv (((F1 11) + (F2 11))))]) := by rw [hs9, va_up_self]
      exact hret _ _ _ d_Nod_sumUp_76 ⟨_, rfl, (by rw [hs9, hs2, bx_uu, if_neg (by rintro (h | h) <;> first | cases h | omega), if_neg (by rintro (h | h) <;> first | cases h | omega)]; rfl)⟩
    · refine v_aload_n hX d_Nod_sumUp_22 0 rfl ?_
      refine v_iconst hX (1) d_Nod_sumUp_23 ?_
      refine g_put (i := b) (fs' := [.int (iv (((num : Nat) : Int))), .ref (ad (b + 1)), .int (iv ((F 2))), .int (iv ((F 3))), .int (iv ((F 4))), .int (iv ((F 5))), .ref (ad q), .ref (ad (q + 3)), .int (iv ((F 8))), .int (iv ((F 9))), .int (iv (1)), .int (iv ((F 11)))]) hX hj pf_Nod_64 d_Nod_sumUp_24 (by omega) hn1 rfl rfl (Nat.le_of_ble_eq_true rfl) rfl ?_
      obtain ⟨σ15, hs16⟩ : ∃ s9, s9 = va_up σ (b) (eO 3 [.int (iv (((num : Nat) : Int))), .ref (ad (b + 1)), .int (iv ((F 2))), .int (iv ((F 3))), .int (iv ((F 4))), .int (iv ((F 5))), .ref (ad q), .ref (ad (q + 3)), .int (iv ((F 8))), .int (iv ((F 9))), .int (iv (1)), .int (iv ((F 11)))]) := ⟨_, rfl⟩
      rw [← hs16]
      have hf18 := (show σ15 (b + 1) = σ (b + 1) by rw [hs16, va_up_ne _ _ (by omega)]).trans hN.2.1
      have hf19 := (show σ15 (q) = σ (q) by rw [hs16, va_up_ne _ _ (by omega)]).trans hq1.2.2.1.1
      have hf20 := (show σ15 (q + 3) = σ (q + 3) by rw [hs16, va_up_ne _ _ (by omega)]).trans hq1.2.2.2.1
      have hf21 : σ15 (b) = (eO 3 [.int (iv (((num : Nat) : Int))), .ref (ad (b + 1)), .int (iv ((F 2))), .int (iv ((F 3))), .int (iv ((F 4))), .int (iv ((F 5))), .ref (ad q), .ref (ad (q + 3)), .int (iv ((F 8))), .int (iv ((F 9))), .int (iv (1)), .int (iv ((F 11)))]) := by rw [hs16, va_up_self]
      refine v_aload_n hX d_Nod_sumUp_27 0 rfl ?_
      refine v_aload_n hX d_Nod_sumUp_28 0 rfl ?_
      refine g_get (i := b) hX hj fl_Nod_51 d_Nod_sumUp_29 (by omega) hf21 rfl ?_
      refine g_put (i := b) (fs' := [.int (iv (((num : Nat) : Int))), .ref (ad (b + 1)), .int (iv ((F 2))), .int (iv ((F 3))), .int (iv ((F 4))), .int (iv ((F 5))), .ref (ad q), .ref (ad (q + 3)), .int (iv ((F 8))), .int (iv ((F 9))), .int (iv (1)), .int (iv ((F 5)))]) hX hj pf_Nod_67 d_Nod_sumUp_32 (by omega) hf21 rfl rfl (Nat.le_of_ble_eq_true rfl) rfl ?_
      obtain ⟨σ22, hs23⟩ : ∃ s9, s9 = va_up σ15 (b) (eO 3 [.int (iv (((num : Nat) : Int))), .ref (ad (b + 1)), .int (iv ((F 2))), .int (iv ((F 3))), .int (iv ((F 4))), .int (iv ((F 5))), .ref (ad q), .ref (ad (q + 3)), .int (iv ((F 8))), .int (iv ((F 9))), .int (iv (1)), .int (iv ((F 5)))]) := ⟨_, rfl⟩
      rw [← hs23]
      have hf24 := (show σ22 (b + 1) = σ15 (b + 1) by rw [hs23, va_up_ne _ _ (by omega)]).trans hf18
      have hf25 := (show σ22 (q) = σ15 (q) by rw [hs23, va_up_ne _ _ (by omega)]).trans hf19
      have hf26 := (show σ22 (q + 3) = σ15 (q + 3) by rw [hs23, va_up_ne _ _ (by omega)]).trans hf20
      have hf28 : σ22 (b) = (eO 3 [.int (iv (((num : Nat) : Int))), .ref (ad (b + 1)), .int (iv ((F 2))), .int (iv ((F 3))), .int (iv ((F 4))), .int (iv ((F 5))), .ref (ad q), .ref (ad (q + 3)), .int (iv ((F 8))), .int (iv ((F 9))), .int (iv (1)), .int (iv ((F 5)))]) := by rw [hs23, va_up_self]
      refine v_goto (tgt := 76) hX d_Nod_sumUp_35 (by decide) ?_
      exact hret _ _ _ d_Nod_sumUp_76 ⟨_, rfl, (by rw [hs23, hs16, bx_uu, if_pos (by first | exact Or.inl rfl | exact Or.inr (by omega)), if_pos (by first | exact Or.inl rfl | exact Or.inr (by omega))]; rfl)⟩

set_option maxHeartbeats 1000000 in
set_option maxRecDepth 100000 in
theorem m_Nod_loseThoseBelow {G : xG} {f0 : xF} {ad : Nat → Nat} (hj : adOk ad 400) {σ : xF} (b num : Nat) (bM : b + 2 < 400) (F : Nat → Int) (ch : Option Nat) (hN : pNod ad σ b num F ch) (ln : Nat) (F1 F2 : Nat → Int) (c1 c2 : Option Nat) (hK : ∀ q, ch = some q → b + 2 < q ∧ q + 5 < 400 ∧ pNod ad σ q ln F1 c1 ∧ pNod ad σ (q + 3) (ln + 1) F2 c2) (s : Int) (hs : ir s) (h8 : ir (F1 9)) (h9 : ir (F2 9)) : ∀ l, gVo l G f0 ad 400 y_Nod_loseThoseBelow (.code y_Nod_loseThoseBelow c_Nod_loseThoseBelow 2 none) rm_Nod_loseThoseBelow [.ref (ad b), .int (iv (s))] σ (fun σ' => σ' = (match ch with | none => σ | some q => va_up (va_up σ q (nodE ad q ln (va_up F1 9 (if s < F1 9 then s else F1 9)) c1)) (q + 3) (nodE ad (q + 3) (ln + 1) (va_up F2 9 (if s < F2 9 then s else F2 9)) c2))) := by
  intro l
  refine mV_of (by decide) (Nat.le_of_ble_eq_true rfl) (fun X hX hret => ?_)
  show vV G X 0 0 0 [(0, .ref (ad b)), (1, .int (iv (s)))] [] (ov f0 ad 400 σ)
  rcases ch with _ | q
  · have hn1 := hN.1
    refine v_aload_n hX d_Nod_loseThoseBelow_0 0 rfl ?_
    refine g_get (i := b) hX hj fl_Nod_22 d_Nod_loseThoseBelow_1 (by omega) hn1 rfl ?_
    refine v_ifnullN (tgt := 50) hX d_Nod_loseThoseBelow_4 (by decide) ?_
    exact hret _ _ _ d_Nod_loseThoseBelow_50 ⟨_, rfl, rfl⟩
  · have hn1 := hN.1
    have hq1 := hK _ rfl
    refine v_aload_n hX d_Nod_loseThoseBelow_0 0 rfl ?_
    refine g_get (i := b) hX hj fl_Nod_22 d_Nod_loseThoseBelow_1 (by omega) hn1 rfl ?_
    refine v_ifnull hX d_Nod_loseThoseBelow_4 ?_
    refine v_aload_n hX d_Nod_loseThoseBelow_7 0 rfl ?_
    refine g_get (i := b) hX hj fl_Nod_26 d_Nod_loseThoseBelow_8 (by omega) hn1 rfl ?_
    refine v_ifnull hX d_Nod_loseThoseBelow_11 ?_
    refine v_aload_n hX d_Nod_loseThoseBelow_14 0 rfl ?_
    refine g_get (i := b) hX hj fl_Nod_22 d_Nod_loseThoseBelow_15 (by omega) hn1 rfl ?_
    refine v_aload_n hX d_Nod_loseThoseBelow_18 0 rfl ?_
    refine g_get (i := b) hX hj fl_Nod_22 d_Nod_loseThoseBelow_19 (by omega) hn1 rfl ?_
    refine g_get (i := q) hX hj fl_Nod_54 d_Nod_loseThoseBelow_22 (by omega) hq1.2.2.1.1 rfl ?_
    refine v_iload_n hX d_Nod_loseThoseBelow_25 1 rfl ?_
    refine v_mmin (a := (F1 9)) (b := s) (st := [.ref (ad q)]) hX (by first | assumption | (unfold ir at *; omega)) (by first | assumption | (unfold ir at *; omega)) d_Nod_loseThoseBelow_26 (mT 549 (by decide +kernel) rfl) (mT 550 (by decide +kernel) rfl) (mT 55 (by decide +kernel) rfl) (mT 551 (by decide +kernel) rfl) (by decide) (Nat.le_of_ble_eq_true rfl) (Nat.le_refl _) (Nat.le_refl _) ?_
    refine g_put (i := q) (fs' := [.int (iv (((ln : Nat) : Int))), .ref (ad (q + 1)), .int (iv ((F1 2))), .int (iv ((F1 3))), .int (iv ((F1 4))), .int (iv ((F1 5))), lC ad c1, lC ad (c1.map (fun q => q + 3)), .int (iv ((F1 8))), .int (iv ((if s < (F1 9) then s else (F1 9)))), .int (iv ((F1 10))), .int (iv ((F1 11)))]) hX hj pf_Nod_54 d_Nod_loseThoseBelow_29 (by omega) hq1.2.2.1.1 rfl rfl (Nat.le_of_ble_eq_true rfl) rfl ?_
    obtain ⟨σ1, hs2⟩ : ∃ s9, s9 = va_up σ (q) (eO 3 [.int (iv (((ln : Nat) : Int))), .ref (ad (q + 1)), .int (iv ((F1 2))), .int (iv ((F1 3))), .int (iv ((F1 4))), .int (iv ((F1 5))), lC ad c1, lC ad (c1.map (fun q => q + 3)), .int (iv ((F1 8))), .int (iv ((if s < (F1 9) then s else (F1 9)))), .int (iv ((F1 10))), .int (iv ((F1 11)))]) := ⟨_, rfl⟩
    rw [← hs2]
    have hf3 := (show σ1 (b) = σ (b) by rw [hs2, va_up_ne _ _ (by omega)]).trans hn1
    have hf4 := (show σ1 (b + 1) = σ (b + 1) by rw [hs2, va_up_ne _ _ (by omega)]).trans hN.2.1
    have hf6 := (show σ1 (q + 3) = σ (q + 3) by rw [hs2, va_up_ne _ _ (by omega)]).trans hq1.2.2.2.1
    have hf7 : σ1 (q) = (eO 3 [.int (iv (((ln : Nat) : Int))), .ref (ad (q + 1)), .int (iv ((F1 2))), .int (iv ((F1 3))), .int (iv ((F1 4))), .int (iv ((F1 5))), lC ad c1, lC ad (c1.map (fun q => q + 3)), .int (iv ((F1 8))), .int (iv ((if s < (F1 9) then s else (F1 9)))), .int (iv ((F1 10))), .int (iv ((F1 11)))]) := by rw [hs2, va_up_self]
    refine v_aload_n hX d_Nod_loseThoseBelow_32 0 rfl ?_
    refine g_get (i := b) hX hj fl_Nod_26 d_Nod_loseThoseBelow_33 (by omega) hf3 rfl ?_
    refine v_aload_n hX d_Nod_loseThoseBelow_36 0 rfl ?_
    refine g_get (i := b) hX hj fl_Nod_26 d_Nod_loseThoseBelow_37 (by omega) hf3 rfl ?_
    refine g_get (i := q + 3) hX hj fl_Nod_54 d_Nod_loseThoseBelow_40 (by omega) hf6 rfl ?_
    refine v_iload_n hX d_Nod_loseThoseBelow_43 1 rfl ?_
    refine v_mmin (a := (F2 9)) (b := s) (st := [.ref (ad (q + 3))]) hX (by first | assumption | (unfold ir at *; omega)) (by first | assumption | (unfold ir at *; omega)) d_Nod_loseThoseBelow_44 (mT 549 (by decide +kernel) rfl) (mT 550 (by decide +kernel) rfl) (mT 55 (by decide +kernel) rfl) (mT 551 (by decide +kernel) rfl) (by decide) (Nat.le_of_ble_eq_true rfl) (Nat.le_refl _) (Nat.le_refl _) ?_
    refine g_put (i := q + 3) (fs' := [.int (iv ((((ln + 1) : Nat) : Int))), .ref (ad (q + 3 + 1)), .int (iv ((F2 2))), .int (iv ((F2 3))), .int (iv ((F2 4))), .int (iv ((F2 5))), lC ad c2, lC ad (c2.map (fun q => q + 3)), .int (iv ((F2 8))), .int (iv ((if s < (F2 9) then s else (F2 9)))), .int (iv ((F2 10))), .int (iv ((F2 11)))]) hX hj pf_Nod_54 d_Nod_loseThoseBelow_47 (by omega) hf6 rfl rfl (Nat.le_of_ble_eq_true rfl) rfl ?_
    obtain ⟨σ8, hs9⟩ : ∃ s9, s9 = va_up σ1 (q + 3) (eO 3 [.int (iv ((((ln + 1) : Nat) : Int))), .ref (ad (q + 3 + 1)), .int (iv ((F2 2))), .int (iv ((F2 3))), .int (iv ((F2 4))), .int (iv ((F2 5))), lC ad c2, lC ad (c2.map (fun q => q + 3)), .int (iv ((F2 8))), .int (iv ((if s < (F2 9) then s else (F2 9)))), .int (iv ((F2 10))), .int (iv ((F2 11)))]) := ⟨_, rfl⟩
    rw [← hs9]
    have hf10 := (show σ8 (b) = σ1 (b) by rw [hs9, va_up_ne _ _ (by omega)]).trans hf3
    have hf11 := (show σ8 (b + 1) = σ1 (b + 1) by rw [hs9, va_up_ne _ _ (by omega)]).trans hf4
    have hf13 := (show σ8 (q) = σ1 (q) by rw [hs9, va_up_ne _ _ (by omega)]).trans hf7
    have hf14 : σ8 (q + 3) = (eO 3 [.int (iv ((((ln + 1) : Nat) : Int))), .ref (ad (q + 3 + 1)), .int (iv ((F2 2))), .int (iv ((F2 3))), .int (iv ((F2 4))), .int (iv ((F2 5))), lC ad c2, lC ad (c2.map (fun q => q + 3)), .int (iv ((F2 8))), .int (iv ((if s < (F2 9) then s else (F2 9)))), .int (iv ((F2 10))), .int (iv ((F2 11)))]) := by rw [hs9, va_up_self]
    exact hret _ _ _ d_Nod_loseThoseBelow_50 ⟨_, rfl, (by rw [hs9, hs2]; rfl)⟩
end
section
/-! TREES: tree t (0 or 1), sz nodes, their numbers T n, their left children's cells ch n -/
def pTre (G : xG) (ad : Nat → Nat) (σ : xF) (t sz : Nat) (T : Nat → Nat → Int) (ch : Nat → Option Nat) : Prop :=
  σ (8 + t) = eO 7 [.int (iv sz), .ref (ad 1), .ref (ad 2), .ref (ad 3), .ref (ad (18 + t)), .ref (ad (76 + 141 * t))] ∧
  σ (18 + t) = eR G 2 47 (fun n => if n < 47 then some (ad (76 + 141 * t + 3 * n)) else none) ∧
  ∀ n, n < 47 → pNod ad σ (76 + 141 * t + 3 * n) n (T n) (ch n)
theorem pNod.up {ad : Nat → Nat} {σ σ' : xF} {b num : Nat} {F : Nat → Int} {ch : Option Nat} (h : pNod ad σ b num F ch) (e0 : σ' b = σ b) (e1 : σ' (b + 1) = σ (b + 1)) (e2 : σ' (b + 2) = σ (b + 2)) : pNod ad σ' b num F ch := ⟨e0.trans h.1, e1.trans h.2.1, e2.trans h.2.2⟩
/-- what 'begin' makes of a node's numbers -/
noncomputable def fBeg (rC : Nat → Nat) (F : Nat → Int) (rows : Nat) (dep : Int) : Nat → Int := va_up (va_up (va_up (va_up F 2 rows) 3 dep) 4 (kLab rC rows : Nat)) 5 (((cnt rows : Nat) : Int) - ((kCnt rC rows (kLab rC rows) : Nat) : Int))
end
section
/-! TREES; by program -/
set_option maxHeartbeats 1000000 in
set_option maxRecDepth 100000 in
theorem m_Tre_find {G : xG} {f0 : xF} {ad : Nat → Nat} (hj : adOk ad 400) {σ : xF} (t : Nat) (ht : t ≤ 1) (sz : Nat) (hz : sz ≤ 47) (T : Nat → Nat → Int) (ch : Nat → Option Nat) (hTr : pTre G ad σ t sz T ch) (k : Int) (hk : ir k) : ∀ l, gR l G f0 ad 400 y_Tre_find (.code y_Tre_find c_Tre_find 2 (some (.object "BestSplits$Node"))) rm_Tre_find [.ref (ad (8 + t)), .int (iv (k))] σ (fun r σ' => σ' = σ ∧ r = (if 0 ≤ k ∧ k < sz then some (ad (76 + 141 * t + 3 * k.toNat)) else none)) := by
  intro l
  refine mR_of (rt := .object "BestSplits$Node") (Or.inl ⟨_, rfl⟩) (by decide) (Nat.le_of_ble_eq_true rfl) (fun X hX hret => ?_)
  show vV G X 0 0 0 [(0, .ref (ad (8 + t))), (1, .int (iv (k)))] [] (ov f0 ad 400 σ)
  obtain ⟨r1, r2, r3⟩ := id hTr
  refine v_iload_n hX d_Tre_find_0 1 rfl ?_
  refine v_if_lt (tgt := 27) hX d_Tre_find_1 (by decide) (by first | assumption | (unfold ir at *; omega)) (fun c1_1 => ?_) (fun c1_1 => ?_)
  · refine v_null hX d_Tre_find_27 ?_
    exact hret _ _ none _ d_Tre_find_28 ⟨_, rfl, rfl, (if_neg (by omega)).symm⟩
  · refine v_iload_n hX d_Tre_find_4 1 rfl ?_
    refine v_aload_n hX d_Tre_find_5 0 rfl ?_
    refine g_get (i := 8 + t) hX hj fl_Tre_36 d_Tre_find_6 (by omega) r1 rfl ?_
    refine v_icmp_ge (tgt := 27) hX d_Tre_find_9 (by decide) (by first | assumption | (unfold ir at *; omega)) (by first | assumption | (unfold ir at *; omega)) (fun c9_2 => ?_) (fun c9_2 => ?_)
    · refine v_null hX d_Tre_find_27 ?_
      exact hret _ _ none _ d_Tre_find_28 ⟨_, rfl, rfl, (if_neg (by omega)).symm⟩
    · refine v_iload_n hX d_Tre_find_12 1 rfl ?_
      refine v_bipush hX (47) d_Tre_find_13 rfl ?_
      refine v_icmp_ge (tgt := 27) hX d_Tre_find_15 (by decide) (by first | assumption | (unfold ir at *; omega)) (by first | assumption | (unfold ir at *; omega)) (fun c15_3 => absurd c15_3 (by omega)) (fun c15_3 => ?_)
      refine v_aload_n hX d_Tre_find_18 0 rfl ?_
      refine g_get (i := 8 + t) hX hj fl_Tre_11 d_Tre_find_19 (by omega) r1 rfl ?_
      refine v_iload_n hX d_Tre_find_22 1 rfl ?_
      refine g_aald (i := 18 + t) hX hj d_Tre_find_23 (by omega) r2 rfl (by decide) (Int.toNat (k)) (by omega) (by omega) (if_pos (by omega)) ?_
      refine v_goto (tgt := 28) hX d_Tre_find_24 (by decide) ?_
      exact hret _ _ (some _) _ d_Tre_find_28 ⟨_, rfl, rfl, (if_pos (by omega)).symm⟩

set_option maxHeartbeats 1000000 in
set_option maxRecDepth 100000 in
theorem m_Tre_begin {G : xG} {f0 : xF} {ad : Nat → Nat} (hj : adOk ad 400) {σ : xF} {n : Nat} {val : Nat → Nat → Int} {cl so rC rK : Nat → Nat} {rL : Nat → Nat → Nat} (hT : pTab G ad σ n val cl so rC rK rL) (hB : bTab n cl so rC rK rL) (t sz : Nat) (ht : t ≤ 1) (r1 : σ (8 + t) = eO 7 [.int (iv sz), .ref (ad 1), .ref (ad 2), .ref (ad 3), .ref (ad (18 + t)), .ref (ad (76 + 141 * t))]) (b num : Nat) (bM : 76 ≤ b ∧ b + 2 < 400) (F : Nat → Int) (c0 : Option Nat) (hN : σ b = nodE ad b num F c0) (rows : Nat) (hR : rows < 16777216) (dep : Int) : ∀ l, gVo l G f0 ad 400 y_Tre_begin (.code y_Tre_begin c_Tre_begin 4 none) rm_Tre_begin [.ref (ad (8 + t)), .ref (ad b), .int (iv (((rows : Nat) : Int))), .int (iv (dep))] σ (fun σ' => σ' = va_up σ b (nodE ad b num (fBeg rC F rows dep) none)) := by
  intro l
  refine mV_of (by decide) (Nat.le_of_ble_eq_true rfl) (fun X hX hret => ?_)
  show vV G X 0 0 0 [(0, .ref (ad (8 + t))), (1, .ref (ad b)), (2, .int (iv (((rows : Nat) : Int)))), (3, .int (iv (dep)))] [] (ov f0 ad 400 σ)
  refine v_aload_n hX d_Tre_begin_0 1 rfl ?_
  refine v_iload_n hX d_Tre_begin_1 2 rfl ?_
  refine g_put (i := b) (fs' := [.int (iv (((num : Nat) : Int))), .ref (ad (b + 1)), .int (iv (((rows : Nat) : Int))), .int (iv ((F 3))), .int (iv ((F 4))), .int (iv ((F 5))), lC ad c0, lC ad (c0.map (fun q => q + 3)), .int (iv ((F 8))), .int (iv ((F 9))), .int (iv ((F 10))), .int (iv ((F 11)))]) hX hj pf_Tre_48 d_Tre_begin_2 (by omega) hN rfl rfl (Nat.le_of_ble_eq_true rfl) rfl ?_
  obtain ⟨σ1, hs2⟩ : ∃ s9, s9 = va_up σ (b) (eO 3 [.int (iv (((num : Nat) : Int))), .ref (ad (b + 1)), .int (iv (((rows : Nat) : Int))), .int (iv ((F 3))), .int (iv ((F 4))), .int (iv ((F 5))), lC ad c0, lC ad (c0.map (fun q => q + 3)), .int (iv ((F 8))), .int (iv ((F 9))), .int (iv ((F 10))), .int (iv ((F 11)))]) := ⟨_, rfl⟩
  rw [← hs2]
  have hf3 := (show σ1 (8 + t) = σ (8 + t) by rw [hs2, va_up_ne _ _ (by omega)]).trans r1
  have hf5 : σ1 (b) = (eO 3 [.int (iv (((num : Nat) : Int))), .ref (ad (b + 1)), .int (iv (((rows : Nat) : Int))), .int (iv ((F 3))), .int (iv ((F 4))), .int (iv ((F 5))), lC ad c0, lC ad (c0.map (fun q => q + 3)), .int (iv ((F 8))), .int (iv ((F 9))), .int (iv ((F 10))), .int (iv ((F 11)))]) := by rw [hs2, va_up_self]
  refine v_aload_n hX d_Tre_begin_5 1 rfl ?_
  refine v_iload_n hX d_Tre_begin_6 3 rfl ?_
  refine g_put (i := b) (fs' := [.int (iv (((num : Nat) : Int))), .ref (ad (b + 1)), .int (iv (((rows : Nat) : Int))), .int (iv (dep)), .int (iv ((F 4))), .int (iv ((F 5))), lC ad c0, lC ad (c0.map (fun q => q + 3)), .int (iv ((F 8))), .int (iv ((F 9))), .int (iv ((F 10))), .int (iv ((F 11)))]) hX hj pf_Tre_51 d_Tre_begin_7 (by omega) hf5 rfl rfl (Nat.le_of_ble_eq_true rfl) rfl ?_
  obtain ⟨σ6, hs7⟩ : ∃ s9, s9 = va_up σ1 (b) (eO 3 [.int (iv (((num : Nat) : Int))), .ref (ad (b + 1)), .int (iv (((rows : Nat) : Int))), .int (iv (dep)), .int (iv ((F 4))), .int (iv ((F 5))), lC ad c0, lC ad (c0.map (fun q => q + 3)), .int (iv ((F 8))), .int (iv ((F 9))), .int (iv ((F 10))), .int (iv ((F 11)))]) := ⟨_, rfl⟩
  rw [← hs7]
  have hf8 := (show σ6 (8 + t) = σ1 (8 + t) by rw [hs7, va_up_ne _ _ (by omega)]).trans hf3
  have hf10 : σ6 (b) = (eO 3 [.int (iv (((num : Nat) : Int))), .ref (ad (b + 1)), .int (iv (((rows : Nat) : Int))), .int (iv (dep)), .int (iv ((F 4))), .int (iv ((F 5))), lC ad c0, lC ad (c0.map (fun q => q + 3)), .int (iv ((F 8))), .int (iv ((F 9))), .int (iv ((F 10))), .int (iv ((F 11)))]) := by rw [hs7, va_up_self]
  refine v_aload_n hX d_Tre_begin_10 1 rfl ?_
  have hTa : pTab G ad σ6 n val cl so rC rK rL := hT.up (fun i9 hi9 => by rw [hs7, va_up_ne _ _ (by omega), hs2, va_up_ne _ _ (by omega)])
  refine v_aload_n hX d_Tre_begin_11 0 rfl ?_
  refine g_get (i := 8 + t) hX hj fl_Tre_17 d_Tre_begin_12 (by omega) hf8 rfl ?_
  refine v_iload_n hX d_Tre_begin_15 2 rfl ?_
  refine g_callVI (As := [.int (iv (((rows : Nat) : Int)))]) (st := [.ref (ad b)]) hX hj (i := 1) (by omega) hTa.1 (m_Tab_labelOf hj hTa hB rows hR) cl_Tre_54 d_Tre_begin_16 rfl ⟨by decide, by decide⟩ ⟨by decide, by decide⟩ (Nat.le_of_ble_eq_true rfl) (fun z11 σ12 hz13 hp14 => ?_)
  obtain ⟨he15, hv16⟩ := hp14
  rw [he15]
  subst hv16
  refine g_put (i := b) (fs' := [.int (iv (((num : Nat) : Int))), .ref (ad (b + 1)), .int (iv (((rows : Nat) : Int))), .int (iv (dep)), .int (iv ((((kLab rC rows) : Nat) : Int))), .int (iv ((F 5))), lC ad c0, lC ad (c0.map (fun q => q + 3)), .int (iv ((F 8))), .int (iv ((F 9))), .int (iv ((F 10))), .int (iv ((F 11)))]) hX hj pf_Tre_60 d_Tre_begin_19 (by omega) hf10 rfl rfl (Nat.le_of_ble_eq_true rfl) rfl ?_
  obtain ⟨σ17, hs18⟩ : ∃ s9, s9 = va_up σ6 (b) (eO 3 [.int (iv (((num : Nat) : Int))), .ref (ad (b + 1)), .int (iv (((rows : Nat) : Int))), .int (iv (dep)), .int (iv ((((kLab rC rows) : Nat) : Int))), .int (iv ((F 5))), lC ad c0, lC ad (c0.map (fun q => q + 3)), .int (iv ((F 8))), .int (iv ((F 9))), .int (iv ((F 10))), .int (iv ((F 11)))]) := ⟨_, rfl⟩
  rw [← hs18]
  have hf19 := (show σ17 (8 + t) = σ6 (8 + t) by rw [hs18, va_up_ne _ _ (by omega)]).trans hf8
  have hf21 := (show σ17 (1) = σ6 (1) by rw [hs18, va_up_ne _ _ (by omega)]).trans hTa.1
  have hf22 : σ17 (b) = (eO 3 [.int (iv (((num : Nat) : Int))), .ref (ad (b + 1)), .int (iv (((rows : Nat) : Int))), .int (iv (dep)), .int (iv ((((kLab rC rows) : Nat) : Int))), .int (iv ((F 5))), lC ad c0, lC ad (c0.map (fun q => q + 3)), .int (iv ((F 8))), .int (iv ((F 9))), .int (iv ((F 10))), .int (iv ((F 11)))]) := by rw [hs18, va_up_self]
  refine v_aload_n hX d_Tre_begin_22 1 rfl ?_
  refine v_iload_n hX d_Tre_begin_23 2 rfl ?_
  refine g_callSI (As := [.int (iv (((rows : Nat) : Int)))]) (st := [.ref (ad b)]) hX (k0_Int_bitCount rows hR) cl_Tre_63 d_Tre_begin_24 rfl ⟨by decide, by decide⟩ ⟨by decide, by decide⟩ (Nat.le_of_ble_eq_true rfl) (fun z23 hz24 hp25 => ?_)
  subst hp25
  have hTb : pTab G ad σ17 n val cl so rC rK rL := hT.up (fun i9 hi9 => by rw [hs18, va_up_ne _ _ (by omega), hs7, va_up_ne _ _ (by omega), hs2, va_up_ne _ _ (by omega)])
  refine v_aload_n hX d_Tre_begin_27 0 rfl ?_
  refine g_get (i := 8 + t) hX hj fl_Tre_17 d_Tre_begin_28 (by omega) hf19 rfl ?_
  refine v_iload_n hX d_Tre_begin_31 2 rfl ?_
  refine v_aload_n hX d_Tre_begin_32 1 rfl ?_
  refine g_get (i := b) hX hj fl_Tre_60 d_Tre_begin_33 (by omega) hf22 rfl ?_
  refine g_callVI (As := [.int (iv (((rows : Nat) : Int))), .int (iv ((((kLab rC rows) : Nat) : Int)))]) (st := [.int (iv ((((cnt rows) : Nat) : Int))), .ref (ad b)]) hX hj (i := 1) (by omega) hTb.1 (m_Tab_countOf hj hTb hB rows (kLab rC rows) hR (kLab_lt rC rows)) cl_Tre_68 d_Tre_begin_36 rfl ⟨by decide, by decide⟩ ⟨by decide, by decide⟩ (Nat.le_of_ble_eq_true rfl) (fun z26 σ27 hz28 hp29 => ?_)
  obtain ⟨he30, hv31⟩ := hp29
  rw [he30]
  subst hv31
  refine v_isub hX d_Tre_begin_39 ?_
  refine g_put (i := b) (fs' := [.int (iv (((num : Nat) : Int))), .ref (ad (b + 1)), .int (iv (((rows : Nat) : Int))), .int (iv (dep)), .int (iv ((((kLab rC rows) : Nat) : Int))), .int (iv (((((cnt rows) : Nat) : Int) - (((kCnt rC rows (kLab rC rows)) : Nat) : Int)))), lC ad c0, lC ad (c0.map (fun q => q + 3)), .int (iv ((F 8))), .int (iv ((F 9))), .int (iv ((F 10))), .int (iv ((F 11)))]) hX hj pf_Tre_72 d_Tre_begin_40 (by omega) hf22 rfl rfl (Nat.le_of_ble_eq_true rfl) rfl ?_
  obtain ⟨σ32, hs33⟩ : ∃ s9, s9 = va_up σ17 (b) (eO 3 [.int (iv (((num : Nat) : Int))), .ref (ad (b + 1)), .int (iv (((rows : Nat) : Int))), .int (iv (dep)), .int (iv ((((kLab rC rows) : Nat) : Int))), .int (iv (((((cnt rows) : Nat) : Int) - (((kCnt rC rows (kLab rC rows)) : Nat) : Int)))), lC ad c0, lC ad (c0.map (fun q => q + 3)), .int (iv ((F 8))), .int (iv ((F 9))), .int (iv ((F 10))), .int (iv ((F 11)))]) := ⟨_, rfl⟩
  rw [← hs33]
  have hf34 := (show σ32 (8 + t) = σ17 (8 + t) by rw [hs33, va_up_ne _ _ (by omega)]).trans hf19
  have hf35 := (show σ32 (1) = σ17 (1) by rw [hs33, va_up_ne _ _ (by omega)]).trans hTb.1
  have hf37 : σ32 (b) = (eO 3 [.int (iv (((num : Nat) : Int))), .ref (ad (b + 1)), .int (iv (((rows : Nat) : Int))), .int (iv (dep)), .int (iv ((((kLab rC rows) : Nat) : Int))), .int (iv (((((cnt rows) : Nat) : Int) - (((kCnt rC rows (kLab rC rows)) : Nat) : Int)))), lC ad c0, lC ad (c0.map (fun q => q + 3)), .int (iv ((F 8))), .int (iv ((F 9))), .int (iv ((F 10))), .int (iv ((F 11)))]) := by rw [hs33, va_up_self]
  refine v_aload_n hX d_Tre_begin_43 1 rfl ?_
  refine v_null hX d_Tre_begin_44 ?_
  refine g_put (i := b) (fs' := [.int (iv (((num : Nat) : Int))), .ref (ad (b + 1)), .int (iv (((rows : Nat) : Int))), .int (iv (dep)), .int (iv ((((kLab rC rows) : Nat) : Int))), .int (iv (((((cnt rows) : Nat) : Int) - (((kCnt rC rows (kLab rC rows)) : Nat) : Int)))), .null, lC ad (c0.map (fun q => q + 3)), .int (iv ((F 8))), .int (iv ((F 9))), .int (iv ((F 10))), .int (iv ((F 11)))]) hX hj pf_Tre_75 d_Tre_begin_45 (by omega) hf37 rfl rfl (Nat.le_of_ble_eq_true rfl) rfl ?_
  obtain ⟨σ38, hs39⟩ : ∃ s9, s9 = va_up σ32 (b) (eO 3 [.int (iv (((num : Nat) : Int))), .ref (ad (b + 1)), .int (iv (((rows : Nat) : Int))), .int (iv (dep)), .int (iv ((((kLab rC rows) : Nat) : Int))), .int (iv (((((cnt rows) : Nat) : Int) - (((kCnt rC rows (kLab rC rows)) : Nat) : Int)))), .null, lC ad (c0.map (fun q => q + 3)), .int (iv ((F 8))), .int (iv ((F 9))), .int (iv ((F 10))), .int (iv ((F 11)))]) := ⟨_, rfl⟩
  rw [← hs39]
  have hf40 := (show σ38 (8 + t) = σ32 (8 + t) by rw [hs39, va_up_ne _ _ (by omega)]).trans hf34
  have hf41 := (show σ38 (1) = σ32 (1) by rw [hs39, va_up_ne _ _ (by omega)]).trans hf35
  have hf43 : σ38 (b) = (eO 3 [.int (iv (((num : Nat) : Int))), .ref (ad (b + 1)), .int (iv (((rows : Nat) : Int))), .int (iv (dep)), .int (iv ((((kLab rC rows) : Nat) : Int))), .int (iv (((((cnt rows) : Nat) : Int) - (((kCnt rC rows (kLab rC rows)) : Nat) : Int)))), .null, lC ad (c0.map (fun q => q + 3)), .int (iv ((F 8))), .int (iv ((F 9))), .int (iv ((F 10))), .int (iv ((F 11)))]) := by rw [hs39, va_up_self]
  refine v_aload_n hX d_Tre_begin_48 1 rfl ?_
  refine v_null hX d_Tre_begin_49 ?_
  refine g_put (i := b) (fs' := [.int (iv (((num : Nat) : Int))), .ref (ad (b + 1)), .int (iv (((rows : Nat) : Int))), .int (iv (dep)), .int (iv ((((kLab rC rows) : Nat) : Int))), .int (iv (((((cnt rows) : Nat) : Int) - (((kCnt rC rows (kLab rC rows)) : Nat) : Int)))), .null, .null, .int (iv ((F 8))), .int (iv ((F 9))), .int (iv ((F 10))), .int (iv ((F 11)))]) hX hj pf_Tre_78 d_Tre_begin_50 (by omega) hf43 rfl rfl (Nat.le_of_ble_eq_true rfl) rfl ?_
  obtain ⟨σ44, hs45⟩ : ∃ s9, s9 = va_up σ38 (b) (eO 3 [.int (iv (((num : Nat) : Int))), .ref (ad (b + 1)), .int (iv (((rows : Nat) : Int))), .int (iv (dep)), .int (iv ((((kLab rC rows) : Nat) : Int))), .int (iv (((((cnt rows) : Nat) : Int) - (((kCnt rC rows (kLab rC rows)) : Nat) : Int)))), .null, .null, .int (iv ((F 8))), .int (iv ((F 9))), .int (iv ((F 10))), .int (iv ((F 11)))]) := ⟨_, rfl⟩
  rw [← hs45]
  have hf46 := (show σ44 (8 + t) = σ38 (8 + t) by rw [hs45, va_up_ne _ _ (by omega)]).trans hf40
  have hf47 := (show σ44 (1) = σ38 (1) by rw [hs45, va_up_ne _ _ (by omega)]).trans hf41
  have hf49 : σ44 (b) = (eO 3 [.int (iv (((num : Nat) : Int))), .ref (ad (b + 1)), .int (iv (((rows : Nat) : Int))), .int (iv (dep)), .int (iv ((((kLab rC rows) : Nat) : Int))), .int (iv (((((cnt rows) : Nat) : Int) - (((kCnt rC rows (kLab rC rows)) : Nat) : Int)))), .null, .null, .int (iv ((F 8))), .int (iv ((F 9))), .int (iv ((F 10))), .int (iv ((F 11)))]) := by rw [hs45, va_up_self]
  exact hret _ _ _ d_Tre_begin_53 ⟨_, rfl, (by rw [hs45, hs39, hs33, hs18, hs7, hs2, bx_uu, bx_uu, bx_uu, bx_uu, bx_uu]; rfl)⟩
end
section
/-! the best of a survey that has found one -/
def lkR (rC rK : Nat → Nat) (rL : Nat → Nat → Nat) (rows : Nat) (B : lkB) : Prop := 0 < B.1 → ∃ c num side : Nat, c < 4 ∧ num ≤ 100 ∧ side ≤ 1 ∧ B.2.1 = c ∧ B.2.2.1 = num ∧ B.2.2.2.1 = side ∧ B.2.2.2.2.1 = kAb rC rK rL rows c num side ∧ B.2.2.2.2.2 = (kBe rK rL rows c num side : Int)
theorem lkR_S {rC rK : Nat → Nat} {rL : Nat → Nat → Nat} {le rows c num side : Nat} {B : lkB} (hc : c < 4) (hn : num ≤ 100) (hs : side ≤ 1) (h : lkR rC rK rL rows B) : lkR rC rK rL rows (lkS rC rK rL le rows c num side B) := by
  unfold lkS
  by_cases h1 : kMay rK rL le rows c num side = true
  · rw [if_pos h1]
    by_cases h2 : B.1 = 0 ∨ B.2.2.2.2.1 * (kBe rK rL rows c num side : Int) < kAb rC rK rL rows c num side * B.2.2.2.2.2
    · rw [if_pos h2]
      exact fun _ => ⟨c, num, side, hc, hn, hs, rfl, rfl, rfl, rfl, rfl⟩
    · rw [if_neg h2]
      exact fun _ => h (by omega)
  · rw [if_neg h1]
    exact h
theorem lkR_1 {so rC rK : Nat → Nat} {rL : Nat → Nat → Nat} {le rows c : Nat} {B : lkB} (hc : c < 4) (h : lkR rC rK rL rows B) : ∀ k, k ≤ 101 → lkR rC rK rL rows (lk1 so rC rK rL le rows c k B)
  | 0, _ => h
  | k + 1, hk => by
    have h1 := lkR_1 (so := so) (le := le) hc h k (by omega)
    show lkR rC rK rL rows (lk2 so rC rK rL le rows c k (lk1 so rC rK rL le rows c k B))
    unfold lk2
    split
    · exact lkR_S hc (by omega) (by decide) (lkR_S hc (by omega) (by decide) h1)
    · exact h1
theorem lkR_0 {so rC rK : Nat → Nat} {rL : Nat → Nat → Nat} {le rows : Nat} {B : lkB} (h : lkR rC rK rL rows B) : ∀ c, c ≤ 4 → lkR rC rK rL rows (lk0 so rC rK rL le rows c B)
  | 0, _ => h
  | c + 1, hc => lkR_1 (so := so) (le := le) (by omega) (lkR_0 (so := so) (le := le) h c (by omega)) 101 (by decide)
theorem lkR_all {so rC rK : Nat → Nat} {rL : Nat → Nat → Nat} {le rows : Nat} {B : lkB} {B0 : Int × Int × Int × Int × Int} (hB : B = lk0 so rC rK rL le rows 4 (0, B0)) : lkR rC rK rL rows B := by
  rw [hB]
  exact lkR_0 (fun h => absurd h (Nat.lt_irrefl 0)) 4 (by decide)
theorem lkS_1 {rC rK : Nat → Nat} {rL : Nat → Nat → Nat} {le rows c num side : Nat} (B : lkB) : (lkS rC rK rL le rows c num side B).1 ≤ B.1 + 1 := by
  unfold lkS
  split
  · split
    · exact Nat.le_refl _
    · exact Nat.le_refl _
  · exact Nat.le_succ _
theorem lk1_1 {so rC rK : Nat → Nat} {rL : Nat → Nat → Nat} {le rows c : Nat} (B : lkB) : ∀ k, (lk1 so rC rK rL le rows c k B).1 ≤ B.1 + 2 * k
  | 0 => Nat.le_refl _
  | k + 1 => by
    have h1 := lk1_1 (so := so) (rC := rC) (rK := rK) (rL := rL) (le := le) (rows := rows) (c := c) B k
    show (lk2 so rC rK rL le rows c k (lk1 so rC rK rL le rows c k B)).1 ≤ _
    unfold lk2
    split
    · have h2 := lkS_1 (rC := rC) (rK := rK) (rL := rL) (le := le) (rows := rows) (c := c) (num := k) (side := 0) (lk1 so rC rK rL le rows c k B)
      have h3 := lkS_1 (rC := rC) (rK := rK) (rL := rL) (le := le) (rows := rows) (c := c) (num := k) (side := 1) (lkS rC rK rL le rows c k 0 (lk1 so rC rK rL le rows c k B))
      omega
    · omega
theorem lk0_1 {so rC rK : Nat → Nat} {rL : Nat → Nat → Nat} {le rows : Nat} (B : lkB) : ∀ c, (lk0 so rC rK rL le rows c B).1 ≤ B.1 + 202 * c
  | 0 => Nat.le_refl _
  | c + 1 => by
    have h1 := lk0_1 (so := so) (rC := rC) (rK := rK) (rL := rL) (le := le) (rows := rows) B c
    have h2 := lk1_1 (so := so) (rC := rC) (rK := rK) (rL := rL) (le := le) (rows := rows) (c := c) (lk0 so rC rK rL le rows c B) 101
    show (lk1 so rC rK rL le rows c 101 (lk0 so rC rK rL le rows c B)).1 ≤ _
    omega
theorem lkB_le {so rC rK : Nat → Nat} {rL : Nat → Nat → Nat} {le rows : Nat} {B : lkB} {B0 : Int × Int × Int × Int × Int} (hB : B = lk0 so rC rK rL le rows 4 (0, B0)) : B.1 ≤ 808 := by
  rw [hB]
  exact lk0_1 (so := so) (rC := rC) (rK := rK) (rL := rL) (le := le) (rows := rows) (0, B0) 4
end
section
/-! A NODE IS PARTED; by program -/
set_option maxHeartbeats 1000000 in
set_option maxRecDepth 100000 in
theorem m_Tre_partIfDue {G : xG} {f0 : xF} {ad : Nat → Nat} (hj : adOk ad 400) {σ : xF} {n : Nat} {val : Nat → Nat → Int} {cl so rC rK : Nat → Nat} {rL : Nat → Nat → Nat} (hT : pTab G ad σ n val cl so rC rK rL) (hB : bTab n cl so rC rK rL) (hS : pSur ad σ) {le de wo : Nat} (hL : pLim σ de le wo) (hle : le ≤ 10) (hwo : wo ≤ 1000) (hde : de ≤ 5) (B0 : Int × Int × Int × Int × Int) (hI0 : lkI ad σ σ (0, B0)) (t : Nat) (ht : t ≤ 1) (sz : Nat) (hz : sz ≤ 47) (T : Nat → Nat → Int) (ch : Nat → Option Nat) (hTr : pTre G ad σ t sz T ch) (k b : Nat) (hk : k < sz) (hb : b = 76 + 141 * t + 3 * k) (ro dp : Nat) (hR : ro < 16777216) (hdp : dp ≤ 5) (h2 : T k 2 = (ro : Int)) (h3 : T k 3 = (dp : Int)) (h5 : ir (T k 5)) : ∀ l, gVo l G f0 ad 400 y_Tre_partIfDue (.code y_Tre_partIfDue c_Tre_partIfDue 6 none) rm_Tre_partIfDue [.ref (ad (8 + t)), .ref (ad b)] σ (fun σ' => ((T k 5 = 0 ∨ de ≤ dp ∨ 47 < sz + 2) ∧ σ' = σ) ∨ (¬ (T k 5 = 0 ∨ de ≤ dp ∨ 47 < sz + 2) ∧ ∃ (B : lkB) (σs : xF), B = lk0 so rC rK rL le ro 4 (0, B0) ∧ lkI ad σ σs B ∧ (((B.1 = 0 ∨ ¬ (wo : Int) * B.2.2.2.2.2 < 100 * B.2.2.2.2.1) ∧ σ' = σs) ∨ (¬ (B.1 = 0 ∨ ¬ (wo : Int) * B.2.2.2.2.2 < 100 * B.2.2.2.2.1) ∧ ∃ c num side : Nat, c < 4 ∧ num ≤ 100 ∧ side ≤ 1 ∧ B.2.1 = c ∧ B.2.2.1 = num ∧ B.2.2.2.1 = side ∧ σ' = va_up (va_up (va_up (va_up (va_up (va_up σs (b + 1) (eO 0 [.ref (ad (b + 2)), .int (iv B.2.1), .int (iv B.2.2.1), .int (iv B.2.2.2.1)])) (b + 2) (eO 1 [.int (iv B.2.2.2.2.1), .int (iv B.2.2.2.2.2)])) (76 + 141 * t + 3 * sz) (nodE ad (76 + 141 * t + 3 * sz) sz (fBeg rC (T sz) (kLeft rK rL ro c num side) ((dp + 1 : Nat) : Int)) none)) (76 + 141 * t + 3 * (sz + 1)) (nodE ad (76 + 141 * t + 3 * (sz + 1)) (sz + 1) (fBeg rC (T (sz + 1)) (nd ro (kLeft rK rL ro c num side)) ((dp + 1 : Nat) : Int)) none)) b (nodE ad b k (T k) (some (76 + 141 * t + 3 * sz)))) (8 + t) (eO 7 [.int (iv ((sz + 2 : Nat) : Int)), .ref (ad 1), .ref (ad 2), .ref (ad 3), .ref (ad (18 + t)), .ref (ad (76 + 141 * t))]))))) := by
  intro l
  refine mV_of (by decide) (Nat.le_of_ble_eq_true rfl) (fun X hX hret => ?_)
  show vV G X 0 0 0 [(0, .ref (ad (8 + t))), (1, .ref (ad b))] [] (ov f0 ad 400 σ)
  obtain ⟨r1, r2, r3⟩ := id hTr
  have hnk := r3 k (by omega)
  rw [← hb] at hnk
  have hn1 : σ b = eO 3 [.int (iv k), .ref (ad (b + 1)), .int (iv ((ro : Nat) : Int)), .int (iv ((dp : Nat) : Int)), .int (iv (T k 4)), .int (iv (T k 5)), lC ad (ch k), lC ad ((ch k).map (fun q => q + 3)), .int (iv (T k 8)), .int (iv (T k 9)), .int (iv (T k 10)), .int (iv (T k 11))] := by rw [← h2, ← h3]; exact hnk.1
  refine v_aload_n hX d_Tre_partIfDue_0 1 rfl ?_
  refine g_get (i := b) hX hj fl_Tre_72 d_Tre_partIfDue_1 (by omega) hn1 rfl ?_
  refine v_if_eq (tgt := 32) hX d_Tre_partIfDue_4 (by decide) (by first | assumption | (unfold ir; omega)) (fun c4_1 => ?_) (fun c4_1 => ?_)
  · exact hret _ _ _ d_Tre_partIfDue_32 ⟨_, rfl, Or.inl ⟨by omega, rfl⟩⟩
  · refine v_aload_n hX d_Tre_partIfDue_7 1 rfl ?_
    refine g_get (i := b) hX hj fl_Tre_51 d_Tre_partIfDue_8 (by omega) hn1 rfl ?_
    refine v_aload_n hX d_Tre_partIfDue_11 0 rfl ?_
    refine g_get (i := 8 + t) hX hj fl_Tre_21 d_Tre_partIfDue_12 (by omega) r1 rfl ?_
    refine g_get (i := 2) hX hj fl_Tre_81 d_Tre_partIfDue_15 (by omega) hL rfl ?_
    refine v_icmp_ge (tgt := 32) hX d_Tre_partIfDue_18 (by decide) (by first | assumption | (unfold ir; omega)) (by first | assumption | (unfold ir; omega)) (fun c18_2 => ?_) (fun c18_2 => ?_)
    · exact hret _ _ _ d_Tre_partIfDue_32 ⟨_, rfl, Or.inl ⟨by omega, rfl⟩⟩
    · refine v_aload_n hX d_Tre_partIfDue_21 0 rfl ?_
      refine g_get (i := 8 + t) hX hj fl_Tre_36 d_Tre_partIfDue_22 (by omega) r1 rfl ?_
      refine v_iconst hX (2) d_Tre_partIfDue_25 ?_
      refine v_iaddN (a := sz) (b := 2) hX d_Tre_partIfDue_26 ?_
      refine v_bipush hX (47) d_Tre_partIfDue_27 rfl ?_
      refine v_icmp_le (tgt := 33) hX d_Tre_partIfDue_29 (by decide) (by first | assumption | (unfold ir; omega)) (by first | assumption | (unfold ir; omega)) (fun c29_3 => ?_) (fun c29_3 => ?_)
      · refine v_aload_n hX d_Tre_partIfDue_33 0 rfl ?_
        refine g_get (i := 8 + t) hX hj fl_Tre_25 d_Tre_partIfDue_34 (by omega) r1 rfl ?_
        refine v_aload_n hX d_Tre_partIfDue_37 1 rfl ?_
        refine g_get (i := b) hX hj fl_Tre_48 d_Tre_partIfDue_38 (by omega) hn1 rfl ?_
        refine g_callVI (As := [.int (iv (((ro : Nat) : Int)))]) (st := []) hX hj (i := 3) (by omega) hS (m_Sur_look hj hT hB hS hL hle B0 hI0 ro hR) cl_Tre_84 d_Tre_partIfDue_41 rfl ⟨by decide, by decide⟩ ⟨by decide, by decide⟩ (Nat.le_of_ble_eq_true rfl) (fun z1 σ2 hz3 hp4 => ?_)
        obtain ⟨B, hBe, hv, hI⟩ := hp4
        subst hv
        have hf5 := (show σ2 (8 + t) = σ (8 + t) by rw [hI.1 _ (by omega) (by omega) (by omega) (by omega)]).trans r1
        have hf6 := (show σ2 (18 + t) = σ (18 + t) by rw [hI.1 _ (by omega) (by omega) (by omega) (by omega)]).trans r2
        have hf7 := (show σ2 (b) = σ (b) by rw [hI.1 _ (by omega) (by omega) (by omega) (by omega)]).trans hn1
        have hf8 := (show σ2 (b + 1) = σ (b + 1) by rw [hI.1 _ (by omega) (by omega) (by omega) (by omega)]).trans hnk.2.1
        have hf9 := (show σ2 (b + 2) = σ (b + 2) by rw [hI.1 _ (by omega) (by omega) (by omega) (by omega)]).trans hnk.2.2
        have hf10 := (show σ2 (3) = σ (3) by rw [hI.1 _ (by omega) (by omega) (by omega) (by omega)]).trans hS
        have hf11 := (show σ2 (2) = σ (2) by rw [hI.1 _ (by omega) (by omega) (by omega) (by omega)]).trans hL
        have hf12 := (show σ2 (1) = σ (1) by rw [hI.1 _ (by omega) (by omega) (by omega) (by omega)]).trans hT.1
        have hTs := lkI_tab hI hT
        refine v_if_eq (tgt := 70) hX d_Tre_partIfDue_44 (by decide) (by have := lkB_le hBe; unfold ir; omega) (fun c44_4 => ?_) (fun c44_4 => ?_)
        · exact hret _ _ _ d_Tre_partIfDue_70 ⟨_, rfl, Or.inr ⟨by omega, B, _, hBe, hI, Or.inl ⟨by omega, rfl⟩⟩⟩
        · refine v_aload_n hX d_Tre_partIfDue_47 0 rfl ?_
          refine g_get (i := 8 + t) hX hj fl_Tre_25 d_Tre_partIfDue_48 (by omega) hf5 rfl ?_
          refine g_get (i := 3) hX hj fl_Tre_89 d_Tre_partIfDue_51 (by omega) hf10 rfl ?_
          refine g_get (i := 6) hX hj fl_Tre_93 d_Tre_partIfDue_54 (by omega) hI.2.2.2.1 rfl ?_
          refine v_aload_n hX d_Tre_partIfDue_57 0 rfl ?_
          refine g_get (i := 8 + t) hX hj fl_Tre_21 d_Tre_partIfDue_58 (by omega) hf5 rfl ?_
          refine g_get (i := 2) hX hj fl_Tre_99 d_Tre_partIfDue_61 (by omega) hf11 rfl ?_
          refine g_callVI (As := [.int (iv (((wo : Nat) : Int)))]) (st := []) hX hj (i := 7) (by omega) hI.2.2.2.2.1 (m_Fra_isAboveHundredths hj 7 (by decide) B.2.2.2.2.1 B.2.2.2.2.2 hI.2.2.2.2.1 (wo : Int) hI.2.2.2.2.2.1 hI.2.2.2.2.2.2 (ir_n (by omega))) cl_Tre_102 d_Tre_partIfDue_64 rfl ⟨by decide, by decide⟩ ⟨by decide, by decide⟩ (Nat.le_of_ble_eq_true rfl) (fun z13 σ14 hz15 hp16 => ?_)
          obtain ⟨he17, hv18⟩ := hp16
          rw [he17]
          by_cases qz13 : (wo : Int) * B.2.2.2.2.2 < 100 * B.2.2.2.2.1
          · have z13e : z13 = 1 := hv18.trans (if_pos qz13)
            subst z13e
            refine v_if_ne (tgt := 71) hX d_Tre_partIfDue_67 (by decide) (by first | assumption | (unfold ir; omega)) (fun c9 => ?_) (fun c9 => absurd c9 (by omega))
            refine v_aload_n hX d_Tre_partIfDue_71 1 rfl ?_
            refine g_get (i := b) hX hj fl_Tre_108 d_Tre_partIfDue_72 (by omega) hf7 rfl ?_
            refine v_astore_n (lv' := [(2, .ref (ad (b + 1))), (0, .ref (ad (8 + t))), (1, .ref (ad b))]) hX d_Tre_partIfDue_75 rfl (by decide) rfl ?_
            refine v_aload_n hX d_Tre_partIfDue_76 0 rfl ?_
            refine v_aload_n hX d_Tre_partIfDue_77 1 rfl ?_
            refine g_get (i := 8 + t) hX hj fl_Tre_25 d_Tre_partIfDue_78 (by omega) hf5 rfl ?_
            refine g_get (i := 3) hX hj fl_Tre_89 d_Tre_partIfDue_81 (by omega) hf10 rfl ?_
            refine g_callVV (As := [.ref (ad 6)]) (st := []) hX hj (i := b + 1) (by omega) hf8 (m_Cut_becomeAs hj (b + 1) (b + 2) (by omega) (T k 12) (T k 13) (T k 14) hf8 6 7 (by decide) B.2.1 B.2.2.1 B.2.2.2.1 hI.2.2.2.1 (by omega) (by decide) (T k 15) (T k 16) B.2.2.2.2.1 B.2.2.2.2.2 hf9 hI.2.2.2.2.1 (by omega) (by omega) (by omega) (by omega) (by omega) (by omega)) cl_Tre_111 d_Tre_partIfDue_84 rfl ⟨by decide, by decide⟩ ⟨by decide, by decide⟩ (Nat.le_of_ble_eq_true rfl) (fun σ20 hp22 => ?_)
            have hf23 := (show σ20 (8 + t) = σ2 (8 + t) by rw [hp22, va_up_ne _ _ (by omega), va_up_ne _ _ (by omega)]).trans hf5
            have hf24 := (show σ20 (18 + t) = σ2 (18 + t) by rw [hp22, va_up_ne _ _ (by omega), va_up_ne _ _ (by omega)]).trans hf6
            have hf25 := (show σ20 (b) = σ2 (b) by rw [hp22, va_up_ne _ _ (by omega), va_up_ne _ _ (by omega)]).trans hf7
            have hf26 := (show σ20 (3) = σ2 (3) by rw [hp22, va_up_ne _ _ (by omega), va_up_ne _ _ (by omega)]).trans hf10
            have hf27 := (show σ20 (2) = σ2 (2) by rw [hp22, va_up_ne _ _ (by omega), va_up_ne _ _ (by omega)]).trans hf11
            have hf28 := (show σ20 (1) = σ2 (1) by rw [hp22, va_up_ne _ _ (by omega), va_up_ne _ _ (by omega)]).trans hf12
            have hf29 := (show σ20 (6) = σ2 (6) by rw [hp22, va_up_ne _ _ (by omega), va_up_ne _ _ (by omega)]).trans hI.2.2.2.1
            have hf30 := (show σ20 (7) = σ2 (7) by rw [hp22, va_up_ne _ _ (by omega), va_up_ne _ _ (by omega)]).trans hI.2.2.2.2.1
            have hcb : σ20 (b + 1) = eO 0 [.ref (ad (b + 2)), .int (iv B.2.1), .int (iv B.2.2.1), .int (iv B.2.2.2.1)] := by rw [hp22, va_up_ne _ _ (by omega), va_up_self]
            obtain ⟨c, num, side, hc4, hn4, hs4, e1, e2, e3, e4, e5⟩ := lkR_all hBe (by omega)
            have hTx : pTab G ad σ20 n val cl so rC rK rL := hTs.up (fun i9 hi9 => by rw [hp22, va_up_ne _ _ (by omega), va_up_ne _ _ (by omega)])
            have hLl : (kLeft rK rL ro c num side) < 16777216 := kLeft_lt hR
            have hRr : (nd ro (kLeft rK rL ro c num side)) < 16777216 := Nat.lt_of_le_of_lt (nd_le _ _) hR
            refine v_aload_n hX d_Tre_partIfDue_87 1 rfl ?_
            refine g_get (i := 8 + t) hX hj fl_Tre_17 d_Tre_partIfDue_88 (by omega) hf23 rfl ?_
            refine v_aload_n hX d_Tre_partIfDue_91 2 rfl ?_
            refine g_get (i := b) hX hj fl_Tre_48 d_Tre_partIfDue_92 (by omega) hf25 rfl ?_
            refine v_aload_n hX d_Tre_partIfDue_95 0 rfl ?_
            refine g_get (i := b + 1) hX hj fl_Tre_115 d_Tre_partIfDue_96 (by omega) hcb rfl ?_
            refine v_aload_n hX d_Tre_partIfDue_99 0 rfl ?_
            refine g_get (i := b + 1) hX hj fl_Tre_118 d_Tre_partIfDue_100 (by omega) hcb rfl ?_
            refine v_aload_n hX d_Tre_partIfDue_103 0 rfl ?_
            refine g_get (i := b + 1) hX hj fl_Tre_121 d_Tre_partIfDue_104 (by omega) hcb rfl ?_
            refine v_eq (st' := [.int (iv (((side : Nat) : Int))), .int (iv (((num : Nat) : Int))), .int (iv (((c : Nat) : Int))), .int (iv (((ro : Nat) : Int))), .ref (ad 1)]) (by rw [e1, e2, e3]) ?_
            refine g_callVI (As := [.int (iv (((ro : Nat) : Int))), .int (iv (((c : Nat) : Int))), .int (iv (((num : Nat) : Int))), .int (iv (((side : Nat) : Int)))]) (st := []) hX hj (i := 1) (by omega) hf28 (m_Tab_leftOf hj hTx hB ro c num side hR hc4 hn4 hs4) cl_Tre_124 d_Tre_partIfDue_107 rfl ⟨by decide, by decide⟩ ⟨by decide, by decide⟩ (Nat.le_of_ble_eq_true rfl) (fun z31 σ32 hz33 hp34 => ?_)
            obtain ⟨he35, hv36⟩ := hp34
            rw [he35]
            subst hv36
            refine v_istore_n (lv' := [(3, .int (iv ((((kLeft rK rL ro c num side) : Nat) : Int)))), (2, .ref (ad (b + 1))), (0, .ref (ad (8 + t))), (1, .ref (ad b))]) hX d_Tre_partIfDue_110 rfl (by decide) rfl ?_
            refine v_aload_n hX d_Tre_partIfDue_111 2 rfl ?_
            refine g_get (i := 8 + t) hX hj fl_Tre_11 d_Tre_partIfDue_112 (by omega) hf23 rfl ?_
            refine v_aload_n hX d_Tre_partIfDue_115 2 rfl ?_
            refine g_get (i := 8 + t) hX hj fl_Tre_36 d_Tre_partIfDue_116 (by omega) hf23 rfl ?_
            refine g_aald (i := 18 + t) hX hj d_Tre_partIfDue_119 (by omega) hf24 rfl (by decide) (sz) rfl (by omega) (if_pos (by omega)) ?_
            refine v_astore (lv' := [(4, .ref (ad (76 + 141 * t + 3 * sz))), (3, .int (iv ((((kLeft rK rL ro c num side) : Nat) : Int)))), (2, .ref (ad (b + 1))), (0, .ref (ad (8 + t))), (1, .ref (ad b))]) hX d_Tre_partIfDue_120 (by decide) rfl ?_
            refine v_aload_n hX d_Tre_partIfDue_122 3 rfl ?_
            refine g_get (i := 8 + t) hX hj fl_Tre_11 d_Tre_partIfDue_123 (by omega) hf23 rfl ?_
            refine v_aload_n hX d_Tre_partIfDue_126 3 rfl ?_
            refine g_get (i := 8 + t) hX hj fl_Tre_36 d_Tre_partIfDue_127 (by omega) hf23 rfl ?_
            refine v_iconst hX (1) d_Tre_partIfDue_130 ?_
            refine v_iaddN (a := sz) (b := 1) hX d_Tre_partIfDue_131 ?_
            refine g_aald (i := 18 + t) hX hj d_Tre_partIfDue_132 (by omega) hf24 rfl (by decide) ((sz + 1)) rfl (by omega) (if_pos (by omega)) ?_
            refine v_astore (lv' := [(5, .ref (ad (76 + 141 * t + 3 * (sz + 1)))), (4, .ref (ad (76 + 141 * t + 3 * sz))), (3, .int (iv ((((kLeft rK rL ro c num side) : Nat) : Int)))), (2, .ref (ad (b + 1))), (0, .ref (ad (8 + t))), (1, .ref (ad b))]) hX d_Tre_partIfDue_133 (by decide) rfl ?_
            refine v_aload_n hX d_Tre_partIfDue_135 4 rfl ?_
            refine v_aload hX d_Tre_partIfDue_136 1 rfl ?_
            refine v_iload_n hX d_Tre_partIfDue_138 2 rfl ?_
            refine v_aload_n hX d_Tre_partIfDue_139 5 rfl ?_
            refine g_get (i := b) hX hj fl_Tre_51 d_Tre_partIfDue_140 (by omega) hf25 rfl ?_
            refine v_iconst hX (1) d_Tre_partIfDue_143 ?_
            refine v_iaddN (a := dp) (b := 1) hX d_Tre_partIfDue_144 ?_
            refine g_callVV (As := [.ref (ad (76 + 141 * t + 3 * sz)), .int (iv ((((kLeft rK rL ro c num side) : Nat) : Int))), .int (iv ((((dp + 1) : Nat) : Int)))]) (st := []) hX hj (i := 8 + t) (by omega) hf23 (m_Tre_begin hj hTx hB t sz ht hf23 (76 + 141 * t + 3 * sz) sz (by omega) (T sz) (ch sz) (show σ20 (76 + 141 * t + 3 * sz) = nodE ad (76 + 141 * t + 3 * sz) sz (T sz) (ch sz) by rw [hp22, va_up_ne _ _ (by omega), va_up_ne _ _ (by omega), hI.1 _ (by omega) (by omega) (by omega) (by omega)]; exact (r3 sz (by omega)).1) (kLeft rK rL ro c num side) hLl ((dp + 1 : Nat) : Int)) cl_Tre_40 d_Tre_partIfDue_145 rfl ⟨by decide, by decide⟩ ⟨by decide, by decide⟩ (Nat.le_of_ble_eq_true rfl) (fun σ38 hp40 => ?_)
            have hf41 := (show σ38 (8 + t) = σ20 (8 + t) by rw [hp40, va_up_ne _ _ (by omega)]).trans hf23
            have hf42 := (show σ38 (18 + t) = σ20 (18 + t) by rw [hp40, va_up_ne _ _ (by omega)]).trans hf24
            have hf43 := (show σ38 (b) = σ20 (b) by rw [hp40, va_up_ne _ _ (by omega)]).trans hf25
            have hf44 := (show σ38 (3) = σ20 (3) by rw [hp40, va_up_ne _ _ (by omega)]).trans hf26
            have hf45 := (show σ38 (2) = σ20 (2) by rw [hp40, va_up_ne _ _ (by omega)]).trans hf27
            have hf46 := (show σ38 (1) = σ20 (1) by rw [hp40, va_up_ne _ _ (by omega)]).trans hf28
            have hf47 := (show σ38 (6) = σ20 (6) by rw [hp40, va_up_ne _ _ (by omega)]).trans hf29
            have hf48 := (show σ38 (7) = σ20 (7) by rw [hp40, va_up_ne _ _ (by omega)]).trans hf30
            have hf49 := (show σ38 (b + 1) = σ20 (b + 1) by rw [hp40, va_up_ne _ _ (by omega)]).trans hcb
            have hTy : pTab G ad σ38 n val cl so rC rK rL := hTx.up (fun i9 hi9 => by rw [hp40, va_up_ne _ _ (by omega)])
            refine v_aload_n hX d_Tre_partIfDue_148 4 rfl ?_
            refine v_aload hX d_Tre_partIfDue_149 0 rfl ?_
            refine v_aload_n hX d_Tre_partIfDue_151 5 rfl ?_
            refine g_get (i := b) hX hj fl_Tre_48 d_Tre_partIfDue_152 (by omega) hf43 rfl ?_
            refine v_iload_n hX d_Tre_partIfDue_155 2 rfl ?_
            refine v_iconst hX (-1) d_Tre_partIfDue_156 ?_
            refine v_ixor (z := (-1 - (((kLeft rK rL ro c num side) : Nat) : Int))) hX d_Tre_partIfDue_157 (iv_not ((kLeft rK rL ro c num side))) ?_
            refine v_iand (z := (((nd ro (kLeft rK rL ro c num side)) : Nat) : Int)) hX d_Tre_partIfDue_158 (iv_andnot (ro) ((kLeft rK rL ro c num side))) ?_
            refine v_aload_n hX d_Tre_partIfDue_159 5 rfl ?_
            refine g_get (i := b) hX hj fl_Tre_51 d_Tre_partIfDue_160 (by omega) hf43 rfl ?_
            refine v_iconst hX (1) d_Tre_partIfDue_163 ?_
            refine v_iaddN (a := dp) (b := 1) hX d_Tre_partIfDue_164 ?_
            refine g_callVV (As := [.ref (ad (76 + 141 * t + 3 * (sz + 1))), .int (iv ((((nd ro (kLeft rK rL ro c num side)) : Nat) : Int))), .int (iv ((((dp + 1) : Nat) : Int)))]) (st := []) hX hj (i := 8 + t) (by omega) hf41 (m_Tre_begin hj hTy hB t sz ht hf41 (76 + 141 * t + 3 * (sz + 1)) (sz + 1) (by omega) (T (sz + 1)) (ch (sz + 1)) (show σ38 (76 + 141 * t + 3 * (sz + 1)) = nodE ad (76 + 141 * t + 3 * (sz + 1)) (sz + 1) (T (sz + 1)) (ch (sz + 1)) by rw [hp40, va_up_ne _ _ (by omega), hp22, va_up_ne _ _ (by omega), va_up_ne _ _ (by omega), hI.1 _ (by omega) (by omega) (by omega) (by omega)]; exact (r3 (sz + 1) (by omega)).1) (nd ro (kLeft rK rL ro c num side)) hRr ((dp + 1 : Nat) : Int)) cl_Tre_40 d_Tre_partIfDue_165 rfl ⟨by decide, by decide⟩ ⟨by decide, by decide⟩ (Nat.le_of_ble_eq_true rfl) (fun σ51 hp53 => ?_)
            have hf54 := (show σ51 (8 + t) = σ38 (8 + t) by rw [hp53, va_up_ne _ _ (by omega)]).trans hf41
            have hf55 := (show σ51 (18 + t) = σ38 (18 + t) by rw [hp53, va_up_ne _ _ (by omega)]).trans hf42
            have hf56 := (show σ51 (b) = σ38 (b) by rw [hp53, va_up_ne _ _ (by omega)]).trans hf43
            have hf57 := (show σ51 (3) = σ38 (3) by rw [hp53, va_up_ne _ _ (by omega)]).trans hf44
            have hf58 := (show σ51 (2) = σ38 (2) by rw [hp53, va_up_ne _ _ (by omega)]).trans hf45
            have hf59 := (show σ51 (1) = σ38 (1) by rw [hp53, va_up_ne _ _ (by omega)]).trans hf46
            have hf60 := (show σ51 (6) = σ38 (6) by rw [hp53, va_up_ne _ _ (by omega)]).trans hf47
            have hf61 := (show σ51 (7) = σ38 (7) by rw [hp53, va_up_ne _ _ (by omega)]).trans hf48
            have hf62 := (show σ51 (b + 1) = σ38 (b + 1) by rw [hp53, va_up_ne _ _ (by omega)]).trans hf49
            refine v_aload_n hX d_Tre_partIfDue_168 5 rfl ?_
            refine v_aload hX d_Tre_partIfDue_169 1 rfl ?_
            refine g_put (i := b) (fs' := [.int (iv (((k : Nat) : Int))), .ref (ad (b + 1)), .int (iv (((ro : Nat) : Int))), .int (iv (((dp : Nat) : Int))), .int (iv ((T k 4))), .int (iv ((T k 5))), .ref (ad (76 + 141 * t + 3 * sz)), lC ad ((ch k).map (fun q => q + 3)), .int (iv ((T k 8))), .int (iv ((T k 9))), .int (iv ((T k 10))), .int (iv ((T k 11)))]) hX hj pf_Tre_75 d_Tre_partIfDue_171 (by omega) hf56 rfl rfl (Nat.le_of_ble_eq_true rfl) rfl ?_
            obtain ⟨σ63, hs64⟩ : ∃ s9, s9 = va_up σ51 (b) (eO 3 [.int (iv (((k : Nat) : Int))), .ref (ad (b + 1)), .int (iv (((ro : Nat) : Int))), .int (iv (((dp : Nat) : Int))), .int (iv ((T k 4))), .int (iv ((T k 5))), .ref (ad (76 + 141 * t + 3 * sz)), lC ad ((ch k).map (fun q => q + 3)), .int (iv ((T k 8))), .int (iv ((T k 9))), .int (iv ((T k 10))), .int (iv ((T k 11)))]) := ⟨_, rfl⟩
            rw [← hs64]
            have hf65 := (show σ63 (8 + t) = σ51 (8 + t) by rw [hs64, va_up_ne _ _ (by omega)]).trans hf54
            have hf66 := (show σ63 (18 + t) = σ51 (18 + t) by rw [hs64, va_up_ne _ _ (by omega)]).trans hf55
            have hf68 := (show σ63 (3) = σ51 (3) by rw [hs64, va_up_ne _ _ (by omega)]).trans hf57
            have hf69 := (show σ63 (2) = σ51 (2) by rw [hs64, va_up_ne _ _ (by omega)]).trans hf58
            have hf70 := (show σ63 (1) = σ51 (1) by rw [hs64, va_up_ne _ _ (by omega)]).trans hf59
            have hf71 := (show σ63 (6) = σ51 (6) by rw [hs64, va_up_ne _ _ (by omega)]).trans hf60
            have hf72 := (show σ63 (7) = σ51 (7) by rw [hs64, va_up_ne _ _ (by omega)]).trans hf61
            have hf73 := (show σ63 (b + 1) = σ51 (b + 1) by rw [hs64, va_up_ne _ _ (by omega)]).trans hf62
            have hf74 : σ63 (b) = (eO 3 [.int (iv (((k : Nat) : Int))), .ref (ad (b + 1)), .int (iv (((ro : Nat) : Int))), .int (iv (((dp : Nat) : Int))), .int (iv ((T k 4))), .int (iv ((T k 5))), .ref (ad (76 + 141 * t + 3 * sz)), lC ad ((ch k).map (fun q => q + 3)), .int (iv ((T k 8))), .int (iv ((T k 9))), .int (iv ((T k 10))), .int (iv ((T k 11)))]) := by rw [hs64, va_up_self]
            refine v_aload_n hX d_Tre_partIfDue_174 5 rfl ?_
            refine v_aload hX d_Tre_partIfDue_175 0 rfl ?_
            refine v_eq (st' := [.ref (ad (76 + 141 * t + 3 * sz + 3)), .ref (ad b)]) (by rw [show 76 + 141 * t + 3 * (sz + 1) = 76 + 141 * t + 3 * sz + 3 by omega]) ?_
            refine g_put (i := b) (fs' := [.int (iv (((k : Nat) : Int))), .ref (ad (b + 1)), .int (iv (((ro : Nat) : Int))), .int (iv (((dp : Nat) : Int))), .int (iv ((T k 4))), .int (iv ((T k 5))), .ref (ad (76 + 141 * t + 3 * sz)), .ref (ad (76 + 141 * t + 3 * sz + 3)), .int (iv ((T k 8))), .int (iv ((T k 9))), .int (iv ((T k 10))), .int (iv ((T k 11)))]) hX hj pf_Tre_78 d_Tre_partIfDue_177 (by omega) hf74 rfl rfl (Nat.le_of_ble_eq_true rfl) rfl ?_
            obtain ⟨σ75, hs76⟩ : ∃ s9, s9 = va_up σ63 (b) (eO 3 [.int (iv (((k : Nat) : Int))), .ref (ad (b + 1)), .int (iv (((ro : Nat) : Int))), .int (iv (((dp : Nat) : Int))), .int (iv ((T k 4))), .int (iv ((T k 5))), .ref (ad (76 + 141 * t + 3 * sz)), .ref (ad (76 + 141 * t + 3 * sz + 3)), .int (iv ((T k 8))), .int (iv ((T k 9))), .int (iv ((T k 10))), .int (iv ((T k 11)))]) := ⟨_, rfl⟩
            rw [← hs76]
            have hf77 := (show σ75 (8 + t) = σ63 (8 + t) by rw [hs76, va_up_ne _ _ (by omega)]).trans hf65
            have hf78 := (show σ75 (18 + t) = σ63 (18 + t) by rw [hs76, va_up_ne _ _ (by omega)]).trans hf66
            have hf79 := (show σ75 (3) = σ63 (3) by rw [hs76, va_up_ne _ _ (by omega)]).trans hf68
            have hf80 := (show σ75 (2) = σ63 (2) by rw [hs76, va_up_ne _ _ (by omega)]).trans hf69
            have hf81 := (show σ75 (1) = σ63 (1) by rw [hs76, va_up_ne _ _ (by omega)]).trans hf70
            have hf82 := (show σ75 (6) = σ63 (6) by rw [hs76, va_up_ne _ _ (by omega)]).trans hf71
            have hf83 := (show σ75 (7) = σ63 (7) by rw [hs76, va_up_ne _ _ (by omega)]).trans hf72
            have hf84 := (show σ75 (b + 1) = σ63 (b + 1) by rw [hs76, va_up_ne _ _ (by omega)]).trans hf73
            have hf86 : σ75 (b) = (eO 3 [.int (iv (((k : Nat) : Int))), .ref (ad (b + 1)), .int (iv (((ro : Nat) : Int))), .int (iv (((dp : Nat) : Int))), .int (iv ((T k 4))), .int (iv ((T k 5))), .ref (ad (76 + 141 * t + 3 * sz)), .ref (ad (76 + 141 * t + 3 * sz + 3)), .int (iv ((T k 8))), .int (iv ((T k 9))), .int (iv ((T k 10))), .int (iv ((T k 11)))]) := by rw [hs76, va_up_self]
            refine v_aload_n hX d_Tre_partIfDue_180 4 rfl ?_
            refine v_dup hX d_Tre_partIfDue_181 rfl ?_
            refine g_get (i := 8 + t) hX hj fl_Tre_36 d_Tre_partIfDue_182 (by omega) hf77 rfl ?_
            refine v_iconst hX (2) d_Tre_partIfDue_185 ?_
            refine v_iaddN (a := sz) (b := 2) hX d_Tre_partIfDue_186 ?_
            refine g_put (i := 8 + t) (fs' := [.int (iv ((((sz + 2) : Nat) : Int))), .ref (ad 1), .ref (ad 2), .ref (ad 3), .ref (ad (18 + t)), .ref (ad (76 + 141 * t))]) hX hj pf_Tre_36 d_Tre_partIfDue_187 (by omega) hf77 rfl rfl (Nat.le_of_ble_eq_true rfl) rfl ?_
            obtain ⟨σ87, hs88⟩ : ∃ s9, s9 = va_up σ75 (8 + t) (eO 7 [.int (iv ((((sz + 2) : Nat) : Int))), .ref (ad 1), .ref (ad 2), .ref (ad 3), .ref (ad (18 + t)), .ref (ad (76 + 141 * t))]) := ⟨_, rfl⟩
            rw [← hs88]
            have hf90 := (show σ87 (18 + t) = σ75 (18 + t) by rw [hs88, va_up_ne _ _ (by omega)]).trans hf78
            have hf91 := (show σ87 (3) = σ75 (3) by rw [hs88, va_up_ne _ _ (by omega)]).trans hf79
            have hf92 := (show σ87 (2) = σ75 (2) by rw [hs88, va_up_ne _ _ (by omega)]).trans hf80
            have hf93 := (show σ87 (1) = σ75 (1) by rw [hs88, va_up_ne _ _ (by omega)]).trans hf81
            have hf94 := (show σ87 (6) = σ75 (6) by rw [hs88, va_up_ne _ _ (by omega)]).trans hf82
            have hf95 := (show σ87 (7) = σ75 (7) by rw [hs88, va_up_ne _ _ (by omega)]).trans hf83
            have hf96 := (show σ87 (b + 1) = σ75 (b + 1) by rw [hs88, va_up_ne _ _ (by omega)]).trans hf84
            have hf97 := (show σ87 (b) = σ75 (b) by rw [hs88, va_up_ne _ _ (by omega)]).trans hf86
            have hf98 : σ87 (8 + t) = (eO 7 [.int (iv ((((sz + 2) : Nat) : Int))), .ref (ad 1), .ref (ad 2), .ref (ad 3), .ref (ad (18 + t)), .ref (ad (76 + 141 * t))]) := by rw [hs88, va_up_self]
            exact hret _ _ _ d_Tre_partIfDue_190 ⟨_, rfl, Or.inr ⟨by omega, B, σ2, hBe, hI, Or.inr ⟨by omega, c, num, side, hc4, hn4, hs4, e1, e2, e3, by rw [hs88, hs76, hs64, hp53, hp40, hp22, bx_uu, ← h2, ← h3]; rfl⟩⟩⟩
          · have z13e : z13 = 0 := hv18.trans (if_neg qz13)
            subst z13e
            refine v_if_ne (tgt := 71) hX d_Tre_partIfDue_67 (by decide) (by first | assumption | (unfold ir; omega)) (fun c9 => absurd c9 (by omega)) (fun c9 => ?_)
            exact hret _ _ _ d_Tre_partIfDue_70 ⟨_, rfl, Or.inr ⟨by omega, B, _, hBe, hI, Or.inl ⟨by omega, rfl⟩⟩⟩
      · exact hret _ _ _ d_Tre_partIfDue_32 ⟨_, rfl, Or.inl ⟨by omega, rfl⟩⟩
end
section
/-! GROWING in numbers: a state is how many nodes, their numbers, their left children's cells -/
abbrev gS : Type := Nat × (Nat → Nat → Int) × (Nat → Option Nat)
/-- the best CUT of some rows, with how many there are -/
noncomputable def kBest (so rC rK : Nat → Nat) (rL : Nat → Nat → Nat) (le rows : Nat) : lkB := lk0 so rC rK rL le rows 4 (0, (0, 0, 0, 0, 1))
def lkE (B B' : lkB) : Prop := B.1 = B'.1 ∧ (0 < B.1 → B = B')
theorem lkE_S {rC rK : Nat → Nat} {rL : Nat → Nat → Nat} {le rows c num side : Nat} {B B' : lkB} (h : lkE B B') : lkE (lkS rC rK rL le rows c num side B) (lkS rC rK rL le rows c num side B') := by
  rcases Nat.eq_zero_or_pos B.1 with h0 | h0
  · have h0' : B'.1 = 0 := h.1 ▸ h0
    unfold lkS
    by_cases h1 : kMay rK rL le rows c num side = true
    · rw [if_pos h1, if_pos h1, if_pos (Or.inl h0), if_pos (Or.inl h0'), h.1]
      exact ⟨rfl, fun _ => rfl⟩
    · rw [if_neg h1, if_neg h1]
      exact h
  · have e := h.2 h0
    subst e
    exact ⟨rfl, fun _ => rfl⟩
theorem lkE_1 {so rC rK : Nat → Nat} {rL : Nat → Nat → Nat} {le rows c : Nat} {B B' : lkB} (h : lkE B B') : ∀ k, lkE (lk1 so rC rK rL le rows c k B) (lk1 so rC rK rL le rows c k B')
  | 0 => h
  | k + 1 => by
    have h1 := lkE_1 (so := so) (rC := rC) (rK := rK) (rL := rL) (le := le) (rows := rows) (c := c) h k
    show lkE (lk2 so rC rK rL le rows c k _) (lk2 so rC rK rL le rows c k _)
    unfold lk2
    split
    · exact lkE_S (lkE_S h1)
    · exact h1
theorem lkE_0 {so rC rK : Nat → Nat} {rL : Nat → Nat → Nat} {le rows : Nat} {B B' : lkB} (h : lkE B B') : ∀ c, lkE (lk0 so rC rK rL le rows c B) (lk0 so rC rK rL le rows c B')
  | 0 => h
  | c + 1 => lkE_1 (lkE_0 (so := so) (rC := rC) (rK := rK) (rL := rL) (le := le) (rows := rows) h c) 101
theorem kBest_e {so rC rK : Nat → Nat} {rL : Nat → Nat → Nat} {le rows : Nat} {B : lkB} {B0 : Int × Int × Int × Int × Int} (hB : B = lk0 so rC rK rL le rows 4 (0, B0)) : lkE B (kBest so rC rK rL le rows) := by
  rw [hB]
  have h0 : lkE (0, B0) (0, ((0 : Int), (0 : Int), (0 : Int), (0 : Int), (1 : Int))) := ⟨rfl, fun h => absurd h (Nat.lt_irrefl 0)⟩
  exact lkE_0 h0 4
/-- node k is due to be parted -/
noncomputable def kDue (so rC rK : Nat → Nat) (rL : Nat → Nat → Nat) (le de wo : Nat) (s : gS) (k : Nat) : Bool :=
  !(decide (s.2.1 k 5 = 0) || decide (de ≤ (s.2.1 k 3).toNat) || decide (47 < s.1 + 2)) && decide (0 < (kBest so rC rK rL le (s.2.1 k 2).toNat).1) && decide ((wo : Int) * (kBest so rC rK rL le (s.2.1 k 2).toNat).2.2.2.2.2 < 100 * (kBest so rC rK rL le (s.2.1 k 2).toNat).2.2.2.2.1)
def fCut (F : Nat → Int) (B : lkB) : Nat → Int := va_up (va_up (va_up (va_up (va_up F 12 B.2.1) 13 B.2.2.1) 14 B.2.2.2.1) 15 B.2.2.2.2.1) 16 B.2.2.2.2.2
/-- the state with node k parted by B -/
noncomputable def kPut (rC rK : Nat → Nat) (rL : Nat → Nat → Nat) (t : Nat) (s : gS) (k : Nat) (B : lkB) : gS :=
  (s.1 + 2,
   va_up (va_up (va_up s.2.1 k (fCut (s.2.1 k) B)) s.1 (fBeg rC (s.2.1 s.1) (kLeft rK rL (s.2.1 k 2).toNat B.2.1.toNat B.2.2.1.toNat B.2.2.2.1.toNat) (s.2.1 k 3 + 1))) (s.1 + 1) (fBeg rC (s.2.1 (s.1 + 1)) (nd (s.2.1 k 2).toNat (kLeft rK rL (s.2.1 k 2).toNat B.2.1.toNat B.2.2.1.toNat B.2.2.2.1.toNat)) (s.2.1 k 3 + 1)),
   va_up (va_up (va_up s.2.2 k (some (76 + 141 * t + 3 * s.1))) s.1 none) (s.1 + 1) none)
noncomputable def kStp (so rC rK : Nat → Nat) (rL : Nat → Nat → Nat) (le de wo t : Nat) (s : gS) (k : Nat) : gS := if kDue so rC rK rL le de wo s k = true then kPut rC rK rL t s k (kBest so rC rK rL le (s.2.1 k 2).toNat) else s
noncomputable def kItr (so rC rK : Nat → Nat) (rL : Nat → Nat → Nat) (le de wo t : Nat) (s0 : gS) : Nat → gS
  | 0 => s0
  | k + 1 => if k < (kItr so rC rK rL le de wo t s0 k).1 then kStp so rC rK rL le de wo t (kItr so rC rK rL le de wo t s0 k) k else kItr so rC rK rL le de wo t s0 k
/-- what growing keeps -/
def gON (F : Nat → Int) : Prop := (0 ≤ F 2 ∧ F 2 < 16777216) ∧ (0 ≤ F 3 ∧ F 3 ≤ 5) ∧ (-24 ≤ F 5 ∧ F 5 ≤ 24)
def gOk (s : gS) : Prop := 1 ≤ s.1 ∧ s.1 ≤ 47 ∧ ∀ n, n < s.1 → gON (s.2.1 n)
/-- since σ only the survey's cells and tree t's have changed -/
def gFr (t : Nat) (σ σ' : xF) : Prop := ∀ q, q ≠ 4 → q ≠ 5 → q ≠ 6 → q ≠ 7 → q ≠ 8 + t → (q < 76 + 141 * t ∨ 76 + 141 * t + 141 ≤ q) → σ' q = σ q
/-- the survey's cells are such -/
def lkO (ad : Nat → Nat) (σ : xF) : Prop := ∃ B : Int × Int × Int × Int × Int, lkI ad σ σ (0, B)
theorem lkI_O {ad : Nat → Nat} {σ σv : xF} {B : lkB} (h : lkI ad σ σv B) : lkO ad σv := ⟨B.2, fun _ _ _ _ _ => rfl, h.2.1, h.2.2.1, h.2.2.2.1, h.2.2.2.2.1, h.2.2.2.2.2.1, h.2.2.2.2.2.2⟩
theorem lkO_up {ad : Nat → Nat} {σ σ' : xF} (h : lkO ad σ) (e4 : σ' 4 = σ 4) (e5 : σ' 5 = σ 5) (e6 : σ' 6 = σ 6) (e7 : σ' 7 = σ 7) : lkO ad σ' := by
  obtain ⟨B, h1, ⟨c, n, s, h2⟩, ⟨a, b, h3⟩, h4, h5, h6, h7⟩ := h
  exact ⟨B, fun _ _ _ _ _ => rfl, ⟨c, n, s, e4.trans h2⟩, ⟨a, b, e5.trans h3⟩, e6.trans h4, e7.trans h5, h6, h7⟩
theorem fBeg_5 (rC : Nat → Nat) (F : Nat → Int) (rows : Nat) (dep : Int) : fBeg rC F rows dep 2 = rows ∧ fBeg rC F rows dep 3 = dep ∧ (-24 ≤ fBeg rC F rows dep 5 ∧ fBeg rC F rows dep 5 ≤ 24) := by
  refine ⟨rfl, rfl, ?_⟩
  show -24 ≤ ((cnt rows : Nat) : Int) - ((kCnt rC rows (kLab rC rows) : Nat) : Int) ∧ ((cnt rows : Nat) : Int) - ((kCnt rC rows (kLab rC rows) : Nat) : Int) ≤ 24
  have h1 := cnt_le rows
  have h2 := kCnt_le rC rows (kLab rC rows)
  omega
theorem kDue_t {so rC rK : Nat → Nat} {rL : Nat → Nat → Nat} {le de wo : Nat} {s : gS} {k : Nat} (h1 : ¬ (s.2.1 k 5 = 0 ∨ de ≤ (s.2.1 k 3).toNat ∨ 47 < s.1 + 2)) (h2 : 0 < (kBest so rC rK rL le (s.2.1 k 2).toNat).1) (h3 : (wo : Int) * (kBest so rC rK rL le (s.2.1 k 2).toNat).2.2.2.2.2 < 100 * (kBest so rC rK rL le (s.2.1 k 2).toNat).2.2.2.2.1) : kDue so rC rK rL le de wo s k = true := by
  unfold kDue
  rw [decide_eq_true h2, decide_eq_true h3, decide_eq_false (fun q => h1 (Or.inl q)), decide_eq_false (fun q => h1 (Or.inr (Or.inl q))), decide_eq_false (fun q => h1 (Or.inr (Or.inr q)))]
  rfl
theorem kDue_of {so rC rK : Nat → Nat} {rL : Nat → Nat → Nat} {le de wo : Nat} {s : gS} {k : Nat} (q : kDue so rC rK rL le de wo s k = true) : ¬ (s.2.1 k 5 = 0 ∨ de ≤ (s.2.1 k 3).toNat ∨ 47 < s.1 + 2) ∧ 0 < (kBest so rC rK rL le (s.2.1 k 2).toNat).1 ∧ (wo : Int) * (kBest so rC rK rL le (s.2.1 k 2).toNat).2.2.2.2.2 < 100 * (kBest so rC rK rL le (s.2.1 k 2).toNat).2.2.2.2.1 := by
  unfold kDue at q
  rw [Bool.and_eq_true, Bool.and_eq_true, decide_eq_true_eq, decide_eq_true_eq] at q
  obtain ⟨⟨q1, q2⟩, q3⟩ := q
  refine ⟨fun h => ?_, q2, q3⟩
  rcases h with h | h | h
  · rw [decide_eq_true h] at q1; cases q1
  · rw [decide_eq_true h] at q1; simp at q1
  · rw [decide_eq_true h] at q1; simp at q1
end
section
/-! a node is parted: the tree's picture behind it -/
theorem pt_fin {G : xG} {ad : Nat → Nat} {σ σs σ' : xF} {t sz : Nat} {T : Nat → Nat → Int} {ch : Nat → Option Nat} (hTr : pTre G ad σ t sz T ch) {B B1 : lkB} (hI : lkI ad σ σs B1) (ht : t ≤ 1) {rC rK : Nat → Nat} {rL : Nat → Nat → Nat} {k b ro dp c num side : Nat} (hk : k < sz) (hz : sz + 2 ≤ 47) (hb : b = 76 + 141 * t + 3 * k) (h2 : T k 2 = (ro : Int)) (h3 : T k 3 = (dp : Int)) (e1 : B.2.1 = c) (e2 : B.2.2.1 = num) (e3 : B.2.2.2.1 = side)
    (hf : σ' = va_up (va_up (va_up (va_up (va_up (va_up σs (b + 1) (eO 0 [.ref (ad (b + 2)), .int (iv B.2.1), .int (iv B.2.2.1), .int (iv B.2.2.2.1)])) (b + 2) (eO 1 [.int (iv B.2.2.2.2.1), .int (iv B.2.2.2.2.2)])) (76 + 141 * t + 3 * sz) (nodE ad (76 + 141 * t + 3 * sz) sz (fBeg rC (T sz) (kLeft rK rL ro c num side) ((dp + 1 : Nat) : Int)) none)) (76 + 141 * t + 3 * (sz + 1)) (nodE ad (76 + 141 * t + 3 * (sz + 1)) (sz + 1) (fBeg rC (T (sz + 1)) (nd ro (kLeft rK rL ro c num side)) ((dp + 1 : Nat) : Int)) none)) b (nodE ad b k (T k) (some (76 + 141 * t + 3 * sz)))) (8 + t) (eO 7 [.int (iv ((sz + 2 : Nat) : Int)), .ref (ad 1), .ref (ad 2), .ref (ad 3), .ref (ad (18 + t)), .ref (ad (76 + 141 * t))])) :
    pTre G ad σ' t (kPut rC rK rL t (sz, T, ch) k B).1 (kPut rC rK rL t (sz, T, ch) k B).2.1 (kPut rC rK rL t (sz, T, ch) k B).2.2 ∧ gFr t σ σ' ∧ lkO ad σ' := by
  obtain ⟨r1, r2, r3⟩ := hTr
  have hro : (T k 2).toNat = ro := by rw [h2]; exact Int.toNat_natCast ro
  have hc : B.2.1.toNat = c := by rw [e1]; exact Int.toNat_natCast c
  have hn : B.2.2.1.toNat = num := by rw [e2]; exact Int.toNat_natCast num
  have hs : B.2.2.2.1.toNat = side := by rw [e3]; exact Int.toNat_natCast side
  have hd : T k 3 + 1 = ((dp + 1 : Nat) : Int) := by rw [h3]; rfl
  have out : ∀ q, q ≠ 8 + t → q ≠ b → q ≠ b + 1 → q ≠ b + 2 → q ≠ 76 + 141 * t + 3 * sz → q ≠ 76 + 141 * t + 3 * (sz + 1) → σ' q = σs q := fun q q1 q2 q3 q4 q5 q6 => by
    rw [hf, va_up_ne _ _ q1, va_up_ne _ _ q2, va_up_ne _ _ q6, va_up_ne _ _ q5, va_up_ne _ _ q4, va_up_ne _ _ q3]
  have outs : ∀ q, 8 ≤ q → q ≠ 8 + t → q ≠ b → q ≠ b + 1 → q ≠ b + 2 → q ≠ 76 + 141 * t + 3 * sz → q ≠ 76 + 141 * t + 3 * (sz + 1) → σ' q = σ q := fun q q0 q1 q2 q3 q4 q5 q6 => (out q q1 q2 q3 q4 q5 q6).trans (hI.1 q (by omega) (by omega) (by omega) (by omega))
  unfold kPut
  refine ⟨⟨?_, ?_, ?_⟩, ?_, ?_⟩
  · rw [hf, va_up_self]
  · exact (outs _ (by omega) (by omega) (by omega) (by omega) (by omega) (by omega) (by omega)).trans r2
  · intro n hn47
    show pNod ad σ' (76 + 141 * t + 3 * n) n (va_up (va_up (va_up T k (fCut (T k) B)) sz (fBeg rC (T sz) (kLeft rK rL (T k 2).toNat B.2.1.toNat B.2.2.1.toNat B.2.2.2.1.toNat) (T k 3 + 1))) (sz + 1) (fBeg rC (T (sz + 1)) (nd (T k 2).toNat (kLeft rK rL (T k 2).toNat B.2.1.toNat B.2.2.1.toNat B.2.2.2.1.toNat)) (T k 3 + 1)) n) (va_up (va_up (va_up ch k (some (76 + 141 * t + 3 * sz))) sz none) (sz + 1) none n)
    rw [hro, hc, hn, hs, hd]
    have hn0 := r3 n hn47
    by_cases n1 : n = sz + 1
    · subst n1
      rw [va_up_self, va_up_self]
      refine ⟨?_, ?_, ?_⟩
      · rw [hf, va_up_ne _ _ (by omega), va_up_ne _ _ (by omega), va_up_self]
      · exact (outs _ (by omega) (by omega) (by omega) (by omega) (by omega) (by omega) (by omega)).trans hn0.2.1
      · exact (outs _ (by omega) (by omega) (by omega) (by omega) (by omega) (by omega) (by omega)).trans hn0.2.2
    · rw [va_up_ne _ _ n1, va_up_ne _ _ n1]
      by_cases n2 : n = sz
      · subst n2
        rw [va_up_self, va_up_self]
        refine ⟨?_, ?_, ?_⟩
        · rw [hf, va_up_ne _ _ (by omega), va_up_ne _ _ (by omega), va_up_ne _ _ (by omega), va_up_self]
        · exact (outs _ (by omega) (by omega) (by omega) (by omega) (by omega) (by omega) (by omega)).trans hn0.2.1
        · exact (outs _ (by omega) (by omega) (by omega) (by omega) (by omega) (by omega) (by omega)).trans hn0.2.2
      · rw [va_up_ne _ _ n2, va_up_ne _ _ n2]
        by_cases n3 : n = k
        · subst n3
          rw [va_up_self, va_up_self, ← hb]
          refine ⟨?_, ?_, ?_⟩
          · rw [hf, va_up_ne _ _ (by omega), va_up_self]
            rfl
          · unfold pCut
            rw [hf, va_up_ne _ _ (by omega), va_up_ne _ _ (by omega), va_up_ne _ _ (by omega), va_up_ne _ _ (by omega), va_up_ne _ _ (by omega), va_up_self]
            rfl
          · unfold pFra
            rw [hf, va_up_ne _ _ (by omega), va_up_ne _ _ (by omega), va_up_ne _ _ (by omega), va_up_ne _ _ (by omega), va_up_self]
            rfl
        · rw [va_up_ne _ _ n3, va_up_ne _ _ n3]
          exact hn0.up (outs _ (by omega) (by omega) (by omega) (by omega) (by omega) (by omega) (by omega)) (outs _ (by omega) (by omega) (by omega) (by omega) (by omega) (by omega) (by omega)) (outs _ (by omega) (by omega) (by omega) (by omega) (by omega) (by omega) (by omega))
  · intro q q4 q5 q6 q7 q8 qr
    exact (out q q8 (by omega) (by omega) (by omega) (by omega) (by omega)).trans (hI.1 q q4 q5 q6 q7)
  · exact lkO_up (lkI_O hI) (out 4 (by omega) (by omega) (by omega) (by omega) (by omega) (by omega)) (out 5 (by omega) (by omega) (by omega) (by omega) (by omega) (by omega)) (out 6 (by omega) (by omega) (by omega) (by omega) (by omega) (by omega)) (out 7 (by omega) (by omega) (by omega) (by omega) (by omega) (by omega))
/-- a survey alone leaves the tree -/
theorem pt_sur {G : xG} {ad : Nat → Nat} {σ σs : xF} {t sz : Nat} {T : Nat → Nat → Int} {ch : Nat → Option Nat} (hTr : pTre G ad σ t sz T ch) {B : lkB} (hI : lkI ad σ σs B) : pTre G ad σs t sz T ch := by
  obtain ⟨r1, r2, r3⟩ := hTr
  exact ⟨(hI.1 _ (by omega) (by omega) (by omega) (by omega)).trans r1, (hI.1 _ (by omega) (by omega) (by omega) (by omega)).trans r2, fun n hn => (r3 n hn).up (hI.1 _ (by omega) (by omega) (by omega) (by omega)) (hI.1 _ (by omega) (by omega) (by omega) (by omega)) (hI.1 _ (by omega) (by omega) (by omega) (by omega))⟩
theorem gOk_put {rC rK : Nat → Nat} {rL : Nat → Nat → Nat} {t : Nat} {s : gS} {k : Nat} {B : lkB} (h : gOk s) (hk : k < s.1) (hz : s.1 + 2 ≤ 47) (hd : s.2.1 k 3 < 5) : gOk (kPut rC rK rL t s k B) := by
  obtain ⟨h1, h2, h3⟩ := h
  refine ⟨by show 1 ≤ s.1 + 2; omega, hz, fun n hn => ?_⟩
  obtain ⟨⟨a1, a2⟩, ⟨a3, a4⟩, -⟩ := h3 k hk
  have hR : (s.2.1 k 2).toNat < 16777216 := by omega
  have hR2 := kLeft_lt (rK := rK) (rL := rL) (c := B.2.1.toNat) (num := B.2.2.1.toNat) (side := B.2.2.2.1.toNat) hR
  have hR3 := nd_le (s.2.1 k 2).toNat (kLeft rK rL (s.2.1 k 2).toNat B.2.1.toNat B.2.2.1.toNat B.2.2.2.1.toNat)
  have hn2 : n < s.1 + 2 := hn
  show gON (va_up (va_up (va_up s.2.1 k (fCut (s.2.1 k) B)) s.1 (fBeg rC (s.2.1 s.1) (kLeft rK rL (s.2.1 k 2).toNat B.2.1.toNat B.2.2.1.toNat B.2.2.2.1.toNat) (s.2.1 k 3 + 1))) (s.1 + 1) (fBeg rC (s.2.1 (s.1 + 1)) (nd (s.2.1 k 2).toNat (kLeft rK rL (s.2.1 k 2).toNat B.2.1.toNat B.2.2.1.toNat B.2.2.2.1.toNat)) (s.2.1 k 3 + 1)) n)
  have beg : ∀ (F : Nat → Int) (r : Nat), r < 16777216 → gON (fBeg rC F r (s.2.1 k 3 + 1)) := fun F r hr => by
    obtain ⟨f1, f2, f3⟩ := fBeg_5 rC F r (s.2.1 k 3 + 1)
    unfold gON
    rw [f1, f2]
    exact ⟨by omega, by omega, f3⟩
  by_cases n1 : n = s.1 + 1
  · subst n1
    rw [va_up_self]
    exact beg _ _ (by omega)
  · rw [va_up_ne _ _ n1]
    by_cases n2 : n = s.1
    · subst n2
      rw [va_up_self]
      exact beg _ _ hR2
    · rw [va_up_ne _ _ n2]
      by_cases n3 : n = k
      · subst n3
        rw [va_up_self]
        exact h3 n (by omega)
      · rw [va_up_ne _ _ n3]
        exact h3 n (by omega)
end
section
/-! GROWING; by program -/
/-- what partIfDue does, as a step of growing -/
theorem pt_step {G : xG} {ad : Nat → Nat} {σ σ' : xF} {so rC rK : Nat → Nat} {rL : Nat → Nat → Nat} {le de wo t sz : Nat} {T : Nat → Nat → Int} {ch : Nat → Option Nat} {B0 : Int × Int × Int × Int × Int} (hTr : pTre G ad σ t sz T ch) (hI0 : lkI ad σ σ (0, B0)) (ht : t ≤ 1) (hok : gOk (sz, T, ch)) (hde : de ≤ 5) {k b ro dp : Nat} (hk : k < sz) (hb : b = 76 + 141 * t + 3 * k) (h2 : T k 2 = (ro : Int)) (h3 : T k 3 = (dp : Int)) (hp : ((T k 5 = 0 ∨ de ≤ dp ∨ 47 < sz + 2) ∧ σ' = σ) ∨ (¬ (T k 5 = 0 ∨ de ≤ dp ∨ 47 < sz + 2) ∧ ∃ (B : lkB) (σs : xF), B = lk0 so rC rK rL le ro 4 (0, B0) ∧ lkI ad σ σs B ∧ (((B.1 = 0 ∨ ¬ (wo : Int) * B.2.2.2.2.2 < 100 * B.2.2.2.2.1) ∧ σ' = σs) ∨ (¬ (B.1 = 0 ∨ ¬ (wo : Int) * B.2.2.2.2.2 < 100 * B.2.2.2.2.1) ∧ ∃ c num side : Nat, c < 4 ∧ num ≤ 100 ∧ side ≤ 1 ∧ B.2.1 = c ∧ B.2.2.1 = num ∧ B.2.2.2.1 = side ∧ σ' = va_up (va_up (va_up (va_up (va_up (va_up σs (b + 1) (eO 0 [.ref (ad (b + 2)), .int (iv B.2.1), .int (iv B.2.2.1), .int (iv B.2.2.2.1)])) (b + 2) (eO 1 [.int (iv B.2.2.2.2.1), .int (iv B.2.2.2.2.2)])) (76 + 141 * t + 3 * sz) (nodE ad (76 + 141 * t + 3 * sz) sz (fBeg rC (T sz) (kLeft rK rL ro c num side) ((dp + 1 : Nat) : Int)) none)) (76 + 141 * t + 3 * (sz + 1)) (nodE ad (76 + 141 * t + 3 * (sz + 1)) (sz + 1) (fBeg rC (T (sz + 1)) (nd ro (kLeft rK rL ro c num side)) ((dp + 1 : Nat) : Int)) none)) b (nodE ad b k (T k) (some (76 + 141 * t + 3 * sz)))) (8 + t) (eO 7 [.int (iv ((sz + 2 : Nat) : Int)), .ref (ad 1), .ref (ad 2), .ref (ad 3), .ref (ad (18 + t)), .ref (ad (76 + 141 * t))]))))) :
    gOk (kStp so rC rK rL le de wo t (sz, T, ch) k) ∧ pTre G ad σ' t (kStp so rC rK rL le de wo t (sz, T, ch) k).1 (kStp so rC rK rL le de wo t (sz, T, ch) k).2.1 (kStp so rC rK rL le de wo t (sz, T, ch) k).2.2 ∧ gFr t σ σ' ∧ lkO ad σ' := by
  have e2 : (T k 2).toNat = ro := by rw [h2]; exact Int.toNat_natCast ro
  have e3 : (T k 3).toNat = dp := by rw [h3]; exact Int.toNat_natCast dp
  rcases hp with ⟨p1, p2⟩ | ⟨p1, B, σs, hBe, hI, hp⟩
  · have hd : ¬ kDue so rC rK rL le de wo (sz, T, ch) k = true := fun q => (kDue_of q).1 (by show T k 5 = 0 ∨ de ≤ (T k 3).toNat ∨ 47 < sz + 2; rw [e3]; exact p1)
    unfold kStp
    rw [if_neg hd, p2]
    exact ⟨hok, hTr, fun _ _ _ _ _ _ _ => rfl, ⟨B0, hI0⟩⟩
  · have hE := kBest_e hBe
    rcases hp with ⟨q1, q2⟩ | ⟨q1, c, num, side, hc, hn, hs, g1, g2, g3, hf⟩
    · have hd : ¬ kDue so rC rK rL le de wo (sz, T, ch) k = true := fun q => by
        obtain ⟨-, d1, d2⟩ := kDue_of q
        have d1 : 0 < (kBest so rC rK rL le (T k 2).toNat).1 := d1
        have d2 : (wo : Int) * (kBest so rC rK rL le (T k 2).toNat).2.2.2.2.2 < 100 * (kBest so rC rK rL le (T k 2).toNat).2.2.2.2.1 := d2
        rw [e2] at d1 d2
        have e := hE.2 (by rw [hE.1]; exact d1)
        rw [← e] at d1 d2
        rcases q1 with q1 | q1
        · omega
        · exact q1 d2
      unfold kStp
      rw [if_neg hd, q2]
      exact ⟨hok, pt_sur hTr hI, fun q q4 q5 q6 q7 _ _ => hI.1 q q4 q5 q6 q7, lkI_O hI⟩
    · have b1 : 0 < B.1 := by omega
      have e := hE.2 b1
      have hd : kDue so rC rK rL le de wo (sz, T, ch) k = true := kDue_t (by show ¬ (T k 5 = 0 ∨ de ≤ (T k 3).toNat ∨ 47 < sz + 2); rw [e3]; exact p1) (by show 0 < (kBest so rC rK rL le (T k 2).toNat).1; rw [e2, ← e]; exact b1) (by show (wo : Int) * (kBest so rC rK rL le (T k 2).toNat).2.2.2.2.2 < 100 * (kBest so rC rK rL le (T k 2).toNat).2.2.2.2.1; rw [e2, ← e]; exact Classical.byContradiction fun q => q1 (Or.inr q))
      have hz : sz + 2 ≤ 47 := by omega
      have es : kStp so rC rK rL le de wo t (sz, T, ch) k = kPut rC rK rL t (sz, T, ch) k B := by
        unfold kStp
        rw [if_pos hd]
        show kPut rC rK rL t (sz, T, ch) k (kBest so rC rK rL le (T k 2).toNat) = _
        rw [e2, ← e]
      rw [es]
      have h := pt_fin (rC := rC) (rK := rK) (rL := rL) hTr hI ht hk hz hb h2 h3 g1 g2 g3 hf
      exact ⟨gOk_put hok hk hz (by show T k 3 < 5; omega), h.1, h.2.1, h.2.2⟩
theorem kItr_stop {so rC rK : Nat → Nat} {rL : Nat → Nat → Nat} {le de wo t : Nat} {s0 : gS} {k : Nat} (h : (kItr so rC rK rL le de wo t s0 k).1 ≤ k) : ∀ j, kItr so rC rK rL le de wo t s0 (k + j) = kItr so rC rK rL le de wo t s0 k
  | 0 => rfl
  | j + 1 => by
    have h1 := kItr_stop h j
    show (if k + j < (kItr so rC rK rL le de wo t s0 (k + j)).1 then _ else _) = _
    rw [h1, if_neg (by omega)]
    exact h1
theorem pt_beg {G : xG} {ad : Nat → Nat} {σ σ' : xF} {t sz : Nat} {T : Nat → Nat → Int} {ch : Nat → Option Nat} {rC : Nat → Nat} {rows : Nat} (hTr : pTre G ad σ t sz T ch) (ht : t ≤ 1) (hO : lkO ad σ) (hR : rows < 16777216)
    (hf : σ' = va_up (va_up σ (76 + 141 * t) (nodE ad (76 + 141 * t) 0 (fBeg rC (T 0) rows 0) none)) (8 + t) (eO 7 [.int (iv 1), .ref (ad 1), .ref (ad 2), .ref (ad 3), .ref (ad (18 + t)), .ref (ad (76 + 141 * t))])) :
    gOk (1, va_up T 0 (fBeg rC (T 0) rows 0), va_up ch 0 none) ∧ pTre G ad σ' t 1 (va_up T 0 (fBeg rC (T 0) rows 0)) (va_up ch 0 none) ∧ gFr t σ σ' ∧ lkO ad σ' := by
  obtain ⟨r1, r2, r3⟩ := hTr
  have out : ∀ q, q ≠ 8 + t → q ≠ 76 + 141 * t → σ' q = σ q := fun q q1 q2 => by rw [hf, va_up_ne _ _ q1, va_up_ne _ _ q2]
  refine ⟨⟨Nat.le_refl 1, (show 1 ≤ 47 by decide), fun n hn => ?_⟩, ⟨?_, ?_, fun n hn => ?_⟩, fun q q4 q5 q6 q7 q8 qr => out q q8 (by omega), lkO_up hO (out 4 (by omega) (by omega)) (out 5 (by omega) (by omega)) (out 6 (by omega) (by omega)) (out 7 (by omega) (by omega))⟩
  · have e : n = 0 := by
      have : n < 1 := hn
      omega
    subst e
    show gON (va_up T 0 (fBeg rC (T 0) rows 0) 0)
    rw [va_up_self]
    obtain ⟨f1, f2, f3⟩ := fBeg_5 rC (T 0) rows 0
    unfold gON
    rw [f1, f2]
    exact ⟨by omega, by omega, f3⟩
  · rw [hf, va_up_self]
    rfl
  · exact (out _ (by omega) (by omega)).trans r2
  · by_cases n0 : n = 0
    · subst n0
      rw [va_up_self, va_up_self]
      refine ⟨?_, ?_, ?_⟩
      · show σ' (76 + 141 * t) = _
        rw [hf, va_up_ne _ _ (by omega), va_up_self]
        rfl
      · exact (out _ (by omega) (by omega)).trans (r3 0 hn).2.1
      · exact (out _ (by omega) (by omega)).trans (r3 0 hn).2.2
    · rw [va_up_ne _ _ n0, va_up_ne _ _ n0]
      exact (r3 n hn).up (out _ (by omega) (by omega)) (out _ (by omega) (by omega)) (out _ (by omega) (by omega))
theorem gFr_tr {t : Nat} {a b c : xF} (h : gFr t a b) (h2 : gFr t b c) : gFr t a c := fun q q4 q5 q6 q7 q8 qr => (h2 q q4 q5 q6 q7 q8 qr).trans (h q q4 q5 q6 q7 q8 qr)
theorem gFr_tab {G : xG} {ad : Nat → Nat} {t : Nat} {σ σv : xF} (h : gFr t σ σv) (ht : t ≤ 1) {n : Nat} {val : Nat → Nat → Int} {cl so rC rK : Nat → Nat} {rL : Nat → Nat → Nat} (hT : pTab G ad σ n val cl so rC rK rL) : pTab G ad σv n val cl so rC rK rL := hT.up (fun i hi => h i (by omega) (by omega) (by omega) (by omega) (by omega) (by omega))

set_option maxHeartbeats 1000000 in
set_option maxRecDepth 100000 in
theorem m_Tre_grow {G : xG} {f0 : xF} {ad : Nat → Nat} (hj : adOk ad 400) {σ : xF} {n : Nat} {val : Nat → Nat → Int} {cl so rC rK : Nat → Nat} {rL : Nat → Nat → Nat} (hT : pTab G ad σ n val cl so rC rK rL) (hB : bTab n cl so rC rK rL) (hS : pSur ad σ) {le de wo : Nat} (hL : pLim σ de le wo) (hle : le ≤ 10) (hwo : wo ≤ 1000) (hde : de ≤ 5) (hO : lkO ad σ) (t : Nat) (ht : t ≤ 1) (sz : Nat) (hz : sz ≤ 47) (T : Nat → Nat → Int) (ch : Nat → Option Nat) (hTr : pTre G ad σ t sz T ch) (rows : Nat) (hR : rows < 16777216) : ∀ l, gVo l G f0 ad 400 y_Tre_grow (.code y_Tre_grow c_Tre_grow 3 none) rm_Tre_grow [.ref (ad (8 + t)), .int (iv (((rows : Nat) : Int)))] σ (fun σ' => gFr t σ σ' ∧ lkO ad σ' ∧ gOk (kItr so rC rK rL le de wo t (1, va_up T 0 (fBeg rC (T 0) rows 0), va_up ch 0 none) 47) ∧ pTre G ad σ' t (kItr so rC rK rL le de wo t (1, va_up T 0 (fBeg rC (T 0) rows 0), va_up ch 0 none) 47).1 (kItr so rC rK rL le de wo t (1, va_up T 0 (fBeg rC (T 0) rows 0), va_up ch 0 none) 47).2.1 (kItr so rC rK rL le de wo t (1, va_up T 0 (fBeg rC (T 0) rows 0), va_up ch 0 none) 47).2.2) := by
  intro l
  refine mV_of (by decide) (Nat.le_of_ble_eq_true rfl) (fun X hX hret => ?_)
  show vV G X 0 0 0 [(0, .ref (ad (8 + t))), (1, .int (iv (((rows : Nat) : Int))))] [] (ov f0 ad 400 σ)
  obtain ⟨r1, r2, r3⟩ := id hTr
  have h0 := (r3 0 (by decide)).1
  have h0 : σ (76 + 141 * t) = nodE ad (76 + 141 * t) 0 (T 0) (ch 0) := h0
  refine v_aload_n hX d_Tre_grow_0 0 rfl ?_
  refine v_aload_n hX d_Tre_grow_1 0 rfl ?_
  refine g_get (i := 8 + t) hX hj fl_Tre_32 d_Tre_grow_2 (by omega) r1 rfl ?_
  refine v_iload_n hX d_Tre_grow_5 1 rfl ?_
  refine v_iconst hX (0) d_Tre_grow_6 ?_
  refine g_callVV (As := [.ref (ad (76 + 141 * t)), .int (iv (((rows : Nat) : Int))), .int (iv (0))]) (st := []) hX hj (i := 8 + t) (by omega) r1 (m_Tre_begin hj hT hB t sz ht r1 (76 + 141 * t) 0 (by omega) (T 0) (ch 0) h0 rows hR 0) cl_Tre_40 d_Tre_grow_7 rfl ⟨by decide, by decide⟩ ⟨by decide, by decide⟩ (Nat.le_of_ble_eq_true rfl) (fun σ2 hp4 => ?_)
  have hf5 := (show σ2 (8 + t) = σ (8 + t) by rw [hp4, va_up_ne _ _ (by omega)]).trans r1
  have hf6 := (show σ2 (18 + t) = σ (18 + t) by rw [hp4, va_up_ne _ _ (by omega)]).trans r2
  refine v_aload_n hX d_Tre_grow_10 0 rfl ?_
  refine v_iconst hX (1) d_Tre_grow_11 ?_
  refine g_put (i := 8 + t) (fs' := [.int (iv (1)), .ref (ad 1), .ref (ad 2), .ref (ad 3), .ref (ad (18 + t)), .ref (ad (76 + 141 * t))]) hX hj pf_Tre_36 d_Tre_grow_12 (by omega) hf5 rfl rfl (Nat.le_of_ble_eq_true rfl) rfl ?_
  obtain ⟨σ7, hs8⟩ : ∃ s9, s9 = va_up σ2 (8 + t) (eO 7 [.int (iv (1)), .ref (ad 1), .ref (ad 2), .ref (ad 3), .ref (ad (18 + t)), .ref (ad (76 + 141 * t))]) := ⟨_, rfl⟩
  rw [← hs8]
  have hf10 := (show σ7 (18 + t) = σ2 (18 + t) by rw [hs8, va_up_ne _ _ (by omega)]).trans hf6
  have hf11 : σ7 (8 + t) = (eO 7 [.int (iv (1)), .ref (ad 1), .ref (ad 2), .ref (ad 3), .ref (ad (18 + t)), .ref (ad (76 + 141 * t))]) := by rw [hs8, va_up_self]
  refine v_iconst hX (0) d_Tre_grow_15 ?_
  refine v_istore_n (lv' := [(2, .int (iv (0))), (0, .ref (ad (8 + t))), (1, .int (iv (((rows : Nat) : Int))))]) hX d_Tre_grow_16 rfl (by decide) rfl ?_
  have hq := pt_beg (rC := rC) hTr ht hO hR (show σ7 = _ by rw [hs8, hp4])
  have LOOP : ∀ (fuel : Nat) (k : Nat) (σv : xF) (s : gS), 47 - k < fuel → (k ≤ 47) → (s = kItr so rC rK rL le de wo t (1, va_up T 0 (fBeg rC (T 0) rows 0), va_up ch 0 none) k) → (gOk s) → (pTre G ad σv t s.1 s.2.1 s.2.2) → (gFr t σ σv) → (lkO ad σv) → vV G X 0 0 17 [(0, .ref (ad (8 + t))), (1, .int (iv (((rows : Nat) : Int)))), (2, .int (iv (((k : Nat) : Int))))] [] (ov f0 ad 400 σv) := by
    intro fuel
    induction fuel with
    | zero => intro k σv s hm; exact absurd hm (Nat.not_lt_zero _)
    | succ fuel ih_LOOP =>
      intro k σv s hm hk hse hok hTv hFr hOv
      obtain ⟨v1, v2, v3⟩ := id hTv
      obtain ⟨g1, g2, g3⟩ := id hok
      refine v_iload_n hX d_Tre_grow_17 2 rfl ?_
      refine v_aload_n hX d_Tre_grow_18 0 rfl ?_
      refine g_get (i := 8 + t) hX hj fl_Tre_36 d_Tre_grow_19 (by omega) v1 rfl ?_
      refine v_icmp_ge (tgt := 47) hX d_Tre_grow_22 (by decide) (by unfold ir; omega) (by unfold ir; omega) (fun c22_1 => ?_) (fun c22_1 => ?_)
      · have e : kItr so rC rK rL le de wo t (1, va_up T 0 (fBeg rC (T 0) rows 0), va_up ch 0 none) 47 = s := by
          have e1 := kItr_stop (so := so) (rC := rC) (rK := rK) (rL := rL) (le := le) (de := de) (wo := wo) (t := t) (s0 := (1, va_up T 0 (fBeg rC (T 0) rows 0), va_up ch 0 none)) (k := k) (by rw [← hse]; omega) (47 - k)
          rw [show k + (47 - k) = 47 by omega] at e1
          rw [e1, hse]
        exact hret _ _ _ d_Tre_grow_47 ⟨_, rfl, by rw [e]; exact ⟨hFr, hOv, hok, hTv⟩⟩
      · refine v_iload_n hX d_Tre_grow_25 2 rfl ?_
        refine v_bipush hX (47) d_Tre_grow_26 rfl ?_
        refine v_icmp_ge (tgt := 47) hX d_Tre_grow_28 (by decide) (by unfold ir; omega) (by unfold ir; omega) (fun c28_2 => absurd c28_2 (by omega)) (fun c28_2 => ?_)
        have hks : k < s.1 := by omega
        obtain ⟨⟨n1, n2⟩, ⟨n3, n4⟩, n5, n6⟩ := g3 k hks
        have h2 : s.2.1 k 2 = (((s.2.1 k 2).toNat : Nat) : Int) := by omega
        have h3 : s.2.1 k 3 = (((s.2.1 k 3).toNat : Nat) : Int) := by omega
        have h5 : ir (s.2.1 k 5) := by unfold ir; omega
        obtain ⟨B0, hI0⟩ := id hOv
        refine v_aload_n hX d_Tre_grow_31 0 rfl ?_
        refine v_aload_n hX d_Tre_grow_32 0 rfl ?_
        refine g_get (i := 8 + t) hX hj fl_Tre_11 d_Tre_grow_33 (by omega) v1 rfl ?_
        refine v_iload_n hX d_Tre_grow_36 2 rfl ?_
        refine g_aald (i := 18 + t) hX hj d_Tre_grow_37 (by omega) v2 rfl (by decide) (k) rfl (by omega) (if_pos (by omega)) ?_
        refine g_callVV (As := [.ref (ad (76 + 141 * t + 3 * k))]) (st := []) hX hj (i := 8 + t) (by omega) v1 (m_Tre_partIfDue hj (gFr_tab hFr ht hT) hB ((hFr 3 (by decide) (by decide) (by decide) (by decide) (by omega) (by omega)).trans hS) ((hFr 2 (by decide) (by decide) (by decide) (by decide) (by omega) (by omega)).trans hL) hle hwo hde B0 hI0 t ht s.1 g2 s.2.1 s.2.2 hTv k (76 + 141 * t + 3 * k) hks rfl (s.2.1 k 2).toNat (s.2.1 k 3).toNat (by omega) (by omega) h2 h3 h5) cl_Tre_44 d_Tre_grow_38 rfl ⟨by decide, by decide⟩ ⟨by decide, by decide⟩ (Nat.le_of_ble_eq_true rfl) (fun σ13 hp15 => ?_)
        have hx := pt_step (so := so) (le := le) (wo := wo) hTv hI0 ht hok hde hks rfl h2 h3 hp15
        refine v_iincN (a := k) (n := 1) (lv' := [(2, .int (iv ((((k + 1) : Nat) : Int)))), (0, .ref (ad (8 + t))), (1, .int (iv (((rows : Nat) : Int))))]) hX d_Tre_grow_41 rfl 2 rfl (by decide) rfl ?_
        refine v_goto (tgt := 17) hX d_Tre_grow_44 (by decide) ?_
        refine v_lv [1, 2, 0] rfl ?_
        exact ih_LOOP (k + 1) (σ13) (kStp so rC rK rL le de wo t s k) (by omega) (by omega) (by show _ = (if k < (kItr so rC rK rL le de wo t (1, va_up T 0 (fBeg rC (T 0) rows 0), va_up ch 0 none) k).1 then _ else _); rw [← hse, if_pos (by omega)]) hx.1 hx.2.1 (gFr_tr hFr hx.2.2.1) hx.2.2.2
  refine v_lv [1, 2, 0] rfl ?_
  exact LOOP _ (0) (σ7) ((1, va_up T 0 (fBeg rC (T 0) rows 0), va_up ch 0 none)) (Nat.lt_succ_self _) (by decide) rfl hq.1 hq.2.1 hq.2.2.1 hq.2.2.2
end
section
/-! COMING to a LEAF -/
def tOk (T : Nat → Nat → Int) : Prop := ∀ n, n < 47 → ∃ c num side : Nat, c < 4 ∧ num ≤ 100 ∧ side ≤ 1 ∧ T n 12 = c ∧ T n 13 = num ∧ T n 14 = side
def chOk (t : Nat) (ch : Nat → Option Nat) : Prop := ∀ n q, n < 47 → ch n = some q → ∃ m, q = 76 + 141 * t + 3 * m ∧ n < m ∧ m + 1 < 47
def kNx (t : Nat) (so : Nat → Nat) (a : Nat → Int) (T : Nat → Nat → Int) (ch : Nat → Option Nat) (x : Nat) : Option Nat := match ch x with
  | none => none
  | some q => some ((q - (76 + 141 * t)) / 3 + (if kGo (so (T x 12).toNat) (a (T x 12).toNat) (T x 13).toNat (T x 14).toNat = true then 0 else 1))
def kWh (t : Nat) (so : Nat → Nat) (a : Nat → Int) (T : Nat → Nat → Int) (ch : Nat → Option Nat) : Nat → Nat → Nat
  | 0, x => x
  | f + 1, x => match kNx t so a T ch x with
    | none => x
    | some m => kWh t so a T ch f m
theorem kWh_n {t : Nat} {so : Nat → Nat} {a : Nat → Int} {T : Nat → Nat → Int} {ch : Nat → Option Nat} {x : Nat} (h : ch x = none) : ∀ f, kWh t so a T ch f x = x
  | 0 => rfl
  | f + 1 => by
    have e : kNx t so a T ch x = none := by unfold kNx; rw [h]
    show (match kNx t so a T ch x with | none => x | some m => kWh t so a T ch f m) = x
    rw [e]
theorem kWh_s {t : Nat} {so : Nat → Nat} {a : Nat → Int} {T : Nat → Nat → Int} {ch : Nat → Option Nat} {x m : Nat} (h : ch x = some (76 + 141 * t + 3 * m)) {c num side : Nat} (e1 : T x 12 = c) (e2 : T x 13 = num) (e3 : T x 14 = side) (f : Nat) : kWh t so a T ch (f + 1) x = kWh t so a T ch f (m + (if kGo (so c) (a c) num side = true then 0 else 1)) := by
  have e : kNx t so a T ch x = some (m + (if kGo (so c) (a c) num side = true then 0 else 1)) := by
    unfold kNx
    rw [h, e1, e2, e3]
    show some ((76 + 141 * t + 3 * m - (76 + 141 * t)) / 3 + _) = _
    rw [show (76 + 141 * t + 3 * m - (76 + 141 * t)) / 3 = m by omega]
    rfl
  show (match kNx t so a T ch x with | none => x | some m => kWh t so a T ch f m) = _
  rw [e]
end
section
/-! COMING TO A LEAF; by program -/
set_option maxHeartbeats 1000000 in
set_option maxRecDepth 100000 in
theorem m_Tre_whereComes {G : xG} {f0 : xF} {ad : Nat → Nat} (hj : adOk ad 400) {σ : xF} {n : Nat} {val : Nat → Nat → Int} {cl so rC rK : Nat → Nat} {rL : Nat → Nat → Nat} (hT : pTab G ad σ n val cl so rC rK rL) (hB : bTab n cl so rC rK rL) (t : Nat) (ht : t ≤ 1) (sz : Nat) (hz : sz ≤ 47) (T : Nat → Nat → Int) (ch : Nat → Option Nat) (hTr : pTre G ad σ t sz T ch) (hto : tOk T) (hco : chOk t ch) (i : Nat) (hi : i < 400) (a : Nat → Int) (ha : σ i = eJ G 4 a) (hv : tks so a = true) : ∀ l, gR l G f0 ad 400 y_Tre_whereComes (.code y_Tre_whereComes c_Tre_whereComes 5 (some (.object "BestSplits$Node"))) rm_Tre_whereComes [.ref (ad (8 + t)), .ref (ad i)] σ (fun r σ' => σ' = σ ∧ r = some (ad (76 + 141 * t + 3 * (kWh t so a T ch 5 0))) ∧ kWh t so a T ch 5 0 < 47) := by
  intro l
  refine mR_of (rt := .object "BestSplits$Node") (Or.inl ⟨_, rfl⟩) (by decide) (Nat.le_of_ble_eq_true rfl) (fun X hX hret => ?_)
  show vV G X 0 0 0 [(0, .ref (ad (8 + t))), (1, .ref (ad i))] [] (ov f0 ad 400 σ)
  obtain ⟨r1, r2, r3⟩ := id hTr
  refine v_aload_n hX d_Tre_whereComes_0 0 rfl ?_
  refine g_get (i := 8 + t) hX hj fl_Tre_32 d_Tre_whereComes_1 (by omega) r1 rfl ?_
  refine v_astore_n (lv' := [(2, .ref (ad (76 + 141 * t))), (0, .ref (ad (8 + t))), (1, .ref (ad i))]) hX d_Tre_whereComes_4 rfl (by decide) rfl ?_
  refine v_iconst hX (0) d_Tre_whereComes_5 ?_
  refine v_istore_n (lv' := [(3, .int (iv (0))), (2, .ref (ad (76 + 141 * t))), (0, .ref (ad (8 + t))), (1, .ref (ad i))]) hX d_Tre_whereComes_6 rfl (by decide) rfl ?_
  have LOOP : ∀ (fuel : Nat) (d : Nat) (x : Nat), 5 - d < fuel → (d ≤ 5) → (x < 47) → (kWh t so a T ch (5 - d) x = kWh t so a T ch 5 0) → vV G X 0 0 7 [(0, .ref (ad (8 + t))), (1, .ref (ad i)), (2, .ref (ad (76 + 141 * t + 3 * x))), (3, .int (iv (((d : Nat) : Int))))] [] (ov f0 ad 400 σ) := by
    intro fuel
    induction fuel with
    | zero => intro d x hm; exact absurd hm (Nat.not_lt_zero _)
    | succ fuel ih_LOOP =>
      intro d x hm hd hx hw
      refine v_iload_n hX d_Tre_whereComes_7 3 rfl ?_
      refine v_iconst hX (5) d_Tre_whereComes_8 ?_
      refine v_icmp_ge (tgt := 56) hX d_Tre_whereComes_9 (by decide) (by unfold ir; omega) (by unfold ir; omega) (fun c9_1 => ?_) (fun c9_1 => ?_)
      · refine v_aload_n hX d_Tre_whereComes_56 2 rfl ?_
        have e5 : d = 5 := by omega
        subst e5
        have hw2 : x = kWh t so a T ch 5 0 := hw
        exact hret _ _ (some (ad (76 + 141 * t + 3 * x))) _ d_Tre_whereComes_57 ⟨_, rfl, rfl, by rw [hw2], by rw [← hw2]; exact hx⟩
      · have hnn := r3 x hx
        obtain ⟨c, num, side, hc4, hn4, hs4, e1, e2, e3⟩ := hto x hx
        have hcu : pCut ad σ (76 + 141 * t + 3 * x + 1) (76 + 141 * t + 3 * x + 2) c num side := by rw [← e1, ← e2, ← e3]; exact hnn.2.1
        rcases hch : ch x with _ | q
        · have hnx := hnn.1
          rw [hch] at hnx
          refine v_aload_n hX d_Tre_whereComes_12 0 rfl ?_
          refine g_get (i := 8 + t) hX hj fl_Tre_17 d_Tre_whereComes_13 (by omega) r1 rfl ?_
          refine v_aload_n hX d_Tre_whereComes_16 1 rfl ?_
          refine v_aload_n hX d_Tre_whereComes_17 2 rfl ?_
          refine g_get (i := 76 + 141 * t + 3 * x) hX hj fl_Tre_108 d_Tre_whereComes_18 (by omega) hnx rfl ?_
          refine g_callVI (As := [.ref (ad i), .ref (ad (76 + 141 * t + 3 * x + 1))]) (st := []) hX hj (i := 1) (by omega) hT.1 (m_Tab_goesLeft hj hT hB i (76 + 141 * t + 3 * x + 1) (76 + 141 * t + 3 * x + 2) hi (by omega) a ha c num side hcu hc4 hn4 hs4 (tks_iff.mp hv c hc4)) cl_Tre_128 d_Tre_whereComes_21 rfl ⟨by decide, by decide⟩ ⟨by decide, by decide⟩ (Nat.le_of_ble_eq_true rfl) (fun z1 σ2 hz3 hp4 => ?_)
          obtain ⟨he5, hv6⟩ := hp4
          rw [he5]
          by_cases qg : kGo (so c) (a c) num side = true
          · have z1e : z1 = 1 := hv6.trans (if_pos qg)
            subst z1e
            refine v_if_eq (tgt := 34) hX d_Tre_whereComes_24 (by decide) (by unfold ir; omega) (fun c9 => absurd c9 (by omega)) (fun c9 => ?_)
            refine v_aload_n hX d_Tre_whereComes_27 2 rfl ?_
            refine g_get (i := 76 + 141 * t + 3 * x) hX hj fl_Tre_75 d_Tre_whereComes_28 (by omega) hnx rfl ?_
            refine v_goto (tgt := 38) hX d_Tre_whereComes_31 (by decide) ?_
            refine v_astoreN (lv' := [(4, .null), (0, .ref (ad (8 + t))), (1, .ref (ad i)), (2, .ref (ad (76 + 141 * t + 3 * x))), (3, .int (iv (((d : Nat) : Int))))]) hX d_Tre_whereComes_38 (by decide) rfl ?_
            refine v_aloadN hX d_Tre_whereComes_40 0 rfl ?_
            refine v_ifnonnullN hX d_Tre_whereComes_42 ?_
            refine v_aload_n hX d_Tre_whereComes_45 3 rfl ?_
            have hw2 : x = kWh t so a T ch 5 0 := by rw [← hw, kWh_n hch]
            exact hret _ _ (some (ad (76 + 141 * t + 3 * x))) _ d_Tre_whereComes_46 ⟨_, rfl, rfl, by rw [hw2], by rw [← hw2]; exact hx⟩
          · have z1e : z1 = 0 := hv6.trans (if_neg qg)
            subst z1e
            refine v_if_eq (tgt := 34) hX d_Tre_whereComes_24 (by decide) (by unfold ir; omega) (fun c9 => ?_) (fun c9 => absurd c9 (by omega))
            refine v_aload_n hX d_Tre_whereComes_34 2 rfl ?_
            refine g_get (i := 76 + 141 * t + 3 * x) hX hj fl_Tre_78 d_Tre_whereComes_35 (by omega) hnx rfl ?_
            refine v_astoreN (lv' := [(4, .null), (0, .ref (ad (8 + t))), (1, .ref (ad i)), (2, .ref (ad (76 + 141 * t + 3 * x))), (3, .int (iv (((d : Nat) : Int))))]) hX d_Tre_whereComes_38 (by decide) rfl ?_
            refine v_aloadN hX d_Tre_whereComes_40 0 rfl ?_
            refine v_ifnonnullN hX d_Tre_whereComes_42 ?_
            refine v_aload_n hX d_Tre_whereComes_45 3 rfl ?_
            have hw2 : x = kWh t so a T ch 5 0 := by rw [← hw, kWh_n hch]
            exact hret _ _ (some (ad (76 + 141 * t + 3 * x))) _ d_Tre_whereComes_46 ⟨_, rfl, rfl, by rw [hw2], by rw [← hw2]; exact hx⟩
        · obtain ⟨m, hq, hxm, hm⟩ := hco x q hx hch
          subst hq
          have hnx := hnn.1
          rw [hch] at hnx
          refine v_aload_n hX d_Tre_whereComes_12 0 rfl ?_
          refine g_get (i := 8 + t) hX hj fl_Tre_17 d_Tre_whereComes_13 (by omega) r1 rfl ?_
          refine v_aload_n hX d_Tre_whereComes_16 1 rfl ?_
          refine v_aload_n hX d_Tre_whereComes_17 2 rfl ?_
          refine g_get (i := 76 + 141 * t + 3 * x) hX hj fl_Tre_108 d_Tre_whereComes_18 (by omega) hnx rfl ?_
          refine g_callVI (As := [.ref (ad i), .ref (ad (76 + 141 * t + 3 * x + 1))]) (st := []) hX hj (i := 1) (by omega) hT.1 (m_Tab_goesLeft hj hT hB i (76 + 141 * t + 3 * x + 1) (76 + 141 * t + 3 * x + 2) hi (by omega) a ha c num side hcu hc4 hn4 hs4 (tks_iff.mp hv c hc4)) cl_Tre_128 d_Tre_whereComes_21 rfl ⟨by decide, by decide⟩ ⟨by decide, by decide⟩ (Nat.le_of_ble_eq_true rfl) (fun z7 σ8 hz9 hp10 => ?_)
          obtain ⟨he11, hv12⟩ := hp10
          rw [he11]
          by_cases qg : kGo (so c) (a c) num side = true
          · have z7e : z7 = 1 := hv12.trans (if_pos qg)
            subst z7e
            refine v_if_eq (tgt := 34) hX d_Tre_whereComes_24 (by decide) (by unfold ir; omega) (fun c9 => absurd c9 (by omega)) (fun c9 => ?_)
            refine v_aload_n hX d_Tre_whereComes_27 2 rfl ?_
            refine g_get (i := 76 + 141 * t + 3 * x) hX hj fl_Tre_75 d_Tre_whereComes_28 (by omega) hnx rfl ?_
            refine v_goto (tgt := 38) hX d_Tre_whereComes_31 (by decide) ?_
            refine v_astore (lv' := [(4, .ref (ad (76 + 141 * t + 3 * m))), (0, .ref (ad (8 + t))), (1, .ref (ad i)), (2, .ref (ad (76 + 141 * t + 3 * x))), (3, .int (iv (((d : Nat) : Int))))]) hX d_Tre_whereComes_38 (by decide) rfl ?_
            refine v_aload hX d_Tre_whereComes_40 0 rfl ?_
            refine v_ifnonnull (tgt := 47) hX d_Tre_whereComes_42 (by decide) ?_
            refine v_aload hX d_Tre_whereComes_47 0 rfl ?_
            refine v_astore_n (lv' := [(2, .ref (ad (76 + 141 * t + 3 * m))), (4, .ref (ad (76 + 141 * t + 3 * m))), (0, .ref (ad (8 + t))), (1, .ref (ad i)), (3, .int (iv (((d : Nat) : Int))))]) hX d_Tre_whereComes_49 rfl (by decide) rfl ?_
            refine v_iincN (a := d) (n := 1) (lv' := [(3, .int (iv ((((d + 1) : Nat) : Int)))), (2, .ref (ad (76 + 141 * t + 3 * m))), (4, .ref (ad (76 + 141 * t + 3 * m))), (0, .ref (ad (8 + t))), (1, .ref (ad i))]) hX d_Tre_whereComes_50 rfl 4 rfl (by decide) rfl ?_
            refine v_goto (tgt := 7) hX d_Tre_whereComes_53 (by decide) ?_
            refine v_lv [3, 4, 1, 0] rfl ?_
            exact ih_LOOP (d + 1) (m) (by omega) (by omega) (by omega) (by have e := kWh_s (t := t) (so := so) (a := a) hch e1 e2 e3 (5 - (d + 1)); rw [if_pos qg, show 5 - (d + 1) + 1 = 5 - d by omega] at e; exact e.symm.trans hw)
          · have z7e : z7 = 0 := hv12.trans (if_neg qg)
            subst z7e
            refine v_if_eq (tgt := 34) hX d_Tre_whereComes_24 (by decide) (by unfold ir; omega) (fun c9 => ?_) (fun c9 => absurd c9 (by omega))
            refine v_aload_n hX d_Tre_whereComes_34 2 rfl ?_
            refine g_get (i := 76 + 141 * t + 3 * x) hX hj fl_Tre_78 d_Tre_whereComes_35 (by omega) hnx rfl ?_
            refine v_astore (lv' := [(4, .ref (ad (76 + 141 * t + 3 * m + 3))), (0, .ref (ad (8 + t))), (1, .ref (ad i)), (2, .ref (ad (76 + 141 * t + 3 * x))), (3, .int (iv (((d : Nat) : Int))))]) hX d_Tre_whereComes_38 (by decide) rfl ?_
            refine v_aload hX d_Tre_whereComes_40 0 rfl ?_
            refine v_ifnonnull (tgt := 47) hX d_Tre_whereComes_42 (by decide) ?_
            refine v_aload hX d_Tre_whereComes_47 0 rfl ?_
            refine v_astore_n (lv' := [(2, .ref (ad (76 + 141 * t + 3 * m + 3))), (4, .ref (ad (76 + 141 * t + 3 * m + 3))), (0, .ref (ad (8 + t))), (1, .ref (ad i)), (3, .int (iv (((d : Nat) : Int))))]) hX d_Tre_whereComes_49 rfl (by decide) rfl ?_
            refine v_iincN (a := d) (n := 1) (lv' := [(3, .int (iv ((((d + 1) : Nat) : Int)))), (2, .ref (ad (76 + 141 * t + 3 * m + 3))), (4, .ref (ad (76 + 141 * t + 3 * m + 3))), (0, .ref (ad (8 + t))), (1, .ref (ad i))]) hX d_Tre_whereComes_50 rfl 4 rfl (by decide) rfl ?_
            refine v_goto (tgt := 7) hX d_Tre_whereComes_53 (by decide) ?_
            refine v_lv [3, 4, 1, 0] rfl ?_
            exact ih_LOOP (d + 1) ((m + 1)) (by omega) (by omega) (by omega) (by have e := kWh_s (t := t) (so := so) (a := a) hch e1 e2 e3 (5 - (d + 1)); rw [if_neg qg, show 5 - (d + 1) + 1 = 5 - d by omega] at e; exact e.symm.trans hw)
  refine v_lv [2, 3, 1, 0] rfl ?_
  exact LOOP _ (0) (0) (Nat.lt_succ_self _) (by decide) (by decide) rfl
end
