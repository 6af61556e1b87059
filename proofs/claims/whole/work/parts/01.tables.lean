-- ===== PART A: goes FIRST, ahead of the names: the tables' words, and 'selects' of the private methods out of them =====
/-- a private method of a class that the tables say can be made, by its rows of tables_1 -/
def lw_okq (q : MethodName × Nat) : Prop := (q.1.cls ≠ "java/lang/invoke/MethodHandle" ∧ q.1.cls ≠ "java/lang/invoke/VarHandle") ∧ Cond.instantiable q.1.cls q.2 ∈ tables_1 ∧ Cond.privateMethod q.1 ∈ tables_1 ∧ Cond.instanceMethod q.1 ∈ tables_1
theorem lw_p0 : lw_okq (⟨"LabelsOfLines", "refused", "(I)I"⟩, 12) := ⟨⟨by decide +kernel, by decide +kernel⟩, List.mem_of_getElem? (i := 15) (by decide +kernel), List.mem_of_getElem? (i := 244) (by decide +kernel), List.mem_of_getElem? (i := 245) (by decide +kernel)⟩
theorem lw_p1 : lw_okq (⟨"LabelsOfLines$Letters", "misspelt", "()I"⟩, 3) := ⟨⟨by decide +kernel, by decide +kernel⟩, List.mem_of_getElem? (i := 153) (by decide +kernel), List.mem_of_getElem? (i := 260) (by decide +kernel), List.mem_of_getElem? (i := 261) (by decide +kernel)⟩
theorem lw_p2 : lw_okq (⟨"LabelsOfLines$Letters", "comes", "(I)Z"⟩, 3) := ⟨⟨by decide +kernel, by decide +kernel⟩, List.mem_of_getElem? (i := 153) (by decide +kernel), List.mem_of_getElem? (i := 274) (by decide +kernel), List.mem_of_getElem? (i := 275) (by decide +kernel)⟩
theorem lw_p3 : lw_okq (⟨"LabelsOfLines$Letters", "digit", "(I)I"⟩, 3) := ⟨⟨by decide +kernel, by decide +kernel⟩, List.mem_of_getElem? (i := 153) (by decide +kernel), List.mem_of_getElem? (i := 278) (by decide +kernel), List.mem_of_getElem? (i := 279) (by decide +kernel)⟩
theorem lw_p4 : lw_okq (⟨"LabelsOfLines$Letters", "comesPoints", "(I)Z"⟩, 3) := ⟨⟨by decide +kernel, by decide +kernel⟩, List.mem_of_getElem? (i := 153) (by decide +kernel), List.mem_of_getElem? (i := 282) (by decide +kernel), List.mem_of_getElem? (i := 283) (by decide +kernel)⟩
theorem lw_p5 : lw_okq (⟨"LabelsOfLines$Letters", "comesLine", "(III)Z"⟩, 3) := ⟨⟨by decide +kernel, by decide +kernel⟩, List.mem_of_getElem? (i := 153) (by decide +kernel), List.mem_of_getElem? (i := 290) (by decide +kernel), List.mem_of_getElem? (i := 291) (by decide +kernel)⟩
theorem lw_p6 : lw_okq (⟨"LabelsOfLines$Letters", "comesFigure", "(II)Z"⟩, 3) := ⟨⟨by decide +kernel, by decide +kernel⟩, List.mem_of_getElem? (i := 153) (by decide +kernel), List.mem_of_getElem? (i := 305) (by decide +kernel), List.mem_of_getElem? (i := 306) (by decide +kernel)⟩
theorem lw_p7 : lw_okq (⟨"LabelsOfLines$Letters", "comesLabel", "(II)Z"⟩, 3) := ⟨⟨by decide +kernel, by decide +kernel⟩, List.mem_of_getElem? (i := 153) (by decide +kernel), List.mem_of_getElem? (i := 313) (by decide +kernel), List.mem_of_getElem? (i := 314) (by decide +kernel)⟩
theorem lw_p8 : lw_okq (⟨"LabelsOfLines$Thought", "begin", "()V"⟩, 8) := ⟨⟨by decide +kernel, by decide +kernel⟩, List.mem_of_getElem? (i := 105) (by decide +kernel), List.mem_of_getElem? (i := 456) (by decide +kernel), List.mem_of_getElem? (i := 457) (by decide +kernel)⟩
theorem lw_p9 : lw_okq (⟨"LabelsOfLines$Thought", "nextLabels", "(I)V"⟩, 8) := ⟨⟨by decide +kernel, by decide +kernel⟩, List.mem_of_getElem? (i := 105) (by decide +kernel), List.mem_of_getElem? (i := 466) (by decide +kernel), List.mem_of_getElem? (i := 467) (by decide +kernel)⟩
theorem lw_p10 : lw_okq (⟨"LabelsOfLines$Thought", "relabel", "(II)V"⟩, 8) := ⟨⟨by decide +kernel, by decide +kernel⟩, List.mem_of_getElem? (i := 105) (by decide +kernel), List.mem_of_getElem? (i := 470) (by decide +kernel), List.mem_of_getElem? (i := 471) (by decide +kernel)⟩
theorem lw_p11 : lw_okq (⟨"LabelsOfLines", "found", "(III)I"⟩, 12) := ⟨⟨by decide +kernel, by decide +kernel⟩, List.mem_of_getElem? (i := 15) (by decide +kernel), List.mem_of_getElem? (i := 474) (by decide +kernel), List.mem_of_getElem? (i := 475) (by decide +kernel)⟩
theorem lw_p12 : lw_okq (⟨"LabelsOfLines$Thought", "allPointsCount", "()Z"⟩, 8) := ⟨⟨by decide +kernel, by decide +kernel⟩, List.mem_of_getElem? (i := 105) (by decide +kernel), List.mem_of_getElem? (i := 486) (by decide +kernel), List.mem_of_getElem? (i := 487) (by decide +kernel)⟩
theorem lw_p13 : lw_okq (⟨"LabelsOfLines$Thought", "isAbove", "(II)Z"⟩, 8) := ⟨⟨by decide +kernel, by decide +kernel⟩, List.mem_of_getElem? (i := 105) (by decide +kernel), List.mem_of_getElem? (i := 493) (by decide +kernel), List.mem_of_getElem? (i := 494) (by decide +kernel)⟩
theorem lw_p14 : lw_okq (⟨"LabelsOfLines$Thought", "leavesNoLess", "(II)Z"⟩, 8) := ⟨⟨by decide +kernel, by decide +kernel⟩, List.mem_of_getElem? (i := 105) (by decide +kernel), List.mem_of_getElem? (i := 497) (by decide +kernel), List.mem_of_getElem? (i := 498) (by decide +kernel)⟩
theorem lw_p15 : lw_okq (⟨"LabelsOfLines", "fillMagicRow", "(II)V"⟩, 12) := ⟨⟨by decide +kernel, by decide +kernel⟩, List.mem_of_getElem? (i := 15) (by decide +kernel), List.mem_of_getElem? (i := 506) (by decide +kernel), List.mem_of_getElem? (i := 507) (by decide +kernel)⟩
def lw_privs_1 : List (MethodName × Nat) := [(⟨"LabelsOfLines", "refused", "(I)I"⟩, 12), (⟨"LabelsOfLines$Letters", "misspelt", "()I"⟩, 3), (⟨"LabelsOfLines$Letters", "comes", "(I)Z"⟩, 3), (⟨"LabelsOfLines$Letters", "digit", "(I)I"⟩, 3), (⟨"LabelsOfLines$Letters", "comesPoints", "(I)Z"⟩, 3), (⟨"LabelsOfLines$Letters", "comesLine", "(III)Z"⟩, 3), (⟨"LabelsOfLines$Letters", "comesFigure", "(II)Z"⟩, 3), (⟨"LabelsOfLines$Letters", "comesLabel", "(II)Z"⟩, 3), (⟨"LabelsOfLines$Thought", "begin", "()V"⟩, 8), (⟨"LabelsOfLines$Thought", "nextLabels", "(I)V"⟩, 8), (⟨"LabelsOfLines$Thought", "relabel", "(II)V"⟩, 8), (⟨"LabelsOfLines", "found", "(III)I"⟩, 12), (⟨"LabelsOfLines$Thought", "allPointsCount", "()Z"⟩, 8), (⟨"LabelsOfLines$Thought", "isAbove", "(II)Z"⟩, 8), (⟨"LabelsOfLines$Thought", "leavesNoLess", "(II)Z"⟩, 8), (⟨"LabelsOfLines", "fillMagicRow", "(II)V"⟩, 12)]
theorem lw_r1 : ∀ q ∈ lw_privs_1, lw_okq q := List.forall_mem_cons.mpr ⟨lw_p0, List.forall_mem_cons.mpr ⟨lw_p1, List.forall_mem_cons.mpr ⟨lw_p2, List.forall_mem_cons.mpr ⟨lw_p3, List.forall_mem_cons.mpr ⟨lw_p4, List.forall_mem_cons.mpr ⟨lw_p5, List.forall_mem_cons.mpr ⟨lw_p6, List.forall_mem_cons.mpr ⟨lw_p7, List.forall_mem_cons.mpr ⟨lw_p8, List.forall_mem_cons.mpr ⟨lw_p9, List.forall_mem_cons.mpr ⟨lw_p10, List.forall_mem_cons.mpr ⟨lw_p11, List.forall_mem_cons.mpr ⟨lw_p12, List.forall_mem_cons.mpr ⟨lw_p13, List.forall_mem_cons.mpr ⟨lw_p14, List.forall_mem_cons.mpr ⟨lw_p15, fun _ h => absurd h List.not_mem_nil⟩⟩⟩⟩⟩⟩⟩⟩⟩⟩⟩⟩⟩⟩⟩⟩
theorem lw_p16 : lw_okq (⟨"LabelsOfLines", "becomeDifferences", "(II)V"⟩, 12) := ⟨⟨by decide +kernel, by decide +kernel⟩, List.mem_of_getElem? (i := 15) (by decide +kernel), List.mem_of_getElem? (i := 510) (by decide +kernel), List.mem_of_getElem? (i := 511) (by decide +kernel)⟩
theorem lw_p17 : lw_okq (⟨"LabelsOfLines$Thought", "beginOrders", "()V"⟩, 8) := ⟨⟨by decide +kernel, by decide +kernel⟩, List.mem_of_getElem? (i := 105) (by decide +kernel), List.mem_of_getElem? (i := 526) (by decide +kernel), List.mem_of_getElem? (i := 527) (by decide +kernel)⟩
theorem lw_p18 : lw_okq (⟨"LabelsOfLines$Thought", "nextOrder", "()V"⟩, 8) := ⟨⟨by decide +kernel, by decide +kernel⟩, List.mem_of_getElem? (i := 105) (by decide +kernel), List.mem_of_getElem? (i := 533) (by decide +kernel), List.mem_of_getElem? (i := 534) (by decide +kernel)⟩
theorem lw_p19 : lw_okq (⟨"LabelsOfLines$Thought", "exchange", "(II)V"⟩, 8) := ⟨⟨by decide +kernel, by decide +kernel⟩, List.mem_of_getElem? (i := 105) (by decide +kernel), List.mem_of_getElem? (i := 537) (by decide +kernel), List.mem_of_getElem? (i := 538) (by decide +kernel)⟩
theorem lw_p20 : lw_okq (⟨"LabelsOfLines$Thought", "drawLabels", "()V"⟩, 8) := ⟨⟨by decide +kernel, by decide +kernel⟩, List.mem_of_getElem? (i := 105) (by decide +kernel), List.mem_of_getElem? (i := 573) (by decide +kernel), List.mem_of_getElem? (i := 574) (by decide +kernel)⟩
theorem lw_p21 : lw_okq (⟨"LabelsOfLines$Shape", "bringUp", "(II)Z"⟩, 2) := ⟨⟨by decide +kernel, by decide +kernel⟩, List.mem_of_getElem? (i := 137) (by decide +kernel), List.mem_of_getElem? (i := 594) (by decide +kernel), List.mem_of_getElem? (i := 595) (by decide +kernel)⟩
theorem lw_p22 : lw_okq (⟨"LabelsOfLines$Shape", "exchangeRows", "(II)V"⟩, 2) := ⟨⟨by decide +kernel, by decide +kernel⟩, List.mem_of_getElem? (i := 137) (by decide +kernel), List.mem_of_getElem? (i := 598) (by decide +kernel), List.mem_of_getElem? (i := 599) (by decide +kernel)⟩
theorem lw_p23 : lw_okq (⟨"LabelsOfLines$Shape", "clearBelow", "(II)V"⟩, 2) := ⟨⟨by decide +kernel, by decide +kernel⟩, List.mem_of_getElem? (i := 137) (by decide +kernel), List.mem_of_getElem? (i := 602) (by decide +kernel), List.mem_of_getElem? (i := 603) (by decide +kernel)⟩
theorem lw_p24 : lw_okq (⟨"LabelsOfLines$Shape", "reached", "(I)I"⟩, 2) := ⟨⟨by decide +kernel, by decide +kernel⟩, List.mem_of_getElem? (i := 137) (by decide +kernel), List.mem_of_getElem? (i := 619) (by decide +kernel), List.mem_of_getElem? (i := 620) (by decide +kernel)⟩
theorem lw_p25 : lw_okq (⟨"LabelsOfLines$Shape", "isOddFrom", "(II)Z"⟩, 2) := ⟨⟨by decide +kernel, by decide +kernel⟩, List.mem_of_getElem? (i := 137) (by decide +kernel), List.mem_of_getElem? (i := 638) (by decide +kernel), List.mem_of_getElem? (i := 639) (by decide +kernel)⟩
theorem lw_p26 : lw_okq (⟨"LabelsOfLines$Writing", "add", "(I)V"⟩, 2) := ⟨⟨by decide +kernel, by decide +kernel⟩, List.mem_of_getElem? (i := 172) (by decide +kernel), List.mem_of_getElem? (i := 654) (by decide +kernel), List.mem_of_getElem? (i := 655) (by decide +kernel)⟩
theorem lw_p27 : lw_okq (⟨"LabelsOfLines$Writing", "addDigit", "(I)V"⟩, 2) := ⟨⟨by decide +kernel, by decide +kernel⟩, List.mem_of_getElem? (i := 172) (by decide +kernel), List.mem_of_getElem? (i := 658) (by decide +kernel), List.mem_of_getElem? (i := 659) (by decide +kernel)⟩
theorem lw_p28 : lw_okq (⟨"LabelsOfLines$Writing", "writeLine", "(LLabelsOfLines$Net;I)V"⟩, 2) := ⟨⟨by decide +kernel, by decide +kernel⟩, List.mem_of_getElem? (i := 172) (by decide +kernel), List.mem_of_getElem? (i := 662) (by decide +kernel), List.mem_of_getElem? (i := 663) (by decide +kernel)⟩
theorem lw_p29 : lw_okq (⟨"LabelsOfLines", "refusalOfPlace", "(II)I"⟩, 12) := ⟨⟨by decide +kernel, by decide +kernel⟩, List.mem_of_getElem? (i := 15) (by decide +kernel), List.mem_of_getElem? (i := 681) (by decide +kernel), List.mem_of_getElem? (i := 682) (by decide +kernel)⟩
theorem lw_p30 : lw_okq (⟨"LabelsOfLines", "refusalOfList", "(I)I"⟩, 12) := ⟨⟨by decide +kernel, by decide +kernel⟩, List.mem_of_getElem? (i := 15) (by decide +kernel), List.mem_of_getElem? (i := 685) (by decide +kernel), List.mem_of_getElem? (i := 686) (by decide +kernel)⟩
theorem lw_p31 : lw_okq (⟨"LabelsOfLinesModel", "refused", "(I)I"⟩, 29) := ⟨⟨by decide +kernel, by decide +kernel⟩, List.mem_of_getElem? (i := 739) (by decide +kernel), List.mem_of_getElem? (i := 837) (by decide +kernel), List.mem_of_getElem? (i := 838) (by decide +kernel)⟩
def lw_privs_2 : List (MethodName × Nat) := [(⟨"LabelsOfLines", "becomeDifferences", "(II)V"⟩, 12), (⟨"LabelsOfLines$Thought", "beginOrders", "()V"⟩, 8), (⟨"LabelsOfLines$Thought", "nextOrder", "()V"⟩, 8), (⟨"LabelsOfLines$Thought", "exchange", "(II)V"⟩, 8), (⟨"LabelsOfLines$Thought", "drawLabels", "()V"⟩, 8), (⟨"LabelsOfLines$Shape", "bringUp", "(II)Z"⟩, 2), (⟨"LabelsOfLines$Shape", "exchangeRows", "(II)V"⟩, 2), (⟨"LabelsOfLines$Shape", "clearBelow", "(II)V"⟩, 2), (⟨"LabelsOfLines$Shape", "reached", "(I)I"⟩, 2), (⟨"LabelsOfLines$Shape", "isOddFrom", "(II)Z"⟩, 2), (⟨"LabelsOfLines$Writing", "add", "(I)V"⟩, 2), (⟨"LabelsOfLines$Writing", "addDigit", "(I)V"⟩, 2), (⟨"LabelsOfLines$Writing", "writeLine", "(LLabelsOfLines$Net;I)V"⟩, 2), (⟨"LabelsOfLines", "refusalOfPlace", "(II)I"⟩, 12), (⟨"LabelsOfLines", "refusalOfList", "(I)I"⟩, 12), (⟨"LabelsOfLinesModel", "refused", "(I)I"⟩, 29)]
theorem lw_r2 : ∀ q ∈ lw_privs_2, lw_okq q := List.forall_mem_cons.mpr ⟨lw_p16, List.forall_mem_cons.mpr ⟨lw_p17, List.forall_mem_cons.mpr ⟨lw_p18, List.forall_mem_cons.mpr ⟨lw_p19, List.forall_mem_cons.mpr ⟨lw_p20, List.forall_mem_cons.mpr ⟨lw_p21, List.forall_mem_cons.mpr ⟨lw_p22, List.forall_mem_cons.mpr ⟨lw_p23, List.forall_mem_cons.mpr ⟨lw_p24, List.forall_mem_cons.mpr ⟨lw_p25, List.forall_mem_cons.mpr ⟨lw_p26, List.forall_mem_cons.mpr ⟨lw_p27, List.forall_mem_cons.mpr ⟨lw_p28, List.forall_mem_cons.mpr ⟨lw_p29, List.forall_mem_cons.mpr ⟨lw_p30, List.forall_mem_cons.mpr ⟨lw_p31, fun _ h => absurd h List.not_mem_nil⟩⟩⟩⟩⟩⟩⟩⟩⟩⟩⟩⟩⟩⟩⟩⟩
theorem lw_p32 : lw_okq (⟨"LabelsOfLinesModel", "formFault", "()I"⟩, 29) := ⟨⟨by decide +kernel, by decide +kernel⟩, List.mem_of_getElem? (i := 739) (by decide +kernel), List.mem_of_getElem? (i := 845) (by decide +kernel), List.mem_of_getElem? (i := 846) (by decide +kernel)⟩
theorem lw_p33 : lw_okq (⟨"LabelsOfLinesModel", "keeps", "([I)V"⟩, 29) := ⟨⟨by decide +kernel, by decide +kernel⟩, List.mem_of_getElem? (i := 739) (by decide +kernel), List.mem_of_getElem? (i := 855) (by decide +kernel), List.mem_of_getElem? (i := 856) (by decide +kernel)⟩
theorem lw_p34 : lw_okq (⟨"LabelsOfLinesModel", "isDone", "(I)Z"⟩, 29) := ⟨⟨by decide +kernel, by decide +kernel⟩, List.mem_of_getElem? (i := 739) (by decide +kernel), List.mem_of_getElem? (i := 859) (by decide +kernel), List.mem_of_getElem? (i := 860) (by decide +kernel)⟩
theorem lw_p35 : lw_okq (⟨"LabelsOfLinesModel", "digitAt", "(I)I"⟩, 29) := ⟨⟨by decide +kernel, by decide +kernel⟩, List.mem_of_getElem? (i := 739) (by decide +kernel), List.mem_of_getElem? (i := 863) (by decide +kernel), List.mem_of_getElem? (i := 864) (by decide +kernel)⟩
theorem lw_p36 : lw_okq (⟨"LabelsOfLinesModel", "isPoint", "(I)Z"⟩, 29) := ⟨⟨by decide +kernel, by decide +kernel⟩, List.mem_of_getElem? (i := 739) (by decide +kernel), List.mem_of_getElem? (i := 867) (by decide +kernel), List.mem_of_getElem? (i := 868) (by decide +kernel)⟩
theorem lw_p37 : lw_okq (⟨"LabelsOfLinesModel", "comes", "(III)V"⟩, 29) := ⟨⟨by decide +kernel, by decide +kernel⟩, List.mem_of_getElem? (i := 739) (by decide +kernel), List.mem_of_getElem? (i := 871) (by decide +kernel), List.mem_of_getElem? (i := 872) (by decide +kernel)⟩
theorem lw_p38 : lw_okq (⟨"LabelsOfLinesModel", "isLine", "(I)Z"⟩, 29) := ⟨⟨by decide +kernel, by decide +kernel⟩, List.mem_of_getElem? (i := 739) (by decide +kernel), List.mem_of_getElem? (i := 875) (by decide +kernel), List.mem_of_getElem? (i := 876) (by decide +kernel)⟩
theorem lw_p39 : lw_okq (⟨"LabelsOfLinesModel", "laysBack", "([I)V"⟩, 29) := ⟨⟨by decide +kernel, by decide +kernel⟩, List.mem_of_getElem? (i := 739) (by decide +kernel), List.mem_of_getElem? (i := 879) (by decide +kernel), List.mem_of_getElem? (i := 880) (by decide +kernel)⟩
theorem lw_p40 : lw_okq (⟨"LabelsOfLinesModel", "canBeUndone", "()V"⟩, 29) := ⟨⟨by decide +kernel, by decide +kernel⟩, List.mem_of_getElem? (i := 739) (by decide +kernel), List.mem_of_getElem? (i := 899) (by decide +kernel), List.mem_of_getElem? (i := 900) (by decide +kernel)⟩
theorem lw_p41 : lw_okq (⟨"LabelsOfLinesModel", "forth", "(I)I"⟩, 29) := ⟨⟨by decide +kernel, by decide +kernel⟩, List.mem_of_getElem? (i := 739) (by decide +kernel), List.mem_of_getElem? (i := 911) (by decide +kernel), List.mem_of_getElem? (i := 912) (by decide +kernel)⟩
theorem lw_p42 : lw_okq (⟨"LabelsOfLinesModel", "back", "(I)I"⟩, 29) := ⟨⟨by decide +kernel, by decide +kernel⟩, List.mem_of_getElem? (i := 739) (by decide +kernel), List.mem_of_getElem? (i := 915) (by decide +kernel), List.mem_of_getElem? (i := 916) (by decide +kernel)⟩
theorem lw_p43 : lw_okq (⟨"LabelsOfLinesModel", "weight", "(II)I"⟩, 29) := ⟨⟨by decide +kernel, by decide +kernel⟩, List.mem_of_getElem? (i := 739) (by decide +kernel), List.mem_of_getElem? (i := 927) (by decide +kernel), List.mem_of_getElem? (i := 928) (by decide +kernel)⟩
theorem lw_p44 : lw_okq (⟨"LabelsOfLinesModel", "layNow", "()V"⟩, 29) := ⟨⟨by decide +kernel, by decide +kernel⟩, List.mem_of_getElem? (i := 739) (by decide +kernel), List.mem_of_getElem? (i := 935) (by decide +kernel), List.mem_of_getElem? (i := 936) (by decide +kernel)⟩
theorem lw_p45 : lw_okq (⟨"LabelsOfLinesModel", "layWeights", "()V"⟩, 29) := ⟨⟨by decide +kernel, by decide +kernel⟩, List.mem_of_getElem? (i := 739) (by decide +kernel), List.mem_of_getElem? (i := 939) (by decide +kernel), List.mem_of_getElem? (i := 940) (by decide +kernel)⟩
theorem lw_p46 : lw_okq (⟨"LabelsOfLinesModel", "laySums", "()V"⟩, 29) := ⟨⟨by decide +kernel, by decide +kernel⟩, List.mem_of_getElem? (i := 739) (by decide +kernel), List.mem_of_getElem? (i := 943) (by decide +kernel), List.mem_of_getElem? (i := 944) (by decide +kernel)⟩
theorem lw_p47 : lw_okq (⟨"LabelsOfLinesModel", "totalNow", "()I"⟩, 29) := ⟨⟨by decide +kernel, by decide +kernel⟩, List.mem_of_getElem? (i := 739) (by decide +kernel), List.mem_of_getElem? (i := 951) (by decide +kernel), List.mem_of_getElem? (i := 952) (by decide +kernel)⟩
def lw_privs_3 : List (MethodName × Nat) := [(⟨"LabelsOfLinesModel", "formFault", "()I"⟩, 29), (⟨"LabelsOfLinesModel", "keeps", "([I)V"⟩, 29), (⟨"LabelsOfLinesModel", "isDone", "(I)Z"⟩, 29), (⟨"LabelsOfLinesModel", "digitAt", "(I)I"⟩, 29), (⟨"LabelsOfLinesModel", "isPoint", "(I)Z"⟩, 29), (⟨"LabelsOfLinesModel", "comes", "(III)V"⟩, 29), (⟨"LabelsOfLinesModel", "isLine", "(I)Z"⟩, 29), (⟨"LabelsOfLinesModel", "laysBack", "([I)V"⟩, 29), (⟨"LabelsOfLinesModel", "canBeUndone", "()V"⟩, 29), (⟨"LabelsOfLinesModel", "forth", "(I)I"⟩, 29), (⟨"LabelsOfLinesModel", "back", "(I)I"⟩, 29), (⟨"LabelsOfLinesModel", "weight", "(II)I"⟩, 29), (⟨"LabelsOfLinesModel", "layNow", "()V"⟩, 29), (⟨"LabelsOfLinesModel", "layWeights", "()V"⟩, 29), (⟨"LabelsOfLinesModel", "laySums", "()V"⟩, 29), (⟨"LabelsOfLinesModel", "totalNow", "()I"⟩, 29)]
theorem lw_r3 : ∀ q ∈ lw_privs_3, lw_okq q := List.forall_mem_cons.mpr ⟨lw_p32, List.forall_mem_cons.mpr ⟨lw_p33, List.forall_mem_cons.mpr ⟨lw_p34, List.forall_mem_cons.mpr ⟨lw_p35, List.forall_mem_cons.mpr ⟨lw_p36, List.forall_mem_cons.mpr ⟨lw_p37, List.forall_mem_cons.mpr ⟨lw_p38, List.forall_mem_cons.mpr ⟨lw_p39, List.forall_mem_cons.mpr ⟨lw_p40, List.forall_mem_cons.mpr ⟨lw_p41, List.forall_mem_cons.mpr ⟨lw_p42, List.forall_mem_cons.mpr ⟨lw_p43, List.forall_mem_cons.mpr ⟨lw_p44, List.forall_mem_cons.mpr ⟨lw_p45, List.forall_mem_cons.mpr ⟨lw_p46, List.forall_mem_cons.mpr ⟨lw_p47, fun _ h => absurd h List.not_mem_nil⟩⟩⟩⟩⟩⟩⟩⟩⟩⟩⟩⟩⟩⟩⟩⟩
theorem lw_p48 : lw_okq (⟨"LabelsOfLinesModel", "waysTo", "(III)I"⟩, 29) := ⟨⟨by decide +kernel, by decide +kernel⟩, List.mem_of_getElem? (i := 739) (by decide +kernel), List.mem_of_getElem? (i := 979) (by decide +kernel), List.mem_of_getElem? (i := 980) (by decide +kernel)⟩
theorem lw_p49 : lw_okq (⟨"LabelsOfLinesModel", "triesNought", "()V"⟩, 29) := ⟨⟨by decide +kernel, by decide +kernel⟩, List.mem_of_getElem? (i := 739) (by decide +kernel), List.mem_of_getElem? (i := 983) (by decide +kernel), List.mem_of_getElem? (i := 984) (by decide +kernel)⟩
theorem lw_p50 : lw_okq (⟨"LabelsOfLinesModel", "goesOn", "(I)Z"⟩, 29) := ⟨⟨by decide +kernel, by decide +kernel⟩, List.mem_of_getElem? (i := 739) (by decide +kernel), List.mem_of_getElem? (i := 987) (by decide +kernel), List.mem_of_getElem? (i := 988) (by decide +kernel)⟩
theorem lw_p51 : lw_okq (⟨"LabelsOfLinesModel", "magicTo", "(II)I"⟩, 29) := ⟨⟨by decide +kernel, by decide +kernel⟩, List.mem_of_getElem? (i := 739) (by decide +kernel), List.mem_of_getElem? (i := 995) (by decide +kernel), List.mem_of_getElem? (i := 996) (by decide +kernel)⟩
theorem lw_p52 : lw_okq (⟨"LabelsOfLinesModel", "isAbove", "(I)Z"⟩, 29) := ⟨⟨by decide +kernel, by decide +kernel⟩, List.mem_of_getElem? (i := 739) (by decide +kernel), List.mem_of_getElem? (i := 999) (by decide +kernel), List.mem_of_getElem? (i := 1000) (by decide +kernel)⟩
theorem lw_p53 : lw_okq (⟨"LabelsOfLinesModel", "goesPast", "()Z"⟩, 29) := ⟨⟨by decide +kernel, by decide +kernel⟩, List.mem_of_getElem? (i := 739) (by decide +kernel), List.mem_of_getElem? (i := 1003) (by decide +kernel), List.mem_of_getElem? (i := 1004) (by decide +kernel)⟩
theorem lw_p54 : lw_okq (⟨"LabelsOfLinesModel", "isAll", "(I)Z"⟩, 29) := ⟨⟨by decide +kernel, by decide +kernel⟩, List.mem_of_getElem? (i := 739) (by decide +kernel), List.mem_of_getElem? (i := 1007) (by decide +kernel), List.mem_of_getElem? (i := 1008) (by decide +kernel)⟩
theorem lw_p55 : lw_okq (⟨"LabelsOfLinesModel", "goesUp", "()Z"⟩, 29) := ⟨⟨by decide +kernel, by decide +kernel⟩, List.mem_of_getElem? (i := 739) (by decide +kernel), List.mem_of_getElem? (i := 1011) (by decide +kernel), List.mem_of_getElem? (i := 1012) (by decide +kernel)⟩
theorem lw_p56 : lw_okq (⟨"LabelsOfLinesModel", "layMagic", "()V"⟩, 29) := ⟨⟨by decide +kernel, by decide +kernel⟩, List.mem_of_getElem? (i := 739) (by decide +kernel), List.mem_of_getElem? (i := 1020) (by decide +kernel), List.mem_of_getElem? (i := 1021) (by decide +kernel)⟩
theorem lw_p57 : lw_okq (⟨"LabelsOfLinesModel", "differ", "(I)V"⟩, 29) := ⟨⟨by decide +kernel, by decide +kernel⟩, List.mem_of_getElem? (i := 739) (by decide +kernel), List.mem_of_getElem? (i := 1024) (by decide +kernel), List.mem_of_getElem? (i := 1025) (by decide +kernel)⟩
theorem lw_p58 : lw_okq (⟨"LabelsOfLinesModel", "ordersTo", "(I)I"⟩, 29) := ⟨⟨by decide +kernel, by decide +kernel⟩, List.mem_of_getElem? (i := 739) (by decide +kernel), List.mem_of_getElem? (i := 1036) (by decide +kernel), List.mem_of_getElem? (i := 1037) (by decide +kernel)⟩
theorem lw_p59 : lw_okq (⟨"LabelsOfLinesModel", "nextOrder", "()Z"⟩, 29) := ⟨⟨by decide +kernel, by decide +kernel⟩, List.mem_of_getElem? (i := 739) (by decide +kernel), List.mem_of_getElem? (i := 1042) (by decide +kernel), List.mem_of_getElem? (i := 1043) (by decide +kernel)⟩
theorem lw_p60 : lw_okq (⟨"LabelsOfLinesModel", "farther", "(I)J"⟩, 29) := ⟨⟨by decide +kernel, by decide +kernel⟩, List.mem_of_getElem? (i := 739) (by decide +kernel), List.mem_of_getElem? (i := 1054) (by decide +kernel), List.mem_of_getElem? (i := 1055) (by decide +kernel)⟩
theorem lw_p61 : lw_okq (⟨"LabelsOfLinesModel", "rankNow", "()I"⟩, 29) := ⟨⟨by decide +kernel, by decide +kernel⟩, List.mem_of_getElem? (i := 739) (by decide +kernel), List.mem_of_getElem? (i := 1073) (by decide +kernel), List.mem_of_getElem? (i := 1074) (by decide +kernel)⟩
theorem lw_p62 : lw_okq (⟨"LabelsOfLinesModel", "partOf", "(I)I"⟩, 29) := ⟨⟨by decide +kernel, by decide +kernel⟩, List.mem_of_getElem? (i := 739) (by decide +kernel), List.mem_of_getElem? (i := 1081) (by decide +kernel), List.mem_of_getElem? (i := 1082) (by decide +kernel)⟩
theorem lw_p63 : lw_okq (⟨"LabelsOfLinesModel", "haveSides", "()Z"⟩, 29) := ⟨⟨by decide +kernel, by decide +kernel⟩, List.mem_of_getElem? (i := 739) (by decide +kernel), List.mem_of_getElem? (i := 1089) (by decide +kernel), List.mem_of_getElem? (i := 1090) (by decide +kernel)⟩
def lw_privs_4 : List (MethodName × Nat) := [(⟨"LabelsOfLinesModel", "waysTo", "(III)I"⟩, 29), (⟨"LabelsOfLinesModel", "triesNought", "()V"⟩, 29), (⟨"LabelsOfLinesModel", "goesOn", "(I)Z"⟩, 29), (⟨"LabelsOfLinesModel", "magicTo", "(II)I"⟩, 29), (⟨"LabelsOfLinesModel", "isAbove", "(I)Z"⟩, 29), (⟨"LabelsOfLinesModel", "goesPast", "()Z"⟩, 29), (⟨"LabelsOfLinesModel", "isAll", "(I)Z"⟩, 29), (⟨"LabelsOfLinesModel", "goesUp", "()Z"⟩, 29), (⟨"LabelsOfLinesModel", "layMagic", "()V"⟩, 29), (⟨"LabelsOfLinesModel", "differ", "(I)V"⟩, 29), (⟨"LabelsOfLinesModel", "ordersTo", "(I)I"⟩, 29), (⟨"LabelsOfLinesModel", "nextOrder", "()Z"⟩, 29), (⟨"LabelsOfLinesModel", "farther", "(I)J"⟩, 29), (⟨"LabelsOfLinesModel", "rankNow", "()I"⟩, 29), (⟨"LabelsOfLinesModel", "partOf", "(I)I"⟩, 29), (⟨"LabelsOfLinesModel", "haveSides", "()Z"⟩, 29)]
theorem lw_r4 : ∀ q ∈ lw_privs_4, lw_okq q := List.forall_mem_cons.mpr ⟨lw_p48, List.forall_mem_cons.mpr ⟨lw_p49, List.forall_mem_cons.mpr ⟨lw_p50, List.forall_mem_cons.mpr ⟨lw_p51, List.forall_mem_cons.mpr ⟨lw_p52, List.forall_mem_cons.mpr ⟨lw_p53, List.forall_mem_cons.mpr ⟨lw_p54, List.forall_mem_cons.mpr ⟨lw_p55, List.forall_mem_cons.mpr ⟨lw_p56, List.forall_mem_cons.mpr ⟨lw_p57, List.forall_mem_cons.mpr ⟨lw_p58, List.forall_mem_cons.mpr ⟨lw_p59, List.forall_mem_cons.mpr ⟨lw_p60, List.forall_mem_cons.mpr ⟨lw_p61, List.forall_mem_cons.mpr ⟨lw_p62, List.forall_mem_cons.mpr ⟨lw_p63, fun _ h => absurd h List.not_mem_nil⟩⟩⟩⟩⟩⟩⟩⟩⟩⟩⟩⟩⟩⟩⟩⟩
theorem lw_p64 : lw_okq (⟨"LabelsOfLinesModel", "writesAll", "()V"⟩, 29) := ⟨⟨by decide +kernel, by decide +kernel⟩, List.mem_of_getElem? (i := 739) (by decide +kernel), List.mem_of_getElem? (i := 1097) (by decide +kernel), List.mem_of_getElem? (i := 1098) (by decide +kernel)⟩
theorem lw_p65 : lw_okq (⟨"LabelsOfLinesModel", "writes", "(I)V"⟩, 29) := ⟨⟨by decide +kernel, by decide +kernel⟩, List.mem_of_getElem? (i := 739) (by decide +kernel), List.mem_of_getElem? (i := 1101) (by decide +kernel), List.mem_of_getElem? (i := 1102) (by decide +kernel)⟩
def lw_privs_5 : List (MethodName × Nat) := [(⟨"LabelsOfLinesModel", "writesAll", "()V"⟩, 29), (⟨"LabelsOfLinesModel", "writes", "(I)V"⟩, 29)]
theorem lw_r5 : ∀ q ∈ lw_privs_5, lw_okq q := List.forall_mem_cons.mpr ⟨lw_p64, List.forall_mem_cons.mpr ⟨lw_p65, fun _ h => absurd h List.not_mem_nil⟩⟩
def lw_privs : List (MethodName × Nat) := lw_privs_1 ++ (lw_privs_2 ++ (lw_privs_3 ++ (lw_privs_4 ++ (lw_privs_5))))
def lw_tbl : List Cond := k2_sels lw_privs ++ tables_1
theorem lw_privs_ok : ∀ q ∈ lw_privs, lw_okq q := by
  show ∀ q ∈ lw_privs_1 ++ (lw_privs_2 ++ (lw_privs_3 ++ (lw_privs_4 ++ (lw_privs_5)))), lw_okq q
  exact List.forall_mem_append.mpr ⟨lw_r1, List.forall_mem_append.mpr ⟨lw_r2, List.forall_mem_append.mpr ⟨lw_r3, List.forall_mem_append.mpr ⟨lw_r4, lw_r5⟩⟩⟩⟩
theorem goodIn_r {big : List Cond} (ws : List Cond) (ps : List Nat) (hp : ws = ps.filterMap (fun i => big[i]?)) (h : ws.all goodWord = true) : GoodIn big ws := by
  intro w hw
  have h1 := List.all_eq_true.mp h w hw
  rw [hp] at hw
  obtain ⟨i, -, hi⟩ := List.mem_filterMap.mp hw
  have hm : w ∈ big := by first | exact List.mem_of_getElem? hi | exact List.getElem?_mem hi
  exact ⟨hm, good_of_word h1⟩
theorem goodIn_app {big a b : List Cond} (ha : GoodIn big a) (hb : GoodIn big b) : GoodIn big (a ++ b) := fun w h => (List.mem_append.mp h).elim (ha w) (hb w)
theorem goodIn_ca {big a b : List Cond} {c : Cond} (ha : GoodIn big (c :: a)) (hb : GoodIn big b) : GoodIn big (c :: (a ++ b)) := fun w h => (List.mem_cons.mp h).elim (fun e => ha w (List.mem_cons.mpr (Or.inl e))) (fun h => (List.mem_append.mp h).elim (fun h => ha w (List.mem_cons.mpr (Or.inr h))) (hb w))
theorem goodIn_sub {big ws : List Cond} (hm : ∀ w ∈ ws, w ∈ big) (h : ws.all goodWord = true) : GoodIn big ws := fun w hw => ⟨hm w hw, good_of_word (List.all_eq_true.mp h w hw)⟩
def RX0 : String := "LabelsOfLines$Kinds"
def TX0 : u_T := fun k => match k with
  | _ => ("", "", "", false)
def tyX0 : Nat → FieldType := fun k => match k with
  | _ => .int
abbrev wsX00 : List Cond := u_ws RX0 TX0 0
theorem nmX0 : ∀ a, a < 0 → ∀ b, b < 0 → a ≠ b → (TX0 a).2.1 ≠ (TX0 b).2.1 := by decide +kernel
theorem tyX0_ok : ∀ k, k < 0 → parseFieldDescriptor (TX0 k).2.2.1 = some (tyX0 k) := by decide +kernel
abbrev cX0_isUnder : ByteArray := prog_2_method_2_code
def yX0_isUnder : MethodName := ⟨RX0, "isUnder", "(II)Z"⟩
abbrev cX0_forth : ByteArray := prog_2_method_3_code
def yX0_forth : MethodName := ⟨RX0, "forth", "(II)I"⟩
abbrev cX0_back : ByteArray := prog_2_method_4_code
def yX0_back : MethodName := ⟨RX0, "back", "(II)I"⟩
def RX1 : String := "LabelsOfLines$Letters"
def TX1 : u_T := fun k => match k with
  | 0 => ("LabelsOfLines$Letters", "signs", "[I", true)
  | 1 => ("LabelsOfLines$Letters", "trial", "LLabelsOfLines$Net;", true)
  | _ => ("LabelsOfLines$Letters", "count", "I", false)
def tyX1 : Nat → FieldType := fun k => match k with
  | 0 => .array .int
  | 1 => .object "LabelsOfLines$Net"
  | _ => .int
abbrev wsX10 : List Cond := u_ws RX1 TX1 3
theorem nmX1 : ∀ a, a < 3 → ∀ b, b < 3 → a ≠ b → (TX1 a).2.1 ≠ (TX1 b).2.1 := by decide +kernel
theorem tyX1_ok : ∀ k, k < 3 → parseFieldDescriptor (TX1 k).2.2.1 = some (tyX1 k) := by decide +kernel
abbrev cX1_init : ByteArray := prog_3_method_1_code
def yX1_init : MethodName := ⟨RX1, "<init>", "()V"⟩
abbrev cX1_add : ByteArray := prog_3_method_2_code
def yX1_add : MethodName := ⟨RX1, "add", "(I)V"⟩
abbrev cX1_tell : ByteArray := prog_3_method_3_code
def yX1_tell : MethodName := ⟨RX1, "tell", "(LLabelsOfLines$Net;)I"⟩
abbrev cX1_misspelt : ByteArray := prog_3_method_4_code
def yX1_misspelt : MethodName := ⟨RX1, "misspelt", "()I"⟩
abbrev cX1_digitsBehind : ByteArray := prog_3_method_5_code
def yX1_digitsBehind : MethodName := ⟨RX1, "digitsBehind", "(I)I"⟩
abbrev cX1_digit : ByteArray := prog_3_method_6_code
def yX1_digit : MethodName := ⟨RX1, "digit", "(I)I"⟩
abbrev cX1_comes : ByteArray := prog_3_method_7_code
def yX1_comes : MethodName := ⟨RX1, "comes", "(I)Z"⟩
abbrev cX1_comesPoints : ByteArray := prog_3_method_8_code
def yX1_comesPoints : MethodName := ⟨RX1, "comesPoints", "(I)Z"⟩
abbrev cX1_comesLine : ByteArray := prog_3_method_9_code
def yX1_comesLine : MethodName := ⟨RX1, "comesLine", "(III)Z"⟩
abbrev cX1_comesFigure : ByteArray := prog_3_method_10_code
def yX1_comesFigure : MethodName := ⟨RX1, "comesFigure", "(II)Z"⟩
abbrev cX1_comesLabel : ByteArray := prog_3_method_11_code
def yX1_comesLabel : MethodName := ⟨RX1, "comesLabel", "(II)Z"⟩
def RX2 : String := "LabelsOfLines$Lists"
def TX2 : u_T := fun k => match k with
  | 0 => ("LabelsOfLines$Lists", "rows", "[[I", true)
  | _ => ("LabelsOfLines$Lists", "sizes", "[I", true)
def tyX2 : Nat → FieldType := fun k => match k with
  | 0 => .array (.array .int)
  | _ => .array .int
abbrev wsX20 : List Cond := u_ws RX2 TX2 2
theorem nmX2 : ∀ a, a < 2 → ∀ b, b < 2 → a ≠ b → (TX2 a).2.1 ≠ (TX2 b).2.1 := by decide +kernel
theorem tyX2_ok : ∀ k, k < 2 → parseFieldDescriptor (TX2 k).2.2.1 = some (tyX2 k) := by decide +kernel
abbrev cX2_init : ByteArray := prog_4_method_1_code
def yX2_init : MethodName := ⟨RX2, "<init>", "()V"⟩
abbrev cX2_isMissing : ByteArray := prog_4_method_2_code
def yX2_isMissing : MethodName := ⟨RX2, "isMissing", "(I)Z"⟩
abbrev cX2_renew : ByteArray := prog_4_method_3_code
def yX2_renew : MethodName := ⟨RX2, "renew", "(II)V"⟩
abbrev cX2_allWithin : ByteArray := prog_4_method_4_code
def yX2_allWithin : MethodName := ⟨RX2, "allWithin", "(III)Z"⟩
def RX3 : String := "LabelsOfLines$Net"
def TX3 : u_T := fun k => match k with
  | 0 => ("LabelsOfLines$Net", "pointCount", "I", false)
  | 1 => ("LabelsOfLines$Net", "lineCount", "I", false)
  | 2 => ("LabelsOfLines$Net", "kinds", "[I", true)
  | 3 => ("LabelsOfLines$Net", "figures", "[I", true)
  | 4 => ("LabelsOfLines$Net", "firsts", "[I", true)
  | 5 => ("LabelsOfLines$Net", "seconds", "[I", true)
  | _ => ("LabelsOfLines$Net", "labels", "[I", true)
def tyX3 : Nat → FieldType := fun k => match k with
  | 0 => .int
  | 1 => .int
  | 2 => .array .int
  | 3 => .array .int
  | 4 => .array .int
  | 5 => .array .int
  | _ => .array .int
abbrev wsX30 : List Cond := u_ws RX3 TX3 7
theorem nmX3 : ∀ a, a < 7 → ∀ b, b < 7 → a ≠ b → (TX3 a).2.1 ≠ (TX3 b).2.1 := by decide +kernel
theorem tyX3_ok : ∀ k, k < 7 → parseFieldDescriptor (TX3 k).2.2.1 = some (tyX3 k) := by decide +kernel
abbrev cX3_init : ByteArray := prog_5_method_1_code
def yX3_init : MethodName := ⟨RX3, "<init>", "()V"⟩
abbrev cX3_hasPoint : ByteArray := prog_5_method_2_code
def yX3_hasPoint : MethodName := ⟨RX3, "hasPoint", "(I)Z"⟩
abbrev cX3_hasLine : ByteArray := prog_5_method_3_code
def yX3_hasLine : MethodName := ⟨RX3, "hasLine", "(I)Z"⟩
abbrev cX3_restart : ByteArray := prog_5_method_4_code
def yX3_restart : MethodName := ⟨RX3, "restart", "(I)V"⟩
abbrev cX3_add : ByteArray := prog_5_method_5_code
def yX3_add : MethodName := ⟨RX3, "add", "(III)V"⟩
abbrev cX3_copyFrom : ByteArray := prog_5_method_6_code
def yX3_copyFrom : MethodName := ⟨RX3, "copyFrom", "(LLabelsOfLines$Net;)V"⟩
abbrev cX3_forth : ByteArray := prog_5_method_7_code
def yX3_forth : MethodName := ⟨RX3, "forth", "(I)I"⟩
abbrev cX3_back : ByteArray := prog_5_method_8_code
def yX3_back : MethodName := ⟨RX3, "back", "(I)I"⟩
abbrev cX3_weight : ByteArray := prog_5_method_9_code
def yX3_weight : MethodName := ⟨RX3, "weight", "(II)I"⟩
abbrev cX3_sumAt : ByteArray := prog_5_method_10_code
def yX3_sumAt : MethodName := ⟨RX3, "sumAt", "(I)I"⟩
abbrev cX3_fillSums : ByteArray := prog_5_method_11_code
def yX3_fillSums : MethodName := ⟨RX3, "fillSums", "([I)V"⟩
def RX4 : String := "LabelsOfLines$Past"
def TX4 : u_T := fun k => match k with
  | 0 => ("LabelsOfLines$Past", "kinds", "[[I", true)
  | 1 => ("LabelsOfLines$Past", "figures", "[[I", true)
  | 2 => ("LabelsOfLines$Past", "labels", "[[I", true)
  | 3 => ("LabelsOfLines$Past", "next", "I", false)
  | _ => ("LabelsOfLines$Past", "count", "I", false)
def tyX4 : Nat → FieldType := fun k => match k with
  | 0 => .array (.array .int)
  | 1 => .array (.array .int)
  | 2 => .array (.array .int)
  | 3 => .int
  | _ => .int
abbrev wsX40 : List Cond := u_ws RX4 TX4 5
theorem nmX4 : ∀ a, a < 5 → ∀ b, b < 5 → a ≠ b → (TX4 a).2.1 ≠ (TX4 b).2.1 := by decide +kernel
theorem tyX4_ok : ∀ k, k < 5 → parseFieldDescriptor (TX4 k).2.2.1 = some (tyX4 k) := by decide +kernel
abbrev cX4_init : ByteArray := prog_6_method_1_code
def yX4_init : MethodName := ⟨RX4, "<init>", "()V"⟩
abbrev cX4_keep : ByteArray := prog_6_method_2_code
def yX4_keep : MethodName := ⟨RX4, "keep", "(LLabelsOfLines$Net;)V"⟩
abbrev cX4_restore : ByteArray := prog_6_method_3_code
def yX4_restore : MethodName := ⟨RX4, "restore", "(LLabelsOfLines$Net;)V"⟩
abbrev cX4_forget : ByteArray := prog_6_method_4_code
def yX4_forget : MethodName := ⟨RX4, "forget", "()V"⟩
def RX5 : String := "LabelsOfLines$Rules"
def TX5 : u_T := fun k => match k with
  | _ => ("", "", "", false)
def tyX5 : Nat → FieldType := fun k => match k with
  | _ => .int
abbrev wsX50 : List Cond := u_ws RX5 TX5 0
theorem nmX5 : ∀ a, a < 0 → ∀ b, b < 0 → a ≠ b → (TX5 a).2.1 ≠ (TX5 b).2.1 := by decide +kernel
theorem tyX5_ok : ∀ k, k < 0 → parseFieldDescriptor (TX5 k).2.2.1 = some (tyX5 k) := by decide +kernel
abbrev cX5_holds : ByteArray := prog_7_method_2_code
def yX5_holds : MethodName := ⟨RX5, "holds", "(I[II)Z"⟩
abbrev cX5_allLike : ByteArray := prog_7_method_3_code
def yX5_allLike : MethodName := ⟨RX5, "allLike", "([II)Z"⟩
abbrev cX5_allUnlike : ByteArray := prog_7_method_4_code
def yX5_allUnlike : MethodName := ⟨RX5, "allUnlike", "([II)Z"⟩
abbrev cX5_allRising : ByteArray := prog_7_method_5_code
def yX5_allRising : MethodName := ⟨RX5, "allRising", "([II)Z"⟩
abbrev cX5_allEven : ByteArray := prog_7_method_6_code
def yX5_allEven : MethodName := ⟨RX5, "allEven", "([II)Z"⟩
abbrev cX5_noneAbove : ByteArray := prog_7_method_7_code
def yX5_noneAbove : MethodName := ⟨RX5, "noneAbove", "(I[II)Z"⟩
abbrev cX5_together : ByteArray := prog_7_method_8_code
def yX5_together : MethodName := ⟨RX5, "together", "([II)I"⟩
abbrev cX5_aheadOf : ByteArray := prog_7_method_9_code
def yX5_aheadOf : MethodName := ⟨RX5, "aheadOf", "(I[II)I"⟩
abbrev cX5_spreadOf : ByteArray := prog_7_method_10_code
def yX5_spreadOf : MethodName := ⟨RX5, "spreadOf", "([II)I"⟩
def RX6 : String := "LabelsOfLines$Shape"
def TX6 : u_T := fun k => match k with
  | 0 => ("LabelsOfLines$Shape", "net", "LLabelsOfLines$Net;", true)
  | _ => ("LabelsOfLines$Shape", "rows", "[[J", true)
def tyX6 : Nat → FieldType := fun k => match k with
  | 0 => .object "LabelsOfLines$Net"
  | _ => .array (.array .long)
abbrev wsX60 : List Cond := u_ws RX6 TX6 2
theorem nmX6 : ∀ a, a < 2 → ∀ b, b < 2 → a ≠ b → (TX6 a).2.1 ≠ (TX6 b).2.1 := by decide +kernel
theorem tyX6_ok : ∀ k, k < 2 → parseFieldDescriptor (TX6 k).2.2.1 = some (tyX6 k) := by decide +kernel
abbrev cX6_init : ByteArray := prog_8_method_1_code
def yX6_init : MethodName := ⟨RX6, "<init>", "(LLabelsOfLines$Net;)V"⟩
abbrev cX6_rankOfTable : ByteArray := prog_8_method_2_code
def yX6_rankOfTable : MethodName := ⟨RX6, "rankOfTable", "()I"⟩
abbrev cX6_bringUp : ByteArray := prog_8_method_3_code
def yX6_bringUp : MethodName := ⟨RX6, "bringUp", "(II)Z"⟩
abbrev cX6_exchangeRows : ByteArray := prog_8_method_4_code
def yX6_exchangeRows : MethodName := ⟨RX6, "exchangeRows", "(II)V"⟩
abbrev cX6_clearBelow : ByteArray := prog_8_method_5_code
def yX6_clearBelow : MethodName := ⟨RX6, "clearBelow", "(II)V"⟩
abbrev cX6_reached : ByteArray := prog_8_method_6_code
def yX6_reached : MethodName := ⟨RX6, "reached", "(I)I"⟩
abbrev cX6_across : ByteArray := prog_8_method_7_code
def yX6_across : MethodName := ⟨RX6, "across", "(III)I"⟩
abbrev cX6_partOf : ByteArray := prog_8_method_8_code
def yX6_partOf : MethodName := ⟨RX6, "partOf", "(I)I"⟩
abbrev cX6_partCount : ByteArray := prog_8_method_9_code
def yX6_partCount : MethodName := ⟨RX6, "partCount", "()I"⟩
abbrev cX6_leastOf : ByteArray := prog_8_method_10_code
def yX6_leastOf : MethodName := ⟨RX6, "leastOf", "(I)I"⟩
abbrev cX6_hasSides : ByteArray := prog_8_method_11_code
def yX6_hasSides : MethodName := ⟨RX6, "hasSides", "()Z"⟩
abbrev cX6_sideOf : ByteArray := prog_8_method_12_code
def yX6_sideOf : MethodName := ⟨RX6, "sideOf", "(I)I"⟩
abbrev cX6_isOddFrom : ByteArray := prog_8_method_13_code
def yX6_isOddFrom : MethodName := ⟨RX6, "isOddFrom", "(II)Z"⟩
def RX7 : String := "LabelsOfLines$Thought"
def TX7 : u_T := fun k => match k with
  | 0 => ("LabelsOfLines$Thought", "net", "LLabelsOfLines$Net;", true)
  | 1 => ("LabelsOfLines$Thought", "labels", "[I", true)
  | 2 => ("LabelsOfLines$Thought", "sums", "[I", true)
  | 3 => ("LabelsOfLines$Thought", "forths", "[I", true)
  | 4 => ("LabelsOfLines$Thought", "backs", "[I", true)
  | 5 => ("LabelsOfLines$Thought", "lastLines", "[I", true)
  | 6 => ("LabelsOfLines$Thought", "found", "I", false)
  | _ => ("LabelsOfLines$Thought", "seed", "I", false)
def tyX7 : Nat → FieldType := fun k => match k with
  | 0 => .object "LabelsOfLines$Net"
  | 1 => .array .int
  | 2 => .array .int
  | 3 => .array .int
  | 4 => .array .int
  | 5 => .array .int
  | 6 => .int
  | _ => .int
abbrev wsX70 : List Cond := u_ws RX7 TX7 8
theorem nmX7 : ∀ a, a < 8 → ∀ b, b < 8 → a ≠ b → (TX7 a).2.1 ≠ (TX7 b).2.1 := by decide +kernel
theorem tyX7_ok : ∀ k, k < 8 → parseFieldDescriptor (TX7 k).2.2.1 = some (tyX7 k) := by decide +kernel
abbrev cX7_init : ByteArray := prog_9_method_1_code
def yX7_init : MethodName := ⟨RX7, "<init>", "(LLabelsOfLines$Net;)V"⟩
abbrev cX7_begin : ByteArray := prog_9_method_2_code
def yX7_begin : MethodName := ⟨RX7, "begin", "()V"⟩
abbrev cX7_relabel : ByteArray := prog_9_method_3_code
def yX7_relabel : MethodName := ⟨RX7, "relabel", "(II)V"⟩
abbrev cX7_findWays : ByteArray := prog_9_method_4_code
def yX7_findWays : MethodName := ⟨RX7, "findWays", "(III)I"⟩
abbrev cX7_nextLabels : ByteArray := prog_9_method_5_code
def yX7_nextLabels : MethodName := ⟨RX7, "nextLabels", "(I)V"⟩
abbrev cX7_findMagic : ByteArray := prog_9_method_6_code
def yX7_findMagic : MethodName := ⟨RX7, "findMagic", "(II)I"⟩
abbrev cX7_allPointsCount : ByteArray := prog_9_method_7_code
def yX7_allPointsCount : MethodName := ⟨RX7, "allPointsCount", "()Z"⟩
abbrev cX7_seekMagic : ByteArray := prog_9_method_8_code
def yX7_seekMagic : MethodName := ⟨RX7, "seekMagic", "(LLabelsOfLines$Thought;III)Z"⟩
abbrev cX7_isAbove : ByteArray := prog_9_method_9_code
def yX7_isAbove : MethodName := ⟨RX7, "isAbove", "(II)Z"⟩
abbrev cX7_leavesNoLess : ByteArray := prog_9_method_10_code
def yX7_leavesNoLess : MethodName := ⟨RX7, "leavesNoLess", "(II)Z"⟩
abbrev cX7_findOrders : ByteArray := prog_9_method_11_code
def yX7_findOrders : MethodName := ⟨RX7, "findOrders", "(I)I"⟩
abbrev cX7_leastSpread : ByteArray := prog_9_method_12_code
def yX7_leastSpread : MethodName := ⟨RX7, "leastSpread", "()I"⟩
abbrev cX7_beginOrders : ByteArray := prog_9_method_13_code
def yX7_beginOrders : MethodName := ⟨RX7, "beginOrders", "()V"⟩
abbrev cX7_nextOrder : ByteArray := prog_9_method_14_code
def yX7_nextOrder : MethodName := ⟨RX7, "nextOrder", "()V"⟩
abbrev cX7_exchange : ByteArray := prog_9_method_15_code
def yX7_exchange : MethodName := ⟨RX7, "exchange", "(II)V"⟩
abbrev cX7_lotsThatKeep : ByteArray := prog_9_method_16_code
def yX7_lotsThatKeep : MethodName := ⟨RX7, "lotsThatKeep", "(III)I"⟩
abbrev cX7_lotsTogether : ByteArray := prog_9_method_17_code
def yX7_lotsTogether : MethodName := ⟨RX7, "lotsTogether", "(II)I"⟩
abbrev cX7_drawLabels : ByteArray := prog_9_method_18_code
def yX7_drawLabels : MethodName := ⟨RX7, "drawLabels", "()V"⟩
abbrev cX7_power : ByteArray := prog_9_method_19_code
def yX7_power : MethodName := ⟨RX7, "power", "(II)I"⟩
abbrev cX7_ordersOf : ByteArray := prog_9_method_20_code
def yX7_ordersOf : MethodName := ⟨RX7, "ordersOf", "(I)I"⟩
def RX8 : String := "LabelsOfLines$Writing"
def TX8 : u_T := fun k => match k with
  | 0 => ("LabelsOfLines$Writing", "signs", "[I", true)
  | _ => ("LabelsOfLines$Writing", "count", "I", false)
def tyX8 : Nat → FieldType := fun k => match k with
  | 0 => .array .int
  | _ => .int
abbrev wsX80 : List Cond := u_ws RX8 TX8 2
theorem nmX8 : ∀ a, a < 2 → ∀ b, b < 2 → a ≠ b → (TX8 a).2.1 ≠ (TX8 b).2.1 := by decide +kernel
theorem tyX8_ok : ∀ k, k < 2 → parseFieldDescriptor (TX8 k).2.2.1 = some (tyX8 k) := by decide +kernel
abbrev cX8_init : ByteArray := prog_10_method_1_code
def yX8_init : MethodName := ⟨RX8, "<init>", "()V"⟩
abbrev cX8_write : ByteArray := prog_10_method_2_code
def yX8_write : MethodName := ⟨RX8, "write", "(LLabelsOfLines$Net;)V"⟩
abbrev cX8_writeLine : ByteArray := prog_10_method_3_code
def yX8_writeLine : MethodName := ⟨RX8, "writeLine", "(LLabelsOfLines$Net;I)V"⟩
abbrev cX8_addDigit : ByteArray := prog_10_method_4_code
def yX8_addDigit : MethodName := ⟨RX8, "addDigit", "(I)V"⟩
abbrev cX8_add : ByteArray := prog_10_method_5_code
def yX8_add : MethodName := ⟨RX8, "add", "(I)V"⟩
def RX9 : String := "LabelsOfLines"
def TX9 : u_T := fun k => match k with
  | 0 => ("LabelsOfLines", "net", "LLabelsOfLines$Net;", true)
  | 1 => ("LabelsOfLines", "image", "LLabelsOfLines$Net;", true)
  | 2 => ("LabelsOfLines", "imageTaken", "Z", false)
  | 3 => ("LabelsOfLines", "past", "LLabelsOfLines$Past;", true)
  | 4 => ("LabelsOfLines", "thought", "LLabelsOfLines$Thought;", true)
  | 5 => ("LabelsOfLines", "shape", "LLabelsOfLines$Shape;", true)
  | 6 => ("LabelsOfLines", "letters", "LLabelsOfLines$Letters;", true)
  | 7 => ("LabelsOfLines", "writing", "LLabelsOfLines$Writing;", true)
  | 8 => ("LabelsOfLines", "lists", "LLabelsOfLines$Lists;", true)
  | 9 => ("LabelsOfLines", "refusals", "[I", true)
  | 10 => ("LabelsOfLines", "sums", "[I", true)
  | _ => ("LabelsOfLines", "magicRow", "[I", true)
def tyX9 : Nat → FieldType := fun k => match k with
  | 0 => .object "LabelsOfLines$Net"
  | 1 => .object "LabelsOfLines$Net"
  | 2 => .boolean
  | 3 => .object "LabelsOfLines$Past"
  | 4 => .object "LabelsOfLines$Thought"
  | 5 => .object "LabelsOfLines$Shape"
  | 6 => .object "LabelsOfLines$Letters"
  | 7 => .object "LabelsOfLines$Writing"
  | 8 => .object "LabelsOfLines$Lists"
  | 9 => .array .int
  | 10 => .array .int
  | _ => .array .int
abbrev wsX90 : List Cond := u_ws RX9 TX9 12
theorem nmX9 : ∀ a, a < 12 → ∀ b, b < 12 → a ≠ b → (TX9 a).2.1 ≠ (TX9 b).2.1 := by decide +kernel
theorem tyX9_ok : ∀ k, k < 12 → parseFieldDescriptor (TX9 k).2.2.1 = some (tyX9 k) := by decide +kernel
abbrev cX9_init : ByteArray := prog_1_method_1_code
def yX9_init : MethodName := ⟨RX9, "<init>", "()V"⟩
abbrev cX9_letter : ByteArray := prog_1_method_2_code
def yX9_letter : MethodName := ⟨RX9, "letter", "(I)I"⟩
abbrev cX9_text : ByteArray := prog_1_method_3_code
def yX9_text : MethodName := ⟨RX9, "text", "()I"⟩
abbrev cX9_points : ByteArray := prog_1_method_4_code
def yX9_points : MethodName := ⟨RX9, "points", "(I)I"⟩
abbrev cX9_line : ByteArray := prog_1_method_5_code
def yX9_line : MethodName := ⟨RX9, "line", "(III)I"⟩
abbrev cX9_drop : ByteArray := prog_1_method_6_code
def yX9_drop : MethodName := ⟨RX9, "drop", "()I"⟩
abbrev cX9_label : ByteArray := prog_1_method_7_code
def yX9_label : MethodName := ⟨RX9, "label", "(II)I"⟩
abbrev cX9_turn : ByteArray := prog_1_method_8_code
def yX9_turn : MethodName := ⟨RX9, "turn", "(III)I"⟩
abbrev cX9_of : ByteArray := prog_1_method_9_code
def yX9_of : MethodName := ⟨RX9, "of", "(II)I"⟩
abbrev cX9_taken : ByteArray := prog_1_method_10_code
def yX9_taken : MethodName := ⟨RX9, "taken", "(II)I"⟩
abbrev cX9_table : ByteArray := prog_1_method_11_code
def yX9_table : MethodName := ⟨RX9, "table", "(II)I"⟩
abbrev cX9_sum : ByteArray := prog_1_method_12_code
def yX9_sum : MethodName := ⟨RX9, "sum", "(I)I"⟩
abbrev cX9_total : ByteArray := prog_1_method_13_code
def yX9_total : MethodName := ⟨RX9, "total", "()I"⟩
abbrev cX9_rule : ByteArray := prog_1_method_14_code
def yX9_rule : MethodName := ⟨RX9, "rule", "(I)I"⟩
abbrev cX9_ranked : ByteArray := prog_1_method_15_code
def yX9_ranked : MethodName := ⟨RX9, "ranked", "(I)I"⟩
abbrev cX9_ways : ByteArray := prog_1_method_16_code
def yX9_ways : MethodName := ⟨RX9, "ways", "(IIII)I"⟩
abbrev cX9_magic : ByteArray := prog_1_method_17_code
def yX9_magic : MethodName := ⟨RX9, "magic", "(III)I"⟩
abbrev cX9_difference : ByteArray := prog_1_method_18_code
def yX9_difference : MethodName := ⟨RX9, "difference", "(II)I"⟩
abbrev cX9_settled : ByteArray := prog_1_method_19_code
def yX9_settled : MethodName := ⟨RX9, "settled", "()I"⟩
abbrev cX9_orders : ByteArray := prog_1_method_20_code
def yX9_orders : MethodName := ⟨RX9, "orders", "(II)I"⟩
abbrev cX9_spread : ByteArray := prog_1_method_21_code
def yX9_spread : MethodName := ⟨RX9, "spread", "()I"⟩
abbrev cX9_odds : ByteArray := prog_1_method_22_code
def yX9_odds : MethodName := ⟨RX9, "odds", "(III)J"⟩
abbrev cX9_lots : ByteArray := prog_1_method_23_code
def yX9_lots : MethodName := ⟨RX9, "lots", "(IIII)I"⟩
abbrev cX9_rank : ByteArray := prog_1_method_24_code
def yX9_rank : MethodName := ⟨RX9, "rank", "(I)I"⟩
abbrev cX9_parts : ByteArray := prog_1_method_25_code
def yX9_parts : MethodName := ⟨RX9, "parts", "(I)I"⟩
abbrev cX9_sides : ByteArray := prog_1_method_26_code
def yX9_sides : MethodName := ⟨RX9, "sides", "(I)I"⟩
abbrev cX9_written : ByteArray := prog_1_method_27_code
def yX9_written : MethodName := ⟨RX9, "written", "(I)I"⟩
abbrev cX9_list : ByteArray := prog_1_method_28_code
def yX9_list : MethodName := ⟨RX9, "list", "(II)I"⟩
abbrev cX9_put : ByteArray := prog_1_method_29_code
def yX9_put : MethodName := ⟨RX9, "put", "(III)I"⟩
abbrev cX9_look : ByteArray := prog_1_method_30_code
def yX9_look : MethodName := ⟨RX9, "look", "(II)J"⟩
abbrev cX9_lays : ByteArray := prog_1_method_31_code
def yX9_lays : MethodName := ⟨RX9, "lays", "(II)I"⟩
abbrev cX9_judge : ByteArray := prog_1_method_32_code
def yX9_judge : MethodName := ⟨RX9, "judge", "(I)I"⟩
abbrev cX9_gives : ByteArray := prog_1_method_33_code
def yX9_gives : MethodName := ⟨RX9, "gives", "(I)I"⟩
abbrev cX9_rules : ByteArray := prog_1_method_34_code
def yX9_rules : MethodName := ⟨RX9, "rules", "(I)I"⟩
abbrev cX9_undo : ByteArray := prog_1_method_35_code
def yX9_undo : MethodName := ⟨RX9, "undo", "()I"⟩
abbrev cX9_image : ByteArray := prog_1_method_36_code
def yX9_image : MethodName := ⟨RX9, "image", "()I"⟩
abbrev cX9_on : ByteArray := prog_1_method_37_code
def yX9_on : MethodName := ⟨RX9, "on", "()I"⟩
abbrev cX9_count : ByteArray := prog_1_method_38_code
def yX9_count : MethodName := ⟨RX9, "count", "(I)I"⟩
abbrev cX9_refused : ByteArray := prog_1_method_39_code
def yX9_refused : MethodName := ⟨RX9, "refused", "(I)I"⟩
abbrev cX9_refusalOfList : ByteArray := prog_1_method_40_code
def yX9_refusalOfList : MethodName := ⟨RX9, "refusalOfList", "(I)I"⟩
abbrev cX9_refusalOfPlace : ByteArray := prog_1_method_41_code
def yX9_refusalOfPlace : MethodName := ⟨RX9, "refusalOfPlace", "(II)I"⟩
abbrev cX9_found : ByteArray := prog_1_method_42_code
def yX9_found : MethodName := ⟨RX9, "found", "(III)I"⟩
abbrev cX9_fillMagicRow : ByteArray := prog_1_method_43_code
def yX9_fillMagicRow : MethodName := ⟨RX9, "fillMagicRow", "(II)V"⟩
abbrev cX9_becomeDifferences : ByteArray := prog_1_method_44_code
def yX9_becomeDifferences : MethodName := ⟨RX9, "becomeDifferences", "(II)V"⟩
abbrev cX9_isKind : ByteArray := prog_1_method_45_code
def yX9_isKind : MethodName := ⟨RX9, "isKind", "(I)Z"⟩
abbrev cX9_isRule : ByteArray := prog_1_method_46_code
def yX9_isRule : MethodName := ⟨RX9, "isRule", "(I)Z"⟩
abbrev cX9_isList : ByteArray := prog_1_method_47_code
def yX9_isList : MethodName := ⟨RX9, "isList", "(I)Z"⟩
abbrev cX9_commonDivisor : ByteArray := prog_1_method_48_code
def yX9_commonDivisor : MethodName := ⟨RX9, "commonDivisor", "(II)I"⟩
def RX10 : String := "LabelsOfLinesModel"
def TX10 : u_T := fun k => match k with
  | 0 => ("LabelsOfLinesModel", "points", "I", false)
  | 1 => ("LabelsOfLinesModel", "lines", "I", false)
  | 2 => ("LabelsOfLinesModel", "kind", "[I", true)
  | 3 => ("LabelsOfLinesModel", "figure", "[I", true)
  | 4 => ("LabelsOfLinesModel", "one", "[I", true)
  | 5 => ("LabelsOfLinesModel", "other", "[I", true)
  | 6 => ("LabelsOfLinesModel", "label", "[I", true)
  | 7 => ("LabelsOfLinesModel", "undone", "I", false)
  | 8 => ("LabelsOfLinesModel", "wasKind", "[I", true)
  | 9 => ("LabelsOfLinesModel", "wasFigure", "[I", true)
  | 10 => ("LabelsOfLinesModel", "wasLabel", "[I", true)
  | 11 => ("LabelsOfLinesModel", "letter", "[I", true)
  | 12 => ("LabelsOfLinesModel", "letters", "I", false)
  | 13 => ("LabelsOfLinesModel", "list", "[I", true)
  | 14 => ("LabelsOfLinesModel", "cell", "[I", true)
  | 15 => ("LabelsOfLinesModel", "refusals", "[I", true)
  | 16 => ("LabelsOfLinesModel", "tried", "[I", true)
  | 17 => ("LabelsOfLinesModel", "sums", "[I", true)
  | 18 => ("LabelsOfLinesModel", "weights", "[I", true)
  | 19 => ("LabelsOfLinesModel", "magicRow", "[I", true)
  | 20 => ("LabelsOfLinesModel", "narrowest", "I", false)
  | 21 => ("LabelsOfLinesModel", "steps", "[J", true)
  | 22 => ("LabelsOfLinesModel", "sideBits", "I", false)
  | 23 => ("LabelsOfLinesModel", "paper", "[I", true)
  | 24 => ("LabelsOfLinesModel", "papers", "I", false)
  | 25 => ("LabelsOfLinesModel", "told", "[I", true)
  | 26 => ("LabelsOfLinesModel", "hasImage", "Z", false)
  | 27 => ("LabelsOfLinesModel", "imaged", "[I", true)
  | _ => ("LabelsOfLinesModel", "kept", "[I", true)
def tyX10 : Nat → FieldType := fun k => match k with
  | 0 => .int
  | 1 => .int
  | 2 => .array .int
  | 3 => .array .int
  | 4 => .array .int
  | 5 => .array .int
  | 6 => .array .int
  | 7 => .int
  | 8 => .array .int
  | 9 => .array .int
  | 10 => .array .int
  | 11 => .array .int
  | 12 => .int
  | 13 => .array .int
  | 14 => .array .int
  | 15 => .array .int
  | 16 => .array .int
  | 17 => .array .int
  | 18 => .array .int
  | 19 => .array .int
  | 20 => .int
  | 21 => .array .long
  | 22 => .int
  | 23 => .array .int
  | 24 => .int
  | 25 => .array .int
  | 26 => .boolean
  | 27 => .array .int
  | _ => .array .int
abbrev wsX100 : List Cond := u_ws RX10 TX10 29
theorem nmX10 : ∀ a, a < 29 → ∀ b, b < 29 → a ≠ b → (TX10 a).2.1 ≠ (TX10 b).2.1 := by decide +kernel
theorem tyX10_ok : ∀ k, k < 29 → parseFieldDescriptor (TX10 k).2.2.1 = some (tyX10 k) := by decide +kernel
abbrev cX10_init : ByteArray := prog_12_method_1_code
def yX10_init : MethodName := ⟨RX10, "<init>", "()V"⟩
abbrev cX10_in : ByteArray := prog_12_method_2_code
def yX10_in : MethodName := ⟨RX10, "in", "(III)Z"⟩
abbrev cX10_isPoint : ByteArray := prog_12_method_3_code
def yX10_isPoint : MethodName := ⟨RX10, "isPoint", "(I)Z"⟩
abbrev cX10_isLine : ByteArray := prog_12_method_4_code
def yX10_isLine : MethodName := ⟨RX10, "isLine", "(I)Z"⟩
abbrev cX10_refused : ByteArray := prog_12_method_5_code
def yX10_refused : MethodName := ⟨RX10, "refused", "(I)I"⟩
abbrev cX10_farther : ByteArray := prog_12_method_6_code
def yX10_farther : MethodName := ⟨RX10, "farther", "(I)J"⟩
abbrev cX10_letter : ByteArray := prog_12_method_7_code
def yX10_letter : MethodName := ⟨RX10, "letter", "(I)I"⟩
abbrev cX10_figuresOf : ByteArray := prog_12_method_8_code
def yX10_figuresOf : MethodName := ⟨RX10, "figuresOf", "(I)I"⟩
abbrev cX10_digitAt : ByteArray := prog_12_method_9_code
def yX10_digitAt : MethodName := ⟨RX10, "digitAt", "(I)I"⟩
abbrev cX10_formFault : ByteArray := prog_12_method_10_code
def yX10_formFault : MethodName := ⟨RX10, "formFault", "()I"⟩
abbrev cX10_isDone : ByteArray := prog_12_method_11_code
def yX10_isDone : MethodName := ⟨RX10, "isDone", "(I)Z"⟩
abbrev cX10_text : ByteArray := prog_12_method_12_code
def yX10_text : MethodName := ⟨RX10, "text", "()I"⟩
abbrev cX10_comes : ByteArray := prog_12_method_13_code
def yX10_comes : MethodName := ⟨RX10, "comes", "(III)V"⟩
abbrev cX10_points : ByteArray := prog_12_method_14_code
def yX10_points : MethodName := ⟨RX10, "points", "(I)I"⟩
abbrev cX10_line : ByteArray := prog_12_method_15_code
def yX10_line : MethodName := ⟨RX10, "line", "(III)I"⟩
abbrev cX10_drop : ByteArray := prog_12_method_16_code
def yX10_drop : MethodName := ⟨RX10, "drop", "()I"⟩
abbrev cX10_canBeUndone : ByteArray := prog_12_method_17_code
def yX10_canBeUndone : MethodName := ⟨RX10, "canBeUndone", "()V"⟩
abbrev cX10_label : ByteArray := prog_12_method_18_code
def yX10_label : MethodName := ⟨RX10, "label", "(II)I"⟩
abbrev cX10_turn : ByteArray := prog_12_method_19_code
def yX10_turn : MethodName := ⟨RX10, "turn", "(III)I"⟩
abbrev cX10_forth : ByteArray := prog_12_method_20_code
def yX10_forth : MethodName := ⟨RX10, "forth", "(I)I"⟩
abbrev cX10_back : ByteArray := prog_12_method_21_code
def yX10_back : MethodName := ⟨RX10, "back", "(I)I"⟩
abbrev cX10_of : ByteArray := prog_12_method_22_code
def yX10_of : MethodName := ⟨RX10, "of", "(II)I"⟩
abbrev cX10_taken : ByteArray := prog_12_method_23_code
def yX10_taken : MethodName := ⟨RX10, "taken", "(II)I"⟩
abbrev cX10_weight : ByteArray := prog_12_method_24_code
def yX10_weight : MethodName := ⟨RX10, "weight", "(II)I"⟩
abbrev cX10_table : ByteArray := prog_12_method_25_code
def yX10_table : MethodName := ⟨RX10, "table", "(II)I"⟩
abbrev cX10_layWeights : ByteArray := prog_12_method_26_code
def yX10_layWeights : MethodName := ⟨RX10, "layWeights", "()V"⟩
abbrev cX10_laySums : ByteArray := prog_12_method_27_code
def yX10_laySums : MethodName := ⟨RX10, "laySums", "()V"⟩
abbrev cX10_layNow : ByteArray := prog_12_method_28_code
def yX10_layNow : MethodName := ⟨RX10, "layNow", "()V"⟩
abbrev cX10_often : ByteArray := prog_12_method_29_code
def yX10_often : MethodName := ⟨RX10, "often", "([III)I"⟩
abbrev cX10_isLike : ByteArray := prog_12_method_30_code
def yX10_isLike : MethodName := ⟨RX10, "isLike", "([II)Z"⟩
abbrev cX10_isUnlike : ByteArray := prog_12_method_31_code
def yX10_isUnlike : MethodName := ⟨RX10, "isUnlike", "([II)Z"⟩
abbrev cX10_isSo : ByteArray := prog_12_method_32_code
def yX10_isSo : MethodName := ⟨RX10, "isSo", "(I[II)Z"⟩
abbrev cX10_sum : ByteArray := prog_12_method_33_code
def yX10_sum : MethodName := ⟨RX10, "sum", "(I)I"⟩
abbrev cX10_totalNow : ByteArray := prog_12_method_34_code
def yX10_totalNow : MethodName := ⟨RX10, "totalNow", "()I"⟩
abbrev cX10_total : ByteArray := prog_12_method_35_code
def yX10_total : MethodName := ⟨RX10, "total", "()I"⟩
abbrev cX10_rule : ByteArray := prog_12_method_36_code
def yX10_rule : MethodName := ⟨RX10, "rule", "(I)I"⟩
abbrev cX10_ranked : ByteArray := prog_12_method_37_code
def yX10_ranked : MethodName := ⟨RX10, "ranked", "(I)I"⟩
abbrev cX10_triesNought : ByteArray := prog_12_method_38_code
def yX10_triesNought : MethodName := ⟨RX10, "triesNought", "()V"⟩
abbrev cX10_goesOn : ByteArray := prog_12_method_39_code
def yX10_goesOn : MethodName := ⟨RX10, "goesOn", "(I)Z"⟩
abbrev cX10_waysTo : ByteArray := prog_12_method_40_code
def yX10_waysTo : MethodName := ⟨RX10, "waysTo", "(III)I"⟩
abbrev cX10_ways : ByteArray := prog_12_method_41_code
def yX10_ways : MethodName := ⟨RX10, "ways", "(IIII)I"⟩
abbrev cX10_isAbove : ByteArray := prog_12_method_42_code
def yX10_isAbove : MethodName := ⟨RX10, "isAbove", "(I)Z"⟩
abbrev cX10_isAll : ByteArray := prog_12_method_43_code
def yX10_isAll : MethodName := ⟨RX10, "isAll", "(I)Z"⟩
abbrev cX10_goesPast : ByteArray := prog_12_method_44_code
def yX10_goesPast : MethodName := ⟨RX10, "goesPast", "()Z"⟩
abbrev cX10_goesUp : ByteArray := prog_12_method_45_code
def yX10_goesUp : MethodName := ⟨RX10, "goesUp", "()Z"⟩
abbrev cX10_magicTo : ByteArray := prog_12_method_46_code
def yX10_magicTo : MethodName := ⟨RX10, "magicTo", "(II)I"⟩
abbrev cX10_magic : ByteArray := prog_12_method_47_code
def yX10_magic : MethodName := ⟨RX10, "magic", "(III)I"⟩
abbrev cX10_layMagic : ByteArray := prog_12_method_48_code
def yX10_layMagic : MethodName := ⟨RX10, "layMagic", "()V"⟩
abbrev cX10_differ : ByteArray := prog_12_method_49_code
def yX10_differ : MethodName := ⟨RX10, "differ", "(I)V"⟩
abbrev cX10_difference : ByteArray := prog_12_method_50_code
def yX10_difference : MethodName := ⟨RX10, "difference", "(II)I"⟩
abbrev cX10_settled : ByteArray := prog_12_method_51_code
def yX10_settled : MethodName := ⟨RX10, "settled", "()I"⟩
abbrev cX10_nextOrder : ByteArray := prog_12_method_52_code
def yX10_nextOrder : MethodName := ⟨RX10, "nextOrder", "()Z"⟩
abbrev cX10_ordersTo : ByteArray := prog_12_method_53_code
def yX10_ordersTo : MethodName := ⟨RX10, "ordersTo", "(I)I"⟩
abbrev cX10_orders : ByteArray := prog_12_method_54_code
def yX10_orders : MethodName := ⟨RX10, "orders", "(II)I"⟩
abbrev cX10_spread : ByteArray := prog_12_method_55_code
def yX10_spread : MethodName := ⟨RX10, "spread", "()I"⟩
abbrev cX10_asPart : ByteArray := prog_12_method_56_code
def yX10_asPart : MethodName := ⟨RX10, "asPart", "(JJI)J"⟩
abbrev cX10_odds : ByteArray := prog_12_method_57_code
def yX10_odds : MethodName := ⟨RX10, "odds", "(III)J"⟩
abbrev cX10_lots : ByteArray := prog_12_method_58_code
def yX10_lots : MethodName := ⟨RX10, "lots", "(IIII)I"⟩
abbrev cX10_rankNow : ByteArray := prog_12_method_59_code
def yX10_rankNow : MethodName := ⟨RX10, "rankNow", "()I"⟩
abbrev cX10_rank : ByteArray := prog_12_method_60_code
def yX10_rank : MethodName := ⟨RX10, "rank", "(I)I"⟩
abbrev cX10_partOf : ByteArray := prog_12_method_61_code
def yX10_partOf : MethodName := ⟨RX10, "partOf", "(I)I"⟩
abbrev cX10_parts : ByteArray := prog_12_method_62_code
def yX10_parts : MethodName := ⟨RX10, "parts", "(I)I"⟩
abbrev cX10_haveSides : ByteArray := prog_12_method_63_code
def yX10_haveSides : MethodName := ⟨RX10, "haveSides", "()Z"⟩
abbrev cX10_sides : ByteArray := prog_12_method_64_code
def yX10_sides : MethodName := ⟨RX10, "sides", "(I)I"⟩
abbrev cX10_writes : ByteArray := prog_12_method_65_code
def yX10_writes : MethodName := ⟨RX10, "writes", "(I)V"⟩
abbrev cX10_writesAll : ByteArray := prog_12_method_66_code
def yX10_writesAll : MethodName := ⟨RX10, "writesAll", "()V"⟩
abbrev cX10_written : ByteArray := prog_12_method_67_code
def yX10_written : MethodName := ⟨RX10, "written", "(I)I"⟩
abbrev cX10_isList : ByteArray := prog_12_method_68_code
def yX10_isList : MethodName := ⟨RX10, "isList", "(I)Z"⟩
abbrev cX10_list : ByteArray := prog_12_method_69_code
def yX10_list : MethodName := ⟨RX10, "list", "(II)I"⟩
abbrev cX10_put : ByteArray := prog_12_method_70_code
def yX10_put : MethodName := ⟨RX10, "put", "(III)I"⟩
abbrev cX10_look : ByteArray := prog_12_method_71_code
def yX10_look : MethodName := ⟨RX10, "look", "(II)J"⟩
abbrev cX10_lays : ByteArray := prog_12_method_72_code
def yX10_lays : MethodName := ⟨RX10, "lays", "(II)I"⟩
abbrev cX10_judge : ByteArray := prog_12_method_73_code
def yX10_judge : MethodName := ⟨RX10, "judge", "(I)I"⟩
abbrev cX10_gives : ByteArray := prog_12_method_74_code
def yX10_gives : MethodName := ⟨RX10, "gives", "(I)I"⟩
abbrev cX10_rules : ByteArray := prog_12_method_75_code
def yX10_rules : MethodName := ⟨RX10, "rules", "(I)I"⟩
abbrev cX10_undo : ByteArray := prog_12_method_76_code
def yX10_undo : MethodName := ⟨RX10, "undo", "()I"⟩
abbrev cX10_keeps : ByteArray := prog_12_method_77_code
def yX10_keeps : MethodName := ⟨RX10, "keeps", "([I)V"⟩
abbrev cX10_laysBack : ByteArray := prog_12_method_78_code
def yX10_laysBack : MethodName := ⟨RX10, "laysBack", "([I)V"⟩
abbrev cX10_image : ByteArray := prog_12_method_79_code
def yX10_image : MethodName := ⟨RX10, "image", "()I"⟩
abbrev cX10_on : ByteArray := prog_12_method_80_code
def yX10_on : MethodName := ⟨RX10, "on", "()I"⟩
abbrev cX10_count : ByteArray := prog_12_method_81_code
def yX10_count : MethodName := ⟨RX10, "count", "(I)I"⟩
def RJ9 : String := "java/lang/Math"
def TJ9 : u_T := fun k => match k with
  | _ => ("", "", "", false)
def tyJ9 : Nat → FieldType := fun k => match k with
  | _ => .int
abbrev cJ9_max_7cf53 : ByteArray := prog_13_method_65_code
def yJ9_max_7cf53 : MethodName := ⟨RJ9, "max", "(II)I"⟩
abbrev cJ9_min_7cf53 : ByteArray := prog_13_method_69_code
def yJ9_min_7cf53 : MethodName := ⟨RJ9, "min", "(II)I"⟩
def RJ10 : String := "java/lang/System"
def TJ10 : u_T := fun k => match k with
  | _ => ("", "", "", false)
def tyJ10 : Nat → FieldType := fun k => match k with
  | _ => .int
def RL : String := "LabelsOfLinesLaw"
abbrev cL_law : ByteArray := code
def yL_law : MethodName := ⟨RL, "law", "([I)Z"⟩
