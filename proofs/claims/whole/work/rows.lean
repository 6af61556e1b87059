section
-- ===== PART A: goes FIRST, ahead of the names: the tables' words, and 'selects' of the private methods out of them =====
/-- a private method of a class that the tables say can be made, by its rows of tables_1 -/
def lw_okq (q : MethodName × Nat) : Prop := (q.1.cls ≠ "java/lang/invoke/MethodHandle" ∧ q.1.cls ≠ "java/lang/invoke/VarHandle") ∧ Cond.instantiable q.1.cls q.2 ∈ tables_1 ∧ Cond.privateMethod q.1 ∈ tables_1 ∧ Cond.instanceMethod q.1 ∈ tables_1
theorem lw_p0 : lw_okq (⟨"LabelsOfLines", "refused", "(I)I"⟩, 12) := ⟨⟨by decide +kernel, by decide +kernel⟩, List.mem_of_getElem? (i := 15) (by decide +kernel), List.mem_of_getElem? (i := 244) (by decide +kernel), List.mem_of_getElem? (i := 245) (by decide +kernel)⟩
theorem lw_p1 : lw_okq (⟨"LabelsOfLines$Letters", "misspelt", "()I"⟩, 3) := ⟨⟨by decide +kernel, by decide +kernel⟩, List.mem_of_getElem? (i := 153) (by decide +kernel), List.mem_of_getElem? (i := 260) (by decide +kernel), List.mem_of_getElem? (i := 261) (by decide +kernel)⟩
theorem lw_p2 : lw_okq (⟨"LabelsOfLines$Letters", "comes", "(I)Z"⟩, 3) := ⟨⟨by decide +kernel, by decide +kernel⟩, List.mem_of_getElem? (i := 153) (by decide +kernel), List.mem_of_getElem? (i := 274) (by decide +kernel), List.mem_of_getElem? (i := 275) (by decide +kernel)⟩
theorem lw_p3 : lw_okq (⟨"LabelsOfLines$Letters", "digit", "(I)I"⟩, 3) := ⟨⟨by decide +kernel, by decide +kernel⟩, List.mem_of_getElem? (i := 153) (by decide +kernel), List.mem_of_getElem? (i := 278) (by decide +kernel), List.mem_of_getElem? (i := 279) (by decide +kernel)⟩
theorem lw_p4 : lw_okq (⟨"LabelsOfLines$Letters", "comesPoints", "(I)Z"⟩, 3) := ⟨⟨by decide +kernel, by decide +kernel⟩, List.mem_of_getElem? (i := 153) (by decide +kernel), List.mem_of_getElem? (i := 282) (by decide +kernel), List.mem_of_getElem? (i := 283) (by decide +kernel)⟩
theorem lw_p5 : lw_okq (⟨"LabelsOfLines$Letters", "comesLine", "(III)Z"⟩, 3) := ⟨⟨by decide +kernel, by decide +kernel⟩, List.mem_of_getElem? (i := 153) (by decide +kernel), List.mem_of_getElem? (i := 290) (by decide +kernel), List.mem_of_getElem? (i := 291) (by decide +kernel)⟩
theorem lw_p6 : lw_okq (⟨"LabelsOfLines$Letters", "comesFigure", "(II)Z"⟩, 3) := ⟨⟨by decide +kernel, by decide +kernel⟩, List.mem_of_getElem? (i := 153) (by decide +kernel), List.mem_of_getElem? (i := 305) (by decide +kernel), List.mem_of_getElem? (i := 306) (by decide +kernel)⟩
theorem lw_p7 : lw_okq (⟨"LabelsOfLines$Letters", "comesLabel", "(II)Z"⟩, 3) := ⟨⟨by decide +kernel, by decide +kernel⟩, List.mem_of_getElem? (i := 153) (by decide +kernel), List.mem_of_getElem? (i := 313) (by decide +kernel), List.mem_of_getElem? (i := 314) (by decide +kernel)⟩
theorem lw_p8 : lw_okq (⟨"LabelsOfLines$Thought", "begin", "()V"⟩, 8) := ⟨⟨by decide +kernel, by decide +kernel⟩, List.mem_of_getElem? (i := 105) (by decide +kernel), List.mem_of_getElem? (i := 456) (by decide +kernel), List.mem_of_getElem? (i := 457) (by decide +kernel)⟩
theorem lw_p9 : lw_okq (⟨"LabelsOfLines$Thought", "nextLabels", "(I)V"⟩, 8) := ⟨⟨by decide +kernel, by decide +kernel⟩, List.mem_of_getElem? (i := 105) (by decide +kernel), List.mem_of_getElem? (i := 466) (by decide +kernel), List.mem_of_getElem? (i := 467) (by decide +kernel)⟩
theorem lw_p10 : lw_okq (⟨"LabelsOfLines$Thought", "relabel", "(II)V"⟩, 8) := ⟨⟨by decide +kernel, by decide +kernel⟩, List.mem_of_getElem? (i := 105) (by decide +kernel), List.mem_of_getElem? (i := 470) (by decide +kernel), List.mem_of_getElem? (i := 471) (by decide +kernel)⟩
theorem lw_p11 : lw_okq (⟨"LabelsOfLines", "found", "(III)I"⟩, 12) := ⟨⟨by decide +kernel, by decide +kernel⟩, List.mem_of_getElem? (i := 15) (by decide +kernel), List.mem_of_getElem? (i := 474) (by decide +kernel), List.mem_of_getElem? (i := 475) (by decide +kernel)⟩
theorem lw_p12 : lw_okq (⟨"LabelsOfLines$Thought", "allPointsCount", "()Z"⟩, 8) := ⟨⟨by decide +kernel, by decide +kernel⟩, List.mem_of_getElem? (i := 105) (by decide +kernel), List.mem_of_getElem? (i := 486) (by decide +kernel), List.mem_of_getElem? (i := 487) (by decide +kernel)⟩
theorem lw_p13 : lw_okq (⟨"LabelsOfLines$Thought", "isAbove", "(II)Z"⟩, 8) := ⟨⟨by decide +kernel, by decide +kernel⟩, List.mem_of_getElem? (i := 105) (by decide +kernel), List.mem_of_getElem? (i := 493) (by decide +kernel), List.mem_of_getElem? (i := 494) (by decide +kernel)⟩
theorem lw_p14 : lw_okq (⟨"LabelsOfLines$Thought", "leavesNoLess", "(II)Z"⟩, 8) := ⟨⟨by decide +kernel, by decide +kernel⟩, List.mem_of_getElem? (i := 105) (by decide +kernel), List.mem_of_getElem? (i := 497) (by decide +kernel), List.mem_of_getElem? (i := 498) (by decide +kernel)⟩
theorem lw_p15 : lw_okq (⟨"LabelsOfLines", "fillMagicRow", "(II)V"⟩, 12) := ⟨⟨by decide +kernel, by decide +kernel⟩, List.mem_of_getElem? (i := 15) (by decide +kernel), List.mem_of_getElem? (i := 506) (by decide +kernel), List.mem_of_getElem? (i := 507) (by decide +kernel)⟩
def lw_privs_1 : List (MethodName × Nat) := [(⟨"LabelsOfLines", "refused", "(I)I"⟩, 12), (⟨"LabelsOfLines$Letters", "misspelt", "()I"⟩, 3), (⟨"LabelsOfLines$Letters", "comes", "(I)Z"⟩, 3), (⟨"LabelsOfLines$Letters", "digit", "(I)I"⟩, 3), (⟨"LabelsOfLines$Letters", "comesPoints", "(I)Z"⟩, 3), (⟨"LabelsOfLines$Letters", "comesLine", "(III)Z"⟩, 3), (⟨"LabelsOfLines$Letters", "comesFigure", "(II)Z"⟩, 3), (⟨"LabelsOfLines$Letters", "comesLabel", "(II)Z"⟩, 3), (⟨"LabelsOfLines$Thought", "begin", "()V"⟩, 8), (⟨"LabelsOfLines$Thought", "nextLabels", "(I)V"⟩, 8), (⟨"LabelsOfLines$Thought", "relabel", "(II)V"⟩, 8), (⟨"LabelsOfLines", "found", "(III)I"⟩, 12), (⟨"LabelsOfLines$Thought", "allPointsCount", "()Z"⟩, 8), (⟨"LabelsOfLines$Thought", "isAbove", "(II)Z"⟩, 8), (⟨"LabelsOfLines$Thought", "leavesNoLess", "(II)Z"⟩, 8), (⟨"LabelsOfLines", "fillMagicRow", "(II)V"⟩, 12)]
theorem lw_r1 : ∀ q ∈ lw_privs_1, lw_okq q := List.forall_mem_cons.mpr ⟨lw_p0, List.forall_mem_cons.mpr ⟨lw_p1, List.forall_mem_cons.mpr ⟨lw_p2, List.forall_mem_cons.mpr ⟨lw_p3, List.forall_mem_cons.mpr ⟨lw_p4, List.forall_mem_cons.mpr ⟨lw_p5, List.forall_mem_cons.mpr ⟨lw_p6, List.forall_mem_cons.mpr ⟨lw_p7, List.forall_mem_cons.mpr ⟨lw_p8, List.forall_mem_cons.mpr ⟨lw_p9, List.forall_mem_cons.mpr ⟨lw_p10, List.forall_mem_cons.mpr ⟨lw_p11, List.forall_mem_cons.mpr ⟨lw_p12, List.forall_mem_cons.mpr ⟨lw_p13, List.forall_mem_cons.mpr ⟨lw_p14, List.forall_mem_cons.mpr ⟨lw_p15, fun _ h => absurd h List.not_mem_nil⟩⟩⟩⟩⟩⟩⟩⟩⟩⟩⟩⟩⟩⟩⟩⟩
theorem lw_p16 : lw_okq (⟨"LabelsOfLines", "becomeDifferences", "(II)V"⟩, 12) := ⟨⟨by decide +kernel, by decide +kernel⟩, List.mem_of_getElem? (i := 15) (by decide +kernel), List.mem_of_getElem? (i := 510) (by decide +kernel), List.mem_of_getElem? (i := 511) (by decide +kernel)⟩
theorem lw_p17 : lw_okq (⟨"LabelsOfLines$Thought", "beginOrders", "()V"⟩, 8) := ⟨⟨by decide +kernel, by decide +kernel⟩, List.mem_of_getElem? (i := 105) (by decide +kernel), List.mem_of_getElem? (i := 526) (by decide +kernel), List.mem_of_getElem? (i := 527) (by decide +kernel)⟩
theorem lw_p18 : lw_okq (⟨"LabelsOfLines$Thought", "nextOrder", "()V"⟩, 8) := ⟨⟨by decide +kernel, by decide +kernel⟩, List.mem_of_getElem? (i := 105) (by decide +kernel), List.mem_of_getElem? (i := 533) (by decide +kernel), List.mem_of_getElem? (i := 534) (by decide +kernel)⟩
theorem lw_p19 : lw_okq (⟨"LabelsOfLines$Thought", "exchange", "(II)V"⟩, 8) := ⟨⟨by decide +kernel, by decide +kernel⟩, List.mem_of_getElem? (i := 105) (by decide +kernel), List.mem_of_getElem? (i := 537) (by decide +kernel), List.mem_of_getElem? (i := 538) (by decide +kernel)⟩
theorem lw_p20 : lw_okq (⟨"LabelsOfLines$Thought", "drawLabels", "()V"⟩, 8) := ⟨⟨by decide +kernel, by decide +kernel⟩, List.mem_of_getElem? (i := 105) (by decide +kernel), List.mem_of_getElem? (i := 573) (by decide +kernel), List.mem_of_getElem? (i := 574) (by decide +kernel)⟩
theorem lw_p21 : lw_okq (⟨"LabelsOfLines$Shape", "bringUp", "(II)Z"⟩, 2) := ⟨⟨by decide +kernel, by decide +kernel⟩, List.mem_of_getElem? (i := 137) (by decide +kernel), List.mem_of_getElem? (i := 594) (by decide +kernel), List.mem_of_getElem? (i := 595) (by decide +kernel)⟩
theorem lw_p22 : lw_okq (⟨"LabelsOfLines$Shape", "exchangeRows", "(II)V"⟩, 2) := ⟨⟨by decide +kernel, by decide +kernel⟩, List.mem_of_getElem? (i := 137) (by decide +kernel), List.mem_of_getElem? (i := 598) (by decide +kernel), List.mem_of_getElem? (i := 599) (by decide +kernel)⟩
theorem lw_p23 : lw_okq (⟨"LabelsOfLines$Shape", "clearBelow", "(II)V"⟩, 2) := ⟨⟨by decide +kernel, by decide +kernel⟩, List.mem_of_getElem? (i := 137) (by decide +kernel), List.mem_of_getElem? (i := 602) (by decide +kernel), List.mem_of_getElem? (i := 603) (by decide +kernel)⟩
theorem lw_p24 : lw_okq (⟨"LabelsOfLines$Shape", "reached", "(I)I"⟩, 2) := ⟨⟨by decide +kernel, by decide +kernel⟩, List.mem_of_getElem? (i := 137) (by decide +kernel), List.mem_of_getElem? (i := 619) (by decide +kernel), List.mem_of_getElem? (i := 620) (by decide +kernel)⟩
theorem lw_p25 : lw_okq (⟨"LabelsOfLines$Shape", "isOddFrom", "(II)Z"⟩, 2) := ⟨⟨by decide +kernel, by decide +kernel⟩, List.mem_of_getElem? (i := 137) (by decide +kernel), List.mem_of_getElem? (i := 638) (by decide +kernel), List.mem_of_getElem? (i := 639) (by decide +kernel)⟩
theorem lw_p26 : lw_okq (⟨"LabelsOfLines$Writing", "add", "(I)V"⟩, 2) := ⟨⟨by decide +kernel, by decide +kernel⟩, List.mem_of_getElem? (i := 172) (by decide +kernel), List.mem_of_getElem? (i := 654) (by decide +kernel), List.mem_of_getElem? (i := 655) (by decide +kernel)⟩
theorem lw_p27 : lw_okq (⟨"LabelsOfLines$Writing", "addDigit", "(I)V"⟩, 2) := ⟨⟨by decide +kernel, by decide +kernel⟩, List.mem_of_getElem? (i := 172) (by decide +kernel), List.mem_of_getElem? (i := 658) (by decide +kernel), List.mem_of_getElem? (i := 659) (by decide +kernel)⟩
theorem lw_p28 : lw_okq (⟨"LabelsOfLines$Writing", "writeLine", "(LLabelsOfLines$Net;I)V"⟩, 2) := ⟨⟨by decide +kernel, by decide +kernel⟩, List.mem_of_getElem? (i := 172) (by decide +kernel), List.mem_of_getElem? (i := 662) (by decide +kernel), List.mem_of_getElem? (i := 663) (by decide +kernel)⟩
theorem lw_p29 : lw_okq (⟨"LabelsOfLines", "refusalOfPlace", "(II)I"⟩, 12) := ⟨⟨by decide +kernel, by decide +kernel⟩, List.mem_of_getElem? (i := 15) (by decide +kernel), List.mem_of_getElem? (i := 681) (by decide +kernel), List.mem_of_getElem? (i := 682) (by decide +kernel)⟩
theorem lw_p30 : lw_okq (⟨"LabelsOfLines", "refusalOfList", "(I)I"⟩, 12) := ⟨⟨by decide +kernel, by decide +kernel⟩, List.mem_of_getElem? (i := 15) (by decide +kernel), List.mem_of_getElem? (i := 685) (by decide +kernel), List.mem_of_getElem? (i := 686) (by decide +kernel)⟩
theorem lw_p31 : lw_okq (⟨"LabelsOfLinesModel", "refused", "(I)I"⟩, 29) := ⟨⟨by decide +kernel, by decide +kernel⟩, List.mem_of_getElem? (i := 739) (by decide +kernel), List.mem_of_getElem? (i := 837) (by decide +kernel), List.mem_of_getElem? (i := 838) (by decide +kernel)⟩
def lw_privs_2 : List (MethodName × Nat) := [(⟨"LabelsOfLines", "becomeDifferences", "(II)V"⟩, 12), (⟨"LabelsOfLines$Thought", "beginOrders", "()V"⟩, 8), (⟨"LabelsOfLines$Thought", "nextOrder", "()V"⟩, 8), (⟨"LabelsOfLines$Thought", "exchange", "(II)V"⟩, 8), (⟨"LabelsOfLines$Thought", "drawLabels", "()V"⟩, 8), (⟨"LabelsOfLines$Shape", "bringUp", "(II)Z"⟩, 2), (⟨"LabelsOfLines$Shape", "exchangeRows", "(II)V"⟩, 2), (⟨"LabelsOfLines$Shape", "clearBelow", "(II)V"⟩, 2), (⟨"LabelsOfLines$Shape", "reached", "(I)I"⟩, 2), (⟨"LabelsOfLines$Shape", "isOddFrom", "(II)Z"⟩, 2), (⟨"LabelsOfLines$Writing", "add", "(I)V"⟩, 2), (⟨"LabelsOfLines$Writing", "addDigit", "(I)V"⟩, 2), (⟨"LabelsOfLines$Writing", "writeLine", "(LLabelsOfLines$Net;I)V"⟩, 2), (⟨"LabelsOfLines", "refusalOfPlace", "(II)I"⟩, 12), (⟨"LabelsOfLines", "refusalOfList", "(I)I"⟩, 12), (⟨"LabelsOfLinesModel", "refused", "(I)I"⟩, 29)]
theorem lw_r2 : ∀ q ∈ lw_privs_2, lw_okq q := List.forall_mem_cons.mpr ⟨lw_p16, List.forall_mem_cons.mpr ⟨lw_p17, List.forall_mem_cons.mpr ⟨lw_p18, List.forall_mem_cons.mpr ⟨lw_p19, List.forall_mem_cons.mpr ⟨lw_p20, List.forall_mem_cons.mpr ⟨lw_p21, List.forall_mem_cons.mpr ⟨lw_p22, List.forall_mem_cons.mpr ⟨lw_p23, List.forall_mem_cons.mpr ⟨lw_p24, List.forall_mem_cons.mpr ⟨lw_p25, List.forall_mem_cons.mpr ⟨lw_p26, List.forall_mem_cons.mpr ⟨lw_p27, List.forall_mem_cons.mpr ⟨lw_p28, List.forall_mem_cons.mpr ⟨lw_p29, List.forall_mem_cons.mpr ⟨lw_p30, List.forall_mem_cons.mpr ⟨lw_p31, fun _ h => absurd h List.not_mem_nil⟩⟩⟩⟩⟩⟩⟩⟩⟩⟩⟩⟩⟩⟩⟩⟩
theorem lw_p32 : lw_okq (⟨"LabelsOfLinesModel", "formFault", "()I"⟩, 29) := ⟨⟨by decide +kernel, by decide +kernel⟩, List.mem_of_getElem? (i := 739) (by decide +kernel), List.mem_of_getElem? (i := 845) (by decide +kernel), List.mem_of_getElem? (i := 846) (by decide +kernel)⟩
theorem lw_p33 : lw_okq (⟨"LabelsOfLinesModel", "keeps", "([I)V"⟩, 29) := ⟨⟨by decide +kernel, by decide +kernel⟩, List.mem_of_getElem? (i := 739) (by decide +kernel), List.mem_of_getElem? (i := 855) (by decide +kernel), List.mem_of_getElem? (i := 856) (by decide +kernel)⟩
theorem lw_p34 : lw_okq (⟨"LabelsOfLinesModel", "isDone", "(I)Z"⟩, 29) := ⟨⟨by decide +kernel, by decide +kernel⟩, List.mem_of_getElem? (i := 739) (by decide +kernel), List.mem_of_getElem? (i := 859) (by decide +kernel), List.mem_of_getElem? (i := 860) (by decide +kernel)⟩
theorem lw_p35 : lw_okq (⟨"LabelsOfLinesModel", "digitAt", "(I)I"⟩, 29) := ⟨⟨by decide +kernel, by decide +kernel⟩, List.mem_of_getElem? (i := 739) (by decide +kernel), List.mem_of_getElem? (i := 863) (by decide +kernel), List.mem_of_getElem? (i := 864) (by decide +kernel)⟩
theorem lw_p36 : lw_okq (⟨"LabelsOfLinesModel", "isPoint", "(I)Z"⟩, 29) := ⟨⟨by decide +kernel, by decide +kernel⟩, List.mem_of_getElem? (i := 739) (by decide +kernel), List.mem_of_getElem? (i := 867) (by decide +kernel), List.mem_of_getElem? (i := 868) (by decide +kernel)⟩
theorem lw_p37 : lw_okq (⟨"LabelsOfLinesModel", "comes", "(III)V"⟩, 29) := ⟨⟨by decide +kernel, by decide +kernel⟩, List.mem_of_getElem? (i := 739) (by decide +kernel), List.mem_of_getElem? (i := 871) (by decide +kernel), List.mem_of_getElem? (i := 872) (by decide +kernel)⟩
theorem lw_p38 : lw_okq (⟨"LabelsOfLinesModel", "isLine", "(I)Z"⟩, 29) := ⟨⟨by decide +kernel, by decide +kernel⟩, List.mem_of_getElem? (i := 739) (by decide +kernel), List.mem_of_getElem? (i := 875) (by decide +kernel), List.mem_of_getElem? (i := 876) (by decide +kernel)⟩
theorem lw_p39 : lw_okq (⟨"LabelsOfLinesModel", "laysBack", "([I)V"⟩, 29) := ⟨⟨by decide +kernel, by decide +kernel⟩, List.mem_of_getElem? (i := 739) (by decide +kernel), List.mem_of_getElem? (i := 879) (by decide +kernel), List.mem_of_getElem? (i := 880) (by decide +kernel)⟩
theorem lw_p40 : lw_okq (⟨"LabelsOfLinesModel", "canBeUndone", "()V"⟩, 29) := ⟨⟨by decide +kernel, by decide +kernel⟩, List.mem_of_getElem? (i := 739) (by decide +kernel), List.mem_of_getElem? (i := 899) (by decide +kernel), List.mem_of_getElem? (i := 900) (by decide +kernel)⟩
theorem lw_p41 : lw_okq (⟨"LabelsOfLinesModel", "forth", "(I)I"⟩, 29) := ⟨⟨by decide +kernel, by decide +kernel⟩, List.mem_of_getElem? (i := 739) (by decide +kernel), List.mem_of_getElem? (i := 911) (by decide +kernel), List.mem_of_getElem? (i := 912) (by decide +kernel)⟩
theorem lw_p42 : lw_okq (⟨"LabelsOfLinesModel", "back", "(I)I"⟩, 29) := ⟨⟨by decide +kernel, by decide +kernel⟩, List.mem_of_getElem? (i := 739) (by decide +kernel), List.mem_of_getElem? (i := 915) (by decide +kernel), List.mem_of_getElem? (i := 916) (by decide +kernel)⟩
theorem lw_p43 : lw_okq (⟨"LabelsOfLinesModel", "weight", "(II)I"⟩, 29) := ⟨⟨by decide +kernel, by decide +kernel⟩, List.mem_of_getElem? (i := 739) (by decide +kernel), List.mem_of_getElem? (i := 927) (by decide +kernel), List.mem_of_getElem? (i := 928) (by decide +kernel)⟩
theorem lw_p44 : lw_okq (⟨"LabelsOfLinesModel", "layNow", "()V"⟩, 29) := ⟨⟨by decide +kernel, by decide +kernel⟩, List.mem_of_getElem? (i := 739) (by decide +kernel), List.mem_of_getElem? (i := 935) (by decide +kernel), List.mem_of_getElem? (i := 936) (by decide +kernel)⟩
theorem lw_p45 : lw_okq (⟨"LabelsOfLinesModel", "layWeights", "()V"⟩, 29) := ⟨⟨by decide +kernel, by decide +kernel⟩, List.mem_of_getElem? (i := 739) (by decide +kernel), List.mem_of_getElem? (i := 939) (by decide +kernel), List.mem_of_getElem? (i := 940) (by decide +kernel)⟩
theorem lw_p46 : lw_okq (⟨"LabelsOfLinesModel", "laySums", "()V"⟩, 29) := ⟨⟨by decide +kernel, by decide +kernel⟩, List.mem_of_getElem? (i := 739) (by decide +kernel), List.mem_of_getElem? (i := 943) (by decide +kernel), List.mem_of_getElem? (i := 944) (by decide +kernel)⟩
theorem lw_p47 : lw_okq (⟨"LabelsOfLinesModel", "totalNow", "()I"⟩, 29) := ⟨⟨by decide +kernel, by decide +kernel⟩, List.mem_of_getElem? (i := 739) (by decide +kernel), List.mem_of_getElem? (i := 951) (by decide +kernel), List.mem_of_getElem? (i := 952) (by decide +kernel)⟩
def lw_privs_3 : List (MethodName × Nat) := [(⟨"LabelsOfLinesModel", "formFault", "()I"⟩, 29), (⟨"LabelsOfLinesModel", "keeps", "([I)V"⟩, 29), (⟨"LabelsOfLinesModel", "isDone", "(I)Z"⟩, 29), (⟨"LabelsOfLinesModel", "digitAt", "(I)I"⟩, 29), (⟨"LabelsOfLinesModel", "isPoint", "(I)Z"⟩, 29), (⟨"LabelsOfLinesModel", "comes", "(III)V"⟩, 29), (⟨"LabelsOfLinesModel", "isLine", "(I)Z"⟩, 29), (⟨"LabelsOfLinesModel", "laysBack", "([I)V"⟩, 29), (⟨"LabelsOfLinesModel", "canBeUndone", "()V"⟩, 29), (⟨"LabelsOfLinesModel", "forth", "(I)I"⟩, 29), (⟨"LabelsOfLinesModel", "back", "(I)I"⟩, 29), (⟨"LabelsOfLinesModel", "weight", "(II)I"⟩, 29), (⟨"LabelsOfLinesModel", "layNow", "()V"⟩, 29), (⟨"LabelsOfLinesModel", "layWeights", "()V"⟩, 29), (⟨"LabelsOfLinesModel", "laySums", "()V"⟩, 29), (⟨"LabelsOfLinesModel", "totalNow", "()I"⟩, 29)]
theorem lw_r3 : ∀ q ∈ lw_privs_3, lw_okq q := List.forall_mem_cons.mpr ⟨lw_p32, List.forall_mem_cons.mpr ⟨lw_p33, List.forall_mem_cons.mpr ⟨lw_p34, List.forall_mem_cons.mpr ⟨lw_p35, List.forall_mem_cons.mpr ⟨lw_p36, List.forall_mem_cons.mpr ⟨lw_p37, List.forall_mem_cons.mpr ⟨lw_p38, List.forall_mem_cons.mpr ⟨lw_p39, List.forall_mem_cons.mpr ⟨lw_p40, List.forall_mem_cons.mpr ⟨lw_p41, List.forall_mem_cons.mpr ⟨lw_p42, List.forall_mem_cons.mpr ⟨lw_p43, List.forall_mem_cons.mpr ⟨lw_p44, List.forall_mem_cons.mpr ⟨lw_p45, List.forall_mem_cons.mpr ⟨lw_p46, List.forall_mem_cons.mpr ⟨lw_p47, fun _ h => absurd h List.not_mem_nil⟩⟩⟩⟩⟩⟩⟩⟩⟩⟩⟩⟩⟩⟩⟩⟩
theorem lw_p48 : lw_okq (⟨"LabelsOfLinesModel", "waysTo", "(III)I"⟩, 29) := ⟨⟨by decide +kernel, by decide +kernel⟩, List.mem_of_getElem? (i := 739) (by decide +kernel), List.mem_of_getElem? (i := 979) (by decide +kernel), List.mem_of_getElem? (i := 980) (by decide +kernel)⟩
theorem lw_p49 : lw_okq (⟨"LabelsOfLinesModel", "triesNought", "()V"⟩, 29) := ⟨⟨by decide +kernel, by decide +kernel⟩, List.mem_of_getElem? (i := 739) (by decide +kernel), List.mem_of_getElem? (i := 983) (by decide +kernel), List.mem_of_getElem? (i := 984) (by decide +kernel)⟩
theorem lw_p50 : lw_okq (⟨"LabelsOfLinesModel", "goesOn", "(I)Z"⟩, 29) := ⟨⟨by decide +kernel, by decide +kernel⟩, List.mem_of_getElem? (i := 739) (by decide +kernel), List.mem_of_getElem? (i := 987) (by decide +kernel), List.mem_of_getElem? (i := 988) (by decide +kernel)⟩
theorem lw_p51 : lw_okq (⟨"LabelsOfLinesModel", "magicTo", "(II)I"⟩, 29) := ⟨⟨by decide +kernel, by decide +kernel⟩, List.mem_of_getElem? (i := 739) (by decide +kernel), List.mem_of_getElem? (i := 995) (by decide +kernel), List.mem_of_getElem? (i := 996) (by decide +kernel)⟩
theorem lw_p52 : lw_okq (⟨"LabelsOfLinesModel", "isAbove", "(I)Z"⟩, 29) := ⟨⟨by decide +kernel, by decide +kernel⟩, List.mem_of_getElem? (i := 739) (by decide +kernel), List.mem_of_getElem? (i := 999) (by decide +kernel), List.mem_of_getElem? (i := 1000) (by decide +kernel)⟩
theorem lw_p53 : lw_okq (⟨"LabelsOfLinesModel", "goesPast", "()Z"⟩, 29) := ⟨⟨by decide +kernel, by decide +kernel⟩, List.mem_of_getElem? (i := 739) (by decide +kernel), List.mem_of_getElem? (i := 1003) (by decide +kernel), List.mem_of_getElem? (i := 1004) (by decide +kernel)⟩
theorem lw_p54 : lw_okq (⟨"LabelsOfLinesModel", "isAll", "(I)Z"⟩, 29) := ⟨⟨by decide +kernel, by decide +kernel⟩, List.mem_of_getElem? (i := 739) (by decide +kernel), List.mem_of_getElem? (i := 1007) (by decide +kernel), List.mem_of_getElem? (i := 1008) (by decide +kernel)⟩
theorem lw_p55 : lw_okq (⟨"LabelsOfLinesModel", "goesUp", "()Z"⟩, 29) := ⟨⟨by decide +kernel, by decide +kernel⟩, List.mem_of_getElem? (i := 739) (by decide +kernel), List.mem_of_getElem? (i := 1011) (by decide +kernel), List.mem_of_getElem? (i := 1012) (by decide +kernel)⟩
theorem lw_p56 : lw_okq (⟨"LabelsOfLinesModel", "layMagic", "()V"⟩, 29) := ⟨⟨by decide +kernel, by decide +kernel⟩, List.mem_of_getElem? (i := 739) (by decide +kernel), List.mem_of_getElem? (i := 1020) (by decide +kernel), List.mem_of_getElem? (i := 1021) (by decide +kernel)⟩
theorem lw_p57 : lw_okq (⟨"LabelsOfLinesModel", "differ", "(I)V"⟩, 29) := ⟨⟨by decide +kernel, by decide +kernel⟩, List.mem_of_getElem? (i := 739) (by decide +kernel), List.mem_of_getElem? (i := 1024) (by decide +kernel), List.mem_of_getElem? (i := 1025) (by decide +kernel)⟩
theorem lw_p58 : lw_okq (⟨"LabelsOfLinesModel", "ordersTo", "(I)I"⟩, 29) := ⟨⟨by decide +kernel, by decide +kernel⟩, List.mem_of_getElem? (i := 739) (by decide +kernel), List.mem_of_getElem? (i := 1036) (by decide +kernel), List.mem_of_getElem? (i := 1037) (by decide +kernel)⟩
theorem lw_p59 : lw_okq (⟨"LabelsOfLinesModel", "nextOrder", "()Z"⟩, 29) := ⟨⟨by decide +kernel, by decide +kernel⟩, List.mem_of_getElem? (i := 739) (by decide +kernel), List.mem_of_getElem? (i := 1042) (by decide +kernel), List.mem_of_getElem? (i := 1043) (by decide +kernel)⟩
theorem lw_p60 : lw_okq (⟨"LabelsOfLinesModel", "farther", "(I)J"⟩, 29) := ⟨⟨by decide +kernel, by decide +kernel⟩, List.mem_of_getElem? (i := 739) (by decide +kernel), List.mem_of_getElem? (i := 1054) (by decide +kernel), List.mem_of_getElem? (i := 1055) (by decide +kernel)⟩
theorem lw_p61 : lw_okq (⟨"LabelsOfLinesModel", "rankNow", "()I"⟩, 29) := ⟨⟨by decide +kernel, by decide +kernel⟩, List.mem_of_getElem? (i := 739) (by decide +kernel), List.mem_of_getElem? (i := 1073) (by decide +kernel), List.mem_of_getElem? (i := 1074) (by decide +kernel)⟩
theorem lw_p62 : lw_okq (⟨"LabelsOfLinesModel", "partOf", "(I)I"⟩, 29) := ⟨⟨by decide +kernel, by decide +kernel⟩, List.mem_of_getElem? (i := 739) (by decide +kernel), List.mem_of_getElem? (i := 1081) (by decide +kernel), List.mem_of_getElem? (i := 1082) (by decide +kernel)⟩
theorem lw_p63 : lw_okq (⟨"LabelsOfLinesModel", "haveSides", "()Z"⟩, 29) := ⟨⟨by decide +kernel, by decide +kernel⟩, List.mem_of_getElem? (i := 739) (by decide +kernel), List.mem_of_getElem? (i := 1089) (by decide +kernel), List.mem_of_getElem? (i := 1090) (by decide +kernel)⟩
def lw_privs_4 : List (MethodName × Nat) := [(⟨"LabelsOfLinesModel", "waysTo", "(III)I"⟩, 29), (⟨"LabelsOfLinesModel", "triesNought", "()V"⟩, 29), (⟨"LabelsOfLinesModel", "goesOn", "(I)Z"⟩, 29), (⟨"LabelsOfLinesModel", "magicTo", "(II)I"⟩, 29), (⟨"LabelsOfLinesModel", "isAbove", "(I)Z"⟩, 29), (⟨"LabelsOfLinesModel", "goesPast", "()Z"⟩, 29), (⟨"LabelsOfLinesModel", "isAll", "(I)Z"⟩, 29), (⟨"LabelsOfLinesModel", "goesUp", "()Z"⟩, 29), (⟨"LabelsOfLinesModel", "layMagic", "()V"⟩, 29), (⟨"LabelsOfLinesModel", "differ", "(I)V"⟩, 29), (⟨"LabelsOfLinesModel", "ordersTo", "(I)I"⟩, 29), (⟨"LabelsOfLinesModel", "nextOrder", "()Z"⟩, 29), (⟨"LabelsOfLinesModel", "farther", "(I)J"⟩, 29), (⟨"LabelsOfLinesModel", "rankNow", "()I"⟩, 29), (⟨"LabelsOfLinesModel", "partOf", "(I)I"⟩, 29), (⟨"LabelsOfLinesModel", "haveSides", "()Z"⟩, 29)]
theorem lw_r4 : ∀ q ∈ lw_privs_4, lw_okq q := List.forall_mem_cons.mpr ⟨lw_p48, List.forall_mem_cons.mpr ⟨lw_p49, List.forall_mem_cons.mpr ⟨lw_p50, List.forall_mem_cons.mpr ⟨lw_p51, List.forall_mem_cons.mpr ⟨lw_p52, List.forall_mem_cons.mpr ⟨lw_p53, List.forall_mem_cons.mpr ⟨lw_p54, List.forall_mem_cons.mpr ⟨lw_p55, List.forall_mem_cons.mpr ⟨lw_p56, List.forall_mem_cons.mpr ⟨lw_p57, List.forall_mem_cons.mpr ⟨lw_p58, List.forall_mem_cons.mpr ⟨lw_p59, List.forall_mem_cons.mpr ⟨lw_p60, List.forall_mem_cons.mpr ⟨lw_p61, List.forall_mem_cons.mpr ⟨lw_p62, List.forall_mem_cons.mpr ⟨lw_p63, fun _ h => absurd h List.not_mem_nil⟩⟩⟩⟩⟩⟩⟩⟩⟩⟩⟩⟩⟩⟩⟩⟩
theorem lw_p64 : lw_okq (⟨"LabelsOfLinesModel", "writesAll", "()V"⟩, 29) := ⟨⟨by decide +kernel, by decide +kernel⟩, List.mem_of_getElem? (i := 739) (by decide +kernel), List.mem_of_getElem? (i := 1097) (by decide +kernel), List.mem_of_getElem? (i := 1098) (by decide +kernel)⟩
theorem lw_p65 : lw_okq (⟨"LabelsOfLinesModel", "writes", "(I)V"⟩, 29) := ⟨⟨by decide +kernel, by decide +kernel⟩, List.mem_of_getElem? (i := 739) (by decide +kernel), List.mem_of_getElem? (i := 1101) (by decide +kernel), List.mem_of_getElem? (i := 1102) (by decide +kernel)⟩
def lw_privs_5 : List (MethodName × Nat) := [(⟨"LabelsOfLinesModel", "writesAll", "()V"⟩, 29), (⟨"LabelsOfLinesModel", "writes", "(I)V"⟩, 29)]
theorem lw_r5 : ∀ q ∈ lw_privs_5, lw_okq q := List.forall_mem_cons.mpr ⟨lw_p64, List.forall_mem_cons.mpr ⟨lw_p65, fun _ h => absurd h List.not_mem_nil⟩⟩
def lw_privs : List (MethodName × Nat) := lw_privs_1 ++ (lw_privs_2 ++ (lw_privs_3 ++ (lw_privs_4 ++ (lw_privs_5))))
def lw_tbl : List Cond := k2_sels lw_privs ++ tables_1
theorem lw_privs_ok : ∀ q ∈ lw_privs, lw_okq q := by
  show ∀ q ∈ lw_privs_1 ++ (lw_privs_2 ++ (lw_privs_3 ++ (lw_privs_4 ++ (lw_privs_5)))), lw_okq q
  exact List.forall_mem_append.mpr ⟨lw_r1, List.forall_mem_append.mpr ⟨lw_r2, List.forall_mem_append.mpr ⟨lw_r3, List.forall_mem_append.mpr ⟨lw_r4, lw_r5⟩⟩⟩⟩
theorem goodIn_r {big : List Cond} (ws : List Cond) (ps : List Nat) (hp : ws = ps.filterMap (fun i => big[i]?)) (h : ws.all goodWord = true) : GoodIn big ws := by
  intro w hw
  have h1 := List.all_eq_true.mp h w hw
  rw [hp] at hw
  obtain ⟨i, -, hi⟩ := List.mem_filterMap.mp hw
  have hm : w ∈ big := by first | exact List.mem_of_getElem? hi | exact List.getElem?_mem hi
  exact ⟨hm, good_of_word h1⟩
theorem goodIn_app {big a b : List Cond} (ha : GoodIn big a) (hb : GoodIn big b) : GoodIn big (a ++ b) := fun w h => (List.mem_append.mp h).elim (ha w) (hb w)
theorem goodIn_ca {big a b : List Cond} {c : Cond} (ha : GoodIn big (c :: a)) (hb : GoodIn big b) : GoodIn big (c :: (a ++ b)) := fun w h => (List.mem_cons.mp h).elim (fun e => ha w (List.mem_cons.mpr (Or.inl e))) (fun h => (List.mem_append.mp h).elim (fun h => ha w (List.mem_cons.mpr (Or.inr h))) (hb w))
theorem goodIn_sub {big ws : List Cond} (hm : ∀ w ∈ ws, w ∈ big) (h : ws.all goodWord = true) : GoodIn big ws := fun w hw => ⟨hm w hw, good_of_word (List.all_eq_true.mp h w hw)⟩
def RX0 : String := "LabelsOfLines$Kinds"
def TX0 : u_T := fun k => match k with
  | _ => ("", "", "", false)
def tyX0 : Nat → FieldType := fun k => match k with
  | _ => .int
abbrev wsX00 : List Cond := u_ws RX0 TX0 0
theorem nmX0 : ∀ a, a < 0 → ∀ b, b < 0 → a ≠ b → (TX0 a).2.1 ≠ (TX0 b).2.1 := by decide +kernel
theorem tyX0_ok : ∀ k, k < 0 → parseFieldDescriptor (TX0 k).2.2.1 = some (tyX0 k) := by decide +kernel
abbrev cX0_isUnder : ByteArray := prog_2_method_2_code
def yX0_isUnder : MethodName := ⟨RX0, "isUnder", "(II)Z"⟩
abbrev cX0_forth : ByteArray := prog_2_method_3_code
def yX0_forth : MethodName := ⟨RX0, "forth", "(II)I"⟩
abbrev cX0_back : ByteArray := prog_2_method_4_code
def yX0_back : MethodName := ⟨RX0, "back", "(II)I"⟩
def RX1 : String := "LabelsOfLines$Letters"
def TX1 : u_T := fun k => match k with
  | 0 => ("LabelsOfLines$Letters", "signs", "[I", true)
  | 1 => ("LabelsOfLines$Letters", "trial", "LLabelsOfLines$Net;", true)
  | _ => ("LabelsOfLines$Letters", "count", "I", false)
def tyX1 : Nat → FieldType := fun k => match k with
  | 0 => .array .int
  | 1 => .object "LabelsOfLines$Net"
  | _ => .int
abbrev wsX10 : List Cond := u_ws RX1 TX1 3
theorem nmX1 : ∀ a, a < 3 → ∀ b, b < 3 → a ≠ b → (TX1 a).2.1 ≠ (TX1 b).2.1 := by decide +kernel
theorem tyX1_ok : ∀ k, k < 3 → parseFieldDescriptor (TX1 k).2.2.1 = some (tyX1 k) := by decide +kernel
abbrev cX1_init : ByteArray := prog_3_method_1_code
def yX1_init : MethodName := ⟨RX1, "<init>", "()V"⟩
abbrev cX1_add : ByteArray := prog_3_method_2_code
def yX1_add : MethodName := ⟨RX1, "add", "(I)V"⟩
abbrev cX1_tell : ByteArray := prog_3_method_3_code
def yX1_tell : MethodName := ⟨RX1, "tell", "(LLabelsOfLines$Net;)I"⟩
abbrev cX1_misspelt : ByteArray := prog_3_method_4_code
def yX1_misspelt : MethodName := ⟨RX1, "misspelt", "()I"⟩
abbrev cX1_digitsBehind : ByteArray := prog_3_method_5_code
def yX1_digitsBehind : MethodName := ⟨RX1, "digitsBehind", "(I)I"⟩
abbrev cX1_digit : ByteArray := prog_3_method_6_code
def yX1_digit : MethodName := ⟨RX1, "digit", "(I)I"⟩
abbrev cX1_comes : ByteArray := prog_3_method_7_code
def yX1_comes : MethodName := ⟨RX1, "comes", "(I)Z"⟩
abbrev cX1_comesPoints : ByteArray := prog_3_method_8_code
def yX1_comesPoints : MethodName := ⟨RX1, "comesPoints", "(I)Z"⟩
abbrev cX1_comesLine : ByteArray := prog_3_method_9_code
def yX1_comesLine : MethodName := ⟨RX1, "comesLine", "(III)Z"⟩
abbrev cX1_comesFigure : ByteArray := prog_3_method_10_code
def yX1_comesFigure : MethodName := ⟨RX1, "comesFigure", "(II)Z"⟩
abbrev cX1_comesLabel : ByteArray := prog_3_method_11_code
def yX1_comesLabel : MethodName := ⟨RX1, "comesLabel", "(II)Z"⟩
def RX2 : String := "LabelsOfLines$Lists"
def TX2 : u_T := fun k => match k with
  | 0 => ("LabelsOfLines$Lists", "rows", "[[I", true)
  | _ => ("LabelsOfLines$Lists", "sizes", "[I", true)
def tyX2 : Nat → FieldType := fun k => match k with
  | 0 => .array (.array .int)
  | _ => .array .int
abbrev wsX20 : List Cond := u_ws RX2 TX2 2
theorem nmX2 : ∀ a, a < 2 → ∀ b, b < 2 → a ≠ b → (TX2 a).2.1 ≠ (TX2 b).2.1 := by decide +kernel
theorem tyX2_ok : ∀ k, k < 2 → parseFieldDescriptor (TX2 k).2.2.1 = some (tyX2 k) := by decide +kernel
abbrev cX2_init : ByteArray := prog_4_method_1_code
def yX2_init : MethodName := ⟨RX2, "<init>", "()V"⟩
abbrev cX2_isMissing : ByteArray := prog_4_method_2_code
def yX2_isMissing : MethodName := ⟨RX2, "isMissing", "(I)Z"⟩
abbrev cX2_renew : ByteArray := prog_4_method_3_code
def yX2_renew : MethodName := ⟨RX2, "renew", "(II)V"⟩
abbrev cX2_allWithin : ByteArray := prog_4_method_4_code
def yX2_allWithin : MethodName := ⟨RX2, "allWithin", "(III)Z"⟩
def RX3 : String := "LabelsOfLines$Net"
def TX3 : u_T := fun k => match k with
  | 0 => ("LabelsOfLines$Net", "pointCount", "I", false)
  | 1 => ("LabelsOfLines$Net", "lineCount", "I", false)
  | 2 => ("LabelsOfLines$Net", "kinds", "[I", true)
  | 3 => ("LabelsOfLines$Net", "figures", "[I", true)
  | 4 => ("LabelsOfLines$Net", "firsts", "[I", true)
  | 5 => ("LabelsOfLines$Net", "seconds", "[I", true)
  | _ => ("LabelsOfLines$Net", "labels", "[I", true)
def tyX3 : Nat → FieldType := fun k => match k with
  | 0 => .int
  | 1 => .int
  | 2 => .array .int
  | 3 => .array .int
  | 4 => .array .int
  | 5 => .array .int
  | _ => .array .int
abbrev wsX30 : List Cond := u_ws RX3 TX3 7
theorem nmX3 : ∀ a, a < 7 → ∀ b, b < 7 → a ≠ b → (TX3 a).2.1 ≠ (TX3 b).2.1 := by decide +kernel
theorem tyX3_ok : ∀ k, k < 7 → parseFieldDescriptor (TX3 k).2.2.1 = some (tyX3 k) := by decide +kernel
abbrev cX3_init : ByteArray := prog_5_method_1_code
def yX3_init : MethodName := ⟨RX3, "<init>", "()V"⟩
abbrev cX3_hasPoint : ByteArray := prog_5_method_2_code
def yX3_hasPoint : MethodName := ⟨RX3, "hasPoint", "(I)Z"⟩
abbrev cX3_hasLine : ByteArray := prog_5_method_3_code
def yX3_hasLine : MethodName := ⟨RX3, "hasLine", "(I)Z"⟩
abbrev cX3_restart : ByteArray := prog_5_method_4_code
def yX3_restart : MethodName := ⟨RX3, "restart", "(I)V"⟩
abbrev cX3_add : ByteArray := prog_5_method_5_code
def yX3_add : MethodName := ⟨RX3, "add", "(III)V"⟩
abbrev cX3_copyFrom : ByteArray := prog_5_method_6_code
def yX3_copyFrom : MethodName := ⟨RX3, "copyFrom", "(LLabelsOfLines$Net;)V"⟩
abbrev cX3_forth : ByteArray := prog_5_method_7_code
def yX3_forth : MethodName := ⟨RX3, "forth", "(I)I"⟩
abbrev cX3_back : ByteArray := prog_5_method_8_code
def yX3_back : MethodName := ⟨RX3, "back", "(I)I"⟩
abbrev cX3_weight : ByteArray := prog_5_method_9_code
def yX3_weight : MethodName := ⟨RX3, "weight", "(II)I"⟩
abbrev cX3_sumAt : ByteArray := prog_5_method_10_code
def yX3_sumAt : MethodName := ⟨RX3, "sumAt", "(I)I"⟩
abbrev cX3_fillSums : ByteArray := prog_5_method_11_code
def yX3_fillSums : MethodName := ⟨RX3, "fillSums", "([I)V"⟩
def RX4 : String := "LabelsOfLines$Past"
def TX4 : u_T := fun k => match k with
  | 0 => ("LabelsOfLines$Past", "kinds", "[[I", true)
  | 1 => ("LabelsOfLines$Past", "figures", "[[I", true)
  | 2 => ("LabelsOfLines$Past", "labels", "[[I", true)
  | 3 => ("LabelsOfLines$Past", "next", "I", false)
  | _ => ("LabelsOfLines$Past", "count", "I", false)
def tyX4 : Nat → FieldType := fun k => match k with
  | 0 => .array (.array .int)
  | 1 => .array (.array .int)
  | 2 => .array (.array .int)
  | 3 => .int
  | _ => .int
abbrev wsX40 : List Cond := u_ws RX4 TX4 5
theorem nmX4 : ∀ a, a < 5 → ∀ b, b < 5 → a ≠ b → (TX4 a).2.1 ≠ (TX4 b).2.1 := by decide +kernel
theorem tyX4_ok : ∀ k, k < 5 → parseFieldDescriptor (TX4 k).2.2.1 = some (tyX4 k) := by decide +kernel
abbrev cX4_init : ByteArray := prog_6_method_1_code
def yX4_init : MethodName := ⟨RX4, "<init>", "()V"⟩
abbrev cX4_keep : ByteArray := prog_6_method_2_code
def yX4_keep : MethodName := ⟨RX4, "keep", "(LLabelsOfLines$Net;)V"⟩
abbrev cX4_restore : ByteArray := prog_6_method_3_code
def yX4_restore : MethodName := ⟨RX4, "restore", "(LLabelsOfLines$Net;)V"⟩
abbrev cX4_forget : ByteArray := prog_6_method_4_code
def yX4_forget : MethodName := ⟨RX4, "forget", "()V"⟩
def RX5 : String := "LabelsOfLines$Rules"
def TX5 : u_T := fun k => match k with
  | _ => ("", "", "", false)
def tyX5 : Nat → FieldType := fun k => match k with
  | _ => .int
abbrev wsX50 : List Cond := u_ws RX5 TX5 0
theorem nmX5 : ∀ a, a < 0 → ∀ b, b < 0 → a ≠ b → (TX5 a).2.1 ≠ (TX5 b).2.1 := by decide +kernel
theorem tyX5_ok : ∀ k, k < 0 → parseFieldDescriptor (TX5 k).2.2.1 = some (tyX5 k) := by decide +kernel
abbrev cX5_holds : ByteArray := prog_7_method_2_code
def yX5_holds : MethodName := ⟨RX5, "holds", "(I[II)Z"⟩
abbrev cX5_allLike : ByteArray := prog_7_method_3_code
def yX5_allLike : MethodName := ⟨RX5, "allLike", "([II)Z"⟩
abbrev cX5_allUnlike : ByteArray := prog_7_method_4_code
def yX5_allUnlike : MethodName := ⟨RX5, "allUnlike", "([II)Z"⟩
abbrev cX5_allRising : ByteArray := prog_7_method_5_code
def yX5_allRising : MethodName := ⟨RX5, "allRising", "([II)Z"⟩
abbrev cX5_allEven : ByteArray := prog_7_method_6_code
def yX5_allEven : MethodName := ⟨RX5, "allEven", "([II)Z"⟩
abbrev cX5_noneAbove : ByteArray := prog_7_method_7_code
def yX5_noneAbove : MethodName := ⟨RX5, "noneAbove", "(I[II)Z"⟩
abbrev cX5_together : ByteArray := prog_7_method_8_code
def yX5_together : MethodName := ⟨RX5, "together", "([II)I"⟩
abbrev cX5_aheadOf : ByteArray := prog_7_method_9_code
def yX5_aheadOf : MethodName := ⟨RX5, "aheadOf", "(I[II)I"⟩
abbrev cX5_spreadOf : ByteArray := prog_7_method_10_code
def yX5_spreadOf : MethodName := ⟨RX5, "spreadOf", "([II)I"⟩
def RX6 : String := "LabelsOfLines$Shape"
def TX6 : u_T := fun k => match k with
  | 0 => ("LabelsOfLines$Shape", "net", "LLabelsOfLines$Net;", true)
  | _ => ("LabelsOfLines$Shape", "rows", "[[J", true)
def tyX6 : Nat → FieldType := fun k => match k with
  | 0 => .object "LabelsOfLines$Net"
  | _ => .array (.array .long)
abbrev wsX60 : List Cond := u_ws RX6 TX6 2
theorem nmX6 : ∀ a, a < 2 → ∀ b, b < 2 → a ≠ b → (TX6 a).2.1 ≠ (TX6 b).2.1 := by decide +kernel
theorem tyX6_ok : ∀ k, k < 2 → parseFieldDescriptor (TX6 k).2.2.1 = some (tyX6 k) := by decide +kernel
abbrev cX6_init : ByteArray := prog_8_method_1_code
def yX6_init : MethodName := ⟨RX6, "<init>", "(LLabelsOfLines$Net;)V"⟩
abbrev cX6_rankOfTable : ByteArray := prog_8_method_2_code
def yX6_rankOfTable : MethodName := ⟨RX6, "rankOfTable", "()I"⟩
abbrev cX6_bringUp : ByteArray := prog_8_method_3_code
def yX6_bringUp : MethodName := ⟨RX6, "bringUp", "(II)Z"⟩
abbrev cX6_exchangeRows : ByteArray := prog_8_method_4_code
def yX6_exchangeRows : MethodName := ⟨RX6, "exchangeRows", "(II)V"⟩
abbrev cX6_clearBelow : ByteArray := prog_8_method_5_code
def yX6_clearBelow : MethodName := ⟨RX6, "clearBelow", "(II)V"⟩
abbrev cX6_reached : ByteArray := prog_8_method_6_code
def yX6_reached : MethodName := ⟨RX6, "reached", "(I)I"⟩
abbrev cX6_across : ByteArray := prog_8_method_7_code
def yX6_across : MethodName := ⟨RX6, "across", "(III)I"⟩
abbrev cX6_partOf : ByteArray := prog_8_method_8_code
def yX6_partOf : MethodName := ⟨RX6, "partOf", "(I)I"⟩
abbrev cX6_partCount : ByteArray := prog_8_method_9_code
def yX6_partCount : MethodName := ⟨RX6, "partCount", "()I"⟩
abbrev cX6_leastOf : ByteArray := prog_8_method_10_code
def yX6_leastOf : MethodName := ⟨RX6, "leastOf", "(I)I"⟩
abbrev cX6_hasSides : ByteArray := prog_8_method_11_code
def yX6_hasSides : MethodName := ⟨RX6, "hasSides", "()Z"⟩
abbrev cX6_sideOf : ByteArray := prog_8_method_12_code
def yX6_sideOf : MethodName := ⟨RX6, "sideOf", "(I)I"⟩
abbrev cX6_isOddFrom : ByteArray := prog_8_method_13_code
def yX6_isOddFrom : MethodName := ⟨RX6, "isOddFrom", "(II)Z"⟩
def RX7 : String := "LabelsOfLines$Thought"
def TX7 : u_T := fun k => match k with
  | 0 => ("LabelsOfLines$Thought", "net", "LLabelsOfLines$Net;", true)
  | 1 => ("LabelsOfLines$Thought", "labels", "[I", true)
  | 2 => ("LabelsOfLines$Thought", "sums", "[I", true)
  | 3 => ("LabelsOfLines$Thought", "forths", "[I", true)
  | 4 => ("LabelsOfLines$Thought", "backs", "[I", true)
  | 5 => ("LabelsOfLines$Thought", "lastLines", "[I", true)
  | 6 => ("LabelsOfLines$Thought", "found", "I", false)
  | _ => ("LabelsOfLines$Thought", "seed", "I", false)
def tyX7 : Nat → FieldType := fun k => match k with
  | 0 => .object "LabelsOfLines$Net"
  | 1 => .array .int
  | 2 => .array .int
  | 3 => .array .int
  | 4 => .array .int
  | 5 => .array .int
  | 6 => .int
  | _ => .int
abbrev wsX70 : List Cond := u_ws RX7 TX7 8
theorem nmX7 : ∀ a, a < 8 → ∀ b, b < 8 → a ≠ b → (TX7 a).2.1 ≠ (TX7 b).2.1 := by decide +kernel
theorem tyX7_ok : ∀ k, k < 8 → parseFieldDescriptor (TX7 k).2.2.1 = some (tyX7 k) := by decide +kernel
abbrev cX7_init : ByteArray := prog_9_method_1_code
def yX7_init : MethodName := ⟨RX7, "<init>", "(LLabelsOfLines$Net;)V"⟩
abbrev cX7_begin : ByteArray := prog_9_method_2_code
def yX7_begin : MethodName := ⟨RX7, "begin", "()V"⟩
abbrev cX7_relabel : ByteArray := prog_9_method_3_code
def yX7_relabel : MethodName := ⟨RX7, "relabel", "(II)V"⟩
abbrev cX7_findWays : ByteArray := prog_9_method_4_code
def yX7_findWays : MethodName := ⟨RX7, "findWays", "(III)I"⟩
abbrev cX7_nextLabels : ByteArray := prog_9_method_5_code
def yX7_nextLabels : MethodName := ⟨RX7, "nextLabels", "(I)V"⟩
abbrev cX7_findMagic : ByteArray := prog_9_method_6_code
def yX7_findMagic : MethodName := ⟨RX7, "findMagic", "(II)I"⟩
abbrev cX7_allPointsCount : ByteArray := prog_9_method_7_code
def yX7_allPointsCount : MethodName := ⟨RX7, "allPointsCount", "()Z"⟩
abbrev cX7_seekMagic : ByteArray := prog_9_method_8_code
def yX7_seekMagic : MethodName := ⟨RX7, "seekMagic", "(LLabelsOfLines$Thought;III)Z"⟩
abbrev cX7_isAbove : ByteArray := prog_9_method_9_code
def yX7_isAbove : MethodName := ⟨RX7, "isAbove", "(II)Z"⟩
abbrev cX7_leavesNoLess : ByteArray := prog_9_method_10_code
def yX7_leavesNoLess : MethodName := ⟨RX7, "leavesNoLess", "(II)Z"⟩
abbrev cX7_findOrders : ByteArray := prog_9_method_11_code
def yX7_findOrders : MethodName := ⟨RX7, "findOrders", "(I)I"⟩
abbrev cX7_leastSpread : ByteArray := prog_9_method_12_code
def yX7_leastSpread : MethodName := ⟨RX7, "leastSpread", "()I"⟩
abbrev cX7_beginOrders : ByteArray := prog_9_method_13_code
def yX7_beginOrders : MethodName := ⟨RX7, "beginOrders", "()V"⟩
abbrev cX7_nextOrder : ByteArray := prog_9_method_14_code
def yX7_nextOrder : MethodName := ⟨RX7, "nextOrder", "()V"⟩
abbrev cX7_exchange : ByteArray := prog_9_method_15_code
def yX7_exchange : MethodName := ⟨RX7, "exchange", "(II)V"⟩
abbrev cX7_lotsThatKeep : ByteArray := prog_9_method_16_code
def yX7_lotsThatKeep : MethodName := ⟨RX7, "lotsThatKeep", "(III)I"⟩
abbrev cX7_lotsTogether : ByteArray := prog_9_method_17_code
def yX7_lotsTogether : MethodName := ⟨RX7, "lotsTogether", "(II)I"⟩
abbrev cX7_drawLabels : ByteArray := prog_9_method_18_code
def yX7_drawLabels : MethodName := ⟨RX7, "drawLabels", "()V"⟩
abbrev cX7_power : ByteArray := prog_9_method_19_code
def yX7_power : MethodName := ⟨RX7, "power", "(II)I"⟩
abbrev cX7_ordersOf : ByteArray := prog_9_method_20_code
def yX7_ordersOf : MethodName := ⟨RX7, "ordersOf", "(I)I"⟩
def RX8 : String := "LabelsOfLines$Writing"
def TX8 : u_T := fun k => match k with
  | 0 => ("LabelsOfLines$Writing", "signs", "[I", true)
  | _ => ("LabelsOfLines$Writing", "count", "I", false)
def tyX8 : Nat → FieldType := fun k => match k with
  | 0 => .array .int
  | _ => .int
abbrev wsX80 : List Cond := u_ws RX8 TX8 2
theorem nmX8 : ∀ a, a < 2 → ∀ b, b < 2 → a ≠ b → (TX8 a).2.1 ≠ (TX8 b).2.1 := by decide +kernel
theorem tyX8_ok : ∀ k, k < 2 → parseFieldDescriptor (TX8 k).2.2.1 = some (tyX8 k) := by decide +kernel
abbrev cX8_init : ByteArray := prog_10_method_1_code
def yX8_init : MethodName := ⟨RX8, "<init>", "()V"⟩
abbrev cX8_write : ByteArray := prog_10_method_2_code
def yX8_write : MethodName := ⟨RX8, "write", "(LLabelsOfLines$Net;)V"⟩
abbrev cX8_writeLine : ByteArray := prog_10_method_3_code
def yX8_writeLine : MethodName := ⟨RX8, "writeLine", "(LLabelsOfLines$Net;I)V"⟩
abbrev cX8_addDigit : ByteArray := prog_10_method_4_code
def yX8_addDigit : MethodName := ⟨RX8, "addDigit", "(I)V"⟩
abbrev cX8_add : ByteArray := prog_10_method_5_code
def yX8_add : MethodName := ⟨RX8, "add", "(I)V"⟩
def RX9 : String := "LabelsOfLines"
def TX9 : u_T := fun k => match k with
  | 0 => ("LabelsOfLines", "net", "LLabelsOfLines$Net;", true)
  | 1 => ("LabelsOfLines", "image", "LLabelsOfLines$Net;", true)
  | 2 => ("LabelsOfLines", "imageTaken", "Z", false)
  | 3 => ("LabelsOfLines", "past", "LLabelsOfLines$Past;", true)
  | 4 => ("LabelsOfLines", "thought", "LLabelsOfLines$Thought;", true)
  | 5 => ("LabelsOfLines", "shape", "LLabelsOfLines$Shape;", true)
  | 6 => ("LabelsOfLines", "letters", "LLabelsOfLines$Letters;", true)
  | 7 => ("LabelsOfLines", "writing", "LLabelsOfLines$Writing;", true)
  | 8 => ("LabelsOfLines", "lists", "LLabelsOfLines$Lists;", true)
  | 9 => ("LabelsOfLines", "refusals", "[I", true)
  | 10 => ("LabelsOfLines", "sums", "[I", true)
  | _ => ("LabelsOfLines", "magicRow", "[I", true)
def tyX9 : Nat → FieldType := fun k => match k with
  | 0 => .object "LabelsOfLines$Net"
  | 1 => .object "LabelsOfLines$Net"
  | 2 => .boolean
  | 3 => .object "LabelsOfLines$Past"
  | 4 => .object "LabelsOfLines$Thought"
  | 5 => .object "LabelsOfLines$Shape"
  | 6 => .object "LabelsOfLines$Letters"
  | 7 => .object "LabelsOfLines$Writing"
  | 8 => .object "LabelsOfLines$Lists"
  | 9 => .array .int
  | 10 => .array .int
  | _ => .array .int
abbrev wsX90 : List Cond := u_ws RX9 TX9 12
theorem nmX9 : ∀ a, a < 12 → ∀ b, b < 12 → a ≠ b → (TX9 a).2.1 ≠ (TX9 b).2.1 := by decide +kernel
theorem tyX9_ok : ∀ k, k < 12 → parseFieldDescriptor (TX9 k).2.2.1 = some (tyX9 k) := by decide +kernel
abbrev cX9_init : ByteArray := prog_1_method_1_code
def yX9_init : MethodName := ⟨RX9, "<init>", "()V"⟩
abbrev cX9_letter : ByteArray := prog_1_method_2_code
def yX9_letter : MethodName := ⟨RX9, "letter", "(I)I"⟩
abbrev cX9_text : ByteArray := prog_1_method_3_code
def yX9_text : MethodName := ⟨RX9, "text", "()I"⟩
abbrev cX9_points : ByteArray := prog_1_method_4_code
def yX9_points : MethodName := ⟨RX9, "points", "(I)I"⟩
abbrev cX9_line : ByteArray := prog_1_method_5_code
def yX9_line : MethodName := ⟨RX9, "line", "(III)I"⟩
abbrev cX9_drop : ByteArray := prog_1_method_6_code
def yX9_drop : MethodName := ⟨RX9, "drop", "()I"⟩
abbrev cX9_label : ByteArray := prog_1_method_7_code
def yX9_label : MethodName := ⟨RX9, "label", "(II)I"⟩
abbrev cX9_turn : ByteArray := prog_1_method_8_code
def yX9_turn : MethodName := ⟨RX9, "turn", "(III)I"⟩
abbrev cX9_of : ByteArray := prog_1_method_9_code
def yX9_of : MethodName := ⟨RX9, "of", "(II)I"⟩
abbrev cX9_taken : ByteArray := prog_1_method_10_code
def yX9_taken : MethodName := ⟨RX9, "taken", "(II)I"⟩
abbrev cX9_table : ByteArray := prog_1_method_11_code
def yX9_table : MethodName := ⟨RX9, "table", "(II)I"⟩
abbrev cX9_sum : ByteArray := prog_1_method_12_code
def yX9_sum : MethodName := ⟨RX9, "sum", "(I)I"⟩
abbrev cX9_total : ByteArray := prog_1_method_13_code
def yX9_total : MethodName := ⟨RX9, "total", "()I"⟩
abbrev cX9_rule : ByteArray := prog_1_method_14_code
def yX9_rule : MethodName := ⟨RX9, "rule", "(I)I"⟩
abbrev cX9_ranked : ByteArray := prog_1_method_15_code
def yX9_ranked : MethodName := ⟨RX9, "ranked", "(I)I"⟩
abbrev cX9_ways : ByteArray := prog_1_method_16_code
def yX9_ways : MethodName := ⟨RX9, "ways", "(IIII)I"⟩
abbrev cX9_magic : ByteArray := prog_1_method_17_code
def yX9_magic : MethodName := ⟨RX9, "magic", "(III)I"⟩
abbrev cX9_difference : ByteArray := prog_1_method_18_code
def yX9_difference : MethodName := ⟨RX9, "difference", "(II)I"⟩
abbrev cX9_settled : ByteArray := prog_1_method_19_code
def yX9_settled : MethodName := ⟨RX9, "settled", "()I"⟩
abbrev cX9_orders : ByteArray := prog_1_method_20_code
def yX9_orders : MethodName := ⟨RX9, "orders", "(II)I"⟩
abbrev cX9_spread : ByteArray := prog_1_method_21_code
def yX9_spread : MethodName := ⟨RX9, "spread", "()I"⟩
abbrev cX9_odds : ByteArray := prog_1_method_22_code
def yX9_odds : MethodName := ⟨RX9, "odds", "(III)J"⟩
abbrev cX9_lots : ByteArray := prog_1_method_23_code
def yX9_lots : MethodName := ⟨RX9, "lots", "(IIII)I"⟩
abbrev cX9_rank : ByteArray := prog_1_method_24_code
def yX9_rank : MethodName := ⟨RX9, "rank", "(I)I"⟩
abbrev cX9_parts : ByteArray := prog_1_method_25_code
def yX9_parts : MethodName := ⟨RX9, "parts", "(I)I"⟩
abbrev cX9_sides : ByteArray := prog_1_method_26_code
def yX9_sides : MethodName := ⟨RX9, "sides", "(I)I"⟩
abbrev cX9_written : ByteArray := prog_1_method_27_code
def yX9_written : MethodName := ⟨RX9, "written", "(I)I"⟩
abbrev cX9_list : ByteArray := prog_1_method_28_code
def yX9_list : MethodName := ⟨RX9, "list", "(II)I"⟩
abbrev cX9_put : ByteArray := prog_1_method_29_code
def yX9_put : MethodName := ⟨RX9, "put", "(III)I"⟩
abbrev cX9_look : ByteArray := prog_1_method_30_code
def yX9_look : MethodName := ⟨RX9, "look", "(II)J"⟩
abbrev cX9_lays : ByteArray := prog_1_method_31_code
def yX9_lays : MethodName := ⟨RX9, "lays", "(II)I"⟩
abbrev cX9_judge : ByteArray := prog_1_method_32_code
def yX9_judge : MethodName := ⟨RX9, "judge", "(I)I"⟩
abbrev cX9_gives : ByteArray := prog_1_method_33_code
def yX9_gives : MethodName := ⟨RX9, "gives", "(I)I"⟩
abbrev cX9_rules : ByteArray := prog_1_method_34_code
def yX9_rules : MethodName := ⟨RX9, "rules", "(I)I"⟩
abbrev cX9_undo : ByteArray := prog_1_method_35_code
def yX9_undo : MethodName := ⟨RX9, "undo", "()I"⟩
abbrev cX9_image : ByteArray := prog_1_method_36_code
def yX9_image : MethodName := ⟨RX9, "image", "()I"⟩
abbrev cX9_on : ByteArray := prog_1_method_37_code
def yX9_on : MethodName := ⟨RX9, "on", "()I"⟩
abbrev cX9_count : ByteArray := prog_1_method_38_code
def yX9_count : MethodName := ⟨RX9, "count", "(I)I"⟩
abbrev cX9_refused : ByteArray := prog_1_method_39_code
def yX9_refused : MethodName := ⟨RX9, "refused", "(I)I"⟩
abbrev cX9_refusalOfList : ByteArray := prog_1_method_40_code
def yX9_refusalOfList : MethodName := ⟨RX9, "refusalOfList", "(I)I"⟩
abbrev cX9_refusalOfPlace : ByteArray := prog_1_method_41_code
def yX9_refusalOfPlace : MethodName := ⟨RX9, "refusalOfPlace", "(II)I"⟩
abbrev cX9_found : ByteArray := prog_1_method_42_code
def yX9_found : MethodName := ⟨RX9, "found", "(III)I"⟩
abbrev cX9_fillMagicRow : ByteArray := prog_1_method_43_code
def yX9_fillMagicRow : MethodName := ⟨RX9, "fillMagicRow", "(II)V"⟩
abbrev cX9_becomeDifferences : ByteArray := prog_1_method_44_code
def yX9_becomeDifferences : MethodName := ⟨RX9, "becomeDifferences", "(II)V"⟩
abbrev cX9_isKind : ByteArray := prog_1_method_45_code
def yX9_isKind : MethodName := ⟨RX9, "isKind", "(I)Z"⟩
abbrev cX9_isRule : ByteArray := prog_1_method_46_code
def yX9_isRule : MethodName := ⟨RX9, "isRule", "(I)Z"⟩
abbrev cX9_isList : ByteArray := prog_1_method_47_code
def yX9_isList : MethodName := ⟨RX9, "isList", "(I)Z"⟩
abbrev cX9_commonDivisor : ByteArray := prog_1_method_48_code
def yX9_commonDivisor : MethodName := ⟨RX9, "commonDivisor", "(II)I"⟩
def RX10 : String := "LabelsOfLinesModel"
def TX10 : u_T := fun k => match k with
  | 0 => ("LabelsOfLinesModel", "points", "I", false)
  | 1 => ("LabelsOfLinesModel", "lines", "I", false)
  | 2 => ("LabelsOfLinesModel", "kind", "[I", true)
  | 3 => ("LabelsOfLinesModel", "figure", "[I", true)
  | 4 => ("LabelsOfLinesModel", "one", "[I", true)
  | 5 => ("LabelsOfLinesModel", "other", "[I", true)
  | 6 => ("LabelsOfLinesModel", "label", "[I", true)
  | 7 => ("LabelsOfLinesModel", "undone", "I", false)
  | 8 => ("LabelsOfLinesModel", "wasKind", "[I", true)
  | 9 => ("LabelsOfLinesModel", "wasFigure", "[I", true)
  | 10 => ("LabelsOfLinesModel", "wasLabel", "[I", true)
  | 11 => ("LabelsOfLinesModel", "letter", "[I", true)
  | 12 => ("LabelsOfLinesModel", "letters", "I", false)
  | 13 => ("LabelsOfLinesModel", "list", "[I", true)
  | 14 => ("LabelsOfLinesModel", "cell", "[I", true)
  | 15 => ("LabelsOfLinesModel", "refusals", "[I", true)
  | 16 => ("LabelsOfLinesModel", "tried", "[I", true)
  | 17 => ("LabelsOfLinesModel", "sums", "[I", true)
  | 18 => ("LabelsOfLinesModel", "weights", "[I", true)
  | 19 => ("LabelsOfLinesModel", "magicRow", "[I", true)
  | 20 => ("LabelsOfLinesModel", "narrowest", "I", false)
  | 21 => ("LabelsOfLinesModel", "steps", "[J", true)
  | 22 => ("LabelsOfLinesModel", "sideBits", "I", false)
  | 23 => ("LabelsOfLinesModel", "paper", "[I", true)
  | 24 => ("LabelsOfLinesModel", "papers", "I", false)
  | 25 => ("LabelsOfLinesModel", "told", "[I", true)
  | 26 => ("LabelsOfLinesModel", "hasImage", "Z", false)
  | 27 => ("LabelsOfLinesModel", "imaged", "[I", true)
  | _ => ("LabelsOfLinesModel", "kept", "[I", true)
def tyX10 : Nat → FieldType := fun k => match k with
  | 0 => .int
  | 1 => .int
  | 2 => .array .int
  | 3 => .array .int
  | 4 => .array .int
  | 5 => .array .int
  | 6 => .array .int
  | 7 => .int
  | 8 => .array .int
  | 9 => .array .int
  | 10 => .array .int
  | 11 => .array .int
  | 12 => .int
  | 13 => .array .int
  | 14 => .array .int
  | 15 => .array .int
  | 16 => .array .int
  | 17 => .array .int
  | 18 => .array .int
  | 19 => .array .int
  | 20 => .int
  | 21 => .array .long
  | 22 => .int
  | 23 => .array .int
  | 24 => .int
  | 25 => .array .int
  | 26 => .boolean
  | 27 => .array .int
  | _ => .array .int
abbrev wsX100 : List Cond := u_ws RX10 TX10 29
theorem nmX10 : ∀ a, a < 29 → ∀ b, b < 29 → a ≠ b → (TX10 a).2.1 ≠ (TX10 b).2.1 := by decide +kernel
theorem tyX10_ok : ∀ k, k < 29 → parseFieldDescriptor (TX10 k).2.2.1 = some (tyX10 k) := by decide +kernel
abbrev cX10_init : ByteArray := prog_12_method_1_code
def yX10_init : MethodName := ⟨RX10, "<init>", "()V"⟩
abbrev cX10_in : ByteArray := prog_12_method_2_code
def yX10_in : MethodName := ⟨RX10, "in", "(III)Z"⟩
abbrev cX10_isPoint : ByteArray := prog_12_method_3_code
def yX10_isPoint : MethodName := ⟨RX10, "isPoint", "(I)Z"⟩
abbrev cX10_isLine : ByteArray := prog_12_method_4_code
def yX10_isLine : MethodName := ⟨RX10, "isLine", "(I)Z"⟩
abbrev cX10_refused : ByteArray := prog_12_method_5_code
def yX10_refused : MethodName := ⟨RX10, "refused", "(I)I"⟩
abbrev cX10_farther : ByteArray := prog_12_method_6_code
def yX10_farther : MethodName := ⟨RX10, "farther", "(I)J"⟩
abbrev cX10_letter : ByteArray := prog_12_method_7_code
def yX10_letter : MethodName := ⟨RX10, "letter", "(I)I"⟩
abbrev cX10_figuresOf : ByteArray := prog_12_method_8_code
def yX10_figuresOf : MethodName := ⟨RX10, "figuresOf", "(I)I"⟩
abbrev cX10_digitAt : ByteArray := prog_12_method_9_code
def yX10_digitAt : MethodName := ⟨RX10, "digitAt", "(I)I"⟩
abbrev cX10_formFault : ByteArray := prog_12_method_10_code
def yX10_formFault : MethodName := ⟨RX10, "formFault", "()I"⟩
abbrev cX10_isDone : ByteArray := prog_12_method_11_code
def yX10_isDone : MethodName := ⟨RX10, "isDone", "(I)Z"⟩
abbrev cX10_text : ByteArray := prog_12_method_12_code
def yX10_text : MethodName := ⟨RX10, "text", "()I"⟩
abbrev cX10_comes : ByteArray := prog_12_method_13_code
def yX10_comes : MethodName := ⟨RX10, "comes", "(III)V"⟩
abbrev cX10_points : ByteArray := prog_12_method_14_code
def yX10_points : MethodName := ⟨RX10, "points", "(I)I"⟩
abbrev cX10_line : ByteArray := prog_12_method_15_code
def yX10_line : MethodName := ⟨RX10, "line", "(III)I"⟩
abbrev cX10_drop : ByteArray := prog_12_method_16_code
def yX10_drop : MethodName := ⟨RX10, "drop", "()I"⟩
abbrev cX10_canBeUndone : ByteArray := prog_12_method_17_code
def yX10_canBeUndone : MethodName := ⟨RX10, "canBeUndone", "()V"⟩
abbrev cX10_label : ByteArray := prog_12_method_18_code
def yX10_label : MethodName := ⟨RX10, "label", "(II)I"⟩
abbrev cX10_turn : ByteArray := prog_12_method_19_code
def yX10_turn : MethodName := ⟨RX10, "turn", "(III)I"⟩
abbrev cX10_forth : ByteArray := prog_12_method_20_code
def yX10_forth : MethodName := ⟨RX10, "forth", "(I)I"⟩
abbrev cX10_back : ByteArray := prog_12_method_21_code
def yX10_back : MethodName := ⟨RX10, "back", "(I)I"⟩
abbrev cX10_of : ByteArray := prog_12_method_22_code
def yX10_of : MethodName := ⟨RX10, "of", "(II)I"⟩
abbrev cX10_taken : ByteArray := prog_12_method_23_code
def yX10_taken : MethodName := ⟨RX10, "taken", "(II)I"⟩
abbrev cX10_weight : ByteArray := prog_12_method_24_code
def yX10_weight : MethodName := ⟨RX10, "weight", "(II)I"⟩
abbrev cX10_table : ByteArray := prog_12_method_25_code
def yX10_table : MethodName := ⟨RX10, "table", "(II)I"⟩
abbrev cX10_layWeights : ByteArray := prog_12_method_26_code
def yX10_layWeights : MethodName := ⟨RX10, "layWeights", "()V"⟩
abbrev cX10_laySums : ByteArray := prog_12_method_27_code
def yX10_laySums : MethodName := ⟨RX10, "laySums", "()V"⟩
abbrev cX10_layNow : ByteArray := prog_12_method_28_code
def yX10_layNow : MethodName := ⟨RX10, "layNow", "()V"⟩
abbrev cX10_often : ByteArray := prog_12_method_29_code
def yX10_often : MethodName := ⟨RX10, "often", "([III)I"⟩
abbrev cX10_isLike : ByteArray := prog_12_method_30_code
def yX10_isLike : MethodName := ⟨RX10, "isLike", "([II)Z"⟩
abbrev cX10_isUnlike : ByteArray := prog_12_method_31_code
def yX10_isUnlike : MethodName := ⟨RX10, "isUnlike", "([II)Z"⟩
abbrev cX10_isSo : ByteArray := prog_12_method_32_code
def yX10_isSo : MethodName := ⟨RX10, "isSo", "(I[II)Z"⟩
abbrev cX10_sum : ByteArray := prog_12_method_33_code
def yX10_sum : MethodName := ⟨RX10, "sum", "(I)I"⟩
abbrev cX10_totalNow : ByteArray := prog_12_method_34_code
def yX10_totalNow : MethodName := ⟨RX10, "totalNow", "()I"⟩
abbrev cX10_total : ByteArray := prog_12_method_35_code
def yX10_total : MethodName := ⟨RX10, "total", "()I"⟩
abbrev cX10_rule : ByteArray := prog_12_method_36_code
def yX10_rule : MethodName := ⟨RX10, "rule", "(I)I"⟩
abbrev cX10_ranked : ByteArray := prog_12_method_37_code
def yX10_ranked : MethodName := ⟨RX10, "ranked", "(I)I"⟩
abbrev cX10_triesNought : ByteArray := prog_12_method_38_code
def yX10_triesNought : MethodName := ⟨RX10, "triesNought", "()V"⟩
abbrev cX10_goesOn : ByteArray := prog_12_method_39_code
def yX10_goesOn : MethodName := ⟨RX10, "goesOn", "(I)Z"⟩
abbrev cX10_waysTo : ByteArray := prog_12_method_40_code
def yX10_waysTo : MethodName := ⟨RX10, "waysTo", "(III)I"⟩
abbrev cX10_ways : ByteArray := prog_12_method_41_code
def yX10_ways : MethodName := ⟨RX10, "ways", "(IIII)I"⟩
abbrev cX10_isAbove : ByteArray := prog_12_method_42_code
def yX10_isAbove : MethodName := ⟨RX10, "isAbove", "(I)Z"⟩
abbrev cX10_isAll : ByteArray := prog_12_method_43_code
def yX10_isAll : MethodName := ⟨RX10, "isAll", "(I)Z"⟩
abbrev cX10_goesPast : ByteArray := prog_12_method_44_code
def yX10_goesPast : MethodName := ⟨RX10, "goesPast", "()Z"⟩
abbrev cX10_goesUp : ByteArray := prog_12_method_45_code
def yX10_goesUp : MethodName := ⟨RX10, "goesUp", "()Z"⟩
abbrev cX10_magicTo : ByteArray := prog_12_method_46_code
def yX10_magicTo : MethodName := ⟨RX10, "magicTo", "(II)I"⟩
abbrev cX10_magic : ByteArray := prog_12_method_47_code
def yX10_magic : MethodName := ⟨RX10, "magic", "(III)I"⟩
abbrev cX10_layMagic : ByteArray := prog_12_method_48_code
def yX10_layMagic : MethodName := ⟨RX10, "layMagic", "()V"⟩
abbrev cX10_differ : ByteArray := prog_12_method_49_code
def yX10_differ : MethodName := ⟨RX10, "differ", "(I)V"⟩
abbrev cX10_difference : ByteArray := prog_12_method_50_code
def yX10_difference : MethodName := ⟨RX10, "difference", "(II)I"⟩
abbrev cX10_settled : ByteArray := prog_12_method_51_code
def yX10_settled : MethodName := ⟨RX10, "settled", "()I"⟩
abbrev cX10_nextOrder : ByteArray := prog_12_method_52_code
def yX10_nextOrder : MethodName := ⟨RX10, "nextOrder", "()Z"⟩
abbrev cX10_ordersTo : ByteArray := prog_12_method_53_code
def yX10_ordersTo : MethodName := ⟨RX10, "ordersTo", "(I)I"⟩
abbrev cX10_orders : ByteArray := prog_12_method_54_code
def yX10_orders : MethodName := ⟨RX10, "orders", "(II)I"⟩
abbrev cX10_spread : ByteArray := prog_12_method_55_code
def yX10_spread : MethodName := ⟨RX10, "spread", "()I"⟩
abbrev cX10_asPart : ByteArray := prog_12_method_56_code
def yX10_asPart : MethodName := ⟨RX10, "asPart", "(JJI)J"⟩
abbrev cX10_odds : ByteArray := prog_12_method_57_code
def yX10_odds : MethodName := ⟨RX10, "odds", "(III)J"⟩
abbrev cX10_lots : ByteArray := prog_12_method_58_code
def yX10_lots : MethodName := ⟨RX10, "lots", "(IIII)I"⟩
abbrev cX10_rankNow : ByteArray := prog_12_method_59_code
def yX10_rankNow : MethodName := ⟨RX10, "rankNow", "()I"⟩
abbrev cX10_rank : ByteArray := prog_12_method_60_code
def yX10_rank : MethodName := ⟨RX10, "rank", "(I)I"⟩
abbrev cX10_partOf : ByteArray := prog_12_method_61_code
def yX10_partOf : MethodName := ⟨RX10, "partOf", "(I)I"⟩
abbrev cX10_parts : ByteArray := prog_12_method_62_code
def yX10_parts : MethodName := ⟨RX10, "parts", "(I)I"⟩
abbrev cX10_haveSides : ByteArray := prog_12_method_63_code
def yX10_haveSides : MethodName := ⟨RX10, "haveSides", "()Z"⟩
abbrev cX10_sides : ByteArray := prog_12_method_64_code
def yX10_sides : MethodName := ⟨RX10, "sides", "(I)I"⟩
abbrev cX10_writes : ByteArray := prog_12_method_65_code
def yX10_writes : MethodName := ⟨RX10, "writes", "(I)V"⟩
abbrev cX10_writesAll : ByteArray := prog_12_method_66_code
def yX10_writesAll : MethodName := ⟨RX10, "writesAll", "()V"⟩
abbrev cX10_written : ByteArray := prog_12_method_67_code
def yX10_written : MethodName := ⟨RX10, "written", "(I)I"⟩
abbrev cX10_isList : ByteArray := prog_12_method_68_code
def yX10_isList : MethodName := ⟨RX10, "isList", "(I)Z"⟩
abbrev cX10_list : ByteArray := prog_12_method_69_code
def yX10_list : MethodName := ⟨RX10, "list", "(II)I"⟩
abbrev cX10_put : ByteArray := prog_12_method_70_code
def yX10_put : MethodName := ⟨RX10, "put", "(III)I"⟩
abbrev cX10_look : ByteArray := prog_12_method_71_code
def yX10_look : MethodName := ⟨RX10, "look", "(II)J"⟩
abbrev cX10_lays : ByteArray := prog_12_method_72_code
def yX10_lays : MethodName := ⟨RX10, "lays", "(II)I"⟩
abbrev cX10_judge : ByteArray := prog_12_method_73_code
def yX10_judge : MethodName := ⟨RX10, "judge", "(I)I"⟩
abbrev cX10_gives : ByteArray := prog_12_method_74_code
def yX10_gives : MethodName := ⟨RX10, "gives", "(I)I"⟩
abbrev cX10_rules : ByteArray := prog_12_method_75_code
def yX10_rules : MethodName := ⟨RX10, "rules", "(I)I"⟩
abbrev cX10_undo : ByteArray := prog_12_method_76_code
def yX10_undo : MethodName := ⟨RX10, "undo", "()I"⟩
abbrev cX10_keeps : ByteArray := prog_12_method_77_code
def yX10_keeps : MethodName := ⟨RX10, "keeps", "([I)V"⟩
abbrev cX10_laysBack : ByteArray := prog_12_method_78_code
def yX10_laysBack : MethodName := ⟨RX10, "laysBack", "([I)V"⟩
abbrev cX10_image : ByteArray := prog_12_method_79_code
def yX10_image : MethodName := ⟨RX10, "image", "()I"⟩
abbrev cX10_on : ByteArray := prog_12_method_80_code
def yX10_on : MethodName := ⟨RX10, "on", "()I"⟩
abbrev cX10_count : ByteArray := prog_12_method_81_code
def yX10_count : MethodName := ⟨RX10, "count", "(I)I"⟩
def RJ9 : String := "java/lang/Math"
def TJ9 : u_T := fun k => match k with
  | _ => ("", "", "", false)
def tyJ9 : Nat → FieldType := fun k => match k with
  | _ => .int
abbrev cJ9_max_7cf53 : ByteArray := prog_13_method_65_code
def yJ9_max_7cf53 : MethodName := ⟨RJ9, "max", "(II)I"⟩
abbrev cJ9_min_7cf53 : ByteArray := prog_13_method_69_code
def yJ9_min_7cf53 : MethodName := ⟨RJ9, "min", "(II)I"⟩
def RJ10 : String := "java/lang/System"
def TJ10 : u_T := fun k => match k with
  | _ => ("", "", "", false)
def tyJ10 : Nat → FieldType := fun k => match k with
  | _ => .int
def RL : String := "LabelsOfLinesLaw"
abbrev cL_law : ByteArray := code
def yL_law : MethodName := ⟨RL, "law", "([I)Z"⟩
end
section
theorem dX0_isUnder_0 : decode cX0_isUnder 0 = .ok (.iload_n 0, 1) := by decide +kernel
theorem dX0_isUnder_1 : decode cX0_isUnder 1 = .ok (.istore_n 2, 1) := by decide +kernel
theorem dX0_isUnder_2 : decode cX0_isUnder 2 = .ok (.iconst 0, 1) := by decide +kernel
theorem dX0_isUnder_3 : decode cX0_isUnder 3 = .ok (.istore_n 3, 1) := by decide +kernel
theorem dX0_isUnder_4 : decode cX0_isUnder 4 = .ok (.iload_n 3, 1) := by decide +kernel
theorem dX0_isUnder_5 : decode cX0_isUnder 5 = .ok (.bipush 6, 2) := by decide +kernel
theorem dX0_isUnder_7 : decode cX0_isUnder 7 = .ok (.if_icmp .ge 29, 3) := by decide +kernel
theorem dX0_isUnder_10 : decode cX0_isUnder 10 = .ok (.iload_n 2, 1) := by decide +kernel
theorem dX0_isUnder_11 : decode cX0_isUnder 11 = .ok (.invokestatic 9, 3) := by decide +kernel
theorem dX0_isUnder_14 : decode cX0_isUnder 14 = .ok (.ifCond .eq 22, 3) := by decide +kernel
theorem dX0_isUnder_17 : decode cX0_isUnder 17 = .ok (.iload_n 2, 1) := by decide +kernel
theorem dX0_isUnder_18 : decode cX0_isUnder 18 = .ok (.iload_n 1, 1) := by decide +kernel
theorem dX0_isUnder_19 : decode cX0_isUnder 19 = .ok (.if_icmp .ne 5, 3) := by decide +kernel
theorem dX0_isUnder_22 : decode cX0_isUnder 22 = .ok (.iconst 1, 1) := by decide +kernel
theorem dX0_isUnder_23 : decode cX0_isUnder 23 = .ok (.ireturn, 1) := by decide +kernel
theorem dX0_isUnder_24 : decode cX0_isUnder 24 = .ok (.getstatic 13, 3) := by decide +kernel
theorem dX0_isUnder_27 : decode cX0_isUnder 27 = .ok (.iload_n 2, 1) := by decide +kernel
theorem dX0_isUnder_28 : decode cX0_isUnder 28 = .ok (.iaload, 1) := by decide +kernel
theorem dX0_isUnder_29 : decode cX0_isUnder 29 = .ok (.istore_n 2, 1) := by decide +kernel
theorem dX0_isUnder_30 : decode cX0_isUnder 30 = .ok (.iinc 3 1, 3) := by decide +kernel
theorem dX0_isUnder_33 : decode cX0_isUnder 33 = .ok (.goto (-29), 3) := by decide +kernel
theorem dX0_isUnder_36 : decode cX0_isUnder 36 = .ok (.iconst 0, 1) := by decide +kernel
theorem dX0_isUnder_37 : decode cX0_isUnder 37 = .ok (.ireturn, 1) := by decide +kernel
theorem dX0_forth_0 : decode cX0_forth 0 = .ok (.iload_n 0, 1) := by decide +kernel
theorem dX0_forth_1 : decode cX0_forth 1 = .ok (.tableswitch 35 2 4 #[27, 29, 31], 27) := by decide +kernel
theorem dX0_forth_28 : decode cX0_forth 28 = .ok (.iconst 2, 1) := by decide +kernel
theorem dX0_forth_29 : decode cX0_forth 29 = .ok (.ireturn, 1) := by decide +kernel
theorem dX0_forth_30 : decode cX0_forth 30 = .ok (.iconst 0, 1) := by decide +kernel
theorem dX0_forth_31 : decode cX0_forth 31 = .ok (.ireturn, 1) := by decide +kernel
theorem dX0_forth_32 : decode cX0_forth 32 = .ok (.iconst 2, 1) := by decide +kernel
theorem dX0_forth_33 : decode cX0_forth 33 = .ok (.iload_n 1, 1) := by decide +kernel
theorem dX0_forth_34 : decode cX0_forth 34 = .ok (.iadd, 1) := by decide +kernel
theorem dX0_forth_35 : decode cX0_forth 35 = .ok (.ireturn, 1) := by decide +kernel
theorem dX0_forth_36 : decode cX0_forth 36 = .ok (.iconst 1, 1) := by decide +kernel
theorem dX0_forth_37 : decode cX0_forth 37 = .ok (.ireturn, 1) := by decide +kernel
theorem dX0_back_0 : decode cX0_back 0 = .ok (.iload_n 0, 1) := by decide +kernel
theorem dX0_back_1 : decode cX0_back 1 = .ok (.tableswitch 51 1 5 #[35, 37, 51, 37, 39], 35) := by decide +kernel
theorem dX0_back_36 : decode cX0_back 36 = .ok (.iconst 0, 1) := by decide +kernel
theorem dX0_back_37 : decode cX0_back 37 = .ok (.ireturn, 1) := by decide +kernel
theorem dX0_back_38 : decode cX0_back 38 = .ok (.iconst 2, 1) := by decide +kernel
theorem dX0_back_39 : decode cX0_back 39 = .ok (.ireturn, 1) := by decide +kernel
theorem dX0_back_40 : decode cX0_back 40 = .ok (.iload_n 1, 1) := by decide +kernel
theorem dX0_back_41 : decode cX0_back 41 = .ok (.iconst 2, 1) := by decide +kernel
theorem dX0_back_42 : decode cX0_back 42 = .ok (.irem, 1) := by decide +kernel
theorem dX0_back_43 : decode cX0_back 43 = .ok (.ifCond .ne 7, 3) := by decide +kernel
theorem dX0_back_46 : decode cX0_back 46 = .ok (.iconst 1, 1) := by decide +kernel
theorem dX0_back_47 : decode cX0_back 47 = .ok (.goto 4, 3) := by decide +kernel
theorem dX0_back_50 : decode cX0_back 50 = .ok (.iconst 0, 1) := by decide +kernel
theorem dX0_back_51 : decode cX0_back 51 = .ok (.ireturn, 1) := by decide +kernel
theorem dX0_back_52 : decode cX0_back 52 = .ok (.iconst 1, 1) := by decide +kernel
theorem dX0_back_53 : decode cX0_back 53 = .ok (.ireturn, 1) := by decide +kernel
theorem dX1_init_0 : decode cX1_init 0 = .ok (.aload_n 0, 1) := by decide +kernel
theorem dX1_init_1 : decode cX1_init 1 = .ok (.invokespecial 3, 3) := by decide +kernel
theorem dX1_init_4 : decode cX1_init 4 = .ok (.aload_n 0, 1) := by decide +kernel
theorem dX1_init_5 : decode cX1_init 5 = .ok (.bipush 72, 2) := by decide +kernel
theorem dX1_init_7 : decode cX1_init 7 = .ok (.newarray .int, 2) := by decide +kernel
theorem dX1_init_9 : decode cX1_init 9 = .ok (.putfield 9, 3) := by decide +kernel
theorem dX1_init_12 : decode cX1_init 12 = .ok (.aload_n 0, 1) := by decide +kernel
theorem dX1_init_13 : decode cX1_init 13 = .ok (.new 15, 3) := by decide +kernel
theorem dX1_init_16 : decode cX1_init 16 = .ok (.dup, 1) := by decide +kernel
theorem dX1_init_17 : decode cX1_init 17 = .ok (.invokespecial 17, 3) := by decide +kernel
theorem dX1_init_20 : decode cX1_init 20 = .ok (.putfield 18, 3) := by decide +kernel
theorem dX1_init_23 : decode cX1_init 23 = .ok (.aload_n 0, 1) := by decide +kernel
theorem dX1_init_24 : decode cX1_init 24 = .ok (.iconst 0, 1) := by decide +kernel
theorem dX1_init_25 : decode cX1_init 25 = .ok (.putfield 22, 3) := by decide +kernel
theorem dX1_init_28 : decode cX1_init 28 = .ok (.return_, 1) := by decide +kernel
theorem dX1_add_0 : decode cX1_add 0 = .ok (.aload_n 0, 1) := by decide +kernel
theorem dX1_add_1 : decode cX1_add 1 = .ok (.getfield 9, 3) := by decide +kernel
theorem dX1_add_4 : decode cX1_add 4 = .ok (.aload_n 0, 1) := by decide +kernel
theorem dX1_add_5 : decode cX1_add 5 = .ok (.getfield 22, 3) := by decide +kernel
theorem dX1_add_8 : decode cX1_add 8 = .ok (.iload_n 1, 1) := by decide +kernel
theorem dX1_add_9 : decode cX1_add 9 = .ok (.iastore, 1) := by decide +kernel
theorem dX1_add_10 : decode cX1_add 10 = .ok (.aload_n 0, 1) := by decide +kernel
theorem dX1_add_11 : decode cX1_add 11 = .ok (.dup, 1) := by decide +kernel
theorem dX1_add_12 : decode cX1_add 12 = .ok (.getfield 22, 3) := by decide +kernel
theorem dX1_add_15 : decode cX1_add 15 = .ok (.iconst 1, 1) := by decide +kernel
theorem dX1_add_16 : decode cX1_add 16 = .ok (.iadd, 1) := by decide +kernel
theorem dX1_add_17 : decode cX1_add 17 = .ok (.putfield 22, 3) := by decide +kernel
theorem dX1_add_20 : decode cX1_add 20 = .ok (.return_, 1) := by decide +kernel
theorem dX1_tell_0 : decode cX1_tell 0 = .ok (.aload_n 0, 1) := by decide +kernel
theorem dX1_tell_1 : decode cX1_tell 1 = .ok (.invokevirtual 26, 3) := by decide +kernel
theorem dX1_tell_4 : decode cX1_tell 4 = .ok (.istore_n 2, 1) := by decide +kernel
theorem dX1_tell_5 : decode cX1_tell 5 = .ok (.iload_n 2, 1) := by decide +kernel
theorem dX1_tell_6 : decode cX1_tell 6 = .ok (.iconst (-1), 1) := by decide +kernel
theorem dX1_tell_7 : decode cX1_tell 7 = .ok (.if_icmp .eq 9, 3) := by decide +kernel
theorem dX1_tell_10 : decode cX1_tell 10 = .ok (.sipush (-1000), 3) := by decide +kernel
theorem dX1_tell_13 : decode cX1_tell 13 = .ok (.iload_n 2, 1) := by decide +kernel
theorem dX1_tell_14 : decode cX1_tell 14 = .ok (.isub, 1) := by decide +kernel
theorem dX1_tell_15 : decode cX1_tell 15 = .ok (.ireturn, 1) := by decide +kernel
theorem dX1_tell_16 : decode cX1_tell 16 = .ok (.aload_n 0, 1) := by decide +kernel
theorem dX1_tell_17 : decode cX1_tell 17 = .ok (.getfield 18, 3) := by decide +kernel
theorem dX1_tell_20 : decode cX1_tell 20 = .ok (.aload_n 1, 1) := by decide +kernel
theorem dX1_tell_21 : decode cX1_tell 21 = .ok (.invokevirtual 30, 3) := by decide +kernel
theorem dX1_tell_24 : decode cX1_tell 24 = .ok (.iconst 0, 1) := by decide +kernel
theorem dX1_tell_25 : decode cX1_tell 25 = .ok (.istore_n 3, 1) := by decide +kernel
theorem dX1_tell_26 : decode cX1_tell 26 = .ok (.iconst 0, 1) := by decide +kernel
theorem dX1_tell_27 : decode cX1_tell 27 = .ok (.istore 4, 2) := by decide +kernel
theorem dX1_tell_29 : decode cX1_tell 29 = .ok (.iload 4, 2) := by decide +kernel
theorem dX1_tell_31 : decode cX1_tell 31 = .ok (.aload_n 0, 1) := by decide +kernel
theorem dX1_tell_32 : decode cX1_tell 32 = .ok (.getfield 22, 3) := by decide +kernel
theorem dX1_tell_35 : decode cX1_tell 35 = .ok (.if_icmp .ge 46, 3) := by decide +kernel
theorem dX1_tell_38 : decode cX1_tell 38 = .ok (.aload_n 0, 1) := by decide +kernel
theorem dX1_tell_39 : decode cX1_tell 39 = .ok (.iload 4, 2) := by decide +kernel
theorem dX1_tell_41 : decode cX1_tell 41 = .ok (.invokevirtual 34, 3) := by decide +kernel
theorem dX1_tell_44 : decode cX1_tell 44 = .ok (.ifCond .ne 10, 3) := by decide +kernel
theorem dX1_tell_47 : decode cX1_tell 47 = .ok (.sipush (-2000), 3) := by decide +kernel
theorem dX1_tell_50 : decode cX1_tell 50 = .ok (.iload 4, 2) := by decide +kernel
theorem dX1_tell_52 : decode cX1_tell 52 = .ok (.isub, 1) := by decide +kernel
theorem dX1_tell_53 : decode cX1_tell 53 = .ok (.ireturn, 1) := by decide +kernel
theorem dX1_tell_54 : decode cX1_tell 54 = .ok (.iinc 3 1, 3) := by decide +kernel
theorem dX1_tell_57 : decode cX1_tell 57 = .ok (.iload 4, 2) := by decide +kernel
theorem dX1_tell_59 : decode cX1_tell 59 = .ok (.iconst 2, 1) := by decide +kernel
theorem dX1_tell_60 : decode cX1_tell 60 = .ok (.iconst 0, 1) := by decide +kernel
theorem dX1_tell_61 : decode cX1_tell 61 = .ok (.aload_n 0, 1) := by decide +kernel
theorem dX1_tell_62 : decode cX1_tell 62 = .ok (.getfield 9, 3) := by decide +kernel
theorem dX1_tell_65 : decode cX1_tell 65 = .ok (.iload 4, 2) := by decide +kernel
theorem dX1_tell_67 : decode cX1_tell 67 = .ok (.iaload, 1) := by decide +kernel
theorem dX1_tell_68 : decode cX1_tell 68 = .ok (.invokestatic 38, 3) := by decide +kernel
theorem dX1_tell_71 : decode cX1_tell 71 = .ok (.invokestatic 42, 3) := by decide +kernel
theorem dX1_tell_74 : decode cX1_tell 74 = .ok (.iadd, 1) := by decide +kernel
theorem dX1_tell_75 : decode cX1_tell 75 = .ok (.iadd, 1) := by decide +kernel
theorem dX1_tell_76 : decode cX1_tell 76 = .ok (.istore 4, 2) := by decide +kernel
theorem dX1_tell_78 : decode cX1_tell 78 = .ok (.goto (-49), 3) := by decide +kernel
theorem dX1_tell_81 : decode cX1_tell 81 = .ok (.aload_n 1, 1) := by decide +kernel
theorem dX1_tell_82 : decode cX1_tell 82 = .ok (.aload_n 0, 1) := by decide +kernel
theorem dX1_tell_83 : decode cX1_tell 83 = .ok (.getfield 18, 3) := by decide +kernel
theorem dX1_tell_86 : decode cX1_tell 86 = .ok (.invokevirtual 30, 3) := by decide +kernel
theorem dX1_tell_89 : decode cX1_tell 89 = .ok (.iload_n 3, 1) := by decide +kernel
theorem dX1_tell_90 : decode cX1_tell 90 = .ok (.ireturn, 1) := by decide +kernel
theorem dX1_misspelt_0 : decode cX1_misspelt 0 = .ok (.iconst (-1), 1) := by decide +kernel
theorem dX1_misspelt_1 : decode cX1_misspelt 1 = .ok (.istore_n 1, 1) := by decide +kernel
theorem dX1_misspelt_2 : decode cX1_misspelt 2 = .ok (.iconst 0, 1) := by decide +kernel
theorem dX1_misspelt_3 : decode cX1_misspelt 3 = .ok (.istore_n 2, 1) := by decide +kernel
theorem dX1_misspelt_4 : decode cX1_misspelt 4 = .ok (.iload_n 2, 1) := by decide +kernel
theorem dX1_misspelt_5 : decode cX1_misspelt 5 = .ok (.aload_n 0, 1) := by decide +kernel
theorem dX1_misspelt_6 : decode cX1_misspelt 6 = .ok (.getfield 22, 3) := by decide +kernel
theorem dX1_misspelt_9 : decode cX1_misspelt 9 = .ok (.if_icmp .ge 66, 3) := by decide +kernel
theorem dX1_misspelt_12 : decode cX1_misspelt 12 = .ok (.aload_n 0, 1) := by decide +kernel
theorem dX1_misspelt_13 : decode cX1_misspelt 13 = .ok (.getfield 9, 3) := by decide +kernel
theorem dX1_misspelt_16 : decode cX1_misspelt 16 = .ok (.iload_n 2, 1) := by decide +kernel
theorem dX1_misspelt_17 : decode cX1_misspelt 17 = .ok (.iaload, 1) := by decide +kernel
theorem dX1_misspelt_18 : decode cX1_misspelt 18 = .ok (.istore_n 3, 1) := by decide +kernel
theorem dX1_misspelt_19 : decode cX1_misspelt 19 = .ok (.iload_n 1, 1) := by decide +kernel
theorem dX1_misspelt_20 : decode cX1_misspelt 20 = .ok (.iconst (-1), 1) := by decide +kernel
theorem dX1_misspelt_21 : decode cX1_misspelt 21 = .ok (.if_icmp .ne 14, 3) := by decide +kernel
theorem dX1_misspelt_24 : decode cX1_misspelt 24 = .ok (.iload_n 3, 1) := by decide +kernel
theorem dX1_misspelt_25 : decode cX1_misspelt 25 = .ok (.invokestatic 38, 3) := by decide +kernel
theorem dX1_misspelt_28 : decode cX1_misspelt 28 = .ok (.istore_n 1, 1) := by decide +kernel
theorem dX1_misspelt_29 : decode cX1_misspelt 29 = .ok (.iload_n 1, 1) := by decide +kernel
theorem dX1_misspelt_30 : decode cX1_misspelt 30 = .ok (.ifCond .ge 39, 3) := by decide +kernel
theorem dX1_misspelt_33 : decode cX1_misspelt 33 = .ok (.iload_n 2, 1) := by decide +kernel
theorem dX1_misspelt_34 : decode cX1_misspelt 34 = .ok (.ireturn, 1) := by decide +kernel
theorem dX1_misspelt_35 : decode cX1_misspelt 35 = .ok (.iload_n 1, 1) := by decide +kernel
theorem dX1_misspelt_36 : decode cX1_misspelt 36 = .ok (.ifCond .le 23, 3) := by decide +kernel
theorem dX1_misspelt_39 : decode cX1_misspelt 39 = .ok (.iload_n 3, 1) := by decide +kernel
theorem dX1_misspelt_40 : decode cX1_misspelt 40 = .ok (.bipush 48, 2) := by decide +kernel
theorem dX1_misspelt_42 : decode cX1_misspelt 42 = .ok (.if_icmp .lt 9, 3) := by decide +kernel
theorem dX1_misspelt_45 : decode cX1_misspelt 45 = .ok (.iload_n 3, 1) := by decide +kernel
theorem dX1_misspelt_46 : decode cX1_misspelt 46 = .ok (.bipush 57, 2) := by decide +kernel
theorem dX1_misspelt_48 : decode cX1_misspelt 48 = .ok (.if_icmp .le 5, 3) := by decide +kernel
theorem dX1_misspelt_51 : decode cX1_misspelt 51 = .ok (.iload_n 2, 1) := by decide +kernel
theorem dX1_misspelt_52 : decode cX1_misspelt 52 = .ok (.ireturn, 1) := by decide +kernel
theorem dX1_misspelt_53 : decode cX1_misspelt 53 = .ok (.iinc 1 (-1), 3) := by decide +kernel
theorem dX1_misspelt_56 : decode cX1_misspelt 56 = .ok (.goto 13, 3) := by decide +kernel
theorem dX1_misspelt_59 : decode cX1_misspelt 59 = .ok (.iload_n 3, 1) := by decide +kernel
theorem dX1_misspelt_60 : decode cX1_misspelt 60 = .ok (.bipush 59, 2) := by decide +kernel
theorem dX1_misspelt_62 : decode cX1_misspelt 62 = .ok (.if_icmp .eq 5, 3) := by decide +kernel
theorem dX1_misspelt_65 : decode cX1_misspelt 65 = .ok (.iload_n 2, 1) := by decide +kernel
theorem dX1_misspelt_66 : decode cX1_misspelt 66 = .ok (.ireturn, 1) := by decide +kernel
theorem dX1_misspelt_67 : decode cX1_misspelt 67 = .ok (.iconst (-1), 1) := by decide +kernel
theorem dX1_misspelt_68 : decode cX1_misspelt 68 = .ok (.istore_n 1, 1) := by decide +kernel
theorem dX1_misspelt_69 : decode cX1_misspelt 69 = .ok (.iinc 2 1, 3) := by decide +kernel
theorem dX1_misspelt_72 : decode cX1_misspelt 72 = .ok (.goto (-68), 3) := by decide +kernel
theorem dX1_misspelt_75 : decode cX1_misspelt 75 = .ok (.aload_n 0, 1) := by decide +kernel
theorem dX1_misspelt_76 : decode cX1_misspelt 76 = .ok (.getfield 22, 3) := by decide +kernel
theorem dX1_misspelt_79 : decode cX1_misspelt 79 = .ok (.ifCond .le 12, 3) := by decide +kernel
theorem dX1_misspelt_82 : decode cX1_misspelt 82 = .ok (.iload_n 1, 1) := by decide +kernel
theorem dX1_misspelt_83 : decode cX1_misspelt 83 = .ok (.iconst (-1), 1) := by decide +kernel
theorem dX1_misspelt_84 : decode cX1_misspelt 84 = .ok (.if_icmp .ne 7, 3) := by decide +kernel
theorem dX1_misspelt_87 : decode cX1_misspelt 87 = .ok (.iconst (-1), 1) := by decide +kernel
theorem dX1_misspelt_88 : decode cX1_misspelt 88 = .ok (.goto 7, 3) := by decide +kernel
theorem dX1_misspelt_91 : decode cX1_misspelt 91 = .ok (.aload_n 0, 1) := by decide +kernel
theorem dX1_misspelt_92 : decode cX1_misspelt 92 = .ok (.getfield 22, 3) := by decide +kernel
theorem dX1_misspelt_95 : decode cX1_misspelt 95 = .ok (.ireturn, 1) := by decide +kernel
theorem dX1_digitsBehind_0 : decode cX1_digitsBehind 0 = .ok (.iload_n 0, 1) := by decide +kernel
theorem dX1_digitsBehind_1 : decode cX1_digitsBehind 1 = .ok (.lookupswitch 49 #[(102, 45), (108, 47), (110, 43), (118, 47)], 43) := by decide +kernel
theorem dX1_digitsBehind_44 : decode cX1_digitsBehind 44 = .ok (.iconst 1, 1) := by decide +kernel
theorem dX1_digitsBehind_45 : decode cX1_digitsBehind 45 = .ok (.ireturn, 1) := by decide +kernel
theorem dX1_digitsBehind_46 : decode cX1_digitsBehind 46 = .ok (.iconst 2, 1) := by decide +kernel
theorem dX1_digitsBehind_47 : decode cX1_digitsBehind 47 = .ok (.ireturn, 1) := by decide +kernel
theorem dX1_digitsBehind_48 : decode cX1_digitsBehind 48 = .ok (.iconst 3, 1) := by decide +kernel
theorem dX1_digitsBehind_49 : decode cX1_digitsBehind 49 = .ok (.ireturn, 1) := by decide +kernel
theorem dX1_digitsBehind_50 : decode cX1_digitsBehind 50 = .ok (.iconst (-1), 1) := by decide +kernel
theorem dX1_digitsBehind_51 : decode cX1_digitsBehind 51 = .ok (.ireturn, 1) := by decide +kernel
theorem dX1_digit_0 : decode cX1_digit 0 = .ok (.iload_n 1, 1) := by decide +kernel
theorem dX1_digit_1 : decode cX1_digit 1 = .ok (.aload_n 0, 1) := by decide +kernel
theorem dX1_digit_2 : decode cX1_digit 2 = .ok (.getfield 22, 3) := by decide +kernel
theorem dX1_digit_5 : decode cX1_digit 5 = .ok (.if_icmp .ge 15, 3) := by decide +kernel
theorem dX1_digit_8 : decode cX1_digit 8 = .ok (.aload_n 0, 1) := by decide +kernel
theorem dX1_digit_9 : decode cX1_digit 9 = .ok (.getfield 9, 3) := by decide +kernel
theorem dX1_digit_12 : decode cX1_digit 12 = .ok (.iload_n 1, 1) := by decide +kernel
theorem dX1_digit_13 : decode cX1_digit 13 = .ok (.iaload, 1) := by decide +kernel
theorem dX1_digit_14 : decode cX1_digit 14 = .ok (.bipush 48, 2) := by decide +kernel
theorem dX1_digit_16 : decode cX1_digit 16 = .ok (.isub, 1) := by decide +kernel
theorem dX1_digit_17 : decode cX1_digit 17 = .ok (.goto 4, 3) := by decide +kernel
theorem dX1_digit_20 : decode cX1_digit 20 = .ok (.iconst 0, 1) := by decide +kernel
theorem dX1_digit_21 : decode cX1_digit 21 = .ok (.ireturn, 1) := by decide +kernel
theorem dX1_comes_0 : decode cX1_comes 0 = .ok (.aload_n 0, 1) := by decide +kernel
theorem dX1_comes_1 : decode cX1_comes 1 = .ok (.iload_n 1, 1) := by decide +kernel
theorem dX1_comes_2 : decode cX1_comes 2 = .ok (.iconst 1, 1) := by decide +kernel
theorem dX1_comes_3 : decode cX1_comes 3 = .ok (.iadd, 1) := by decide +kernel
theorem dX1_comes_4 : decode cX1_comes 4 = .ok (.invokevirtual 48, 3) := by decide +kernel
theorem dX1_comes_7 : decode cX1_comes 7 = .ok (.istore_n 2, 1) := by decide +kernel
theorem dX1_comes_8 : decode cX1_comes 8 = .ok (.aload_n 0, 1) := by decide +kernel
theorem dX1_comes_9 : decode cX1_comes 9 = .ok (.iload_n 1, 1) := by decide +kernel
theorem dX1_comes_10 : decode cX1_comes 10 = .ok (.iconst 2, 1) := by decide +kernel
theorem dX1_comes_11 : decode cX1_comes 11 = .ok (.iadd, 1) := by decide +kernel
theorem dX1_comes_12 : decode cX1_comes 12 = .ok (.invokevirtual 48, 3) := by decide +kernel
theorem dX1_comes_15 : decode cX1_comes 15 = .ok (.istore_n 3, 1) := by decide +kernel
theorem dX1_comes_16 : decode cX1_comes 16 = .ok (.aload_n 0, 1) := by decide +kernel
theorem dX1_comes_17 : decode cX1_comes 17 = .ok (.iload_n 1, 1) := by decide +kernel
theorem dX1_comes_18 : decode cX1_comes 18 = .ok (.iconst 3, 1) := by decide +kernel
theorem dX1_comes_19 : decode cX1_comes 19 = .ok (.iadd, 1) := by decide +kernel
theorem dX1_comes_20 : decode cX1_comes 20 = .ok (.invokevirtual 48, 3) := by decide +kernel
theorem dX1_comes_23 : decode cX1_comes 23 = .ok (.istore 4, 2) := by decide +kernel
theorem dX1_comes_25 : decode cX1_comes 25 = .ok (.aload_n 0, 1) := by decide +kernel
theorem dX1_comes_26 : decode cX1_comes 26 = .ok (.getfield 9, 3) := by decide +kernel
theorem dX1_comes_29 : decode cX1_comes 29 = .ok (.iload_n 1, 1) := by decide +kernel
theorem dX1_comes_30 : decode cX1_comes 30 = .ok (.iaload, 1) := by decide +kernel
theorem dX1_comes_31 : decode cX1_comes 31 = .ok (.lookupswitch 55 #[(102, 48), (108, 39), (110, 33)], 33) := by decide +kernel
theorem dX1_comes_64 : decode cX1_comes 64 = .ok (.aload_n 0, 1) := by decide +kernel
theorem dX1_comes_65 : decode cX1_comes 65 = .ok (.iload_n 2, 1) := by decide +kernel
theorem dX1_comes_66 : decode cX1_comes 66 = .ok (.invokevirtual 51, 3) := by decide +kernel
theorem dX1_comes_69 : decode cX1_comes 69 = .ok (.ireturn, 1) := by decide +kernel
theorem dX1_comes_70 : decode cX1_comes 70 = .ok (.aload_n 0, 1) := by decide +kernel
theorem dX1_comes_71 : decode cX1_comes 71 = .ok (.iload_n 2, 1) := by decide +kernel
theorem dX1_comes_72 : decode cX1_comes 72 = .ok (.iload_n 3, 1) := by decide +kernel
theorem dX1_comes_73 : decode cX1_comes 73 = .ok (.iload 4, 2) := by decide +kernel
theorem dX1_comes_75 : decode cX1_comes 75 = .ok (.invokevirtual 54, 3) := by decide +kernel
theorem dX1_comes_78 : decode cX1_comes 78 = .ok (.ireturn, 1) := by decide +kernel
theorem dX1_comes_79 : decode cX1_comes 79 = .ok (.aload_n 0, 1) := by decide +kernel
theorem dX1_comes_80 : decode cX1_comes 80 = .ok (.iload_n 2, 1) := by decide +kernel
theorem dX1_comes_81 : decode cX1_comes 81 = .ok (.iload_n 3, 1) := by decide +kernel
theorem dX1_comes_82 : decode cX1_comes 82 = .ok (.invokevirtual 58, 3) := by decide +kernel
theorem dX1_comes_85 : decode cX1_comes 85 = .ok (.ireturn, 1) := by decide +kernel
theorem dX1_comes_86 : decode cX1_comes 86 = .ok (.aload_n 0, 1) := by decide +kernel
theorem dX1_comes_87 : decode cX1_comes 87 = .ok (.iload_n 2, 1) := by decide +kernel
theorem dX1_comes_88 : decode cX1_comes 88 = .ok (.bipush 10, 2) := by decide +kernel
theorem dX1_comes_90 : decode cX1_comes 90 = .ok (.iload_n 3, 1) := by decide +kernel
theorem dX1_comes_91 : decode cX1_comes 91 = .ok (.imul, 1) := by decide +kernel
theorem dX1_comes_92 : decode cX1_comes 92 = .ok (.iload 4, 2) := by decide +kernel
theorem dX1_comes_94 : decode cX1_comes 94 = .ok (.iadd, 1) := by decide +kernel
theorem dX1_comes_95 : decode cX1_comes 95 = .ok (.invokevirtual 62, 3) := by decide +kernel
theorem dX1_comes_98 : decode cX1_comes 98 = .ok (.ireturn, 1) := by decide +kernel
theorem dX1_comesPoints_0 : decode cX1_comesPoints 0 = .ok (.iload_n 1, 1) := by decide +kernel
theorem dX1_comesPoints_1 : decode cX1_comesPoints 1 = .ok (.iconst 1, 1) := by decide +kernel
theorem dX1_comesPoints_2 : decode cX1_comesPoints 2 = .ok (.if_icmp .lt 9, 3) := by decide +kernel
theorem dX1_comesPoints_5 : decode cX1_comesPoints 5 = .ok (.iload_n 1, 1) := by decide +kernel
theorem dX1_comesPoints_6 : decode cX1_comesPoints 6 = .ok (.bipush 7, 2) := by decide +kernel
theorem dX1_comesPoints_8 : decode cX1_comesPoints 8 = .ok (.if_icmp .le 5, 3) := by decide +kernel
theorem dX1_comesPoints_11 : decode cX1_comesPoints 11 = .ok (.iconst 0, 1) := by decide +kernel
theorem dX1_comesPoints_12 : decode cX1_comesPoints 12 = .ok (.ireturn, 1) := by decide +kernel
theorem dX1_comesPoints_13 : decode cX1_comesPoints 13 = .ok (.aload_n 0, 1) := by decide +kernel
theorem dX1_comesPoints_14 : decode cX1_comesPoints 14 = .ok (.getfield 18, 3) := by decide +kernel
theorem dX1_comesPoints_17 : decode cX1_comesPoints 17 = .ok (.iload_n 1, 1) := by decide +kernel
theorem dX1_comesPoints_18 : decode cX1_comesPoints 18 = .ok (.invokevirtual 65, 3) := by decide +kernel
theorem dX1_comesPoints_21 : decode cX1_comesPoints 21 = .ok (.iconst 1, 1) := by decide +kernel
theorem dX1_comesPoints_22 : decode cX1_comesPoints 22 = .ok (.ireturn, 1) := by decide +kernel
theorem dX1_comesLine_0 : decode cX1_comesLine 0 = .ok (.iload_n 1, 1) := by decide +kernel
theorem dX1_comesLine_1 : decode cX1_comesLine 1 = .ok (.invokestatic 69, 3) := by decide +kernel
theorem dX1_comesLine_4 : decode cX1_comesLine 4 = .ok (.ifCond .eq 37, 3) := by decide +kernel
theorem dX1_comesLine_7 : decode cX1_comesLine 7 = .ok (.aload_n 0, 1) := by decide +kernel
theorem dX1_comesLine_8 : decode cX1_comesLine 8 = .ok (.getfield 18, 3) := by decide +kernel
theorem dX1_comesLine_11 : decode cX1_comesLine 11 = .ok (.iload_n 2, 1) := by decide +kernel
theorem dX1_comesLine_12 : decode cX1_comesLine 12 = .ok (.invokevirtual 72, 3) := by decide +kernel
theorem dX1_comesLine_15 : decode cX1_comesLine 15 = .ok (.ifCond .eq 26, 3) := by decide +kernel
theorem dX1_comesLine_18 : decode cX1_comesLine 18 = .ok (.aload_n 0, 1) := by decide +kernel
theorem dX1_comesLine_19 : decode cX1_comesLine 19 = .ok (.getfield 18, 3) := by decide +kernel
theorem dX1_comesLine_22 : decode cX1_comesLine 22 = .ok (.iload_n 3, 1) := by decide +kernel
theorem dX1_comesLine_23 : decode cX1_comesLine 23 = .ok (.invokevirtual 72, 3) := by decide +kernel
theorem dX1_comesLine_26 : decode cX1_comesLine 26 = .ok (.ifCond .eq 15, 3) := by decide +kernel
theorem dX1_comesLine_29 : decode cX1_comesLine 29 = .ok (.aload_n 0, 1) := by decide +kernel
theorem dX1_comesLine_30 : decode cX1_comesLine 30 = .ok (.getfield 18, 3) := by decide +kernel
theorem dX1_comesLine_33 : decode cX1_comesLine 33 = .ok (.getfield 75, 3) := by decide +kernel
theorem dX1_comesLine_36 : decode cX1_comesLine 36 = .ok (.bipush 8, 2) := by decide +kernel
theorem dX1_comesLine_38 : decode cX1_comesLine 38 = .ok (.if_icmp .lt 5, 3) := by decide +kernel
theorem dX1_comesLine_41 : decode cX1_comesLine 41 = .ok (.iconst 0, 1) := by decide +kernel
theorem dX1_comesLine_42 : decode cX1_comesLine 42 = .ok (.ireturn, 1) := by decide +kernel
theorem dX1_comesLine_43 : decode cX1_comesLine 43 = .ok (.aload_n 0, 1) := by decide +kernel
theorem dX1_comesLine_44 : decode cX1_comesLine 44 = .ok (.getfield 18, 3) := by decide +kernel
theorem dX1_comesLine_47 : decode cX1_comesLine 47 = .ok (.iload_n 1, 1) := by decide +kernel
theorem dX1_comesLine_48 : decode cX1_comesLine 48 = .ok (.iload_n 2, 1) := by decide +kernel
theorem dX1_comesLine_49 : decode cX1_comesLine 49 = .ok (.iload_n 3, 1) := by decide +kernel
theorem dX1_comesLine_50 : decode cX1_comesLine 50 = .ok (.invokevirtual 78, 3) := by decide +kernel
theorem dX1_comesLine_53 : decode cX1_comesLine 53 = .ok (.iconst 1, 1) := by decide +kernel
theorem dX1_comesLine_54 : decode cX1_comesLine 54 = .ok (.ireturn, 1) := by decide +kernel
theorem dX1_comesFigure_0 : decode cX1_comesFigure 0 = .ok (.aload_n 0, 1) := by decide +kernel
theorem dX1_comesFigure_1 : decode cX1_comesFigure 1 = .ok (.getfield 18, 3) := by decide +kernel
theorem dX1_comesFigure_4 : decode cX1_comesFigure 4 = .ok (.iload_n 1, 1) := by decide +kernel
theorem dX1_comesFigure_5 : decode cX1_comesFigure 5 = .ok (.invokevirtual 82, 3) := by decide +kernel
theorem dX1_comesFigure_8 : decode cX1_comesFigure 8 = .ok (.ifCond .ne 5, 3) := by decide +kernel
theorem dX1_comesFigure_11 : decode cX1_comesFigure 11 = .ok (.iconst 0, 1) := by decide +kernel
theorem dX1_comesFigure_12 : decode cX1_comesFigure 12 = .ok (.ireturn, 1) := by decide +kernel
theorem dX1_comesFigure_13 : decode cX1_comesFigure 13 = .ok (.aload_n 0, 1) := by decide +kernel
theorem dX1_comesFigure_14 : decode cX1_comesFigure 14 = .ok (.getfield 18, 3) := by decide +kernel
theorem dX1_comesFigure_17 : decode cX1_comesFigure 17 = .ok (.getfield 85, 3) := by decide +kernel
theorem dX1_comesFigure_20 : decode cX1_comesFigure 20 = .ok (.iload_n 1, 1) := by decide +kernel
theorem dX1_comesFigure_21 : decode cX1_comesFigure 21 = .ok (.iload_n 2, 1) := by decide +kernel
theorem dX1_comesFigure_22 : decode cX1_comesFigure 22 = .ok (.iastore, 1) := by decide +kernel
theorem dX1_comesFigure_23 : decode cX1_comesFigure 23 = .ok (.iconst 1, 1) := by decide +kernel
theorem dX1_comesFigure_24 : decode cX1_comesFigure 24 = .ok (.ireturn, 1) := by decide +kernel
theorem dX1_comesLabel_0 : decode cX1_comesLabel 0 = .ok (.aload_n 0, 1) := by decide +kernel
theorem dX1_comesLabel_1 : decode cX1_comesLabel 1 = .ok (.getfield 18, 3) := by decide +kernel
theorem dX1_comesLabel_4 : decode cX1_comesLabel 4 = .ok (.iload_n 1, 1) := by decide +kernel
theorem dX1_comesLabel_5 : decode cX1_comesLabel 5 = .ok (.invokevirtual 82, 3) := by decide +kernel
theorem dX1_comesLabel_8 : decode cX1_comesLabel 8 = .ok (.ifCond .ne 5, 3) := by decide +kernel
theorem dX1_comesLabel_11 : decode cX1_comesLabel 11 = .ok (.iconst 0, 1) := by decide +kernel
theorem dX1_comesLabel_12 : decode cX1_comesLabel 12 = .ok (.ireturn, 1) := by decide +kernel
theorem dX1_comesLabel_13 : decode cX1_comesLabel 13 = .ok (.aload_n 0, 1) := by decide +kernel
theorem dX1_comesLabel_14 : decode cX1_comesLabel 14 = .ok (.getfield 18, 3) := by decide +kernel
theorem dX1_comesLabel_17 : decode cX1_comesLabel 17 = .ok (.getfield 88, 3) := by decide +kernel
theorem dX1_comesLabel_20 : decode cX1_comesLabel 20 = .ok (.iload_n 1, 1) := by decide +kernel
theorem dX1_comesLabel_21 : decode cX1_comesLabel 21 = .ok (.iload_n 2, 1) := by decide +kernel
theorem dX1_comesLabel_22 : decode cX1_comesLabel 22 = .ok (.iastore, 1) := by decide +kernel
theorem dX1_comesLabel_23 : decode cX1_comesLabel 23 = .ok (.iconst 1, 1) := by decide +kernel
theorem dX1_comesLabel_24 : decode cX1_comesLabel 24 = .ok (.ireturn, 1) := by decide +kernel
theorem dX2_init_0 : decode cX2_init 0 = .ok (.aload_n 0, 1) := by decide +kernel
theorem dX2_init_1 : decode cX2_init 1 = .ok (.invokespecial 3, 3) := by decide +kernel
theorem dX2_init_4 : decode cX2_init 4 = .ok (.aload_n 0, 1) := by decide +kernel
theorem dX2_init_5 : decode cX2_init 5 = .ok (.iconst 3, 1) := by decide +kernel
theorem dX2_init_6 : decode cX2_init 6 = .ok (.bipush 40, 2) := by decide +kernel
theorem dX2_init_8 : decode cX2_init 8 = .ok (.multianewarray 9 2, 4) := by decide +kernel
theorem dX2_init_12 : decode cX2_init 12 = .ok (.putfield 11, 3) := by decide +kernel
theorem dX2_init_15 : decode cX2_init 15 = .ok (.aload_n 0, 1) := by decide +kernel
theorem dX2_init_16 : decode cX2_init 16 = .ok (.iconst 3, 1) := by decide +kernel
theorem dX2_init_17 : decode cX2_init 17 = .ok (.newarray .int, 2) := by decide +kernel
theorem dX2_init_19 : decode cX2_init 19 = .ok (.putfield 16, 3) := by decide +kernel
theorem dX2_init_22 : decode cX2_init 22 = .ok (.iconst 0, 1) := by decide +kernel
theorem dX2_init_23 : decode cX2_init 23 = .ok (.istore_n 1, 1) := by decide +kernel
theorem dX2_init_24 : decode cX2_init 24 = .ok (.iload_n 1, 1) := by decide +kernel
theorem dX2_init_25 : decode cX2_init 25 = .ok (.iconst 3, 1) := by decide +kernel
theorem dX2_init_26 : decode cX2_init 26 = .ok (.if_icmp .ge 16, 3) := by decide +kernel
theorem dX2_init_29 : decode cX2_init 29 = .ok (.aload_n 0, 1) := by decide +kernel
theorem dX2_init_30 : decode cX2_init 30 = .ok (.getfield 16, 3) := by decide +kernel
theorem dX2_init_33 : decode cX2_init 33 = .ok (.iload_n 1, 1) := by decide +kernel
theorem dX2_init_34 : decode cX2_init 34 = .ok (.iconst (-1), 1) := by decide +kernel
theorem dX2_init_35 : decode cX2_init 35 = .ok (.iastore, 1) := by decide +kernel
theorem dX2_init_36 : decode cX2_init 36 = .ok (.iinc 1 1, 3) := by decide +kernel
theorem dX2_init_39 : decode cX2_init 39 = .ok (.goto (-15), 3) := by decide +kernel
theorem dX2_init_42 : decode cX2_init 42 = .ok (.return_, 1) := by decide +kernel
theorem dX2_isMissing_0 : decode cX2_isMissing 0 = .ok (.aload_n 0, 1) := by decide +kernel
theorem dX2_isMissing_1 : decode cX2_isMissing 1 = .ok (.getfield 16, 3) := by decide +kernel
theorem dX2_isMissing_4 : decode cX2_isMissing 4 = .ok (.iload_n 1, 1) := by decide +kernel
theorem dX2_isMissing_5 : decode cX2_isMissing 5 = .ok (.iaload, 1) := by decide +kernel
theorem dX2_isMissing_6 : decode cX2_isMissing 6 = .ok (.ifCond .ge 7, 3) := by decide +kernel
theorem dX2_isMissing_9 : decode cX2_isMissing 9 = .ok (.iconst 1, 1) := by decide +kernel
theorem dX2_isMissing_10 : decode cX2_isMissing 10 = .ok (.goto 4, 3) := by decide +kernel
theorem dX2_isMissing_13 : decode cX2_isMissing 13 = .ok (.iconst 0, 1) := by decide +kernel
theorem dX2_isMissing_14 : decode cX2_isMissing 14 = .ok (.ireturn, 1) := by decide +kernel
theorem dX2_renew_0 : decode cX2_renew 0 = .ok (.iconst 0, 1) := by decide +kernel
theorem dX2_renew_1 : decode cX2_renew 1 = .ok (.istore_n 3, 1) := by decide +kernel
theorem dX2_renew_2 : decode cX2_renew 2 = .ok (.iload_n 3, 1) := by decide +kernel
theorem dX2_renew_3 : decode cX2_renew 3 = .ok (.iload_n 2, 1) := by decide +kernel
theorem dX2_renew_4 : decode cX2_renew 4 = .ok (.if_icmp .ge 18, 3) := by decide +kernel
theorem dX2_renew_7 : decode cX2_renew 7 = .ok (.aload_n 0, 1) := by decide +kernel
theorem dX2_renew_8 : decode cX2_renew 8 = .ok (.getfield 11, 3) := by decide +kernel
theorem dX2_renew_11 : decode cX2_renew 11 = .ok (.iload_n 1, 1) := by decide +kernel
theorem dX2_renew_12 : decode cX2_renew 12 = .ok (.aaload, 1) := by decide +kernel
theorem dX2_renew_13 : decode cX2_renew 13 = .ok (.iload_n 3, 1) := by decide +kernel
theorem dX2_renew_14 : decode cX2_renew 14 = .ok (.iconst 0, 1) := by decide +kernel
theorem dX2_renew_15 : decode cX2_renew 15 = .ok (.iastore, 1) := by decide +kernel
theorem dX2_renew_16 : decode cX2_renew 16 = .ok (.iinc 3 1, 3) := by decide +kernel
theorem dX2_renew_19 : decode cX2_renew 19 = .ok (.goto (-17), 3) := by decide +kernel
theorem dX2_renew_22 : decode cX2_renew 22 = .ok (.aload_n 0, 1) := by decide +kernel
theorem dX2_renew_23 : decode cX2_renew 23 = .ok (.getfield 16, 3) := by decide +kernel
theorem dX2_renew_26 : decode cX2_renew 26 = .ok (.iload_n 1, 1) := by decide +kernel
theorem dX2_renew_27 : decode cX2_renew 27 = .ok (.iload_n 2, 1) := by decide +kernel
theorem dX2_renew_28 : decode cX2_renew 28 = .ok (.iastore, 1) := by decide +kernel
theorem dX2_renew_29 : decode cX2_renew 29 = .ok (.return_, 1) := by decide +kernel
theorem dX2_allWithin_0 : decode cX2_allWithin 0 = .ok (.iconst 0, 1) := by decide +kernel
theorem dX2_allWithin_1 : decode cX2_allWithin 1 = .ok (.istore 4, 2) := by decide +kernel
theorem dX2_allWithin_3 : decode cX2_allWithin 3 = .ok (.iload 4, 2) := by decide +kernel
theorem dX2_allWithin_5 : decode cX2_allWithin 5 = .ok (.aload_n 0, 1) := by decide +kernel
theorem dX2_allWithin_6 : decode cX2_allWithin 6 = .ok (.getfield 16, 3) := by decide +kernel
theorem dX2_allWithin_9 : decode cX2_allWithin 9 = .ok (.iload_n 1, 1) := by decide +kernel
theorem dX2_allWithin_10 : decode cX2_allWithin 10 = .ok (.iaload, 1) := by decide +kernel
theorem dX2_allWithin_11 : decode cX2_allWithin 11 = .ok (.if_icmp .ge 37, 3) := by decide +kernel
theorem dX2_allWithin_14 : decode cX2_allWithin 14 = .ok (.aload_n 0, 1) := by decide +kernel
theorem dX2_allWithin_15 : decode cX2_allWithin 15 = .ok (.getfield 11, 3) := by decide +kernel
theorem dX2_allWithin_18 : decode cX2_allWithin 18 = .ok (.iload_n 1, 1) := by decide +kernel
theorem dX2_allWithin_19 : decode cX2_allWithin 19 = .ok (.aaload, 1) := by decide +kernel
theorem dX2_allWithin_20 : decode cX2_allWithin 20 = .ok (.iload 4, 2) := by decide +kernel
theorem dX2_allWithin_22 : decode cX2_allWithin 22 = .ok (.iaload, 1) := by decide +kernel
theorem dX2_allWithin_23 : decode cX2_allWithin 23 = .ok (.iload_n 2, 1) := by decide +kernel
theorem dX2_allWithin_24 : decode cX2_allWithin 24 = .ok (.if_icmp .lt 16, 3) := by decide +kernel
theorem dX2_allWithin_27 : decode cX2_allWithin 27 = .ok (.aload_n 0, 1) := by decide +kernel
theorem dX2_allWithin_28 : decode cX2_allWithin 28 = .ok (.getfield 11, 3) := by decide +kernel
theorem dX2_allWithin_31 : decode cX2_allWithin 31 = .ok (.iload_n 1, 1) := by decide +kernel
theorem dX2_allWithin_32 : decode cX2_allWithin 32 = .ok (.aaload, 1) := by decide +kernel
theorem dX2_allWithin_33 : decode cX2_allWithin 33 = .ok (.iload 4, 2) := by decide +kernel
theorem dX2_allWithin_35 : decode cX2_allWithin 35 = .ok (.iaload, 1) := by decide +kernel
theorem dX2_allWithin_36 : decode cX2_allWithin 36 = .ok (.iload_n 3, 1) := by decide +kernel
theorem dX2_allWithin_37 : decode cX2_allWithin 37 = .ok (.if_icmp .le 5, 3) := by decide +kernel
theorem dX2_allWithin_40 : decode cX2_allWithin 40 = .ok (.iconst 0, 1) := by decide +kernel
theorem dX2_allWithin_41 : decode cX2_allWithin 41 = .ok (.ireturn, 1) := by decide +kernel
theorem dX2_allWithin_42 : decode cX2_allWithin 42 = .ok (.iinc 4 1, 3) := by decide +kernel
theorem dX2_allWithin_45 : decode cX2_allWithin 45 = .ok (.goto (-42), 3) := by decide +kernel
theorem dX2_allWithin_48 : decode cX2_allWithin 48 = .ok (.iconst 1, 1) := by decide +kernel
theorem dX2_allWithin_49 : decode cX2_allWithin 49 = .ok (.ireturn, 1) := by decide +kernel
theorem dX3_init_0 : decode cX3_init 0 = .ok (.aload_n 0, 1) := by decide +kernel
theorem dX3_init_1 : decode cX3_init 1 = .ok (.invokespecial 3, 3) := by decide +kernel
theorem dX3_init_4 : decode cX3_init 4 = .ok (.aload_n 0, 1) := by decide +kernel
theorem dX3_init_5 : decode cX3_init 5 = .ok (.iconst 4, 1) := by decide +kernel
theorem dX3_init_6 : decode cX3_init 6 = .ok (.putfield 9, 3) := by decide +kernel
theorem dX3_init_9 : decode cX3_init 9 = .ok (.aload_n 0, 1) := by decide +kernel
theorem dX3_init_10 : decode cX3_init 10 = .ok (.iconst 0, 1) := by decide +kernel
theorem dX3_init_11 : decode cX3_init 11 = .ok (.putfield 15, 3) := by decide +kernel
theorem dX3_init_14 : decode cX3_init 14 = .ok (.aload_n 0, 1) := by decide +kernel
theorem dX3_init_15 : decode cX3_init 15 = .ok (.bipush 8, 2) := by decide +kernel
theorem dX3_init_17 : decode cX3_init 17 = .ok (.newarray .int, 2) := by decide +kernel
theorem dX3_init_19 : decode cX3_init 19 = .ok (.putfield 18, 3) := by decide +kernel
theorem dX3_init_22 : decode cX3_init 22 = .ok (.aload_n 0, 1) := by decide +kernel
theorem dX3_init_23 : decode cX3_init 23 = .ok (.bipush 8, 2) := by decide +kernel
theorem dX3_init_25 : decode cX3_init 25 = .ok (.newarray .int, 2) := by decide +kernel
theorem dX3_init_27 : decode cX3_init 27 = .ok (.putfield 22, 3) := by decide +kernel
theorem dX3_init_30 : decode cX3_init 30 = .ok (.aload_n 0, 1) := by decide +kernel
theorem dX3_init_31 : decode cX3_init 31 = .ok (.bipush 8, 2) := by decide +kernel
theorem dX3_init_33 : decode cX3_init 33 = .ok (.newarray .int, 2) := by decide +kernel
theorem dX3_init_35 : decode cX3_init 35 = .ok (.putfield 25, 3) := by decide +kernel
theorem dX3_init_38 : decode cX3_init 38 = .ok (.aload_n 0, 1) := by decide +kernel
theorem dX3_init_39 : decode cX3_init 39 = .ok (.bipush 8, 2) := by decide +kernel
theorem dX3_init_41 : decode cX3_init 41 = .ok (.newarray .int, 2) := by decide +kernel
theorem dX3_init_43 : decode cX3_init 43 = .ok (.putfield 28, 3) := by decide +kernel
theorem dX3_init_46 : decode cX3_init 46 = .ok (.aload_n 0, 1) := by decide +kernel
theorem dX3_init_47 : decode cX3_init 47 = .ok (.bipush 8, 2) := by decide +kernel
theorem dX3_init_49 : decode cX3_init 49 = .ok (.newarray .int, 2) := by decide +kernel
theorem dX3_init_51 : decode cX3_init 51 = .ok (.putfield 31, 3) := by decide +kernel
theorem dX3_init_54 : decode cX3_init 54 = .ok (.return_, 1) := by decide +kernel
theorem dX3_hasPoint_0 : decode cX3_hasPoint 0 = .ok (.iload_n 1, 1) := by decide +kernel
theorem dX3_hasPoint_1 : decode cX3_hasPoint 1 = .ok (.ifCond .lt 15, 3) := by decide +kernel
theorem dX3_hasPoint_4 : decode cX3_hasPoint 4 = .ok (.iload_n 1, 1) := by decide +kernel
theorem dX3_hasPoint_5 : decode cX3_hasPoint 5 = .ok (.aload_n 0, 1) := by decide +kernel
theorem dX3_hasPoint_6 : decode cX3_hasPoint 6 = .ok (.getfield 9, 3) := by decide +kernel
theorem dX3_hasPoint_9 : decode cX3_hasPoint 9 = .ok (.if_icmp .ge 7, 3) := by decide +kernel
theorem dX3_hasPoint_12 : decode cX3_hasPoint 12 = .ok (.iconst 1, 1) := by decide +kernel
theorem dX3_hasPoint_13 : decode cX3_hasPoint 13 = .ok (.goto 4, 3) := by decide +kernel
theorem dX3_hasPoint_16 : decode cX3_hasPoint 16 = .ok (.iconst 0, 1) := by decide +kernel
theorem dX3_hasPoint_17 : decode cX3_hasPoint 17 = .ok (.ireturn, 1) := by decide +kernel
theorem dX3_hasLine_0 : decode cX3_hasLine 0 = .ok (.iload_n 1, 1) := by decide +kernel
theorem dX3_hasLine_1 : decode cX3_hasLine 1 = .ok (.ifCond .lt 15, 3) := by decide +kernel
theorem dX3_hasLine_4 : decode cX3_hasLine 4 = .ok (.iload_n 1, 1) := by decide +kernel
theorem dX3_hasLine_5 : decode cX3_hasLine 5 = .ok (.aload_n 0, 1) := by decide +kernel
theorem dX3_hasLine_6 : decode cX3_hasLine 6 = .ok (.getfield 15, 3) := by decide +kernel
theorem dX3_hasLine_9 : decode cX3_hasLine 9 = .ok (.if_icmp .ge 7, 3) := by decide +kernel
theorem dX3_hasLine_12 : decode cX3_hasLine 12 = .ok (.iconst 1, 1) := by decide +kernel
theorem dX3_hasLine_13 : decode cX3_hasLine 13 = .ok (.goto 4, 3) := by decide +kernel
theorem dX3_hasLine_16 : decode cX3_hasLine 16 = .ok (.iconst 0, 1) := by decide +kernel
theorem dX3_hasLine_17 : decode cX3_hasLine 17 = .ok (.ireturn, 1) := by decide +kernel
theorem dX3_restart_0 : decode cX3_restart 0 = .ok (.aload_n 0, 1) := by decide +kernel
theorem dX3_restart_1 : decode cX3_restart 1 = .ok (.iload_n 1, 1) := by decide +kernel
theorem dX3_restart_2 : decode cX3_restart 2 = .ok (.putfield 9, 3) := by decide +kernel
theorem dX3_restart_5 : decode cX3_restart 5 = .ok (.aload_n 0, 1) := by decide +kernel
theorem dX3_restart_6 : decode cX3_restart 6 = .ok (.iconst 0, 1) := by decide +kernel
theorem dX3_restart_7 : decode cX3_restart 7 = .ok (.putfield 15, 3) := by decide +kernel
theorem dX3_restart_10 : decode cX3_restart 10 = .ok (.return_, 1) := by decide +kernel
theorem dX3_add_0 : decode cX3_add 0 = .ok (.aload_n 0, 1) := by decide +kernel
theorem dX3_add_1 : decode cX3_add 1 = .ok (.getfield 18, 3) := by decide +kernel
theorem dX3_add_4 : decode cX3_add 4 = .ok (.aload_n 0, 1) := by decide +kernel
theorem dX3_add_5 : decode cX3_add 5 = .ok (.getfield 15, 3) := by decide +kernel
theorem dX3_add_8 : decode cX3_add 8 = .ok (.iload_n 1, 1) := by decide +kernel
theorem dX3_add_9 : decode cX3_add 9 = .ok (.iastore, 1) := by decide +kernel
theorem dX3_add_10 : decode cX3_add 10 = .ok (.aload_n 0, 1) := by decide +kernel
theorem dX3_add_11 : decode cX3_add 11 = .ok (.getfield 22, 3) := by decide +kernel
theorem dX3_add_14 : decode cX3_add 14 = .ok (.aload_n 0, 1) := by decide +kernel
theorem dX3_add_15 : decode cX3_add 15 = .ok (.getfield 15, 3) := by decide +kernel
theorem dX3_add_18 : decode cX3_add 18 = .ok (.iconst 0, 1) := by decide +kernel
theorem dX3_add_19 : decode cX3_add 19 = .ok (.iastore, 1) := by decide +kernel
theorem dX3_add_20 : decode cX3_add 20 = .ok (.aload_n 0, 1) := by decide +kernel
theorem dX3_add_21 : decode cX3_add 21 = .ok (.getfield 25, 3) := by decide +kernel
theorem dX3_add_24 : decode cX3_add 24 = .ok (.aload_n 0, 1) := by decide +kernel
theorem dX3_add_25 : decode cX3_add 25 = .ok (.getfield 15, 3) := by decide +kernel
theorem dX3_add_28 : decode cX3_add 28 = .ok (.iload_n 2, 1) := by decide +kernel
theorem dX3_add_29 : decode cX3_add 29 = .ok (.iastore, 1) := by decide +kernel
theorem dX3_add_30 : decode cX3_add 30 = .ok (.aload_n 0, 1) := by decide +kernel
theorem dX3_add_31 : decode cX3_add 31 = .ok (.getfield 28, 3) := by decide +kernel
theorem dX3_add_34 : decode cX3_add 34 = .ok (.aload_n 0, 1) := by decide +kernel
theorem dX3_add_35 : decode cX3_add 35 = .ok (.getfield 15, 3) := by decide +kernel
theorem dX3_add_38 : decode cX3_add 38 = .ok (.iload_n 3, 1) := by decide +kernel
theorem dX3_add_39 : decode cX3_add 39 = .ok (.iastore, 1) := by decide +kernel
theorem dX3_add_40 : decode cX3_add 40 = .ok (.aload_n 0, 1) := by decide +kernel
theorem dX3_add_41 : decode cX3_add 41 = .ok (.getfield 31, 3) := by decide +kernel
theorem dX3_add_44 : decode cX3_add 44 = .ok (.aload_n 0, 1) := by decide +kernel
theorem dX3_add_45 : decode cX3_add 45 = .ok (.getfield 15, 3) := by decide +kernel
theorem dX3_add_48 : decode cX3_add 48 = .ok (.iconst 0, 1) := by decide +kernel
theorem dX3_add_49 : decode cX3_add 49 = .ok (.iastore, 1) := by decide +kernel
theorem dX3_add_50 : decode cX3_add 50 = .ok (.aload_n 0, 1) := by decide +kernel
theorem dX3_add_51 : decode cX3_add 51 = .ok (.dup, 1) := by decide +kernel
theorem dX3_add_52 : decode cX3_add 52 = .ok (.getfield 15, 3) := by decide +kernel
theorem dX3_add_55 : decode cX3_add 55 = .ok (.iconst 1, 1) := by decide +kernel
theorem dX3_add_56 : decode cX3_add 56 = .ok (.iadd, 1) := by decide +kernel
theorem dX3_add_57 : decode cX3_add 57 = .ok (.putfield 15, 3) := by decide +kernel
theorem dX3_add_60 : decode cX3_add 60 = .ok (.return_, 1) := by decide +kernel
theorem dX3_copyFrom_0 : decode cX3_copyFrom 0 = .ok (.aload_n 0, 1) := by decide +kernel
theorem dX3_copyFrom_1 : decode cX3_copyFrom 1 = .ok (.aload_n 1, 1) := by decide +kernel
theorem dX3_copyFrom_2 : decode cX3_copyFrom 2 = .ok (.getfield 9, 3) := by decide +kernel
theorem dX3_copyFrom_5 : decode cX3_copyFrom 5 = .ok (.putfield 9, 3) := by decide +kernel
theorem dX3_copyFrom_8 : decode cX3_copyFrom 8 = .ok (.aload_n 0, 1) := by decide +kernel
theorem dX3_copyFrom_9 : decode cX3_copyFrom 9 = .ok (.aload_n 1, 1) := by decide +kernel
theorem dX3_copyFrom_10 : decode cX3_copyFrom 10 = .ok (.getfield 15, 3) := by decide +kernel
theorem dX3_copyFrom_13 : decode cX3_copyFrom 13 = .ok (.putfield 15, 3) := by decide +kernel
theorem dX3_copyFrom_16 : decode cX3_copyFrom 16 = .ok (.aload_n 1, 1) := by decide +kernel
theorem dX3_copyFrom_17 : decode cX3_copyFrom 17 = .ok (.getfield 18, 3) := by decide +kernel
theorem dX3_copyFrom_20 : decode cX3_copyFrom 20 = .ok (.iconst 0, 1) := by decide +kernel
theorem dX3_copyFrom_21 : decode cX3_copyFrom 21 = .ok (.aload_n 0, 1) := by decide +kernel
theorem dX3_copyFrom_22 : decode cX3_copyFrom 22 = .ok (.getfield 18, 3) := by decide +kernel
theorem dX3_copyFrom_25 : decode cX3_copyFrom 25 = .ok (.iconst 0, 1) := by decide +kernel
theorem dX3_copyFrom_26 : decode cX3_copyFrom 26 = .ok (.bipush 8, 2) := by decide +kernel
theorem dX3_copyFrom_28 : decode cX3_copyFrom 28 = .ok (.invokestatic 34, 3) := by decide +kernel
theorem dX3_copyFrom_31 : decode cX3_copyFrom 31 = .ok (.aload_n 1, 1) := by decide +kernel
theorem dX3_copyFrom_32 : decode cX3_copyFrom 32 = .ok (.getfield 22, 3) := by decide +kernel
theorem dX3_copyFrom_35 : decode cX3_copyFrom 35 = .ok (.iconst 0, 1) := by decide +kernel
theorem dX3_copyFrom_36 : decode cX3_copyFrom 36 = .ok (.aload_n 0, 1) := by decide +kernel
theorem dX3_copyFrom_37 : decode cX3_copyFrom 37 = .ok (.getfield 22, 3) := by decide +kernel
theorem dX3_copyFrom_40 : decode cX3_copyFrom 40 = .ok (.iconst 0, 1) := by decide +kernel
theorem dX3_copyFrom_41 : decode cX3_copyFrom 41 = .ok (.bipush 8, 2) := by decide +kernel
theorem dX3_copyFrom_43 : decode cX3_copyFrom 43 = .ok (.invokestatic 34, 3) := by decide +kernel
theorem dX3_copyFrom_46 : decode cX3_copyFrom 46 = .ok (.aload_n 1, 1) := by decide +kernel
theorem dX3_copyFrom_47 : decode cX3_copyFrom 47 = .ok (.getfield 25, 3) := by decide +kernel
theorem dX3_copyFrom_50 : decode cX3_copyFrom 50 = .ok (.iconst 0, 1) := by decide +kernel
theorem dX3_copyFrom_51 : decode cX3_copyFrom 51 = .ok (.aload_n 0, 1) := by decide +kernel
theorem dX3_copyFrom_52 : decode cX3_copyFrom 52 = .ok (.getfield 25, 3) := by decide +kernel
theorem dX3_copyFrom_55 : decode cX3_copyFrom 55 = .ok (.iconst 0, 1) := by decide +kernel
theorem dX3_copyFrom_56 : decode cX3_copyFrom 56 = .ok (.bipush 8, 2) := by decide +kernel
theorem dX3_copyFrom_58 : decode cX3_copyFrom 58 = .ok (.invokestatic 34, 3) := by decide +kernel
theorem dX3_copyFrom_61 : decode cX3_copyFrom 61 = .ok (.aload_n 1, 1) := by decide +kernel
theorem dX3_copyFrom_62 : decode cX3_copyFrom 62 = .ok (.getfield 28, 3) := by decide +kernel
theorem dX3_copyFrom_65 : decode cX3_copyFrom 65 = .ok (.iconst 0, 1) := by decide +kernel
theorem dX3_copyFrom_66 : decode cX3_copyFrom 66 = .ok (.aload_n 0, 1) := by decide +kernel
theorem dX3_copyFrom_67 : decode cX3_copyFrom 67 = .ok (.getfield 28, 3) := by decide +kernel
theorem dX3_copyFrom_70 : decode cX3_copyFrom 70 = .ok (.iconst 0, 1) := by decide +kernel
theorem dX3_copyFrom_71 : decode cX3_copyFrom 71 = .ok (.bipush 8, 2) := by decide +kernel
theorem dX3_copyFrom_73 : decode cX3_copyFrom 73 = .ok (.invokestatic 34, 3) := by decide +kernel
theorem dX3_copyFrom_76 : decode cX3_copyFrom 76 = .ok (.aload_n 1, 1) := by decide +kernel
theorem dX3_copyFrom_77 : decode cX3_copyFrom 77 = .ok (.getfield 31, 3) := by decide +kernel
theorem dX3_copyFrom_80 : decode cX3_copyFrom 80 = .ok (.iconst 0, 1) := by decide +kernel
theorem dX3_copyFrom_81 : decode cX3_copyFrom 81 = .ok (.aload_n 0, 1) := by decide +kernel
theorem dX3_copyFrom_82 : decode cX3_copyFrom 82 = .ok (.getfield 31, 3) := by decide +kernel
theorem dX3_copyFrom_85 : decode cX3_copyFrom 85 = .ok (.iconst 0, 1) := by decide +kernel
theorem dX3_copyFrom_86 : decode cX3_copyFrom 86 = .ok (.bipush 8, 2) := by decide +kernel
theorem dX3_copyFrom_88 : decode cX3_copyFrom 88 = .ok (.invokestatic 34, 3) := by decide +kernel
theorem dX3_copyFrom_91 : decode cX3_copyFrom 91 = .ok (.return_, 1) := by decide +kernel
theorem dX3_forth_0 : decode cX3_forth 0 = .ok (.aload_n 0, 1) := by decide +kernel
theorem dX3_forth_1 : decode cX3_forth 1 = .ok (.getfield 18, 3) := by decide +kernel
theorem dX3_forth_4 : decode cX3_forth 4 = .ok (.iload_n 1, 1) := by decide +kernel
theorem dX3_forth_5 : decode cX3_forth 5 = .ok (.iaload, 1) := by decide +kernel
theorem dX3_forth_6 : decode cX3_forth 6 = .ok (.aload_n 0, 1) := by decide +kernel
theorem dX3_forth_7 : decode cX3_forth 7 = .ok (.getfield 22, 3) := by decide +kernel
theorem dX3_forth_10 : decode cX3_forth 10 = .ok (.iload_n 1, 1) := by decide +kernel
theorem dX3_forth_11 : decode cX3_forth 11 = .ok (.iaload, 1) := by decide +kernel
theorem dX3_forth_12 : decode cX3_forth 12 = .ok (.invokestatic 40, 3) := by decide +kernel
theorem dX3_forth_15 : decode cX3_forth 15 = .ok (.ireturn, 1) := by decide +kernel
theorem dX3_back_0 : decode cX3_back 0 = .ok (.aload_n 0, 1) := by decide +kernel
theorem dX3_back_1 : decode cX3_back 1 = .ok (.getfield 18, 3) := by decide +kernel
theorem dX3_back_4 : decode cX3_back 4 = .ok (.iload_n 1, 1) := by decide +kernel
theorem dX3_back_5 : decode cX3_back 5 = .ok (.iaload, 1) := by decide +kernel
theorem dX3_back_6 : decode cX3_back 6 = .ok (.aload_n 0, 1) := by decide +kernel
theorem dX3_back_7 : decode cX3_back 7 = .ok (.getfield 22, 3) := by decide +kernel
theorem dX3_back_10 : decode cX3_back 10 = .ok (.iload_n 1, 1) := by decide +kernel
theorem dX3_back_11 : decode cX3_back 11 = .ok (.iaload, 1) := by decide +kernel
theorem dX3_back_12 : decode cX3_back 12 = .ok (.invokestatic 46, 3) := by decide +kernel
theorem dX3_back_15 : decode cX3_back 15 = .ok (.ireturn, 1) := by decide +kernel
theorem dX3_weight_0 : decode cX3_weight 0 = .ok (.aload_n 0, 1) := by decide +kernel
theorem dX3_weight_1 : decode cX3_weight 1 = .ok (.getfield 25, 3) := by decide +kernel
theorem dX3_weight_4 : decode cX3_weight 4 = .ok (.iload_n 2, 1) := by decide +kernel
theorem dX3_weight_5 : decode cX3_weight 5 = .ok (.iaload, 1) := by decide +kernel
theorem dX3_weight_6 : decode cX3_weight 6 = .ok (.iload_n 1, 1) := by decide +kernel
theorem dX3_weight_7 : decode cX3_weight 7 = .ok (.if_icmp .ne 11, 3) := by decide +kernel
theorem dX3_weight_10 : decode cX3_weight 10 = .ok (.aload_n 0, 1) := by decide +kernel
theorem dX3_weight_11 : decode cX3_weight 11 = .ok (.iload_n 2, 1) := by decide +kernel
theorem dX3_weight_12 : decode cX3_weight 12 = .ok (.invokevirtual 49, 3) := by decide +kernel
theorem dX3_weight_15 : decode cX3_weight 15 = .ok (.goto 4, 3) := by decide +kernel
theorem dX3_weight_18 : decode cX3_weight 18 = .ok (.iconst 0, 1) := by decide +kernel
theorem dX3_weight_19 : decode cX3_weight 19 = .ok (.istore_n 3, 1) := by decide +kernel
theorem dX3_weight_20 : decode cX3_weight 20 = .ok (.aload_n 0, 1) := by decide +kernel
theorem dX3_weight_21 : decode cX3_weight 21 = .ok (.getfield 28, 3) := by decide +kernel
theorem dX3_weight_24 : decode cX3_weight 24 = .ok (.iload_n 2, 1) := by decide +kernel
theorem dX3_weight_25 : decode cX3_weight 25 = .ok (.iaload, 1) := by decide +kernel
theorem dX3_weight_26 : decode cX3_weight 26 = .ok (.iload_n 1, 1) := by decide +kernel
theorem dX3_weight_27 : decode cX3_weight 27 = .ok (.if_icmp .ne 11, 3) := by decide +kernel
theorem dX3_weight_30 : decode cX3_weight 30 = .ok (.aload_n 0, 1) := by decide +kernel
theorem dX3_weight_31 : decode cX3_weight 31 = .ok (.iload_n 2, 1) := by decide +kernel
theorem dX3_weight_32 : decode cX3_weight 32 = .ok (.invokevirtual 52, 3) := by decide +kernel
theorem dX3_weight_35 : decode cX3_weight 35 = .ok (.goto 4, 3) := by decide +kernel
theorem dX3_weight_38 : decode cX3_weight 38 = .ok (.iconst 0, 1) := by decide +kernel
theorem dX3_weight_39 : decode cX3_weight 39 = .ok (.istore 4, 2) := by decide +kernel
theorem dX3_weight_41 : decode cX3_weight 41 = .ok (.iload_n 3, 1) := by decide +kernel
theorem dX3_weight_42 : decode cX3_weight 42 = .ok (.iload 4, 2) := by decide +kernel
theorem dX3_weight_44 : decode cX3_weight 44 = .ok (.iadd, 1) := by decide +kernel
theorem dX3_weight_45 : decode cX3_weight 45 = .ok (.ireturn, 1) := by decide +kernel
theorem dX3_sumAt_0 : decode cX3_sumAt 0 = .ok (.iconst 0, 1) := by decide +kernel
theorem dX3_sumAt_1 : decode cX3_sumAt 1 = .ok (.istore_n 2, 1) := by decide +kernel
theorem dX3_sumAt_2 : decode cX3_sumAt 2 = .ok (.iconst 0, 1) := by decide +kernel
theorem dX3_sumAt_3 : decode cX3_sumAt 3 = .ok (.istore_n 3, 1) := by decide +kernel
theorem dX3_sumAt_4 : decode cX3_sumAt 4 = .ok (.iload_n 3, 1) := by decide +kernel
theorem dX3_sumAt_5 : decode cX3_sumAt 5 = .ok (.aload_n 0, 1) := by decide +kernel
theorem dX3_sumAt_6 : decode cX3_sumAt 6 = .ok (.getfield 15, 3) := by decide +kernel
theorem dX3_sumAt_9 : decode cX3_sumAt 9 = .ok (.if_icmp .ge 25, 3) := by decide +kernel
theorem dX3_sumAt_12 : decode cX3_sumAt 12 = .ok (.iload_n 2, 1) := by decide +kernel
theorem dX3_sumAt_13 : decode cX3_sumAt 13 = .ok (.aload_n 0, 1) := by decide +kernel
theorem dX3_sumAt_14 : decode cX3_sumAt 14 = .ok (.iload_n 1, 1) := by decide +kernel
theorem dX3_sumAt_15 : decode cX3_sumAt 15 = .ok (.iload_n 3, 1) := by decide +kernel
theorem dX3_sumAt_16 : decode cX3_sumAt 16 = .ok (.invokevirtual 54, 3) := by decide +kernel
theorem dX3_sumAt_19 : decode cX3_sumAt 19 = .ok (.aload_n 0, 1) := by decide +kernel
theorem dX3_sumAt_20 : decode cX3_sumAt 20 = .ok (.getfield 31, 3) := by decide +kernel
theorem dX3_sumAt_23 : decode cX3_sumAt 23 = .ok (.iload_n 3, 1) := by decide +kernel
theorem dX3_sumAt_24 : decode cX3_sumAt 24 = .ok (.iaload, 1) := by decide +kernel
theorem dX3_sumAt_25 : decode cX3_sumAt 25 = .ok (.imul, 1) := by decide +kernel
theorem dX3_sumAt_26 : decode cX3_sumAt 26 = .ok (.iadd, 1) := by decide +kernel
theorem dX3_sumAt_27 : decode cX3_sumAt 27 = .ok (.istore_n 2, 1) := by decide +kernel
theorem dX3_sumAt_28 : decode cX3_sumAt 28 = .ok (.iinc 3 1, 3) := by decide +kernel
theorem dX3_sumAt_31 : decode cX3_sumAt 31 = .ok (.goto (-27), 3) := by decide +kernel
theorem dX3_sumAt_34 : decode cX3_sumAt 34 = .ok (.iload_n 2, 1) := by decide +kernel
theorem dX3_sumAt_35 : decode cX3_sumAt 35 = .ok (.ireturn, 1) := by decide +kernel
theorem dX3_fillSums_0 : decode cX3_fillSums 0 = .ok (.iconst 0, 1) := by decide +kernel
theorem dX3_fillSums_1 : decode cX3_fillSums 1 = .ok (.istore_n 2, 1) := by decide +kernel
theorem dX3_fillSums_2 : decode cX3_fillSums 2 = .ok (.iload_n 2, 1) := by decide +kernel
theorem dX3_fillSums_3 : decode cX3_fillSums 3 = .ok (.aload_n 0, 1) := by decide +kernel
theorem dX3_fillSums_4 : decode cX3_fillSums 4 = .ok (.getfield 9, 3) := by decide +kernel
theorem dX3_fillSums_7 : decode cX3_fillSums 7 = .ok (.if_icmp .ge 17, 3) := by decide +kernel
theorem dX3_fillSums_10 : decode cX3_fillSums 10 = .ok (.aload_n 1, 1) := by decide +kernel
theorem dX3_fillSums_11 : decode cX3_fillSums 11 = .ok (.iload_n 2, 1) := by decide +kernel
theorem dX3_fillSums_12 : decode cX3_fillSums 12 = .ok (.aload_n 0, 1) := by decide +kernel
theorem dX3_fillSums_13 : decode cX3_fillSums 13 = .ok (.iload_n 2, 1) := by decide +kernel
theorem dX3_fillSums_14 : decode cX3_fillSums 14 = .ok (.invokevirtual 57, 3) := by decide +kernel
theorem dX3_fillSums_17 : decode cX3_fillSums 17 = .ok (.iastore, 1) := by decide +kernel
theorem dX3_fillSums_18 : decode cX3_fillSums 18 = .ok (.iinc 2 1, 3) := by decide +kernel
theorem dX3_fillSums_21 : decode cX3_fillSums 21 = .ok (.goto (-19), 3) := by decide +kernel
theorem dX3_fillSums_24 : decode cX3_fillSums 24 = .ok (.return_, 1) := by decide +kernel
theorem dX4_init_0 : decode cX4_init 0 = .ok (.aload_n 0, 1) := by decide +kernel
theorem dX4_init_1 : decode cX4_init 1 = .ok (.invokespecial 3, 3) := by decide +kernel
theorem dX4_init_4 : decode cX4_init 4 = .ok (.aload_n 0, 1) := by decide +kernel
theorem dX4_init_5 : decode cX4_init 5 = .ok (.bipush 8, 2) := by decide +kernel
theorem dX4_init_7 : decode cX4_init 7 = .ok (.bipush 8, 2) := by decide +kernel
theorem dX4_init_9 : decode cX4_init 9 = .ok (.multianewarray 9 2, 4) := by decide +kernel
theorem dX4_init_13 : decode cX4_init 13 = .ok (.putfield 11, 3) := by decide +kernel
theorem dX4_init_16 : decode cX4_init 16 = .ok (.aload_n 0, 1) := by decide +kernel
theorem dX4_init_17 : decode cX4_init 17 = .ok (.bipush 8, 2) := by decide +kernel
theorem dX4_init_19 : decode cX4_init 19 = .ok (.bipush 8, 2) := by decide +kernel
theorem dX4_init_21 : decode cX4_init 21 = .ok (.multianewarray 9 2, 4) := by decide +kernel
theorem dX4_init_25 : decode cX4_init 25 = .ok (.putfield 16, 3) := by decide +kernel
theorem dX4_init_28 : decode cX4_init 28 = .ok (.aload_n 0, 1) := by decide +kernel
theorem dX4_init_29 : decode cX4_init 29 = .ok (.bipush 8, 2) := by decide +kernel
theorem dX4_init_31 : decode cX4_init 31 = .ok (.bipush 8, 2) := by decide +kernel
theorem dX4_init_33 : decode cX4_init 33 = .ok (.multianewarray 9 2, 4) := by decide +kernel
theorem dX4_init_37 : decode cX4_init 37 = .ok (.putfield 19, 3) := by decide +kernel
theorem dX4_init_40 : decode cX4_init 40 = .ok (.aload_n 0, 1) := by decide +kernel
theorem dX4_init_41 : decode cX4_init 41 = .ok (.iconst 0, 1) := by decide +kernel
theorem dX4_init_42 : decode cX4_init 42 = .ok (.putfield 22, 3) := by decide +kernel
theorem dX4_init_45 : decode cX4_init 45 = .ok (.aload_n 0, 1) := by decide +kernel
theorem dX4_init_46 : decode cX4_init 46 = .ok (.iconst 0, 1) := by decide +kernel
theorem dX4_init_47 : decode cX4_init 47 = .ok (.putfield 26, 3) := by decide +kernel
theorem dX4_init_50 : decode cX4_init 50 = .ok (.return_, 1) := by decide +kernel
theorem dX4_keep_0 : decode cX4_keep 0 = .ok (.aload_n 1, 1) := by decide +kernel
theorem dX4_keep_1 : decode cX4_keep 1 = .ok (.getfield 29, 3) := by decide +kernel
theorem dX4_keep_4 : decode cX4_keep 4 = .ok (.iconst 0, 1) := by decide +kernel
theorem dX4_keep_5 : decode cX4_keep 5 = .ok (.aload_n 0, 1) := by decide +kernel
theorem dX4_keep_6 : decode cX4_keep 6 = .ok (.getfield 11, 3) := by decide +kernel
theorem dX4_keep_9 : decode cX4_keep 9 = .ok (.aload_n 0, 1) := by decide +kernel
theorem dX4_keep_10 : decode cX4_keep 10 = .ok (.getfield 22, 3) := by decide +kernel
theorem dX4_keep_13 : decode cX4_keep 13 = .ok (.aaload, 1) := by decide +kernel
theorem dX4_keep_14 : decode cX4_keep 14 = .ok (.iconst 0, 1) := by decide +kernel
theorem dX4_keep_15 : decode cX4_keep 15 = .ok (.bipush 8, 2) := by decide +kernel
theorem dX4_keep_17 : decode cX4_keep 17 = .ok (.invokestatic 34, 3) := by decide +kernel
theorem dX4_keep_20 : decode cX4_keep 20 = .ok (.aload_n 1, 1) := by decide +kernel
theorem dX4_keep_21 : decode cX4_keep 21 = .ok (.getfield 40, 3) := by decide +kernel
theorem dX4_keep_24 : decode cX4_keep 24 = .ok (.iconst 0, 1) := by decide +kernel
theorem dX4_keep_25 : decode cX4_keep 25 = .ok (.aload_n 0, 1) := by decide +kernel
theorem dX4_keep_26 : decode cX4_keep 26 = .ok (.getfield 16, 3) := by decide +kernel
theorem dX4_keep_29 : decode cX4_keep 29 = .ok (.aload_n 0, 1) := by decide +kernel
theorem dX4_keep_30 : decode cX4_keep 30 = .ok (.getfield 22, 3) := by decide +kernel
theorem dX4_keep_33 : decode cX4_keep 33 = .ok (.aaload, 1) := by decide +kernel
theorem dX4_keep_34 : decode cX4_keep 34 = .ok (.iconst 0, 1) := by decide +kernel
theorem dX4_keep_35 : decode cX4_keep 35 = .ok (.bipush 8, 2) := by decide +kernel
theorem dX4_keep_37 : decode cX4_keep 37 = .ok (.invokestatic 34, 3) := by decide +kernel
theorem dX4_keep_40 : decode cX4_keep 40 = .ok (.aload_n 1, 1) := by decide +kernel
theorem dX4_keep_41 : decode cX4_keep 41 = .ok (.getfield 42, 3) := by decide +kernel
theorem dX4_keep_44 : decode cX4_keep 44 = .ok (.iconst 0, 1) := by decide +kernel
theorem dX4_keep_45 : decode cX4_keep 45 = .ok (.aload_n 0, 1) := by decide +kernel
theorem dX4_keep_46 : decode cX4_keep 46 = .ok (.getfield 19, 3) := by decide +kernel
theorem dX4_keep_49 : decode cX4_keep 49 = .ok (.aload_n 0, 1) := by decide +kernel
theorem dX4_keep_50 : decode cX4_keep 50 = .ok (.getfield 22, 3) := by decide +kernel
theorem dX4_keep_53 : decode cX4_keep 53 = .ok (.aaload, 1) := by decide +kernel
theorem dX4_keep_54 : decode cX4_keep 54 = .ok (.iconst 0, 1) := by decide +kernel
theorem dX4_keep_55 : decode cX4_keep 55 = .ok (.bipush 8, 2) := by decide +kernel
theorem dX4_keep_57 : decode cX4_keep 57 = .ok (.invokestatic 34, 3) := by decide +kernel
theorem dX4_keep_60 : decode cX4_keep 60 = .ok (.aload_n 0, 1) := by decide +kernel
theorem dX4_keep_61 : decode cX4_keep 61 = .ok (.aload_n 0, 1) := by decide +kernel
theorem dX4_keep_62 : decode cX4_keep 62 = .ok (.getfield 22, 3) := by decide +kernel
theorem dX4_keep_65 : decode cX4_keep 65 = .ok (.iconst 1, 1) := by decide +kernel
theorem dX4_keep_66 : decode cX4_keep 66 = .ok (.iadd, 1) := by decide +kernel
theorem dX4_keep_67 : decode cX4_keep 67 = .ok (.bipush 8, 2) := by decide +kernel
theorem dX4_keep_69 : decode cX4_keep 69 = .ok (.irem, 1) := by decide +kernel
theorem dX4_keep_70 : decode cX4_keep 70 = .ok (.putfield 22, 3) := by decide +kernel
theorem dX4_keep_73 : decode cX4_keep 73 = .ok (.aload_n 0, 1) := by decide +kernel
theorem dX4_keep_74 : decode cX4_keep 74 = .ok (.aload_n 0, 1) := by decide +kernel
theorem dX4_keep_75 : decode cX4_keep 75 = .ok (.getfield 26, 3) := by decide +kernel
theorem dX4_keep_78 : decode cX4_keep 78 = .ok (.iconst 1, 1) := by decide +kernel
theorem dX4_keep_79 : decode cX4_keep 79 = .ok (.iadd, 1) := by decide +kernel
theorem dX4_keep_80 : decode cX4_keep 80 = .ok (.bipush 8, 2) := by decide +kernel
theorem dX4_keep_82 : decode cX4_keep 82 = .ok (.invokestatic 44, 3) := by decide +kernel
theorem dX4_keep_85 : decode cX4_keep 85 = .ok (.putfield 26, 3) := by decide +kernel
theorem dX4_keep_88 : decode cX4_keep 88 = .ok (.return_, 1) := by decide +kernel
theorem dX4_restore_0 : decode cX4_restore 0 = .ok (.aload_n 0, 1) := by decide +kernel
theorem dX4_restore_1 : decode cX4_restore 1 = .ok (.aload_n 0, 1) := by decide +kernel
theorem dX4_restore_2 : decode cX4_restore 2 = .ok (.getfield 22, 3) := by decide +kernel
theorem dX4_restore_5 : decode cX4_restore 5 = .ok (.bipush 8, 2) := by decide +kernel
theorem dX4_restore_7 : decode cX4_restore 7 = .ok (.iadd, 1) := by decide +kernel
theorem dX4_restore_8 : decode cX4_restore 8 = .ok (.iconst 1, 1) := by decide +kernel
theorem dX4_restore_9 : decode cX4_restore 9 = .ok (.isub, 1) := by decide +kernel
theorem dX4_restore_10 : decode cX4_restore 10 = .ok (.bipush 8, 2) := by decide +kernel
theorem dX4_restore_12 : decode cX4_restore 12 = .ok (.irem, 1) := by decide +kernel
theorem dX4_restore_13 : decode cX4_restore 13 = .ok (.putfield 22, 3) := by decide +kernel
theorem dX4_restore_16 : decode cX4_restore 16 = .ok (.aload_n 0, 1) := by decide +kernel
theorem dX4_restore_17 : decode cX4_restore 17 = .ok (.dup, 1) := by decide +kernel
theorem dX4_restore_18 : decode cX4_restore 18 = .ok (.getfield 26, 3) := by decide +kernel
theorem dX4_restore_21 : decode cX4_restore 21 = .ok (.iconst 1, 1) := by decide +kernel
theorem dX4_restore_22 : decode cX4_restore 22 = .ok (.isub, 1) := by decide +kernel
theorem dX4_restore_23 : decode cX4_restore 23 = .ok (.putfield 26, 3) := by decide +kernel
theorem dX4_restore_26 : decode cX4_restore 26 = .ok (.aload_n 0, 1) := by decide +kernel
theorem dX4_restore_27 : decode cX4_restore 27 = .ok (.getfield 11, 3) := by decide +kernel
theorem dX4_restore_30 : decode cX4_restore 30 = .ok (.aload_n 0, 1) := by decide +kernel
theorem dX4_restore_31 : decode cX4_restore 31 = .ok (.getfield 22, 3) := by decide +kernel
theorem dX4_restore_34 : decode cX4_restore 34 = .ok (.aaload, 1) := by decide +kernel
theorem dX4_restore_35 : decode cX4_restore 35 = .ok (.iconst 0, 1) := by decide +kernel
theorem dX4_restore_36 : decode cX4_restore 36 = .ok (.aload_n 1, 1) := by decide +kernel
theorem dX4_restore_37 : decode cX4_restore 37 = .ok (.getfield 29, 3) := by decide +kernel
theorem dX4_restore_40 : decode cX4_restore 40 = .ok (.iconst 0, 1) := by decide +kernel
theorem dX4_restore_41 : decode cX4_restore 41 = .ok (.bipush 8, 2) := by decide +kernel
theorem dX4_restore_43 : decode cX4_restore 43 = .ok (.invokestatic 34, 3) := by decide +kernel
theorem dX4_restore_46 : decode cX4_restore 46 = .ok (.aload_n 0, 1) := by decide +kernel
theorem dX4_restore_47 : decode cX4_restore 47 = .ok (.getfield 16, 3) := by decide +kernel
theorem dX4_restore_50 : decode cX4_restore 50 = .ok (.aload_n 0, 1) := by decide +kernel
theorem dX4_restore_51 : decode cX4_restore 51 = .ok (.getfield 22, 3) := by decide +kernel
theorem dX4_restore_54 : decode cX4_restore 54 = .ok (.aaload, 1) := by decide +kernel
theorem dX4_restore_55 : decode cX4_restore 55 = .ok (.iconst 0, 1) := by decide +kernel
theorem dX4_restore_56 : decode cX4_restore 56 = .ok (.aload_n 1, 1) := by decide +kernel
theorem dX4_restore_57 : decode cX4_restore 57 = .ok (.getfield 40, 3) := by decide +kernel
theorem dX4_restore_60 : decode cX4_restore 60 = .ok (.iconst 0, 1) := by decide +kernel
theorem dX4_restore_61 : decode cX4_restore 61 = .ok (.bipush 8, 2) := by decide +kernel
theorem dX4_restore_63 : decode cX4_restore 63 = .ok (.invokestatic 34, 3) := by decide +kernel
theorem dX4_restore_66 : decode cX4_restore 66 = .ok (.aload_n 0, 1) := by decide +kernel
theorem dX4_restore_67 : decode cX4_restore 67 = .ok (.getfield 19, 3) := by decide +kernel
theorem dX4_restore_70 : decode cX4_restore 70 = .ok (.aload_n 0, 1) := by decide +kernel
theorem dX4_restore_71 : decode cX4_restore 71 = .ok (.getfield 22, 3) := by decide +kernel
theorem dX4_restore_74 : decode cX4_restore 74 = .ok (.aaload, 1) := by decide +kernel
theorem dX4_restore_75 : decode cX4_restore 75 = .ok (.iconst 0, 1) := by decide +kernel
theorem dX4_restore_76 : decode cX4_restore 76 = .ok (.aload_n 1, 1) := by decide +kernel
theorem dX4_restore_77 : decode cX4_restore 77 = .ok (.getfield 42, 3) := by decide +kernel
theorem dX4_restore_80 : decode cX4_restore 80 = .ok (.iconst 0, 1) := by decide +kernel
theorem dX4_restore_81 : decode cX4_restore 81 = .ok (.bipush 8, 2) := by decide +kernel
theorem dX4_restore_83 : decode cX4_restore 83 = .ok (.invokestatic 34, 3) := by decide +kernel
theorem dX4_restore_86 : decode cX4_restore 86 = .ok (.return_, 1) := by decide +kernel
theorem dX4_forget_0 : decode cX4_forget 0 = .ok (.aload_n 0, 1) := by decide +kernel
theorem dX4_forget_1 : decode cX4_forget 1 = .ok (.iconst 0, 1) := by decide +kernel
theorem dX4_forget_2 : decode cX4_forget 2 = .ok (.putfield 26, 3) := by decide +kernel
theorem dX4_forget_5 : decode cX4_forget 5 = .ok (.return_, 1) := by decide +kernel
theorem dX5_holds_0 : decode cX5_holds 0 = .ok (.iload_n 0, 1) := by decide +kernel
theorem dX5_holds_1 : decode cX5_holds 1 = .ok (.tableswitch 68 0 4 #[35, 41, 47, 53, 59], 35) := by decide +kernel
theorem dX5_holds_36 : decode cX5_holds 36 = .ok (.aload_n 1, 1) := by decide +kernel
theorem dX5_holds_37 : decode cX5_holds 37 = .ok (.iload_n 2, 1) := by decide +kernel
theorem dX5_holds_38 : decode cX5_holds 38 = .ok (.invokestatic 9, 3) := by decide +kernel
theorem dX5_holds_41 : decode cX5_holds 41 = .ok (.ireturn, 1) := by decide +kernel
theorem dX5_holds_42 : decode cX5_holds 42 = .ok (.aload_n 1, 1) := by decide +kernel
theorem dX5_holds_43 : decode cX5_holds 43 = .ok (.iload_n 2, 1) := by decide +kernel
theorem dX5_holds_44 : decode cX5_holds 44 = .ok (.invokestatic 15, 3) := by decide +kernel
theorem dX5_holds_47 : decode cX5_holds 47 = .ok (.ireturn, 1) := by decide +kernel
theorem dX5_holds_48 : decode cX5_holds 48 = .ok (.aload_n 1, 1) := by decide +kernel
theorem dX5_holds_49 : decode cX5_holds 49 = .ok (.iload_n 2, 1) := by decide +kernel
theorem dX5_holds_50 : decode cX5_holds 50 = .ok (.invokestatic 18, 3) := by decide +kernel
theorem dX5_holds_53 : decode cX5_holds 53 = .ok (.ireturn, 1) := by decide +kernel
theorem dX5_holds_54 : decode cX5_holds 54 = .ok (.aload_n 1, 1) := by decide +kernel
theorem dX5_holds_55 : decode cX5_holds 55 = .ok (.iload_n 2, 1) := by decide +kernel
theorem dX5_holds_56 : decode cX5_holds 56 = .ok (.invokestatic 21, 3) := by decide +kernel
theorem dX5_holds_59 : decode cX5_holds 59 = .ok (.ireturn, 1) := by decide +kernel
theorem dX5_holds_60 : decode cX5_holds 60 = .ok (.iconst 2, 1) := by decide +kernel
theorem dX5_holds_61 : decode cX5_holds 61 = .ok (.iload_n 2, 1) := by decide +kernel
theorem dX5_holds_62 : decode cX5_holds 62 = .ok (.imul, 1) := by decide +kernel
theorem dX5_holds_63 : decode cX5_holds 63 = .ok (.aload_n 1, 1) := by decide +kernel
theorem dX5_holds_64 : decode cX5_holds 64 = .ok (.iload_n 2, 1) := by decide +kernel
theorem dX5_holds_65 : decode cX5_holds 65 = .ok (.invokestatic 24, 3) := by decide +kernel
theorem dX5_holds_68 : decode cX5_holds 68 = .ok (.ireturn, 1) := by decide +kernel
theorem dX5_holds_69 : decode cX5_holds 69 = .ok (.aload_n 1, 1) := by decide +kernel
theorem dX5_holds_70 : decode cX5_holds 70 = .ok (.iload_n 2, 1) := by decide +kernel
theorem dX5_holds_71 : decode cX5_holds 71 = .ok (.invokestatic 9, 3) := by decide +kernel
theorem dX5_holds_74 : decode cX5_holds 74 = .ok (.ifCond .ne 15, 3) := by decide +kernel
theorem dX5_holds_77 : decode cX5_holds 77 = .ok (.aload_n 1, 1) := by decide +kernel
theorem dX5_holds_78 : decode cX5_holds 78 = .ok (.iload_n 2, 1) := by decide +kernel
theorem dX5_holds_79 : decode cX5_holds 79 = .ok (.invokestatic 15, 3) := by decide +kernel
theorem dX5_holds_82 : decode cX5_holds 82 = .ok (.ifCond .ne 7, 3) := by decide +kernel
theorem dX5_holds_85 : decode cX5_holds 85 = .ok (.iconst 1, 1) := by decide +kernel
theorem dX5_holds_86 : decode cX5_holds 86 = .ok (.goto 4, 3) := by decide +kernel
theorem dX5_holds_89 : decode cX5_holds 89 = .ok (.iconst 0, 1) := by decide +kernel
theorem dX5_holds_90 : decode cX5_holds 90 = .ok (.ireturn, 1) := by decide +kernel
theorem dX5_allLike_0 : decode cX5_allLike 0 = .ok (.iconst 1, 1) := by decide +kernel
theorem dX5_allLike_1 : decode cX5_allLike 1 = .ok (.istore_n 2, 1) := by decide +kernel
theorem dX5_allLike_2 : decode cX5_allLike 2 = .ok (.iload_n 2, 1) := by decide +kernel
theorem dX5_allLike_3 : decode cX5_allLike 3 = .ok (.iload_n 1, 1) := by decide +kernel
theorem dX5_allLike_4 : decode cX5_allLike 4 = .ok (.if_icmp .ge 20, 3) := by decide +kernel
theorem dX5_allLike_7 : decode cX5_allLike 7 = .ok (.aload_n 0, 1) := by decide +kernel
theorem dX5_allLike_8 : decode cX5_allLike 8 = .ok (.iload_n 2, 1) := by decide +kernel
theorem dX5_allLike_9 : decode cX5_allLike 9 = .ok (.iaload, 1) := by decide +kernel
theorem dX5_allLike_10 : decode cX5_allLike 10 = .ok (.aload_n 0, 1) := by decide +kernel
theorem dX5_allLike_11 : decode cX5_allLike 11 = .ok (.iconst 0, 1) := by decide +kernel
theorem dX5_allLike_12 : decode cX5_allLike 12 = .ok (.iaload, 1) := by decide +kernel
theorem dX5_allLike_13 : decode cX5_allLike 13 = .ok (.if_icmp .eq 5, 3) := by decide +kernel
theorem dX5_allLike_16 : decode cX5_allLike 16 = .ok (.iconst 0, 1) := by decide +kernel
theorem dX5_allLike_17 : decode cX5_allLike 17 = .ok (.ireturn, 1) := by decide +kernel
theorem dX5_allLike_18 : decode cX5_allLike 18 = .ok (.iinc 2 1, 3) := by decide +kernel
theorem dX5_allLike_21 : decode cX5_allLike 21 = .ok (.goto (-19), 3) := by decide +kernel
theorem dX5_allLike_24 : decode cX5_allLike 24 = .ok (.iconst 1, 1) := by decide +kernel
theorem dX5_allLike_25 : decode cX5_allLike 25 = .ok (.ireturn, 1) := by decide +kernel
theorem dX5_allUnlike_0 : decode cX5_allUnlike 0 = .ok (.iconst 1, 1) := by decide +kernel
theorem dX5_allUnlike_1 : decode cX5_allUnlike 1 = .ok (.istore_n 2, 1) := by decide +kernel
theorem dX5_allUnlike_2 : decode cX5_allUnlike 2 = .ok (.iload_n 2, 1) := by decide +kernel
theorem dX5_allUnlike_3 : decode cX5_allUnlike 3 = .ok (.iload_n 1, 1) := by decide +kernel
theorem dX5_allUnlike_4 : decode cX5_allUnlike 4 = .ok (.if_icmp .ge 38, 3) := by decide +kernel
theorem dX5_allUnlike_7 : decode cX5_allUnlike 7 = .ok (.aload_n 0, 1) := by decide +kernel
theorem dX5_allUnlike_8 : decode cX5_allUnlike 8 = .ok (.iload_n 2, 1) := by decide +kernel
theorem dX5_allUnlike_9 : decode cX5_allUnlike 9 = .ok (.iaload, 1) := by decide +kernel
theorem dX5_allUnlike_10 : decode cX5_allUnlike 10 = .ok (.istore_n 3, 1) := by decide +kernel
theorem dX5_allUnlike_11 : decode cX5_allUnlike 11 = .ok (.iconst 0, 1) := by decide +kernel
theorem dX5_allUnlike_12 : decode cX5_allUnlike 12 = .ok (.istore 4, 2) := by decide +kernel
theorem dX5_allUnlike_14 : decode cX5_allUnlike 14 = .ok (.iload 4, 2) := by decide +kernel
theorem dX5_allUnlike_16 : decode cX5_allUnlike 16 = .ok (.iload_n 2, 1) := by decide +kernel
theorem dX5_allUnlike_17 : decode cX5_allUnlike 17 = .ok (.if_icmp .ge 19, 3) := by decide +kernel
theorem dX5_allUnlike_20 : decode cX5_allUnlike 20 = .ok (.aload_n 0, 1) := by decide +kernel
theorem dX5_allUnlike_21 : decode cX5_allUnlike 21 = .ok (.iload 4, 2) := by decide +kernel
theorem dX5_allUnlike_23 : decode cX5_allUnlike 23 = .ok (.iaload, 1) := by decide +kernel
theorem dX5_allUnlike_24 : decode cX5_allUnlike 24 = .ok (.iload_n 3, 1) := by decide +kernel
theorem dX5_allUnlike_25 : decode cX5_allUnlike 25 = .ok (.if_icmp .ne 5, 3) := by decide +kernel
theorem dX5_allUnlike_28 : decode cX5_allUnlike 28 = .ok (.iconst 0, 1) := by decide +kernel
theorem dX5_allUnlike_29 : decode cX5_allUnlike 29 = .ok (.ireturn, 1) := by decide +kernel
theorem dX5_allUnlike_30 : decode cX5_allUnlike 30 = .ok (.iinc 4 1, 3) := by decide +kernel
theorem dX5_allUnlike_33 : decode cX5_allUnlike 33 = .ok (.goto (-19), 3) := by decide +kernel
theorem dX5_allUnlike_36 : decode cX5_allUnlike 36 = .ok (.iinc 2 1, 3) := by decide +kernel
theorem dX5_allUnlike_39 : decode cX5_allUnlike 39 = .ok (.goto (-37), 3) := by decide +kernel
theorem dX5_allUnlike_42 : decode cX5_allUnlike 42 = .ok (.iconst 1, 1) := by decide +kernel
theorem dX5_allUnlike_43 : decode cX5_allUnlike 43 = .ok (.ireturn, 1) := by decide +kernel
theorem dX5_allRising_0 : decode cX5_allRising 0 = .ok (.iconst 1, 1) := by decide +kernel
theorem dX5_allRising_1 : decode cX5_allRising 1 = .ok (.istore_n 2, 1) := by decide +kernel
theorem dX5_allRising_2 : decode cX5_allRising 2 = .ok (.iload_n 2, 1) := by decide +kernel
theorem dX5_allRising_3 : decode cX5_allRising 3 = .ok (.iload_n 1, 1) := by decide +kernel
theorem dX5_allRising_4 : decode cX5_allRising 4 = .ok (.if_icmp .ge 22, 3) := by decide +kernel
theorem dX5_allRising_7 : decode cX5_allRising 7 = .ok (.aload_n 0, 1) := by decide +kernel
theorem dX5_allRising_8 : decode cX5_allRising 8 = .ok (.iload_n 2, 1) := by decide +kernel
theorem dX5_allRising_9 : decode cX5_allRising 9 = .ok (.iaload, 1) := by decide +kernel
theorem dX5_allRising_10 : decode cX5_allRising 10 = .ok (.aload_n 0, 1) := by decide +kernel
theorem dX5_allRising_11 : decode cX5_allRising 11 = .ok (.iload_n 2, 1) := by decide +kernel
theorem dX5_allRising_12 : decode cX5_allRising 12 = .ok (.iconst 1, 1) := by decide +kernel
theorem dX5_allRising_13 : decode cX5_allRising 13 = .ok (.isub, 1) := by decide +kernel
theorem dX5_allRising_14 : decode cX5_allRising 14 = .ok (.iaload, 1) := by decide +kernel
theorem dX5_allRising_15 : decode cX5_allRising 15 = .ok (.if_icmp .gt 5, 3) := by decide +kernel
theorem dX5_allRising_18 : decode cX5_allRising 18 = .ok (.iconst 0, 1) := by decide +kernel
theorem dX5_allRising_19 : decode cX5_allRising 19 = .ok (.ireturn, 1) := by decide +kernel
theorem dX5_allRising_20 : decode cX5_allRising 20 = .ok (.iinc 2 1, 3) := by decide +kernel
theorem dX5_allRising_23 : decode cX5_allRising 23 = .ok (.goto (-21), 3) := by decide +kernel
theorem dX5_allRising_26 : decode cX5_allRising 26 = .ok (.iconst 1, 1) := by decide +kernel
theorem dX5_allRising_27 : decode cX5_allRising 27 = .ok (.ireturn, 1) := by decide +kernel
theorem dX5_allEven_0 : decode cX5_allEven 0 = .ok (.iconst 0, 1) := by decide +kernel
theorem dX5_allEven_1 : decode cX5_allEven 1 = .ok (.istore_n 2, 1) := by decide +kernel
theorem dX5_allEven_2 : decode cX5_allEven 2 = .ok (.iload_n 2, 1) := by decide +kernel
theorem dX5_allEven_3 : decode cX5_allEven 3 = .ok (.iload_n 1, 1) := by decide +kernel
theorem dX5_allEven_4 : decode cX5_allEven 4 = .ok (.if_icmp .ge 19, 3) := by decide +kernel
theorem dX5_allEven_7 : decode cX5_allEven 7 = .ok (.aload_n 0, 1) := by decide +kernel
theorem dX5_allEven_8 : decode cX5_allEven 8 = .ok (.iload_n 2, 1) := by decide +kernel
theorem dX5_allEven_9 : decode cX5_allEven 9 = .ok (.iaload, 1) := by decide +kernel
theorem dX5_allEven_10 : decode cX5_allEven 10 = .ok (.iconst 1, 1) := by decide +kernel
theorem dX5_allEven_11 : decode cX5_allEven 11 = .ok (.iand, 1) := by decide +kernel
theorem dX5_allEven_12 : decode cX5_allEven 12 = .ok (.ifCond .eq 5, 3) := by decide +kernel
theorem dX5_allEven_15 : decode cX5_allEven 15 = .ok (.iconst 0, 1) := by decide +kernel
theorem dX5_allEven_16 : decode cX5_allEven 16 = .ok (.ireturn, 1) := by decide +kernel
theorem dX5_allEven_17 : decode cX5_allEven 17 = .ok (.iinc 2 1, 3) := by decide +kernel
theorem dX5_allEven_20 : decode cX5_allEven 20 = .ok (.goto (-18), 3) := by decide +kernel
theorem dX5_allEven_23 : decode cX5_allEven 23 = .ok (.iconst 1, 1) := by decide +kernel
theorem dX5_allEven_24 : decode cX5_allEven 24 = .ok (.ireturn, 1) := by decide +kernel
theorem dX5_noneAbove_0 : decode cX5_noneAbove 0 = .ok (.iconst 0, 1) := by decide +kernel
theorem dX5_noneAbove_1 : decode cX5_noneAbove 1 = .ok (.istore_n 3, 1) := by decide +kernel
theorem dX5_noneAbove_2 : decode cX5_noneAbove 2 = .ok (.iload_n 3, 1) := by decide +kernel
theorem dX5_noneAbove_3 : decode cX5_noneAbove 3 = .ok (.iload_n 2, 1) := by decide +kernel
theorem dX5_noneAbove_4 : decode cX5_noneAbove 4 = .ok (.if_icmp .ge 18, 3) := by decide +kernel
theorem dX5_noneAbove_7 : decode cX5_noneAbove 7 = .ok (.aload_n 1, 1) := by decide +kernel
theorem dX5_noneAbove_8 : decode cX5_noneAbove 8 = .ok (.iload_n 3, 1) := by decide +kernel
theorem dX5_noneAbove_9 : decode cX5_noneAbove 9 = .ok (.iaload, 1) := by decide +kernel
theorem dX5_noneAbove_10 : decode cX5_noneAbove 10 = .ok (.iload_n 0, 1) := by decide +kernel
theorem dX5_noneAbove_11 : decode cX5_noneAbove 11 = .ok (.if_icmp .le 5, 3) := by decide +kernel
theorem dX5_noneAbove_14 : decode cX5_noneAbove 14 = .ok (.iconst 0, 1) := by decide +kernel
theorem dX5_noneAbove_15 : decode cX5_noneAbove 15 = .ok (.ireturn, 1) := by decide +kernel
theorem dX5_noneAbove_16 : decode cX5_noneAbove 16 = .ok (.iinc 3 1, 3) := by decide +kernel
theorem dX5_noneAbove_19 : decode cX5_noneAbove 19 = .ok (.goto (-17), 3) := by decide +kernel
theorem dX5_noneAbove_22 : decode cX5_noneAbove 22 = .ok (.iconst 1, 1) := by decide +kernel
theorem dX5_noneAbove_23 : decode cX5_noneAbove 23 = .ok (.ireturn, 1) := by decide +kernel
theorem dX5_together_0 : decode cX5_together 0 = .ok (.iconst 0, 1) := by decide +kernel
theorem dX5_together_1 : decode cX5_together 1 = .ok (.istore_n 2, 1) := by decide +kernel
theorem dX5_together_2 : decode cX5_together 2 = .ok (.iconst 0, 1) := by decide +kernel
theorem dX5_together_3 : decode cX5_together 3 = .ok (.istore_n 3, 1) := by decide +kernel
theorem dX5_together_4 : decode cX5_together 4 = .ok (.iload_n 3, 1) := by decide +kernel
theorem dX5_together_5 : decode cX5_together 5 = .ok (.iload_n 1, 1) := by decide +kernel
theorem dX5_together_6 : decode cX5_together 6 = .ok (.if_icmp .ge 15, 3) := by decide +kernel
theorem dX5_together_9 : decode cX5_together 9 = .ok (.iload_n 2, 1) := by decide +kernel
theorem dX5_together_10 : decode cX5_together 10 = .ok (.aload_n 0, 1) := by decide +kernel
theorem dX5_together_11 : decode cX5_together 11 = .ok (.iload_n 3, 1) := by decide +kernel
theorem dX5_together_12 : decode cX5_together 12 = .ok (.iaload, 1) := by decide +kernel
theorem dX5_together_13 : decode cX5_together 13 = .ok (.iadd, 1) := by decide +kernel
theorem dX5_together_14 : decode cX5_together 14 = .ok (.istore_n 2, 1) := by decide +kernel
theorem dX5_together_15 : decode cX5_together 15 = .ok (.iinc 3 1, 3) := by decide +kernel
theorem dX5_together_18 : decode cX5_together 18 = .ok (.goto (-14), 3) := by decide +kernel
theorem dX5_together_21 : decode cX5_together 21 = .ok (.iload_n 2, 1) := by decide +kernel
theorem dX5_together_22 : decode cX5_together 22 = .ok (.ireturn, 1) := by decide +kernel
theorem dX5_aheadOf_0 : decode cX5_aheadOf 0 = .ok (.iconst 0, 1) := by decide +kernel
theorem dX5_aheadOf_1 : decode cX5_aheadOf 1 = .ok (.istore_n 3, 1) := by decide +kernel
theorem dX5_aheadOf_2 : decode cX5_aheadOf 2 = .ok (.iconst 0, 1) := by decide +kernel
theorem dX5_aheadOf_3 : decode cX5_aheadOf 3 = .ok (.istore 4, 2) := by decide +kernel
theorem dX5_aheadOf_5 : decode cX5_aheadOf 5 = .ok (.iload 4, 2) := by decide +kernel
theorem dX5_aheadOf_7 : decode cX5_aheadOf 7 = .ok (.iload_n 2, 1) := by decide +kernel
theorem dX5_aheadOf_8 : decode cX5_aheadOf 8 = .ok (.if_icmp .ge 38, 3) := by decide +kernel
theorem dX5_aheadOf_11 : decode cX5_aheadOf 11 = .ok (.aload_n 1, 1) := by decide +kernel
theorem dX5_aheadOf_12 : decode cX5_aheadOf 12 = .ok (.iload 4, 2) := by decide +kernel
theorem dX5_aheadOf_14 : decode cX5_aheadOf 14 = .ok (.iaload, 1) := by decide +kernel
theorem dX5_aheadOf_15 : decode cX5_aheadOf 15 = .ok (.aload_n 1, 1) := by decide +kernel
theorem dX5_aheadOf_16 : decode cX5_aheadOf 16 = .ok (.iload_n 0, 1) := by decide +kernel
theorem dX5_aheadOf_17 : decode cX5_aheadOf 17 = .ok (.iaload, 1) := by decide +kernel
theorem dX5_aheadOf_18 : decode cX5_aheadOf 18 = .ok (.if_icmp .gt 19, 3) := by decide +kernel
theorem dX5_aheadOf_21 : decode cX5_aheadOf 21 = .ok (.aload_n 1, 1) := by decide +kernel
theorem dX5_aheadOf_22 : decode cX5_aheadOf 22 = .ok (.iload 4, 2) := by decide +kernel
theorem dX5_aheadOf_24 : decode cX5_aheadOf 24 = .ok (.iaload, 1) := by decide +kernel
theorem dX5_aheadOf_25 : decode cX5_aheadOf 25 = .ok (.aload_n 1, 1) := by decide +kernel
theorem dX5_aheadOf_26 : decode cX5_aheadOf 26 = .ok (.iload_n 0, 1) := by decide +kernel
theorem dX5_aheadOf_27 : decode cX5_aheadOf 27 = .ok (.iaload, 1) := by decide +kernel
theorem dX5_aheadOf_28 : decode cX5_aheadOf 28 = .ok (.if_icmp .ne 12, 3) := by decide +kernel
theorem dX5_aheadOf_31 : decode cX5_aheadOf 31 = .ok (.iload 4, 2) := by decide +kernel
theorem dX5_aheadOf_33 : decode cX5_aheadOf 33 = .ok (.iload_n 0, 1) := by decide +kernel
theorem dX5_aheadOf_34 : decode cX5_aheadOf 34 = .ok (.if_icmp .ge 6, 3) := by decide +kernel
theorem dX5_aheadOf_37 : decode cX5_aheadOf 37 = .ok (.iinc 3 1, 3) := by decide +kernel
theorem dX5_aheadOf_40 : decode cX5_aheadOf 40 = .ok (.iinc 4 1, 3) := by decide +kernel
theorem dX5_aheadOf_43 : decode cX5_aheadOf 43 = .ok (.goto (-38), 3) := by decide +kernel
theorem dX5_aheadOf_46 : decode cX5_aheadOf 46 = .ok (.iload_n 3, 1) := by decide +kernel
theorem dX5_aheadOf_47 : decode cX5_aheadOf 47 = .ok (.ireturn, 1) := by decide +kernel
theorem dX5_spreadOf_0 : decode cX5_spreadOf 0 = .ok (.aload_n 0, 1) := by decide +kernel
theorem dX5_spreadOf_1 : decode cX5_spreadOf 1 = .ok (.iconst 0, 1) := by decide +kernel
theorem dX5_spreadOf_2 : decode cX5_spreadOf 2 = .ok (.iaload, 1) := by decide +kernel
theorem dX5_spreadOf_3 : decode cX5_spreadOf 3 = .ok (.istore_n 2, 1) := by decide +kernel
theorem dX5_spreadOf_4 : decode cX5_spreadOf 4 = .ok (.aload_n 0, 1) := by decide +kernel
theorem dX5_spreadOf_5 : decode cX5_spreadOf 5 = .ok (.iconst 0, 1) := by decide +kernel
theorem dX5_spreadOf_6 : decode cX5_spreadOf 6 = .ok (.iaload, 1) := by decide +kernel
theorem dX5_spreadOf_7 : decode cX5_spreadOf 7 = .ok (.istore_n 3, 1) := by decide +kernel
theorem dX5_spreadOf_8 : decode cX5_spreadOf 8 = .ok (.iconst 1, 1) := by decide +kernel
theorem dX5_spreadOf_9 : decode cX5_spreadOf 9 = .ok (.istore 4, 2) := by decide +kernel
theorem dX5_spreadOf_11 : decode cX5_spreadOf 11 = .ok (.iload 4, 2) := by decide +kernel
theorem dX5_spreadOf_13 : decode cX5_spreadOf 13 = .ok (.iload_n 1, 1) := by decide +kernel
theorem dX5_spreadOf_14 : decode cX5_spreadOf 14 = .ok (.if_icmp .ge 27, 3) := by decide +kernel
theorem dX5_spreadOf_17 : decode cX5_spreadOf 17 = .ok (.iload_n 2, 1) := by decide +kernel
theorem dX5_spreadOf_18 : decode cX5_spreadOf 18 = .ok (.aload_n 0, 1) := by decide +kernel
theorem dX5_spreadOf_19 : decode cX5_spreadOf 19 = .ok (.iload 4, 2) := by decide +kernel
theorem dX5_spreadOf_21 : decode cX5_spreadOf 21 = .ok (.iaload, 1) := by decide +kernel
theorem dX5_spreadOf_22 : decode cX5_spreadOf 22 = .ok (.invokestatic 28, 3) := by decide +kernel
theorem dX5_spreadOf_25 : decode cX5_spreadOf 25 = .ok (.istore_n 2, 1) := by decide +kernel
theorem dX5_spreadOf_26 : decode cX5_spreadOf 26 = .ok (.iload_n 3, 1) := by decide +kernel
theorem dX5_spreadOf_27 : decode cX5_spreadOf 27 = .ok (.aload_n 0, 1) := by decide +kernel
theorem dX5_spreadOf_28 : decode cX5_spreadOf 28 = .ok (.iload 4, 2) := by decide +kernel
theorem dX5_spreadOf_30 : decode cX5_spreadOf 30 = .ok (.iaload, 1) := by decide +kernel
theorem dX5_spreadOf_31 : decode cX5_spreadOf 31 = .ok (.invokestatic 34, 3) := by decide +kernel
theorem dX5_spreadOf_34 : decode cX5_spreadOf 34 = .ok (.istore_n 3, 1) := by decide +kernel
theorem dX5_spreadOf_35 : decode cX5_spreadOf 35 = .ok (.iinc 4 1, 3) := by decide +kernel
theorem dX5_spreadOf_38 : decode cX5_spreadOf 38 = .ok (.goto (-27), 3) := by decide +kernel
theorem dX5_spreadOf_41 : decode cX5_spreadOf 41 = .ok (.iload_n 3, 1) := by decide +kernel
theorem dX5_spreadOf_42 : decode cX5_spreadOf 42 = .ok (.iload_n 2, 1) := by decide +kernel
theorem dX5_spreadOf_43 : decode cX5_spreadOf 43 = .ok (.isub, 1) := by decide +kernel
theorem dX5_spreadOf_44 : decode cX5_spreadOf 44 = .ok (.ireturn, 1) := by decide +kernel
theorem dX6_init_0 : decode cX6_init 0 = .ok (.aload_n 0, 1) := by decide +kernel
theorem dX6_init_1 : decode cX6_init 1 = .ok (.invokespecial 3, 3) := by decide +kernel
theorem dX6_init_4 : decode cX6_init 4 = .ok (.aload_n 0, 1) := by decide +kernel
theorem dX6_init_5 : decode cX6_init 5 = .ok (.bipush 7, 2) := by decide +kernel
theorem dX6_init_7 : decode cX6_init 7 = .ok (.bipush 8, 2) := by decide +kernel
theorem dX6_init_9 : decode cX6_init 9 = .ok (.multianewarray 9 2, 4) := by decide +kernel
theorem dX6_init_13 : decode cX6_init 13 = .ok (.putfield 11, 3) := by decide +kernel
theorem dX6_init_16 : decode cX6_init 16 = .ok (.aload_n 0, 1) := by decide +kernel
theorem dX6_init_17 : decode cX6_init 17 = .ok (.aload_n 1, 1) := by decide +kernel
theorem dX6_init_18 : decode cX6_init 18 = .ok (.putfield 16, 3) := by decide +kernel
theorem dX6_init_21 : decode cX6_init 21 = .ok (.return_, 1) := by decide +kernel
theorem dX6_rankOfTable_0 : decode cX6_rankOfTable 0 = .ok (.iconst 0, 1) := by decide +kernel
theorem dX6_rankOfTable_1 : decode cX6_rankOfTable 1 = .ok (.istore_n 1, 1) := by decide +kernel
theorem dX6_rankOfTable_2 : decode cX6_rankOfTable 2 = .ok (.iload_n 1, 1) := by decide +kernel
theorem dX6_rankOfTable_3 : decode cX6_rankOfTable 3 = .ok (.aload_n 0, 1) := by decide +kernel
theorem dX6_rankOfTable_4 : decode cX6_rankOfTable 4 = .ok (.getfield 16, 3) := by decide +kernel
theorem dX6_rankOfTable_7 : decode cX6_rankOfTable 7 = .ok (.getfield 20, 3) := by decide +kernel
theorem dX6_rankOfTable_10 : decode cX6_rankOfTable 10 = .ok (.if_icmp .ge 46, 3) := by decide +kernel
theorem dX6_rankOfTable_13 : decode cX6_rankOfTable 13 = .ok (.iconst 0, 1) := by decide +kernel
theorem dX6_rankOfTable_14 : decode cX6_rankOfTable 14 = .ok (.istore_n 2, 1) := by decide +kernel
theorem dX6_rankOfTable_15 : decode cX6_rankOfTable 15 = .ok (.iload_n 2, 1) := by decide +kernel
theorem dX6_rankOfTable_16 : decode cX6_rankOfTable 16 = .ok (.aload_n 0, 1) := by decide +kernel
theorem dX6_rankOfTable_17 : decode cX6_rankOfTable 17 = .ok (.getfield 16, 3) := by decide +kernel
theorem dX6_rankOfTable_20 : decode cX6_rankOfTable 20 = .ok (.getfield 26, 3) := by decide +kernel
theorem dX6_rankOfTable_23 : decode cX6_rankOfTable 23 = .ok (.if_icmp .ge 27, 3) := by decide +kernel
theorem dX6_rankOfTable_26 : decode cX6_rankOfTable 26 = .ok (.aload_n 0, 1) := by decide +kernel
theorem dX6_rankOfTable_27 : decode cX6_rankOfTable 27 = .ok (.getfield 11, 3) := by decide +kernel
theorem dX6_rankOfTable_30 : decode cX6_rankOfTable 30 = .ok (.iload_n 1, 1) := by decide +kernel
theorem dX6_rankOfTable_31 : decode cX6_rankOfTable 31 = .ok (.aaload, 1) := by decide +kernel
theorem dX6_rankOfTable_32 : decode cX6_rankOfTable 32 = .ok (.iload_n 2, 1) := by decide +kernel
theorem dX6_rankOfTable_33 : decode cX6_rankOfTable 33 = .ok (.aload_n 0, 1) := by decide +kernel
theorem dX6_rankOfTable_34 : decode cX6_rankOfTable 34 = .ok (.getfield 16, 3) := by decide +kernel
theorem dX6_rankOfTable_37 : decode cX6_rankOfTable 37 = .ok (.iload_n 1, 1) := by decide +kernel
theorem dX6_rankOfTable_38 : decode cX6_rankOfTable 38 = .ok (.iload_n 2, 1) := by decide +kernel
theorem dX6_rankOfTable_39 : decode cX6_rankOfTable 39 = .ok (.invokevirtual 29, 3) := by decide +kernel
theorem dX6_rankOfTable_42 : decode cX6_rankOfTable 42 = .ok (.i2l, 1) := by decide +kernel
theorem dX6_rankOfTable_43 : decode cX6_rankOfTable 43 = .ok (.lastore, 1) := by decide +kernel
theorem dX6_rankOfTable_44 : decode cX6_rankOfTable 44 = .ok (.iinc 2 1, 3) := by decide +kernel
theorem dX6_rankOfTable_47 : decode cX6_rankOfTable 47 = .ok (.goto (-32), 3) := by decide +kernel
theorem dX6_rankOfTable_50 : decode cX6_rankOfTable 50 = .ok (.iinc 1 1, 3) := by decide +kernel
theorem dX6_rankOfTable_53 : decode cX6_rankOfTable 53 = .ok (.goto (-51), 3) := by decide +kernel
theorem dX6_rankOfTable_56 : decode cX6_rankOfTable 56 = .ok (.iconst 0, 1) := by decide +kernel
theorem dX6_rankOfTable_57 : decode cX6_rankOfTable 57 = .ok (.istore_n 1, 1) := by decide +kernel
theorem dX6_rankOfTable_58 : decode cX6_rankOfTable 58 = .ok (.iconst 0, 1) := by decide +kernel
theorem dX6_rankOfTable_59 : decode cX6_rankOfTable 59 = .ok (.istore_n 2, 1) := by decide +kernel
theorem dX6_rankOfTable_60 : decode cX6_rankOfTable 60 = .ok (.iload_n 2, 1) := by decide +kernel
theorem dX6_rankOfTable_61 : decode cX6_rankOfTable 61 = .ok (.aload_n 0, 1) := by decide +kernel
theorem dX6_rankOfTable_62 : decode cX6_rankOfTable 62 = .ok (.getfield 16, 3) := by decide +kernel
theorem dX6_rankOfTable_65 : decode cX6_rankOfTable 65 = .ok (.getfield 26, 3) := by decide +kernel
theorem dX6_rankOfTable_68 : decode cX6_rankOfTable 68 = .ok (.if_icmp .ge 38, 3) := by decide +kernel
theorem dX6_rankOfTable_71 : decode cX6_rankOfTable 71 = .ok (.iload_n 1, 1) := by decide +kernel
theorem dX6_rankOfTable_72 : decode cX6_rankOfTable 72 = .ok (.aload_n 0, 1) := by decide +kernel
theorem dX6_rankOfTable_73 : decode cX6_rankOfTable 73 = .ok (.getfield 16, 3) := by decide +kernel
theorem dX6_rankOfTable_76 : decode cX6_rankOfTable 76 = .ok (.getfield 20, 3) := by decide +kernel
theorem dX6_rankOfTable_79 : decode cX6_rankOfTable 79 = .ok (.if_icmp .ge 27, 3) := by decide +kernel
theorem dX6_rankOfTable_82 : decode cX6_rankOfTable 82 = .ok (.aload_n 0, 1) := by decide +kernel
theorem dX6_rankOfTable_83 : decode cX6_rankOfTable 83 = .ok (.iload_n 1, 1) := by decide +kernel
theorem dX6_rankOfTable_84 : decode cX6_rankOfTable 84 = .ok (.iload_n 2, 1) := by decide +kernel
theorem dX6_rankOfTable_85 : decode cX6_rankOfTable 85 = .ok (.invokevirtual 33, 3) := by decide +kernel
theorem dX6_rankOfTable_88 : decode cX6_rankOfTable 88 = .ok (.ifCond .eq 12, 3) := by decide +kernel
theorem dX6_rankOfTable_91 : decode cX6_rankOfTable 91 = .ok (.aload_n 0, 1) := by decide +kernel
theorem dX6_rankOfTable_92 : decode cX6_rankOfTable 92 = .ok (.iload_n 1, 1) := by decide +kernel
theorem dX6_rankOfTable_93 : decode cX6_rankOfTable 93 = .ok (.iload_n 2, 1) := by decide +kernel
theorem dX6_rankOfTable_94 : decode cX6_rankOfTable 94 = .ok (.invokevirtual 37, 3) := by decide +kernel
theorem dX6_rankOfTable_97 : decode cX6_rankOfTable 97 = .ok (.iinc 1 1, 3) := by decide +kernel
theorem dX6_rankOfTable_100 : decode cX6_rankOfTable 100 = .ok (.iinc 2 1, 3) := by decide +kernel
theorem dX6_rankOfTable_103 : decode cX6_rankOfTable 103 = .ok (.goto (-43), 3) := by decide +kernel
theorem dX6_rankOfTable_106 : decode cX6_rankOfTable 106 = .ok (.iload_n 1, 1) := by decide +kernel
theorem dX6_rankOfTable_107 : decode cX6_rankOfTable 107 = .ok (.ireturn, 1) := by decide +kernel
theorem dX6_bringUp_0 : decode cX6_bringUp 0 = .ok (.iload_n 1, 1) := by decide +kernel
theorem dX6_bringUp_1 : decode cX6_bringUp 1 = .ok (.istore_n 3, 1) := by decide +kernel
theorem dX6_bringUp_2 : decode cX6_bringUp 2 = .ok (.iload_n 3, 1) := by decide +kernel
theorem dX6_bringUp_3 : decode cX6_bringUp 3 = .ok (.aload_n 0, 1) := by decide +kernel
theorem dX6_bringUp_4 : decode cX6_bringUp 4 = .ok (.getfield 16, 3) := by decide +kernel
theorem dX6_bringUp_7 : decode cX6_bringUp 7 = .ok (.getfield 20, 3) := by decide +kernel
theorem dX6_bringUp_10 : decode cX6_bringUp 10 = .ok (.if_icmp .ge 30, 3) := by decide +kernel
theorem dX6_bringUp_13 : decode cX6_bringUp 13 = .ok (.aload_n 0, 1) := by decide +kernel
theorem dX6_bringUp_14 : decode cX6_bringUp 14 = .ok (.getfield 11, 3) := by decide +kernel
theorem dX6_bringUp_17 : decode cX6_bringUp 17 = .ok (.iload_n 3, 1) := by decide +kernel
theorem dX6_bringUp_18 : decode cX6_bringUp 18 = .ok (.aaload, 1) := by decide +kernel
theorem dX6_bringUp_19 : decode cX6_bringUp 19 = .ok (.iload_n 2, 1) := by decide +kernel
theorem dX6_bringUp_20 : decode cX6_bringUp 20 = .ok (.laload, 1) := by decide +kernel
theorem dX6_bringUp_21 : decode cX6_bringUp 21 = .ok (.lconst 0, 1) := by decide +kernel
theorem dX6_bringUp_22 : decode cX6_bringUp 22 = .ok (.lcmp, 1) := by decide +kernel
theorem dX6_bringUp_23 : decode cX6_bringUp 23 = .ok (.ifCond .eq 11, 3) := by decide +kernel
theorem dX6_bringUp_26 : decode cX6_bringUp 26 = .ok (.aload_n 0, 1) := by decide +kernel
theorem dX6_bringUp_27 : decode cX6_bringUp 27 = .ok (.iload_n 1, 1) := by decide +kernel
theorem dX6_bringUp_28 : decode cX6_bringUp 28 = .ok (.iload_n 3, 1) := by decide +kernel
theorem dX6_bringUp_29 : decode cX6_bringUp 29 = .ok (.invokevirtual 41, 3) := by decide +kernel
theorem dX6_bringUp_32 : decode cX6_bringUp 32 = .ok (.iconst 1, 1) := by decide +kernel
theorem dX6_bringUp_33 : decode cX6_bringUp 33 = .ok (.ireturn, 1) := by decide +kernel
theorem dX6_bringUp_34 : decode cX6_bringUp 34 = .ok (.iinc 3 1, 3) := by decide +kernel
theorem dX6_bringUp_37 : decode cX6_bringUp 37 = .ok (.goto (-35), 3) := by decide +kernel
theorem dX6_bringUp_40 : decode cX6_bringUp 40 = .ok (.iconst 0, 1) := by decide +kernel
theorem dX6_bringUp_41 : decode cX6_bringUp 41 = .ok (.ireturn, 1) := by decide +kernel
theorem dX6_exchangeRows_0 : decode cX6_exchangeRows 0 = .ok (.iconst 0, 1) := by decide +kernel
theorem dX6_exchangeRows_1 : decode cX6_exchangeRows 1 = .ok (.istore_n 3, 1) := by decide +kernel
theorem dX6_exchangeRows_2 : decode cX6_exchangeRows 2 = .ok (.iload_n 3, 1) := by decide +kernel
theorem dX6_exchangeRows_3 : decode cX6_exchangeRows 3 = .ok (.aload_n 0, 1) := by decide +kernel
theorem dX6_exchangeRows_4 : decode cX6_exchangeRows 4 = .ok (.getfield 16, 3) := by decide +kernel
theorem dX6_exchangeRows_7 : decode cX6_exchangeRows 7 = .ok (.getfield 26, 3) := by decide +kernel
theorem dX6_exchangeRows_10 : decode cX6_exchangeRows 10 = .ok (.if_icmp .ge 45, 3) := by decide +kernel
theorem dX6_exchangeRows_13 : decode cX6_exchangeRows 13 = .ok (.aload_n 0, 1) := by decide +kernel
theorem dX6_exchangeRows_14 : decode cX6_exchangeRows 14 = .ok (.getfield 11, 3) := by decide +kernel
theorem dX6_exchangeRows_17 : decode cX6_exchangeRows 17 = .ok (.iload_n 1, 1) := by decide +kernel
theorem dX6_exchangeRows_18 : decode cX6_exchangeRows 18 = .ok (.aaload, 1) := by decide +kernel
theorem dX6_exchangeRows_19 : decode cX6_exchangeRows 19 = .ok (.iload_n 3, 1) := by decide +kernel
theorem dX6_exchangeRows_20 : decode cX6_exchangeRows 20 = .ok (.laload, 1) := by decide +kernel
theorem dX6_exchangeRows_21 : decode cX6_exchangeRows 21 = .ok (.lstore 4, 2) := by decide +kernel
theorem dX6_exchangeRows_23 : decode cX6_exchangeRows 23 = .ok (.aload_n 0, 1) := by decide +kernel
theorem dX6_exchangeRows_24 : decode cX6_exchangeRows 24 = .ok (.getfield 11, 3) := by decide +kernel
theorem dX6_exchangeRows_27 : decode cX6_exchangeRows 27 = .ok (.iload_n 1, 1) := by decide +kernel
theorem dX6_exchangeRows_28 : decode cX6_exchangeRows 28 = .ok (.aaload, 1) := by decide +kernel
theorem dX6_exchangeRows_29 : decode cX6_exchangeRows 29 = .ok (.iload_n 3, 1) := by decide +kernel
theorem dX6_exchangeRows_30 : decode cX6_exchangeRows 30 = .ok (.aload_n 0, 1) := by decide +kernel
theorem dX6_exchangeRows_31 : decode cX6_exchangeRows 31 = .ok (.getfield 11, 3) := by decide +kernel
theorem dX6_exchangeRows_34 : decode cX6_exchangeRows 34 = .ok (.iload_n 2, 1) := by decide +kernel
theorem dX6_exchangeRows_35 : decode cX6_exchangeRows 35 = .ok (.aaload, 1) := by decide +kernel
theorem dX6_exchangeRows_36 : decode cX6_exchangeRows 36 = .ok (.iload_n 3, 1) := by decide +kernel
theorem dX6_exchangeRows_37 : decode cX6_exchangeRows 37 = .ok (.laload, 1) := by decide +kernel
theorem dX6_exchangeRows_38 : decode cX6_exchangeRows 38 = .ok (.lastore, 1) := by decide +kernel
theorem dX6_exchangeRows_39 : decode cX6_exchangeRows 39 = .ok (.aload_n 0, 1) := by decide +kernel
theorem dX6_exchangeRows_40 : decode cX6_exchangeRows 40 = .ok (.getfield 11, 3) := by decide +kernel
theorem dX6_exchangeRows_43 : decode cX6_exchangeRows 43 = .ok (.iload_n 2, 1) := by decide +kernel
theorem dX6_exchangeRows_44 : decode cX6_exchangeRows 44 = .ok (.aaload, 1) := by decide +kernel
theorem dX6_exchangeRows_45 : decode cX6_exchangeRows 45 = .ok (.iload_n 3, 1) := by decide +kernel
theorem dX6_exchangeRows_46 : decode cX6_exchangeRows 46 = .ok (.lload 4, 2) := by decide +kernel
theorem dX6_exchangeRows_48 : decode cX6_exchangeRows 48 = .ok (.lastore, 1) := by decide +kernel
theorem dX6_exchangeRows_49 : decode cX6_exchangeRows 49 = .ok (.iinc 3 1, 3) := by decide +kernel
theorem dX6_exchangeRows_52 : decode cX6_exchangeRows 52 = .ok (.goto (-50), 3) := by decide +kernel
theorem dX6_exchangeRows_55 : decode cX6_exchangeRows 55 = .ok (.return_, 1) := by decide +kernel
theorem dX6_clearBelow_0 : decode cX6_clearBelow 0 = .ok (.aload_n 0, 1) := by decide +kernel
theorem dX6_clearBelow_1 : decode cX6_clearBelow 1 = .ok (.getfield 11, 3) := by decide +kernel
theorem dX6_clearBelow_4 : decode cX6_clearBelow 4 = .ok (.iload_n 1, 1) := by decide +kernel
theorem dX6_clearBelow_5 : decode cX6_clearBelow 5 = .ok (.aaload, 1) := by decide +kernel
theorem dX6_clearBelow_6 : decode cX6_clearBelow 6 = .ok (.iload_n 2, 1) := by decide +kernel
theorem dX6_clearBelow_7 : decode cX6_clearBelow 7 = .ok (.laload, 1) := by decide +kernel
theorem dX6_clearBelow_8 : decode cX6_clearBelow 8 = .ok (.lstore_n 3, 1) := by decide +kernel
theorem dX6_clearBelow_9 : decode cX6_clearBelow 9 = .ok (.iload_n 1, 1) := by decide +kernel
theorem dX6_clearBelow_10 : decode cX6_clearBelow 10 = .ok (.iconst 1, 1) := by decide +kernel
theorem dX6_clearBelow_11 : decode cX6_clearBelow 11 = .ok (.iadd, 1) := by decide +kernel
theorem dX6_clearBelow_12 : decode cX6_clearBelow 12 = .ok (.istore 5, 2) := by decide +kernel
theorem dX6_clearBelow_14 : decode cX6_clearBelow 14 = .ok (.iload 5, 2) := by decide +kernel
theorem dX6_clearBelow_16 : decode cX6_clearBelow 16 = .ok (.aload_n 0, 1) := by decide +kernel
theorem dX6_clearBelow_17 : decode cX6_clearBelow 17 = .ok (.getfield 16, 3) := by decide +kernel
theorem dX6_clearBelow_20 : decode cX6_clearBelow 20 = .ok (.getfield 20, 3) := by decide +kernel
theorem dX6_clearBelow_23 : decode cX6_clearBelow 23 = .ok (.if_icmp .ge 80, 3) := by decide +kernel
theorem dX6_clearBelow_26 : decode cX6_clearBelow 26 = .ok (.aload_n 0, 1) := by decide +kernel
theorem dX6_clearBelow_27 : decode cX6_clearBelow 27 = .ok (.getfield 11, 3) := by decide +kernel
theorem dX6_clearBelow_30 : decode cX6_clearBelow 30 = .ok (.iload 5, 2) := by decide +kernel
theorem dX6_clearBelow_32 : decode cX6_clearBelow 32 = .ok (.aaload, 1) := by decide +kernel
theorem dX6_clearBelow_33 : decode cX6_clearBelow 33 = .ok (.iload_n 2, 1) := by decide +kernel
theorem dX6_clearBelow_34 : decode cX6_clearBelow 34 = .ok (.laload, 1) := by decide +kernel
theorem dX6_clearBelow_35 : decode cX6_clearBelow 35 = .ok (.lstore 6, 2) := by decide +kernel
theorem dX6_clearBelow_37 : decode cX6_clearBelow 37 = .ok (.iload_n 2, 1) := by decide +kernel
theorem dX6_clearBelow_38 : decode cX6_clearBelow 38 = .ok (.istore 8, 2) := by decide +kernel
theorem dX6_clearBelow_40 : decode cX6_clearBelow 40 = .ok (.iload 8, 2) := by decide +kernel
theorem dX6_clearBelow_42 : decode cX6_clearBelow 42 = .ok (.aload_n 0, 1) := by decide +kernel
theorem dX6_clearBelow_43 : decode cX6_clearBelow 43 = .ok (.getfield 16, 3) := by decide +kernel
theorem dX6_clearBelow_46 : decode cX6_clearBelow 46 = .ok (.getfield 26, 3) := by decide +kernel
theorem dX6_clearBelow_49 : decode cX6_clearBelow 49 = .ok (.if_icmp .ge 48, 3) := by decide +kernel
theorem dX6_clearBelow_52 : decode cX6_clearBelow 52 = .ok (.aload_n 0, 1) := by decide +kernel
theorem dX6_clearBelow_53 : decode cX6_clearBelow 53 = .ok (.getfield 11, 3) := by decide +kernel
theorem dX6_clearBelow_56 : decode cX6_clearBelow 56 = .ok (.iload 5, 2) := by decide +kernel
theorem dX6_clearBelow_58 : decode cX6_clearBelow 58 = .ok (.aaload, 1) := by decide +kernel
theorem dX6_clearBelow_59 : decode cX6_clearBelow 59 = .ok (.iload 8, 2) := by decide +kernel
theorem dX6_clearBelow_61 : decode cX6_clearBelow 61 = .ok (.aload_n 0, 1) := by decide +kernel
theorem dX6_clearBelow_62 : decode cX6_clearBelow 62 = .ok (.getfield 11, 3) := by decide +kernel
theorem dX6_clearBelow_65 : decode cX6_clearBelow 65 = .ok (.iload 5, 2) := by decide +kernel
theorem dX6_clearBelow_67 : decode cX6_clearBelow 67 = .ok (.aaload, 1) := by decide +kernel
theorem dX6_clearBelow_68 : decode cX6_clearBelow 68 = .ok (.iload 8, 2) := by decide +kernel
theorem dX6_clearBelow_70 : decode cX6_clearBelow 70 = .ok (.laload, 1) := by decide +kernel
theorem dX6_clearBelow_71 : decode cX6_clearBelow 71 = .ok (.lload_n 3, 1) := by decide +kernel
theorem dX6_clearBelow_72 : decode cX6_clearBelow 72 = .ok (.lmul, 1) := by decide +kernel
theorem dX6_clearBelow_73 : decode cX6_clearBelow 73 = .ok (.aload_n 0, 1) := by decide +kernel
theorem dX6_clearBelow_74 : decode cX6_clearBelow 74 = .ok (.getfield 11, 3) := by decide +kernel
theorem dX6_clearBelow_77 : decode cX6_clearBelow 77 = .ok (.iload_n 1, 1) := by decide +kernel
theorem dX6_clearBelow_78 : decode cX6_clearBelow 78 = .ok (.aaload, 1) := by decide +kernel
theorem dX6_clearBelow_79 : decode cX6_clearBelow 79 = .ok (.iload 8, 2) := by decide +kernel
theorem dX6_clearBelow_81 : decode cX6_clearBelow 81 = .ok (.laload, 1) := by decide +kernel
theorem dX6_clearBelow_82 : decode cX6_clearBelow 82 = .ok (.lload 6, 2) := by decide +kernel
theorem dX6_clearBelow_84 : decode cX6_clearBelow 84 = .ok (.lmul, 1) := by decide +kernel
theorem dX6_clearBelow_85 : decode cX6_clearBelow 85 = .ok (.lsub, 1) := by decide +kernel
theorem dX6_clearBelow_86 : decode cX6_clearBelow 86 = .ok (.ldc2_w 44, 3) := by decide +kernel
theorem dX6_clearBelow_89 : decode cX6_clearBelow 89 = .ok (.lrem, 1) := by decide +kernel
theorem dX6_clearBelow_90 : decode cX6_clearBelow 90 = .ok (.lastore, 1) := by decide +kernel
theorem dX6_clearBelow_91 : decode cX6_clearBelow 91 = .ok (.iinc 8 1, 3) := by decide +kernel
theorem dX6_clearBelow_94 : decode cX6_clearBelow 94 = .ok (.goto (-54), 3) := by decide +kernel
theorem dX6_clearBelow_97 : decode cX6_clearBelow 97 = .ok (.iinc 5 1, 3) := by decide +kernel
theorem dX6_clearBelow_100 : decode cX6_clearBelow 100 = .ok (.goto (-86), 3) := by decide +kernel
theorem dX6_clearBelow_103 : decode cX6_clearBelow 103 = .ok (.return_, 1) := by decide +kernel
theorem dX6_reached_0 : decode cX6_reached 0 = .ok (.iconst 1, 1) := by decide +kernel
theorem dX6_reached_1 : decode cX6_reached 1 = .ok (.iload_n 1, 1) := by decide +kernel
theorem dX6_reached_2 : decode cX6_reached 2 = .ok (.ishl, 1) := by decide +kernel
theorem dX6_reached_3 : decode cX6_reached 3 = .ok (.istore_n 2, 1) := by decide +kernel
theorem dX6_reached_4 : decode cX6_reached 4 = .ok (.iconst 0, 1) := by decide +kernel
theorem dX6_reached_5 : decode cX6_reached 5 = .ok (.istore_n 3, 1) := by decide +kernel
theorem dX6_reached_6 : decode cX6_reached 6 = .ok (.iload_n 3, 1) := by decide +kernel
theorem dX6_reached_7 : decode cX6_reached 7 = .ok (.bipush 14, 2) := by decide +kernel
theorem dX6_reached_9 : decode cX6_reached 9 = .ok (.if_icmp .ge 96, 3) := by decide +kernel
theorem dX6_reached_12 : decode cX6_reached 12 = .ok (.iload_n 2, 1) := by decide +kernel
theorem dX6_reached_13 : decode cX6_reached 13 = .ok (.istore 4, 2) := by decide +kernel
theorem dX6_reached_15 : decode cX6_reached 15 = .ok (.iconst 0, 1) := by decide +kernel
theorem dX6_reached_16 : decode cX6_reached 16 = .ok (.istore 5, 2) := by decide +kernel
theorem dX6_reached_18 : decode cX6_reached 18 = .ok (.iload 5, 2) := by decide +kernel
theorem dX6_reached_20 : decode cX6_reached 20 = .ok (.aload_n 0, 1) := by decide +kernel
theorem dX6_reached_21 : decode cX6_reached 21 = .ok (.getfield 16, 3) := by decide +kernel
theorem dX6_reached_24 : decode cX6_reached 24 = .ok (.getfield 26, 3) := by decide +kernel
theorem dX6_reached_27 : decode cX6_reached 27 = .ok (.if_icmp .ge 63, 3) := by decide +kernel
theorem dX6_reached_30 : decode cX6_reached 30 = .ok (.iload_n 2, 1) := by decide +kernel
theorem dX6_reached_31 : decode cX6_reached 31 = .ok (.iload_n 2, 1) := by decide +kernel
theorem dX6_reached_32 : decode cX6_reached 32 = .ok (.aload_n 0, 1) := by decide +kernel
theorem dX6_reached_33 : decode cX6_reached 33 = .ok (.getfield 16, 3) := by decide +kernel
theorem dX6_reached_36 : decode cX6_reached 36 = .ok (.getfield 46, 3) := by decide +kernel
theorem dX6_reached_39 : decode cX6_reached 39 = .ok (.iload 5, 2) := by decide +kernel
theorem dX6_reached_41 : decode cX6_reached 41 = .ok (.iaload, 1) := by decide +kernel
theorem dX6_reached_42 : decode cX6_reached 42 = .ok (.aload_n 0, 1) := by decide +kernel
theorem dX6_reached_43 : decode cX6_reached 43 = .ok (.getfield 16, 3) := by decide +kernel
theorem dX6_reached_46 : decode cX6_reached 46 = .ok (.getfield 50, 3) := by decide +kernel
theorem dX6_reached_49 : decode cX6_reached 49 = .ok (.iload 5, 2) := by decide +kernel
theorem dX6_reached_51 : decode cX6_reached 51 = .ok (.iaload, 1) := by decide +kernel
theorem dX6_reached_52 : decode cX6_reached 52 = .ok (.invokestatic 53, 3) := by decide +kernel
theorem dX6_reached_55 : decode cX6_reached 55 = .ok (.ior, 1) := by decide +kernel
theorem dX6_reached_56 : decode cX6_reached 56 = .ok (.istore_n 2, 1) := by decide +kernel
theorem dX6_reached_57 : decode cX6_reached 57 = .ok (.iload_n 2, 1) := by decide +kernel
theorem dX6_reached_58 : decode cX6_reached 58 = .ok (.iload_n 2, 1) := by decide +kernel
theorem dX6_reached_59 : decode cX6_reached 59 = .ok (.aload_n 0, 1) := by decide +kernel
theorem dX6_reached_60 : decode cX6_reached 60 = .ok (.getfield 16, 3) := by decide +kernel
theorem dX6_reached_63 : decode cX6_reached 63 = .ok (.getfield 50, 3) := by decide +kernel
theorem dX6_reached_66 : decode cX6_reached 66 = .ok (.iload 5, 2) := by decide +kernel
theorem dX6_reached_68 : decode cX6_reached 68 = .ok (.iaload, 1) := by decide +kernel
theorem dX6_reached_69 : decode cX6_reached 69 = .ok (.aload_n 0, 1) := by decide +kernel
theorem dX6_reached_70 : decode cX6_reached 70 = .ok (.getfield 16, 3) := by decide +kernel
theorem dX6_reached_73 : decode cX6_reached 73 = .ok (.getfield 46, 3) := by decide +kernel
theorem dX6_reached_76 : decode cX6_reached 76 = .ok (.iload 5, 2) := by decide +kernel
theorem dX6_reached_78 : decode cX6_reached 78 = .ok (.iaload, 1) := by decide +kernel
theorem dX6_reached_79 : decode cX6_reached 79 = .ok (.invokestatic 53, 3) := by decide +kernel
theorem dX6_reached_82 : decode cX6_reached 82 = .ok (.ior, 1) := by decide +kernel
theorem dX6_reached_83 : decode cX6_reached 83 = .ok (.istore_n 2, 1) := by decide +kernel
theorem dX6_reached_84 : decode cX6_reached 84 = .ok (.iinc 5 1, 3) := by decide +kernel
theorem dX6_reached_87 : decode cX6_reached 87 = .ok (.goto (-69), 3) := by decide +kernel
theorem dX6_reached_90 : decode cX6_reached 90 = .ok (.iload_n 2, 1) := by decide +kernel
theorem dX6_reached_91 : decode cX6_reached 91 = .ok (.iload 4, 2) := by decide +kernel
theorem dX6_reached_93 : decode cX6_reached 93 = .ok (.if_icmp .ne 6, 3) := by decide +kernel
theorem dX6_reached_96 : decode cX6_reached 96 = .ok (.goto 9, 3) := by decide +kernel
theorem dX6_reached_99 : decode cX6_reached 99 = .ok (.iinc 3 1, 3) := by decide +kernel
theorem dX6_reached_102 : decode cX6_reached 102 = .ok (.goto (-96), 3) := by decide +kernel
theorem dX6_reached_105 : decode cX6_reached 105 = .ok (.iload_n 2, 1) := by decide +kernel
theorem dX6_reached_106 : decode cX6_reached 106 = .ok (.ireturn, 1) := by decide +kernel
theorem dX6_across_0 : decode cX6_across 0 = .ok (.iload_n 0, 1) := by decide +kernel
theorem dX6_across_1 : decode cX6_across 1 = .ok (.iload_n 1, 1) := by decide +kernel
theorem dX6_across_2 : decode cX6_across 2 = .ok (.ishr, 1) := by decide +kernel
theorem dX6_across_3 : decode cX6_across 3 = .ok (.iconst 1, 1) := by decide +kernel
theorem dX6_across_4 : decode cX6_across 4 = .ok (.iand, 1) := by decide +kernel
theorem dX6_across_5 : decode cX6_across 5 = .ok (.iload_n 2, 1) := by decide +kernel
theorem dX6_across_6 : decode cX6_across 6 = .ok (.bipush 7, 2) := by decide +kernel
theorem dX6_across_8 : decode cX6_across 8 = .ok (.iadd, 1) := by decide +kernel
theorem dX6_across_9 : decode cX6_across 9 = .ok (.ishl, 1) := by decide +kernel
theorem dX6_across_10 : decode cX6_across 10 = .ok (.istore_n 3, 1) := by decide +kernel
theorem dX6_across_11 : decode cX6_across 11 = .ok (.iload_n 0, 1) := by decide +kernel
theorem dX6_across_12 : decode cX6_across 12 = .ok (.iload_n 1, 1) := by decide +kernel
theorem dX6_across_13 : decode cX6_across 13 = .ok (.bipush 7, 2) := by decide +kernel
theorem dX6_across_15 : decode cX6_across 15 = .ok (.iadd, 1) := by decide +kernel
theorem dX6_across_16 : decode cX6_across 16 = .ok (.ishr, 1) := by decide +kernel
theorem dX6_across_17 : decode cX6_across 17 = .ok (.iconst 1, 1) := by decide +kernel
theorem dX6_across_18 : decode cX6_across 18 = .ok (.iand, 1) := by decide +kernel
theorem dX6_across_19 : decode cX6_across 19 = .ok (.iload_n 2, 1) := by decide +kernel
theorem dX6_across_20 : decode cX6_across 20 = .ok (.ishl, 1) := by decide +kernel
theorem dX6_across_21 : decode cX6_across 21 = .ok (.istore 4, 2) := by decide +kernel
theorem dX6_across_23 : decode cX6_across 23 = .ok (.iload_n 3, 1) := by decide +kernel
theorem dX6_across_24 : decode cX6_across 24 = .ok (.iload 4, 2) := by decide +kernel
theorem dX6_across_26 : decode cX6_across 26 = .ok (.ior, 1) := by decide +kernel
theorem dX6_across_27 : decode cX6_across 27 = .ok (.ireturn, 1) := by decide +kernel
theorem dX6_partOf_0 : decode cX6_partOf 0 = .ok (.aload_n 0, 1) := by decide +kernel
theorem dX6_partOf_1 : decode cX6_partOf 1 = .ok (.iload_n 1, 1) := by decide +kernel
theorem dX6_partOf_2 : decode cX6_partOf 2 = .ok (.invokevirtual 57, 3) := by decide +kernel
theorem dX6_partOf_5 : decode cX6_partOf 5 = .ok (.istore_n 2, 1) := by decide +kernel
theorem dX6_partOf_6 : decode cX6_partOf 6 = .ok (.iload_n 2, 1) := by decide +kernel
theorem dX6_partOf_7 : decode cX6_partOf 7 = .ok (.iload_n 2, 1) := by decide +kernel
theorem dX6_partOf_8 : decode cX6_partOf 8 = .ok (.bipush 7, 2) := by decide +kernel
theorem dX6_partOf_10 : decode cX6_partOf 10 = .ok (.ishr, 1) := by decide +kernel
theorem dX6_partOf_11 : decode cX6_partOf 11 = .ok (.ior, 1) := by decide +kernel
theorem dX6_partOf_12 : decode cX6_partOf 12 = .ok (.bipush 127, 2) := by decide +kernel
theorem dX6_partOf_14 : decode cX6_partOf 14 = .ok (.iand, 1) := by decide +kernel
theorem dX6_partOf_15 : decode cX6_partOf 15 = .ok (.ireturn, 1) := by decide +kernel
theorem dX6_partCount_0 : decode cX6_partCount 0 = .ok (.iconst 0, 1) := by decide +kernel
theorem dX6_partCount_1 : decode cX6_partCount 1 = .ok (.istore_n 1, 1) := by decide +kernel
theorem dX6_partCount_2 : decode cX6_partCount 2 = .ok (.iconst 0, 1) := by decide +kernel
theorem dX6_partCount_3 : decode cX6_partCount 3 = .ok (.istore_n 2, 1) := by decide +kernel
theorem dX6_partCount_4 : decode cX6_partCount 4 = .ok (.iload_n 2, 1) := by decide +kernel
theorem dX6_partCount_5 : decode cX6_partCount 5 = .ok (.aload_n 0, 1) := by decide +kernel
theorem dX6_partCount_6 : decode cX6_partCount 6 = .ok (.getfield 16, 3) := by decide +kernel
theorem dX6_partCount_9 : decode cX6_partCount 9 = .ok (.getfield 20, 3) := by decide +kernel
theorem dX6_partCount_12 : decode cX6_partCount 12 = .ok (.if_icmp .ge 24, 3) := by decide +kernel
theorem dX6_partCount_15 : decode cX6_partCount 15 = .ok (.aload_n 0, 1) := by decide +kernel
theorem dX6_partCount_16 : decode cX6_partCount 16 = .ok (.iload_n 2, 1) := by decide +kernel
theorem dX6_partCount_17 : decode cX6_partCount 17 = .ok (.invokevirtual 61, 3) := by decide +kernel
theorem dX6_partCount_20 : decode cX6_partCount 20 = .ok (.invokestatic 64, 3) := by decide +kernel
theorem dX6_partCount_23 : decode cX6_partCount 23 = .ok (.iload_n 2, 1) := by decide +kernel
theorem dX6_partCount_24 : decode cX6_partCount 24 = .ok (.if_icmp .ne 6, 3) := by decide +kernel
theorem dX6_partCount_27 : decode cX6_partCount 27 = .ok (.iinc 1 1, 3) := by decide +kernel
theorem dX6_partCount_30 : decode cX6_partCount 30 = .ok (.iinc 2 1, 3) := by decide +kernel
theorem dX6_partCount_33 : decode cX6_partCount 33 = .ok (.goto (-29), 3) := by decide +kernel
theorem dX6_partCount_36 : decode cX6_partCount 36 = .ok (.iload_n 1, 1) := by decide +kernel
theorem dX6_partCount_37 : decode cX6_partCount 37 = .ok (.ireturn, 1) := by decide +kernel
theorem dX6_leastOf_0 : decode cX6_leastOf 0 = .ok (.iconst 0, 1) := by decide +kernel
theorem dX6_leastOf_1 : decode cX6_leastOf 1 = .ok (.istore_n 1, 1) := by decide +kernel
theorem dX6_leastOf_2 : decode cX6_leastOf 2 = .ok (.iload_n 1, 1) := by decide +kernel
theorem dX6_leastOf_3 : decode cX6_leastOf 3 = .ok (.bipush 7, 2) := by decide +kernel
theorem dX6_leastOf_5 : decode cX6_leastOf 5 = .ok (.if_icmp .ge 17, 3) := by decide +kernel
theorem dX6_leastOf_8 : decode cX6_leastOf 8 = .ok (.iload_n 0, 1) := by decide +kernel
theorem dX6_leastOf_9 : decode cX6_leastOf 9 = .ok (.iload_n 1, 1) := by decide +kernel
theorem dX6_leastOf_10 : decode cX6_leastOf 10 = .ok (.ishr, 1) := by decide +kernel
theorem dX6_leastOf_11 : decode cX6_leastOf 11 = .ok (.iconst 1, 1) := by decide +kernel
theorem dX6_leastOf_12 : decode cX6_leastOf 12 = .ok (.iand, 1) := by decide +kernel
theorem dX6_leastOf_13 : decode cX6_leastOf 13 = .ok (.ifCond .ne 9, 3) := by decide +kernel
theorem dX6_leastOf_16 : decode cX6_leastOf 16 = .ok (.iinc 1 1, 3) := by decide +kernel
theorem dX6_leastOf_19 : decode cX6_leastOf 19 = .ok (.goto (-17), 3) := by decide +kernel
theorem dX6_leastOf_22 : decode cX6_leastOf 22 = .ok (.iload_n 1, 1) := by decide +kernel
theorem dX6_leastOf_23 : decode cX6_leastOf 23 = .ok (.ireturn, 1) := by decide +kernel
theorem dX6_hasSides_0 : decode cX6_hasSides 0 = .ok (.iconst 0, 1) := by decide +kernel
theorem dX6_hasSides_1 : decode cX6_hasSides 1 = .ok (.istore_n 1, 1) := by decide +kernel
theorem dX6_hasSides_2 : decode cX6_hasSides 2 = .ok (.iload_n 1, 1) := by decide +kernel
theorem dX6_hasSides_3 : decode cX6_hasSides 3 = .ok (.aload_n 0, 1) := by decide +kernel
theorem dX6_hasSides_4 : decode cX6_hasSides 4 = .ok (.getfield 16, 3) := by decide +kernel
theorem dX6_hasSides_7 : decode cX6_hasSides 7 = .ok (.getfield 20, 3) := by decide +kernel
theorem dX6_hasSides_10 : decode cX6_hasSides 10 = .ok (.if_icmp .ge 20, 3) := by decide +kernel
theorem dX6_hasSides_13 : decode cX6_hasSides 13 = .ok (.aload_n 0, 1) := by decide +kernel
theorem dX6_hasSides_14 : decode cX6_hasSides 14 = .ok (.iload_n 1, 1) := by decide +kernel
theorem dX6_hasSides_15 : decode cX6_hasSides 15 = .ok (.iload_n 1, 1) := by decide +kernel
theorem dX6_hasSides_16 : decode cX6_hasSides 16 = .ok (.invokevirtual 67, 3) := by decide +kernel
theorem dX6_hasSides_19 : decode cX6_hasSides 19 = .ok (.ifCond .eq 5, 3) := by decide +kernel
theorem dX6_hasSides_22 : decode cX6_hasSides 22 = .ok (.iconst 0, 1) := by decide +kernel
theorem dX6_hasSides_23 : decode cX6_hasSides 23 = .ok (.ireturn, 1) := by decide +kernel
theorem dX6_hasSides_24 : decode cX6_hasSides 24 = .ok (.iinc 1 1, 3) := by decide +kernel
theorem dX6_hasSides_27 : decode cX6_hasSides 27 = .ok (.goto (-25), 3) := by decide +kernel
theorem dX6_hasSides_30 : decode cX6_hasSides 30 = .ok (.iconst 1, 1) := by decide +kernel
theorem dX6_hasSides_31 : decode cX6_hasSides 31 = .ok (.ireturn, 1) := by decide +kernel
theorem dX6_sideOf_0 : decode cX6_sideOf 0 = .ok (.aload_n 0, 1) := by decide +kernel
theorem dX6_sideOf_1 : decode cX6_sideOf 1 = .ok (.aload_n 0, 1) := by decide +kernel
theorem dX6_sideOf_2 : decode cX6_sideOf 2 = .ok (.iload_n 1, 1) := by decide +kernel
theorem dX6_sideOf_3 : decode cX6_sideOf 3 = .ok (.invokevirtual 61, 3) := by decide +kernel
theorem dX6_sideOf_6 : decode cX6_sideOf 6 = .ok (.invokestatic 64, 3) := by decide +kernel
theorem dX6_sideOf_9 : decode cX6_sideOf 9 = .ok (.iload_n 1, 1) := by decide +kernel
theorem dX6_sideOf_10 : decode cX6_sideOf 10 = .ok (.invokevirtual 67, 3) := by decide +kernel
theorem dX6_sideOf_13 : decode cX6_sideOf 13 = .ok (.ifCond .eq 7, 3) := by decide +kernel
theorem dX6_sideOf_16 : decode cX6_sideOf 16 = .ok (.iconst 1, 1) := by decide +kernel
theorem dX6_sideOf_17 : decode cX6_sideOf 17 = .ok (.goto 4, 3) := by decide +kernel
theorem dX6_sideOf_20 : decode cX6_sideOf 20 = .ok (.iconst 0, 1) := by decide +kernel
theorem dX6_sideOf_21 : decode cX6_sideOf 21 = .ok (.ireturn, 1) := by decide +kernel
theorem dX6_isOddFrom_0 : decode cX6_isOddFrom 0 = .ok (.aload_n 0, 1) := by decide +kernel
theorem dX6_isOddFrom_1 : decode cX6_isOddFrom 1 = .ok (.iload_n 1, 1) := by decide +kernel
theorem dX6_isOddFrom_2 : decode cX6_isOddFrom 2 = .ok (.invokevirtual 57, 3) := by decide +kernel
theorem dX6_isOddFrom_5 : decode cX6_isOddFrom 5 = .ok (.iload_n 2, 1) := by decide +kernel
theorem dX6_isOddFrom_6 : decode cX6_isOddFrom 6 = .ok (.bipush 7, 2) := by decide +kernel
theorem dX6_isOddFrom_8 : decode cX6_isOddFrom 8 = .ok (.iadd, 1) := by decide +kernel
theorem dX6_isOddFrom_9 : decode cX6_isOddFrom 9 = .ok (.ishr, 1) := by decide +kernel
theorem dX6_isOddFrom_10 : decode cX6_isOddFrom 10 = .ok (.iconst 1, 1) := by decide +kernel
theorem dX6_isOddFrom_11 : decode cX6_isOddFrom 11 = .ok (.iand, 1) := by decide +kernel
theorem dX6_isOddFrom_12 : decode cX6_isOddFrom 12 = .ok (.ifCond .eq 7, 3) := by decide +kernel
theorem dX6_isOddFrom_15 : decode cX6_isOddFrom 15 = .ok (.iconst 1, 1) := by decide +kernel
theorem dX6_isOddFrom_16 : decode cX6_isOddFrom 16 = .ok (.goto 4, 3) := by decide +kernel
theorem dX6_isOddFrom_19 : decode cX6_isOddFrom 19 = .ok (.iconst 0, 1) := by decide +kernel
theorem dX6_isOddFrom_20 : decode cX6_isOddFrom 20 = .ok (.ireturn, 1) := by decide +kernel
theorem dX7_init_0 : decode cX7_init 0 = .ok (.aload_n 0, 1) := by decide +kernel
theorem dX7_init_1 : decode cX7_init 1 = .ok (.invokespecial 3, 3) := by decide +kernel
theorem dX7_init_4 : decode cX7_init 4 = .ok (.aload_n 0, 1) := by decide +kernel
theorem dX7_init_5 : decode cX7_init 5 = .ok (.bipush 8, 2) := by decide +kernel
theorem dX7_init_7 : decode cX7_init 7 = .ok (.newarray .int, 2) := by decide +kernel
theorem dX7_init_9 : decode cX7_init 9 = .ok (.putfield 9, 3) := by decide +kernel
theorem dX7_init_12 : decode cX7_init 12 = .ok (.aload_n 0, 1) := by decide +kernel
theorem dX7_init_13 : decode cX7_init 13 = .ok (.bipush 7, 2) := by decide +kernel
theorem dX7_init_15 : decode cX7_init 15 = .ok (.newarray .int, 2) := by decide +kernel
theorem dX7_init_17 : decode cX7_init 17 = .ok (.putfield 15, 3) := by decide +kernel
theorem dX7_init_20 : decode cX7_init 20 = .ok (.aload_n 0, 1) := by decide +kernel
theorem dX7_init_21 : decode cX7_init 21 = .ok (.bipush 8, 2) := by decide +kernel
theorem dX7_init_23 : decode cX7_init 23 = .ok (.newarray .int, 2) := by decide +kernel
theorem dX7_init_25 : decode cX7_init 25 = .ok (.putfield 18, 3) := by decide +kernel
theorem dX7_init_28 : decode cX7_init 28 = .ok (.aload_n 0, 1) := by decide +kernel
theorem dX7_init_29 : decode cX7_init 29 = .ok (.bipush 8, 2) := by decide +kernel
theorem dX7_init_31 : decode cX7_init 31 = .ok (.newarray .int, 2) := by decide +kernel
theorem dX7_init_33 : decode cX7_init 33 = .ok (.putfield 21, 3) := by decide +kernel
theorem dX7_init_36 : decode cX7_init 36 = .ok (.aload_n 0, 1) := by decide +kernel
theorem dX7_init_37 : decode cX7_init 37 = .ok (.bipush 7, 2) := by decide +kernel
theorem dX7_init_39 : decode cX7_init 39 = .ok (.newarray .int, 2) := by decide +kernel
theorem dX7_init_41 : decode cX7_init 41 = .ok (.putfield 24, 3) := by decide +kernel
theorem dX7_init_44 : decode cX7_init 44 = .ok (.aload_n 0, 1) := by decide +kernel
theorem dX7_init_45 : decode cX7_init 45 = .ok (.iconst 0, 1) := by decide +kernel
theorem dX7_init_46 : decode cX7_init 46 = .ok (.putfield 27, 3) := by decide +kernel
theorem dX7_init_49 : decode cX7_init 49 = .ok (.aload_n 0, 1) := by decide +kernel
theorem dX7_init_50 : decode cX7_init 50 = .ok (.iconst 0, 1) := by decide +kernel
theorem dX7_init_51 : decode cX7_init 51 = .ok (.putfield 31, 3) := by decide +kernel
theorem dX7_init_54 : decode cX7_init 54 = .ok (.aload_n 0, 1) := by decide +kernel
theorem dX7_init_55 : decode cX7_init 55 = .ok (.aload_n 1, 1) := by decide +kernel
theorem dX7_init_56 : decode cX7_init 56 = .ok (.putfield 34, 3) := by decide +kernel
theorem dX7_init_59 : decode cX7_init 59 = .ok (.return_, 1) := by decide +kernel
theorem dX7_begin_0 : decode cX7_begin 0 = .ok (.iconst 0, 1) := by decide +kernel
theorem dX7_begin_1 : decode cX7_begin 1 = .ok (.istore_n 1, 1) := by decide +kernel
theorem dX7_begin_2 : decode cX7_begin 2 = .ok (.iload_n 1, 1) := by decide +kernel
theorem dX7_begin_3 : decode cX7_begin 3 = .ok (.bipush 7, 2) := by decide +kernel
theorem dX7_begin_5 : decode cX7_begin 5 = .ok (.if_icmp .ge 23, 3) := by decide +kernel
theorem dX7_begin_8 : decode cX7_begin 8 = .ok (.aload_n 0, 1) := by decide +kernel
theorem dX7_begin_9 : decode cX7_begin 9 = .ok (.getfield 15, 3) := by decide +kernel
theorem dX7_begin_12 : decode cX7_begin 12 = .ok (.iload_n 1, 1) := by decide +kernel
theorem dX7_begin_13 : decode cX7_begin 13 = .ok (.iconst 0, 1) := by decide +kernel
theorem dX7_begin_14 : decode cX7_begin 14 = .ok (.iastore, 1) := by decide +kernel
theorem dX7_begin_15 : decode cX7_begin 15 = .ok (.aload_n 0, 1) := by decide +kernel
theorem dX7_begin_16 : decode cX7_begin 16 = .ok (.getfield 24, 3) := by decide +kernel
theorem dX7_begin_19 : decode cX7_begin 19 = .ok (.iload_n 1, 1) := by decide +kernel
theorem dX7_begin_20 : decode cX7_begin 20 = .ok (.iconst (-1), 1) := by decide +kernel
theorem dX7_begin_21 : decode cX7_begin 21 = .ok (.iastore, 1) := by decide +kernel
theorem dX7_begin_22 : decode cX7_begin 22 = .ok (.iinc 1 1, 3) := by decide +kernel
theorem dX7_begin_25 : decode cX7_begin 25 = .ok (.goto (-23), 3) := by decide +kernel
theorem dX7_begin_28 : decode cX7_begin 28 = .ok (.iconst 0, 1) := by decide +kernel
theorem dX7_begin_29 : decode cX7_begin 29 = .ok (.istore_n 1, 1) := by decide +kernel
theorem dX7_begin_30 : decode cX7_begin 30 = .ok (.iload_n 1, 1) := by decide +kernel
theorem dX7_begin_31 : decode cX7_begin 31 = .ok (.aload_n 0, 1) := by decide +kernel
theorem dX7_begin_32 : decode cX7_begin 32 = .ok (.getfield 34, 3) := by decide +kernel
theorem dX7_begin_35 : decode cX7_begin 35 = .ok (.getfield 38, 3) := by decide +kernel
theorem dX7_begin_38 : decode cX7_begin 38 = .ok (.if_icmp .ge 92, 3) := by decide +kernel
theorem dX7_begin_41 : decode cX7_begin 41 = .ok (.aload_n 0, 1) := by decide +kernel
theorem dX7_begin_42 : decode cX7_begin 42 = .ok (.getfield 9, 3) := by decide +kernel
theorem dX7_begin_45 : decode cX7_begin 45 = .ok (.iload_n 1, 1) := by decide +kernel
theorem dX7_begin_46 : decode cX7_begin 46 = .ok (.iconst 0, 1) := by decide +kernel
theorem dX7_begin_47 : decode cX7_begin 47 = .ok (.iastore, 1) := by decide +kernel
theorem dX7_begin_48 : decode cX7_begin 48 = .ok (.aload_n 0, 1) := by decide +kernel
theorem dX7_begin_49 : decode cX7_begin 49 = .ok (.getfield 18, 3) := by decide +kernel
theorem dX7_begin_52 : decode cX7_begin 52 = .ok (.iload_n 1, 1) := by decide +kernel
theorem dX7_begin_53 : decode cX7_begin 53 = .ok (.aload_n 0, 1) := by decide +kernel
theorem dX7_begin_54 : decode cX7_begin 54 = .ok (.getfield 34, 3) := by decide +kernel
theorem dX7_begin_57 : decode cX7_begin 57 = .ok (.iload_n 1, 1) := by decide +kernel
theorem dX7_begin_58 : decode cX7_begin 58 = .ok (.invokevirtual 43, 3) := by decide +kernel
theorem dX7_begin_61 : decode cX7_begin 61 = .ok (.iastore, 1) := by decide +kernel
theorem dX7_begin_62 : decode cX7_begin 62 = .ok (.aload_n 0, 1) := by decide +kernel
theorem dX7_begin_63 : decode cX7_begin 63 = .ok (.getfield 21, 3) := by decide +kernel
theorem dX7_begin_66 : decode cX7_begin 66 = .ok (.iload_n 1, 1) := by decide +kernel
theorem dX7_begin_67 : decode cX7_begin 67 = .ok (.aload_n 0, 1) := by decide +kernel
theorem dX7_begin_68 : decode cX7_begin 68 = .ok (.getfield 34, 3) := by decide +kernel
theorem dX7_begin_71 : decode cX7_begin 71 = .ok (.iload_n 1, 1) := by decide +kernel
theorem dX7_begin_72 : decode cX7_begin 72 = .ok (.invokevirtual 47, 3) := by decide +kernel
theorem dX7_begin_75 : decode cX7_begin 75 = .ok (.iastore, 1) := by decide +kernel
theorem dX7_begin_76 : decode cX7_begin 76 = .ok (.aload_n 0, 1) := by decide +kernel
theorem dX7_begin_77 : decode cX7_begin 77 = .ok (.getfield 18, 3) := by decide +kernel
theorem dX7_begin_80 : decode cX7_begin 80 = .ok (.iload_n 1, 1) := by decide +kernel
theorem dX7_begin_81 : decode cX7_begin 81 = .ok (.iaload, 1) := by decide +kernel
theorem dX7_begin_82 : decode cX7_begin 82 = .ok (.ifCond .le 18, 3) := by decide +kernel
theorem dX7_begin_85 : decode cX7_begin 85 = .ok (.aload_n 0, 1) := by decide +kernel
theorem dX7_begin_86 : decode cX7_begin 86 = .ok (.getfield 24, 3) := by decide +kernel
theorem dX7_begin_89 : decode cX7_begin 89 = .ok (.aload_n 0, 1) := by decide +kernel
theorem dX7_begin_90 : decode cX7_begin 90 = .ok (.getfield 34, 3) := by decide +kernel
theorem dX7_begin_93 : decode cX7_begin 93 = .ok (.getfield 50, 3) := by decide +kernel
theorem dX7_begin_96 : decode cX7_begin 96 = .ok (.iload_n 1, 1) := by decide +kernel
theorem dX7_begin_97 : decode cX7_begin 97 = .ok (.iaload, 1) := by decide +kernel
theorem dX7_begin_98 : decode cX7_begin 98 = .ok (.iload_n 1, 1) := by decide +kernel
theorem dX7_begin_99 : decode cX7_begin 99 = .ok (.iastore, 1) := by decide +kernel
theorem dX7_begin_100 : decode cX7_begin 100 = .ok (.aload_n 0, 1) := by decide +kernel
theorem dX7_begin_101 : decode cX7_begin 101 = .ok (.getfield 21, 3) := by decide +kernel
theorem dX7_begin_104 : decode cX7_begin 104 = .ok (.iload_n 1, 1) := by decide +kernel
theorem dX7_begin_105 : decode cX7_begin 105 = .ok (.iaload, 1) := by decide +kernel
theorem dX7_begin_106 : decode cX7_begin 106 = .ok (.ifCond .le 18, 3) := by decide +kernel
theorem dX7_begin_109 : decode cX7_begin 109 = .ok (.aload_n 0, 1) := by decide +kernel
theorem dX7_begin_110 : decode cX7_begin 110 = .ok (.getfield 24, 3) := by decide +kernel
theorem dX7_begin_113 : decode cX7_begin 113 = .ok (.aload_n 0, 1) := by decide +kernel
theorem dX7_begin_114 : decode cX7_begin 114 = .ok (.getfield 34, 3) := by decide +kernel
theorem dX7_begin_117 : decode cX7_begin 117 = .ok (.getfield 53, 3) := by decide +kernel
theorem dX7_begin_120 : decode cX7_begin 120 = .ok (.iload_n 1, 1) := by decide +kernel
theorem dX7_begin_121 : decode cX7_begin 121 = .ok (.iaload, 1) := by decide +kernel
theorem dX7_begin_122 : decode cX7_begin 122 = .ok (.iload_n 1, 1) := by decide +kernel
theorem dX7_begin_123 : decode cX7_begin 123 = .ok (.iastore, 1) := by decide +kernel
theorem dX7_begin_124 : decode cX7_begin 124 = .ok (.iinc 1 1, 3) := by decide +kernel
theorem dX7_begin_127 : decode cX7_begin 127 = .ok (.goto (-97), 3) := by decide +kernel
theorem dX7_begin_130 : decode cX7_begin 130 = .ok (.return_, 1) := by decide +kernel
theorem dX7_relabel_0 : decode cX7_relabel 0 = .ok (.iload_n 2, 1) := by decide +kernel
theorem dX7_relabel_1 : decode cX7_relabel 1 = .ok (.aload_n 0, 1) := by decide +kernel
theorem dX7_relabel_2 : decode cX7_relabel 2 = .ok (.getfield 9, 3) := by decide +kernel
theorem dX7_relabel_5 : decode cX7_relabel 5 = .ok (.iload_n 1, 1) := by decide +kernel
theorem dX7_relabel_6 : decode cX7_relabel 6 = .ok (.iaload, 1) := by decide +kernel
theorem dX7_relabel_7 : decode cX7_relabel 7 = .ok (.isub, 1) := by decide +kernel
theorem dX7_relabel_8 : decode cX7_relabel 8 = .ok (.istore_n 3, 1) := by decide +kernel
theorem dX7_relabel_9 : decode cX7_relabel 9 = .ok (.aload_n 0, 1) := by decide +kernel
theorem dX7_relabel_10 : decode cX7_relabel 10 = .ok (.getfield 9, 3) := by decide +kernel
theorem dX7_relabel_13 : decode cX7_relabel 13 = .ok (.iload_n 1, 1) := by decide +kernel
theorem dX7_relabel_14 : decode cX7_relabel 14 = .ok (.iload_n 2, 1) := by decide +kernel
theorem dX7_relabel_15 : decode cX7_relabel 15 = .ok (.iastore, 1) := by decide +kernel
theorem dX7_relabel_16 : decode cX7_relabel 16 = .ok (.aload_n 0, 1) := by decide +kernel
theorem dX7_relabel_17 : decode cX7_relabel 17 = .ok (.getfield 15, 3) := by decide +kernel
theorem dX7_relabel_20 : decode cX7_relabel 20 = .ok (.aload_n 0, 1) := by decide +kernel
theorem dX7_relabel_21 : decode cX7_relabel 21 = .ok (.getfield 34, 3) := by decide +kernel
theorem dX7_relabel_24 : decode cX7_relabel 24 = .ok (.getfield 50, 3) := by decide +kernel
theorem dX7_relabel_27 : decode cX7_relabel 27 = .ok (.iload_n 1, 1) := by decide +kernel
theorem dX7_relabel_28 : decode cX7_relabel 28 = .ok (.iaload, 1) := by decide +kernel
theorem dX7_relabel_29 : decode cX7_relabel 29 = .ok (.dup2, 1) := by decide +kernel
theorem dX7_relabel_30 : decode cX7_relabel 30 = .ok (.iaload, 1) := by decide +kernel
theorem dX7_relabel_31 : decode cX7_relabel 31 = .ok (.iload_n 3, 1) := by decide +kernel
theorem dX7_relabel_32 : decode cX7_relabel 32 = .ok (.aload_n 0, 1) := by decide +kernel
theorem dX7_relabel_33 : decode cX7_relabel 33 = .ok (.getfield 18, 3) := by decide +kernel
theorem dX7_relabel_36 : decode cX7_relabel 36 = .ok (.iload_n 1, 1) := by decide +kernel
theorem dX7_relabel_37 : decode cX7_relabel 37 = .ok (.iaload, 1) := by decide +kernel
theorem dX7_relabel_38 : decode cX7_relabel 38 = .ok (.imul, 1) := by decide +kernel
theorem dX7_relabel_39 : decode cX7_relabel 39 = .ok (.iadd, 1) := by decide +kernel
theorem dX7_relabel_40 : decode cX7_relabel 40 = .ok (.iastore, 1) := by decide +kernel
theorem dX7_relabel_41 : decode cX7_relabel 41 = .ok (.aload_n 0, 1) := by decide +kernel
theorem dX7_relabel_42 : decode cX7_relabel 42 = .ok (.getfield 15, 3) := by decide +kernel
theorem dX7_relabel_45 : decode cX7_relabel 45 = .ok (.aload_n 0, 1) := by decide +kernel
theorem dX7_relabel_46 : decode cX7_relabel 46 = .ok (.getfield 34, 3) := by decide +kernel
theorem dX7_relabel_49 : decode cX7_relabel 49 = .ok (.getfield 53, 3) := by decide +kernel
theorem dX7_relabel_52 : decode cX7_relabel 52 = .ok (.iload_n 1, 1) := by decide +kernel
theorem dX7_relabel_53 : decode cX7_relabel 53 = .ok (.iaload, 1) := by decide +kernel
theorem dX7_relabel_54 : decode cX7_relabel 54 = .ok (.dup2, 1) := by decide +kernel
theorem dX7_relabel_55 : decode cX7_relabel 55 = .ok (.iaload, 1) := by decide +kernel
theorem dX7_relabel_56 : decode cX7_relabel 56 = .ok (.iload_n 3, 1) := by decide +kernel
theorem dX7_relabel_57 : decode cX7_relabel 57 = .ok (.aload_n 0, 1) := by decide +kernel
theorem dX7_relabel_58 : decode cX7_relabel 58 = .ok (.getfield 21, 3) := by decide +kernel
theorem dX7_relabel_61 : decode cX7_relabel 61 = .ok (.iload_n 1, 1) := by decide +kernel
theorem dX7_relabel_62 : decode cX7_relabel 62 = .ok (.iaload, 1) := by decide +kernel
theorem dX7_relabel_63 : decode cX7_relabel 63 = .ok (.imul, 1) := by decide +kernel
theorem dX7_relabel_64 : decode cX7_relabel 64 = .ok (.iadd, 1) := by decide +kernel
theorem dX7_relabel_65 : decode cX7_relabel 65 = .ok (.iastore, 1) := by decide +kernel
theorem dX7_relabel_66 : decode cX7_relabel 66 = .ok (.return_, 1) := by decide +kernel
theorem dX7_findWays_0 : decode cX7_findWays 0 = .ok (.aload_n 0, 1) := by decide +kernel
theorem dX7_findWays_1 : decode cX7_findWays 1 = .ok (.invokevirtual 56, 3) := by decide +kernel
theorem dX7_findWays_4 : decode cX7_findWays 4 = .ok (.iload_n 2, 1) := by decide +kernel
theorem dX7_findWays_5 : decode cX7_findWays 5 = .ok (.iconst 1, 1) := by decide +kernel
theorem dX7_findWays_6 : decode cX7_findWays 6 = .ok (.iadd, 1) := by decide +kernel
theorem dX7_findWays_7 : decode cX7_findWays 7 = .ok (.aload_n 0, 1) := by decide +kernel
theorem dX7_findWays_8 : decode cX7_findWays 8 = .ok (.getfield 34, 3) := by decide +kernel
theorem dX7_findWays_11 : decode cX7_findWays 11 = .ok (.getfield 38, 3) := by decide +kernel
theorem dX7_findWays_14 : decode cX7_findWays 14 = .ok (.invokestatic 59, 3) := by decide +kernel
theorem dX7_findWays_17 : decode cX7_findWays 17 = .ok (.istore 4, 2) := by decide +kernel
theorem dX7_findWays_19 : decode cX7_findWays 19 = .ok (.iconst 0, 1) := by decide +kernel
theorem dX7_findWays_20 : decode cX7_findWays 20 = .ok (.istore 5, 2) := by decide +kernel
theorem dX7_findWays_22 : decode cX7_findWays 22 = .ok (.iconst 0, 1) := by decide +kernel
theorem dX7_findWays_23 : decode cX7_findWays 23 = .ok (.istore 6, 2) := by decide +kernel
theorem dX7_findWays_25 : decode cX7_findWays 25 = .ok (.iload 6, 2) := by decide +kernel
theorem dX7_findWays_27 : decode cX7_findWays 27 = .ok (.iload 4, 2) := by decide +kernel
theorem dX7_findWays_29 : decode cX7_findWays 29 = .ok (.if_icmp .ge 46, 3) := by decide +kernel
theorem dX7_findWays_32 : decode cX7_findWays 32 = .ok (.iload_n 1, 1) := by decide +kernel
theorem dX7_findWays_33 : decode cX7_findWays 33 = .ok (.aload_n 0, 1) := by decide +kernel
theorem dX7_findWays_34 : decode cX7_findWays 34 = .ok (.getfield 15, 3) := by decide +kernel
theorem dX7_findWays_37 : decode cX7_findWays 37 = .ok (.aload_n 0, 1) := by decide +kernel
theorem dX7_findWays_38 : decode cX7_findWays 38 = .ok (.getfield 34, 3) := by decide +kernel
theorem dX7_findWays_41 : decode cX7_findWays 41 = .ok (.getfield 63, 3) := by decide +kernel
theorem dX7_findWays_44 : decode cX7_findWays 44 = .ok (.invokestatic 66, 3) := by decide +kernel
theorem dX7_findWays_47 : decode cX7_findWays 47 = .ok (.ifCond .eq 17, 3) := by decide +kernel
theorem dX7_findWays_50 : decode cX7_findWays 50 = .ok (.iinc 5 1, 3) := by decide +kernel
theorem dX7_findWays_53 : decode cX7_findWays 53 = .ok (.iload 5, 2) := by decide +kernel
theorem dX7_findWays_55 : decode cX7_findWays 55 = .ok (.iconst 1, 1) := by decide +kernel
theorem dX7_findWays_56 : decode cX7_findWays 56 = .ok (.isub, 1) := by decide +kernel
theorem dX7_findWays_57 : decode cX7_findWays 57 = .ok (.iload_n 3, 1) := by decide +kernel
theorem dX7_findWays_58 : decode cX7_findWays 58 = .ok (.if_icmp .ne 6, 3) := by decide +kernel
theorem dX7_findWays_61 : decode cX7_findWays 61 = .ok (.iload 5, 2) := by decide +kernel
theorem dX7_findWays_63 : decode cX7_findWays 63 = .ok (.ireturn, 1) := by decide +kernel
theorem dX7_findWays_64 : decode cX7_findWays 64 = .ok (.aload_n 0, 1) := by decide +kernel
theorem dX7_findWays_65 : decode cX7_findWays 65 = .ok (.iload_n 2, 1) := by decide +kernel
theorem dX7_findWays_66 : decode cX7_findWays 66 = .ok (.invokevirtual 72, 3) := by decide +kernel
theorem dX7_findWays_69 : decode cX7_findWays 69 = .ok (.iinc 6 1, 3) := by decide +kernel
theorem dX7_findWays_72 : decode cX7_findWays 72 = .ok (.goto (-47), 3) := by decide +kernel
theorem dX7_findWays_75 : decode cX7_findWays 75 = .ok (.iload 5, 2) := by decide +kernel
theorem dX7_findWays_77 : decode cX7_findWays 77 = .ok (.ireturn, 1) := by decide +kernel
theorem dX7_nextLabels_0 : decode cX7_nextLabels 0 = .ok (.aload_n 0, 1) := by decide +kernel
theorem dX7_nextLabels_1 : decode cX7_nextLabels 1 = .ok (.getfield 34, 3) := by decide +kernel
theorem dX7_nextLabels_4 : decode cX7_nextLabels 4 = .ok (.getfield 38, 3) := by decide +kernel
theorem dX7_nextLabels_7 : decode cX7_nextLabels 7 = .ok (.iconst 1, 1) := by decide +kernel
theorem dX7_nextLabels_8 : decode cX7_nextLabels 8 = .ok (.isub, 1) := by decide +kernel
theorem dX7_nextLabels_9 : decode cX7_nextLabels 9 = .ok (.istore_n 2, 1) := by decide +kernel
theorem dX7_nextLabels_10 : decode cX7_nextLabels 10 = .ok (.iload_n 2, 1) := by decide +kernel
theorem dX7_nextLabels_11 : decode cX7_nextLabels 11 = .ok (.ifCond .lt 39, 3) := by decide +kernel
theorem dX7_nextLabels_14 : decode cX7_nextLabels 14 = .ok (.aload_n 0, 1) := by decide +kernel
theorem dX7_nextLabels_15 : decode cX7_nextLabels 15 = .ok (.getfield 9, 3) := by decide +kernel
theorem dX7_nextLabels_18 : decode cX7_nextLabels 18 = .ok (.iload_n 2, 1) := by decide +kernel
theorem dX7_nextLabels_19 : decode cX7_nextLabels 19 = .ok (.iaload, 1) := by decide +kernel
theorem dX7_nextLabels_20 : decode cX7_nextLabels 20 = .ok (.iload_n 1, 1) := by decide +kernel
theorem dX7_nextLabels_21 : decode cX7_nextLabels 21 = .ok (.if_icmp .ge 17, 3) := by decide +kernel
theorem dX7_nextLabels_24 : decode cX7_nextLabels 24 = .ok (.aload_n 0, 1) := by decide +kernel
theorem dX7_nextLabels_25 : decode cX7_nextLabels 25 = .ok (.iload_n 2, 1) := by decide +kernel
theorem dX7_nextLabels_26 : decode cX7_nextLabels 26 = .ok (.aload_n 0, 1) := by decide +kernel
theorem dX7_nextLabels_27 : decode cX7_nextLabels 27 = .ok (.getfield 9, 3) := by decide +kernel
theorem dX7_nextLabels_30 : decode cX7_nextLabels 30 = .ok (.iload_n 2, 1) := by decide +kernel
theorem dX7_nextLabels_31 : decode cX7_nextLabels 31 = .ok (.iaload, 1) := by decide +kernel
theorem dX7_nextLabels_32 : decode cX7_nextLabels 32 = .ok (.iconst 1, 1) := by decide +kernel
theorem dX7_nextLabels_33 : decode cX7_nextLabels 33 = .ok (.iadd, 1) := by decide +kernel
theorem dX7_nextLabels_34 : decode cX7_nextLabels 34 = .ok (.invokevirtual 76, 3) := by decide +kernel
theorem dX7_nextLabels_37 : decode cX7_nextLabels 37 = .ok (.return_, 1) := by decide +kernel
theorem dX7_nextLabels_38 : decode cX7_nextLabels 38 = .ok (.aload_n 0, 1) := by decide +kernel
theorem dX7_nextLabels_39 : decode cX7_nextLabels 39 = .ok (.iload_n 2, 1) := by decide +kernel
theorem dX7_nextLabels_40 : decode cX7_nextLabels 40 = .ok (.iconst 0, 1) := by decide +kernel
theorem dX7_nextLabels_41 : decode cX7_nextLabels 41 = .ok (.invokevirtual 76, 3) := by decide +kernel
theorem dX7_nextLabels_44 : decode cX7_nextLabels 44 = .ok (.iinc 2 (-1), 3) := by decide +kernel
theorem dX7_nextLabels_47 : decode cX7_nextLabels 47 = .ok (.goto (-37), 3) := by decide +kernel
theorem dX7_nextLabels_50 : decode cX7_nextLabels 50 = .ok (.return_, 1) := by decide +kernel
theorem dX7_findMagic_0 : decode cX7_findMagic 0 = .ok (.aload_n 0, 1) := by decide +kernel
theorem dX7_findMagic_1 : decode cX7_findMagic 1 = .ok (.invokevirtual 56, 3) := by decide +kernel
theorem dX7_findMagic_4 : decode cX7_findMagic 4 = .ok (.aload_n 0, 1) := by decide +kernel
theorem dX7_findMagic_5 : decode cX7_findMagic 5 = .ok (.iconst 0, 1) := by decide +kernel
theorem dX7_findMagic_6 : decode cX7_findMagic 6 = .ok (.putfield 27, 3) := by decide +kernel
theorem dX7_findMagic_9 : decode cX7_findMagic 9 = .ok (.iload_n 1, 1) := by decide +kernel
theorem dX7_findMagic_10 : decode cX7_findMagic 10 = .ok (.ifCond .eq 10, 3) := by decide +kernel
theorem dX7_findMagic_13 : decode cX7_findMagic 13 = .ok (.aload_n 0, 1) := by decide +kernel
theorem dX7_findMagic_14 : decode cX7_findMagic 14 = .ok (.invokevirtual 80, 3) := by decide +kernel
theorem dX7_findMagic_17 : decode cX7_findMagic 17 = .ok (.ifCond .eq 11, 3) := by decide +kernel
theorem dX7_findMagic_20 : decode cX7_findMagic 20 = .ok (.aload_n 0, 1) := by decide +kernel
theorem dX7_findMagic_21 : decode cX7_findMagic 21 = .ok (.iconst 0, 1) := by decide +kernel
theorem dX7_findMagic_22 : decode cX7_findMagic 22 = .ok (.iload_n 1, 1) := by decide +kernel
theorem dX7_findMagic_23 : decode cX7_findMagic 23 = .ok (.iload_n 2, 1) := by decide +kernel
theorem dX7_findMagic_24 : decode cX7_findMagic 24 = .ok (.invokestatic 84, 3) := by decide +kernel
theorem dX7_findMagic_27 : decode cX7_findMagic 27 = .ok (.pop, 1) := by decide +kernel
theorem dX7_findMagic_28 : decode cX7_findMagic 28 = .ok (.aload_n 0, 1) := by decide +kernel
theorem dX7_findMagic_29 : decode cX7_findMagic 29 = .ok (.getfield 27, 3) := by decide +kernel
theorem dX7_findMagic_32 : decode cX7_findMagic 32 = .ok (.ireturn, 1) := by decide +kernel
theorem dX7_allPointsCount_0 : decode cX7_allPointsCount 0 = .ok (.iconst 0, 1) := by decide +kernel
theorem dX7_allPointsCount_1 : decode cX7_allPointsCount 1 = .ok (.istore_n 1, 1) := by decide +kernel
theorem dX7_allPointsCount_2 : decode cX7_allPointsCount 2 = .ok (.iload_n 1, 1) := by decide +kernel
theorem dX7_allPointsCount_3 : decode cX7_allPointsCount 3 = .ok (.aload_n 0, 1) := by decide +kernel
theorem dX7_allPointsCount_4 : decode cX7_allPointsCount 4 = .ok (.getfield 34, 3) := by decide +kernel
theorem dX7_allPointsCount_7 : decode cX7_allPointsCount 7 = .ok (.getfield 63, 3) := by decide +kernel
theorem dX7_allPointsCount_10 : decode cX7_allPointsCount 10 = .ok (.if_icmp .ge 20, 3) := by decide +kernel
theorem dX7_allPointsCount_13 : decode cX7_allPointsCount 13 = .ok (.aload_n 0, 1) := by decide +kernel
theorem dX7_allPointsCount_14 : decode cX7_allPointsCount 14 = .ok (.getfield 24, 3) := by decide +kernel
theorem dX7_allPointsCount_17 : decode cX7_allPointsCount 17 = .ok (.iload_n 1, 1) := by decide +kernel
theorem dX7_allPointsCount_18 : decode cX7_allPointsCount 18 = .ok (.iaload, 1) := by decide +kernel
theorem dX7_allPointsCount_19 : decode cX7_allPointsCount 19 = .ok (.ifCond .ge 5, 3) := by decide +kernel
theorem dX7_allPointsCount_22 : decode cX7_allPointsCount 22 = .ok (.iconst 0, 1) := by decide +kernel
theorem dX7_allPointsCount_23 : decode cX7_allPointsCount 23 = .ok (.ireturn, 1) := by decide +kernel
theorem dX7_allPointsCount_24 : decode cX7_allPointsCount 24 = .ok (.iinc 1 1, 3) := by decide +kernel
theorem dX7_allPointsCount_27 : decode cX7_allPointsCount 27 = .ok (.goto (-25), 3) := by decide +kernel
theorem dX7_allPointsCount_30 : decode cX7_allPointsCount 30 = .ok (.iconst 1, 1) := by decide +kernel
theorem dX7_allPointsCount_31 : decode cX7_allPointsCount 31 = .ok (.ireturn, 1) := by decide +kernel
theorem dX7_seekMagic_0 : decode cX7_seekMagic 0 = .ok (.iload_n 1, 1) := by decide +kernel
theorem dX7_seekMagic_1 : decode cX7_seekMagic 1 = .ok (.aload_n 0, 1) := by decide +kernel
theorem dX7_seekMagic_2 : decode cX7_seekMagic 2 = .ok (.getfield 34, 3) := by decide +kernel
theorem dX7_seekMagic_5 : decode cX7_seekMagic 5 = .ok (.getfield 38, 3) := by decide +kernel
theorem dX7_seekMagic_8 : decode cX7_seekMagic 8 = .ok (.if_icmp .lt 29, 3) := by decide +kernel
theorem dX7_seekMagic_11 : decode cX7_seekMagic 11 = .ok (.aload_n 0, 1) := by decide +kernel
theorem dX7_seekMagic_12 : decode cX7_seekMagic 12 = .ok (.dup, 1) := by decide +kernel
theorem dX7_seekMagic_13 : decode cX7_seekMagic 13 = .ok (.getfield 27, 3) := by decide +kernel
theorem dX7_seekMagic_16 : decode cX7_seekMagic 16 = .ok (.iconst 1, 1) := by decide +kernel
theorem dX7_seekMagic_17 : decode cX7_seekMagic 17 = .ok (.iadd, 1) := by decide +kernel
theorem dX7_seekMagic_18 : decode cX7_seekMagic 18 = .ok (.putfield 27, 3) := by decide +kernel
theorem dX7_seekMagic_21 : decode cX7_seekMagic 21 = .ok (.aload_n 0, 1) := by decide +kernel
theorem dX7_seekMagic_22 : decode cX7_seekMagic 22 = .ok (.getfield 27, 3) := by decide +kernel
theorem dX7_seekMagic_25 : decode cX7_seekMagic 25 = .ok (.iconst 1, 1) := by decide +kernel
theorem dX7_seekMagic_26 : decode cX7_seekMagic 26 = .ok (.isub, 1) := by decide +kernel
theorem dX7_seekMagic_27 : decode cX7_seekMagic 27 = .ok (.iload_n 3, 1) := by decide +kernel
theorem dX7_seekMagic_28 : decode cX7_seekMagic 28 = .ok (.if_icmp .ne 7, 3) := by decide +kernel
theorem dX7_seekMagic_31 : decode cX7_seekMagic 31 = .ok (.iconst 1, 1) := by decide +kernel
theorem dX7_seekMagic_32 : decode cX7_seekMagic 32 = .ok (.goto 4, 3) := by decide +kernel
theorem dX7_seekMagic_35 : decode cX7_seekMagic 35 = .ok (.iconst 0, 1) := by decide +kernel
theorem dX7_seekMagic_36 : decode cX7_seekMagic 36 = .ok (.ireturn, 1) := by decide +kernel
theorem dX7_seekMagic_37 : decode cX7_seekMagic 37 = .ok (.iconst 0, 1) := by decide +kernel
theorem dX7_seekMagic_38 : decode cX7_seekMagic 38 = .ok (.istore 4, 2) := by decide +kernel
theorem dX7_seekMagic_40 : decode cX7_seekMagic 40 = .ok (.iload 4, 2) := by decide +kernel
theorem dX7_seekMagic_42 : decode cX7_seekMagic 42 = .ok (.iload_n 2, 1) := by decide +kernel
theorem dX7_seekMagic_43 : decode cX7_seekMagic 43 = .ok (.if_icmp .gt 51, 3) := by decide +kernel
theorem dX7_seekMagic_46 : decode cX7_seekMagic 46 = .ok (.aload_n 0, 1) := by decide +kernel
theorem dX7_seekMagic_47 : decode cX7_seekMagic 47 = .ok (.iload_n 1, 1) := by decide +kernel
theorem dX7_seekMagic_48 : decode cX7_seekMagic 48 = .ok (.iload 4, 2) := by decide +kernel
theorem dX7_seekMagic_50 : decode cX7_seekMagic 50 = .ok (.invokevirtual 76, 3) := by decide +kernel
theorem dX7_seekMagic_53 : decode cX7_seekMagic 53 = .ok (.aload_n 0, 1) := by decide +kernel
theorem dX7_seekMagic_54 : decode cX7_seekMagic 54 = .ok (.iload_n 1, 1) := by decide +kernel
theorem dX7_seekMagic_55 : decode cX7_seekMagic 55 = .ok (.iload_n 2, 1) := by decide +kernel
theorem dX7_seekMagic_56 : decode cX7_seekMagic 56 = .ok (.invokevirtual 88, 3) := by decide +kernel
theorem dX7_seekMagic_59 : decode cX7_seekMagic 59 = .ok (.ifCond .eq 6, 3) := by decide +kernel
theorem dX7_seekMagic_62 : decode cX7_seekMagic 62 = .ok (.goto 32, 3) := by decide +kernel
theorem dX7_seekMagic_65 : decode cX7_seekMagic 65 = .ok (.aload_n 0, 1) := by decide +kernel
theorem dX7_seekMagic_66 : decode cX7_seekMagic 66 = .ok (.iload_n 1, 1) := by decide +kernel
theorem dX7_seekMagic_67 : decode cX7_seekMagic 67 = .ok (.iload_n 2, 1) := by decide +kernel
theorem dX7_seekMagic_68 : decode cX7_seekMagic 68 = .ok (.invokevirtual 92, 3) := by decide +kernel
theorem dX7_seekMagic_71 : decode cX7_seekMagic 71 = .ok (.ifCond .eq 17, 3) := by decide +kernel
theorem dX7_seekMagic_74 : decode cX7_seekMagic 74 = .ok (.aload_n 0, 1) := by decide +kernel
theorem dX7_seekMagic_75 : decode cX7_seekMagic 75 = .ok (.iload_n 1, 1) := by decide +kernel
theorem dX7_seekMagic_76 : decode cX7_seekMagic 76 = .ok (.iconst 1, 1) := by decide +kernel
theorem dX7_seekMagic_77 : decode cX7_seekMagic 77 = .ok (.iadd, 1) := by decide +kernel
theorem dX7_seekMagic_78 : decode cX7_seekMagic 78 = .ok (.iload_n 2, 1) := by decide +kernel
theorem dX7_seekMagic_79 : decode cX7_seekMagic 79 = .ok (.iload_n 3, 1) := by decide +kernel
theorem dX7_seekMagic_80 : decode cX7_seekMagic 80 = .ok (.invokestatic 84, 3) := by decide +kernel
theorem dX7_seekMagic_83 : decode cX7_seekMagic 83 = .ok (.ifCond .eq 5, 3) := by decide +kernel
theorem dX7_seekMagic_86 : decode cX7_seekMagic 86 = .ok (.iconst 1, 1) := by decide +kernel
theorem dX7_seekMagic_87 : decode cX7_seekMagic 87 = .ok (.ireturn, 1) := by decide +kernel
theorem dX7_seekMagic_88 : decode cX7_seekMagic 88 = .ok (.iinc 4 1, 3) := by decide +kernel
theorem dX7_seekMagic_91 : decode cX7_seekMagic 91 = .ok (.goto (-51), 3) := by decide +kernel
theorem dX7_seekMagic_94 : decode cX7_seekMagic 94 = .ok (.aload_n 0, 1) := by decide +kernel
theorem dX7_seekMagic_95 : decode cX7_seekMagic 95 = .ok (.iload_n 1, 1) := by decide +kernel
theorem dX7_seekMagic_96 : decode cX7_seekMagic 96 = .ok (.iconst 0, 1) := by decide +kernel
theorem dX7_seekMagic_97 : decode cX7_seekMagic 97 = .ok (.invokevirtual 76, 3) := by decide +kernel
theorem dX7_seekMagic_100 : decode cX7_seekMagic 100 = .ok (.iconst 0, 1) := by decide +kernel
theorem dX7_seekMagic_101 : decode cX7_seekMagic 101 = .ok (.ireturn, 1) := by decide +kernel
theorem dX7_isAbove_0 : decode cX7_isAbove 0 = .ok (.aload_n 0, 1) := by decide +kernel
theorem dX7_isAbove_1 : decode cX7_isAbove 1 = .ok (.getfield 15, 3) := by decide +kernel
theorem dX7_isAbove_4 : decode cX7_isAbove 4 = .ok (.aload_n 0, 1) := by decide +kernel
theorem dX7_isAbove_5 : decode cX7_isAbove 5 = .ok (.getfield 34, 3) := by decide +kernel
theorem dX7_isAbove_8 : decode cX7_isAbove 8 = .ok (.getfield 50, 3) := by decide +kernel
theorem dX7_isAbove_11 : decode cX7_isAbove 11 = .ok (.iload_n 1, 1) := by decide +kernel
theorem dX7_isAbove_12 : decode cX7_isAbove 12 = .ok (.iaload, 1) := by decide +kernel
theorem dX7_isAbove_13 : decode cX7_isAbove 13 = .ok (.iaload, 1) := by decide +kernel
theorem dX7_isAbove_14 : decode cX7_isAbove 14 = .ok (.iload_n 2, 1) := by decide +kernel
theorem dX7_isAbove_15 : decode cX7_isAbove 15 = .ok (.if_icmp .gt 21, 3) := by decide +kernel
theorem dX7_isAbove_18 : decode cX7_isAbove 18 = .ok (.aload_n 0, 1) := by decide +kernel
theorem dX7_isAbove_19 : decode cX7_isAbove 19 = .ok (.getfield 15, 3) := by decide +kernel
theorem dX7_isAbove_22 : decode cX7_isAbove 22 = .ok (.aload_n 0, 1) := by decide +kernel
theorem dX7_isAbove_23 : decode cX7_isAbove 23 = .ok (.getfield 34, 3) := by decide +kernel
theorem dX7_isAbove_26 : decode cX7_isAbove 26 = .ok (.getfield 53, 3) := by decide +kernel
theorem dX7_isAbove_29 : decode cX7_isAbove 29 = .ok (.iload_n 1, 1) := by decide +kernel
theorem dX7_isAbove_30 : decode cX7_isAbove 30 = .ok (.iaload, 1) := by decide +kernel
theorem dX7_isAbove_31 : decode cX7_isAbove 31 = .ok (.iaload, 1) := by decide +kernel
theorem dX7_isAbove_32 : decode cX7_isAbove 32 = .ok (.iload_n 2, 1) := by decide +kernel
theorem dX7_isAbove_33 : decode cX7_isAbove 33 = .ok (.if_icmp .le 7, 3) := by decide +kernel
theorem dX7_isAbove_36 : decode cX7_isAbove 36 = .ok (.iconst 1, 1) := by decide +kernel
theorem dX7_isAbove_37 : decode cX7_isAbove 37 = .ok (.goto 4, 3) := by decide +kernel
theorem dX7_isAbove_40 : decode cX7_isAbove 40 = .ok (.iconst 0, 1) := by decide +kernel
theorem dX7_isAbove_41 : decode cX7_isAbove 41 = .ok (.ireturn, 1) := by decide +kernel
theorem dX7_leavesNoLess_0 : decode cX7_leavesNoLess 0 = .ok (.aload_n 0, 1) := by decide +kernel
theorem dX7_leavesNoLess_1 : decode cX7_leavesNoLess 1 = .ok (.getfield 34, 3) := by decide +kernel
theorem dX7_leavesNoLess_4 : decode cX7_leavesNoLess 4 = .ok (.getfield 50, 3) := by decide +kernel
theorem dX7_leavesNoLess_7 : decode cX7_leavesNoLess 7 = .ok (.iload_n 1, 1) := by decide +kernel
theorem dX7_leavesNoLess_8 : decode cX7_leavesNoLess 8 = .ok (.iaload, 1) := by decide +kernel
theorem dX7_leavesNoLess_9 : decode cX7_leavesNoLess 9 = .ok (.istore_n 3, 1) := by decide +kernel
theorem dX7_leavesNoLess_10 : decode cX7_leavesNoLess 10 = .ok (.aload_n 0, 1) := by decide +kernel
theorem dX7_leavesNoLess_11 : decode cX7_leavesNoLess 11 = .ok (.getfield 34, 3) := by decide +kernel
theorem dX7_leavesNoLess_14 : decode cX7_leavesNoLess 14 = .ok (.getfield 53, 3) := by decide +kernel
theorem dX7_leavesNoLess_17 : decode cX7_leavesNoLess 17 = .ok (.iload_n 1, 1) := by decide +kernel
theorem dX7_leavesNoLess_18 : decode cX7_leavesNoLess 18 = .ok (.iaload, 1) := by decide +kernel
theorem dX7_leavesNoLess_19 : decode cX7_leavesNoLess 19 = .ok (.istore 4, 2) := by decide +kernel
theorem dX7_leavesNoLess_21 : decode cX7_leavesNoLess 21 = .ok (.aload_n 0, 1) := by decide +kernel
theorem dX7_leavesNoLess_22 : decode cX7_leavesNoLess 22 = .ok (.getfield 24, 3) := by decide +kernel
theorem dX7_leavesNoLess_25 : decode cX7_leavesNoLess 25 = .ok (.iload_n 3, 1) := by decide +kernel
theorem dX7_leavesNoLess_26 : decode cX7_leavesNoLess 26 = .ok (.iaload, 1) := by decide +kernel
theorem dX7_leavesNoLess_27 : decode cX7_leavesNoLess 27 = .ok (.iload_n 1, 1) := by decide +kernel
theorem dX7_leavesNoLess_28 : decode cX7_leavesNoLess 28 = .ok (.if_icmp .ne 13, 3) := by decide +kernel
theorem dX7_leavesNoLess_31 : decode cX7_leavesNoLess 31 = .ok (.aload_n 0, 1) := by decide +kernel
theorem dX7_leavesNoLess_32 : decode cX7_leavesNoLess 32 = .ok (.getfield 15, 3) := by decide +kernel
theorem dX7_leavesNoLess_35 : decode cX7_leavesNoLess 35 = .ok (.iload_n 3, 1) := by decide +kernel
theorem dX7_leavesNoLess_36 : decode cX7_leavesNoLess 36 = .ok (.iaload, 1) := by decide +kernel
theorem dX7_leavesNoLess_37 : decode cX7_leavesNoLess 37 = .ok (.iload_n 2, 1) := by decide +kernel
theorem dX7_leavesNoLess_38 : decode cX7_leavesNoLess 38 = .ok (.if_icmp .ne 29, 3) := by decide +kernel
theorem dX7_leavesNoLess_41 : decode cX7_leavesNoLess 41 = .ok (.aload_n 0, 1) := by decide +kernel
theorem dX7_leavesNoLess_42 : decode cX7_leavesNoLess 42 = .ok (.getfield 24, 3) := by decide +kernel
theorem dX7_leavesNoLess_45 : decode cX7_leavesNoLess 45 = .ok (.iload 4, 2) := by decide +kernel
theorem dX7_leavesNoLess_47 : decode cX7_leavesNoLess 47 = .ok (.iaload, 1) := by decide +kernel
theorem dX7_leavesNoLess_48 : decode cX7_leavesNoLess 48 = .ok (.iload_n 1, 1) := by decide +kernel
theorem dX7_leavesNoLess_49 : decode cX7_leavesNoLess 49 = .ok (.if_icmp .ne 14, 3) := by decide +kernel
theorem dX7_leavesNoLess_52 : decode cX7_leavesNoLess 52 = .ok (.aload_n 0, 1) := by decide +kernel
theorem dX7_leavesNoLess_53 : decode cX7_leavesNoLess 53 = .ok (.getfield 15, 3) := by decide +kernel
theorem dX7_leavesNoLess_56 : decode cX7_leavesNoLess 56 = .ok (.iload 4, 2) := by decide +kernel
theorem dX7_leavesNoLess_58 : decode cX7_leavesNoLess 58 = .ok (.iaload, 1) := by decide +kernel
theorem dX7_leavesNoLess_59 : decode cX7_leavesNoLess 59 = .ok (.iload_n 2, 1) := by decide +kernel
theorem dX7_leavesNoLess_60 : decode cX7_leavesNoLess 60 = .ok (.if_icmp .ne 7, 3) := by decide +kernel
theorem dX7_leavesNoLess_63 : decode cX7_leavesNoLess 63 = .ok (.iconst 1, 1) := by decide +kernel
theorem dX7_leavesNoLess_64 : decode cX7_leavesNoLess 64 = .ok (.goto 4, 3) := by decide +kernel
theorem dX7_leavesNoLess_67 : decode cX7_leavesNoLess 67 = .ok (.iconst 0, 1) := by decide +kernel
theorem dX7_leavesNoLess_68 : decode cX7_leavesNoLess 68 = .ok (.ireturn, 1) := by decide +kernel
theorem dX7_findOrders_0 : decode cX7_findOrders 0 = .ok (.aload_n 0, 1) := by decide +kernel
theorem dX7_findOrders_1 : decode cX7_findOrders 1 = .ok (.invokevirtual 95, 3) := by decide +kernel
theorem dX7_findOrders_4 : decode cX7_findOrders 4 = .ok (.aload_n 0, 1) := by decide +kernel
theorem dX7_findOrders_5 : decode cX7_findOrders 5 = .ok (.getfield 34, 3) := by decide +kernel
theorem dX7_findOrders_8 : decode cX7_findOrders 8 = .ok (.getfield 38, 3) := by decide +kernel
theorem dX7_findOrders_11 : decode cX7_findOrders 11 = .ok (.invokestatic 98, 3) := by decide +kernel
theorem dX7_findOrders_14 : decode cX7_findOrders 14 = .ok (.istore_n 2, 1) := by decide +kernel
theorem dX7_findOrders_15 : decode cX7_findOrders 15 = .ok (.iconst 0, 1) := by decide +kernel
theorem dX7_findOrders_16 : decode cX7_findOrders 16 = .ok (.istore_n 3, 1) := by decide +kernel
theorem dX7_findOrders_17 : decode cX7_findOrders 17 = .ok (.iconst 0, 1) := by decide +kernel
theorem dX7_findOrders_18 : decode cX7_findOrders 18 = .ok (.istore 4, 2) := by decide +kernel
theorem dX7_findOrders_20 : decode cX7_findOrders 20 = .ok (.iload 4, 2) := by decide +kernel
theorem dX7_findOrders_22 : decode cX7_findOrders 22 = .ok (.iload_n 2, 1) := by decide +kernel
theorem dX7_findOrders_23 : decode cX7_findOrders 23 = .ok (.if_icmp .ge 43, 3) := by decide +kernel
theorem dX7_findOrders_26 : decode cX7_findOrders 26 = .ok (.iconst 1, 1) := by decide +kernel
theorem dX7_findOrders_27 : decode cX7_findOrders 27 = .ok (.aload_n 0, 1) := by decide +kernel
theorem dX7_findOrders_28 : decode cX7_findOrders 28 = .ok (.getfield 15, 3) := by decide +kernel
theorem dX7_findOrders_31 : decode cX7_findOrders 31 = .ok (.aload_n 0, 1) := by decide +kernel
theorem dX7_findOrders_32 : decode cX7_findOrders 32 = .ok (.getfield 34, 3) := by decide +kernel
theorem dX7_findOrders_35 : decode cX7_findOrders 35 = .ok (.getfield 63, 3) := by decide +kernel
theorem dX7_findOrders_38 : decode cX7_findOrders 38 = .ok (.invokestatic 66, 3) := by decide +kernel
theorem dX7_findOrders_41 : decode cX7_findOrders 41 = .ok (.ifCond .eq 15, 3) := by decide +kernel
theorem dX7_findOrders_44 : decode cX7_findOrders 44 = .ok (.iinc 3 1, 3) := by decide +kernel
theorem dX7_findOrders_47 : decode cX7_findOrders 47 = .ok (.iload_n 3, 1) := by decide +kernel
theorem dX7_findOrders_48 : decode cX7_findOrders 48 = .ok (.iconst 1, 1) := by decide +kernel
theorem dX7_findOrders_49 : decode cX7_findOrders 49 = .ok (.isub, 1) := by decide +kernel
theorem dX7_findOrders_50 : decode cX7_findOrders 50 = .ok (.iload_n 1, 1) := by decide +kernel
theorem dX7_findOrders_51 : decode cX7_findOrders 51 = .ok (.if_icmp .ne 5, 3) := by decide +kernel
theorem dX7_findOrders_54 : decode cX7_findOrders 54 = .ok (.iload_n 3, 1) := by decide +kernel
theorem dX7_findOrders_55 : decode cX7_findOrders 55 = .ok (.ireturn, 1) := by decide +kernel
theorem dX7_findOrders_56 : decode cX7_findOrders 56 = .ok (.aload_n 0, 1) := by decide +kernel
theorem dX7_findOrders_57 : decode cX7_findOrders 57 = .ok (.invokevirtual 101, 3) := by decide +kernel
theorem dX7_findOrders_60 : decode cX7_findOrders 60 = .ok (.iinc 4 1, 3) := by decide +kernel
theorem dX7_findOrders_63 : decode cX7_findOrders 63 = .ok (.goto (-43), 3) := by decide +kernel
theorem dX7_findOrders_66 : decode cX7_findOrders 66 = .ok (.iload_n 3, 1) := by decide +kernel
theorem dX7_findOrders_67 : decode cX7_findOrders 67 = .ok (.ireturn, 1) := by decide +kernel
theorem dX7_leastSpread_0 : decode cX7_leastSpread 0 = .ok (.aload_n 0, 1) := by decide +kernel
theorem dX7_leastSpread_1 : decode cX7_leastSpread 1 = .ok (.invokevirtual 95, 3) := by decide +kernel
theorem dX7_leastSpread_4 : decode cX7_leastSpread 4 = .ok (.aload_n 0, 1) := by decide +kernel
theorem dX7_leastSpread_5 : decode cX7_leastSpread 5 = .ok (.getfield 34, 3) := by decide +kernel
theorem dX7_leastSpread_8 : decode cX7_leastSpread 8 = .ok (.getfield 38, 3) := by decide +kernel
theorem dX7_leastSpread_11 : decode cX7_leastSpread 11 = .ok (.invokestatic 98, 3) := by decide +kernel
theorem dX7_leastSpread_14 : decode cX7_leastSpread 14 = .ok (.istore_n 1, 1) := by decide +kernel
theorem dX7_leastSpread_15 : decode cX7_leastSpread 15 = .ok (.bipush (-9), 2) := by decide +kernel
theorem dX7_leastSpread_17 : decode cX7_leastSpread 17 = .ok (.istore_n 2, 1) := by decide +kernel
theorem dX7_leastSpread_18 : decode cX7_leastSpread 18 = .ok (.iconst 0, 1) := by decide +kernel
theorem dX7_leastSpread_19 : decode cX7_leastSpread 19 = .ok (.istore_n 3, 1) := by decide +kernel
theorem dX7_leastSpread_20 : decode cX7_leastSpread 20 = .ok (.iload_n 3, 1) := by decide +kernel
theorem dX7_leastSpread_21 : decode cX7_leastSpread 21 = .ok (.iload_n 1, 1) := by decide +kernel
theorem dX7_leastSpread_22 : decode cX7_leastSpread 22 = .ok (.if_icmp .ge 65, 3) := by decide +kernel
theorem dX7_leastSpread_25 : decode cX7_leastSpread 25 = .ok (.iconst 1, 1) := by decide +kernel
theorem dX7_leastSpread_26 : decode cX7_leastSpread 26 = .ok (.aload_n 0, 1) := by decide +kernel
theorem dX7_leastSpread_27 : decode cX7_leastSpread 27 = .ok (.getfield 15, 3) := by decide +kernel
theorem dX7_leastSpread_30 : decode cX7_leastSpread 30 = .ok (.aload_n 0, 1) := by decide +kernel
theorem dX7_leastSpread_31 : decode cX7_leastSpread 31 = .ok (.getfield 34, 3) := by decide +kernel
theorem dX7_leastSpread_34 : decode cX7_leastSpread 34 = .ok (.getfield 63, 3) := by decide +kernel
theorem dX7_leastSpread_37 : decode cX7_leastSpread 37 = .ok (.invokestatic 66, 3) := by decide +kernel
theorem dX7_leastSpread_40 : decode cX7_leastSpread 40 = .ok (.ifCond .eq 37, 3) := by decide +kernel
theorem dX7_leastSpread_43 : decode cX7_leastSpread 43 = .ok (.aload_n 0, 1) := by decide +kernel
theorem dX7_leastSpread_44 : decode cX7_leastSpread 44 = .ok (.getfield 15, 3) := by decide +kernel
theorem dX7_leastSpread_47 : decode cX7_leastSpread 47 = .ok (.aload_n 0, 1) := by decide +kernel
theorem dX7_leastSpread_48 : decode cX7_leastSpread 48 = .ok (.getfield 34, 3) := by decide +kernel
theorem dX7_leastSpread_51 : decode cX7_leastSpread 51 = .ok (.getfield 63, 3) := by decide +kernel
theorem dX7_leastSpread_54 : decode cX7_leastSpread 54 = .ok (.invokestatic 104, 3) := by decide +kernel
theorem dX7_leastSpread_57 : decode cX7_leastSpread 57 = .ok (.istore 4, 2) := by decide +kernel
theorem dX7_leastSpread_59 : decode cX7_leastSpread 59 = .ok (.iload_n 2, 1) := by decide +kernel
theorem dX7_leastSpread_60 : decode cX7_leastSpread 60 = .ok (.bipush (-9), 2) := by decide +kernel
theorem dX7_leastSpread_62 : decode cX7_leastSpread 62 = .ok (.if_icmp .ne 8, 3) := by decide +kernel
theorem dX7_leastSpread_65 : decode cX7_leastSpread 65 = .ok (.iload 4, 2) := by decide +kernel
theorem dX7_leastSpread_67 : decode cX7_leastSpread 67 = .ok (.goto 9, 3) := by decide +kernel
theorem dX7_leastSpread_70 : decode cX7_leastSpread 70 = .ok (.iload_n 2, 1) := by decide +kernel
theorem dX7_leastSpread_71 : decode cX7_leastSpread 71 = .ok (.iload 4, 2) := by decide +kernel
theorem dX7_leastSpread_73 : decode cX7_leastSpread 73 = .ok (.invokestatic 108, 3) := by decide +kernel
theorem dX7_leastSpread_76 : decode cX7_leastSpread 76 = .ok (.istore_n 2, 1) := by decide +kernel
theorem dX7_leastSpread_77 : decode cX7_leastSpread 77 = .ok (.aload_n 0, 1) := by decide +kernel
theorem dX7_leastSpread_78 : decode cX7_leastSpread 78 = .ok (.invokevirtual 101, 3) := by decide +kernel
theorem dX7_leastSpread_81 : decode cX7_leastSpread 81 = .ok (.iinc 3 1, 3) := by decide +kernel
theorem dX7_leastSpread_84 : decode cX7_leastSpread 84 = .ok (.goto (-64), 3) := by decide +kernel
theorem dX7_leastSpread_87 : decode cX7_leastSpread 87 = .ok (.iload_n 2, 1) := by decide +kernel
theorem dX7_leastSpread_88 : decode cX7_leastSpread 88 = .ok (.ireturn, 1) := by decide +kernel
theorem dX7_beginOrders_0 : decode cX7_beginOrders 0 = .ok (.aload_n 0, 1) := by decide +kernel
theorem dX7_beginOrders_1 : decode cX7_beginOrders 1 = .ok (.invokevirtual 56, 3) := by decide +kernel
theorem dX7_beginOrders_4 : decode cX7_beginOrders 4 = .ok (.iconst 0, 1) := by decide +kernel
theorem dX7_beginOrders_5 : decode cX7_beginOrders 5 = .ok (.istore_n 1, 1) := by decide +kernel
theorem dX7_beginOrders_6 : decode cX7_beginOrders 6 = .ok (.iload_n 1, 1) := by decide +kernel
theorem dX7_beginOrders_7 : decode cX7_beginOrders 7 = .ok (.aload_n 0, 1) := by decide +kernel
theorem dX7_beginOrders_8 : decode cX7_beginOrders 8 = .ok (.getfield 34, 3) := by decide +kernel
theorem dX7_beginOrders_11 : decode cX7_beginOrders 11 = .ok (.getfield 38, 3) := by decide +kernel
theorem dX7_beginOrders_14 : decode cX7_beginOrders 14 = .ok (.if_icmp .ge 17, 3) := by decide +kernel
theorem dX7_beginOrders_17 : decode cX7_beginOrders 17 = .ok (.aload_n 0, 1) := by decide +kernel
theorem dX7_beginOrders_18 : decode cX7_beginOrders 18 = .ok (.iload_n 1, 1) := by decide +kernel
theorem dX7_beginOrders_19 : decode cX7_beginOrders 19 = .ok (.iload_n 1, 1) := by decide +kernel
theorem dX7_beginOrders_20 : decode cX7_beginOrders 20 = .ok (.iconst 1, 1) := by decide +kernel
theorem dX7_beginOrders_21 : decode cX7_beginOrders 21 = .ok (.iadd, 1) := by decide +kernel
theorem dX7_beginOrders_22 : decode cX7_beginOrders 22 = .ok (.invokevirtual 76, 3) := by decide +kernel
theorem dX7_beginOrders_25 : decode cX7_beginOrders 25 = .ok (.iinc 1 1, 3) := by decide +kernel
theorem dX7_beginOrders_28 : decode cX7_beginOrders 28 = .ok (.goto (-22), 3) := by decide +kernel
theorem dX7_beginOrders_31 : decode cX7_beginOrders 31 = .ok (.return_, 1) := by decide +kernel
theorem dX7_nextOrder_0 : decode cX7_nextOrder 0 = .ok (.aload_n 0, 1) := by decide +kernel
theorem dX7_nextOrder_1 : decode cX7_nextOrder 1 = .ok (.getfield 34, 3) := by decide +kernel
theorem dX7_nextOrder_4 : decode cX7_nextOrder 4 = .ok (.getfield 38, 3) := by decide +kernel
theorem dX7_nextOrder_7 : decode cX7_nextOrder 7 = .ok (.iconst 1, 1) := by decide +kernel
theorem dX7_nextOrder_8 : decode cX7_nextOrder 8 = .ok (.isub, 1) := by decide +kernel
theorem dX7_nextOrder_9 : decode cX7_nextOrder 9 = .ok (.istore_n 1, 1) := by decide +kernel
theorem dX7_nextOrder_10 : decode cX7_nextOrder 10 = .ok (.iload_n 1, 1) := by decide +kernel
theorem dX7_nextOrder_11 : decode cX7_nextOrder 11 = .ok (.iconst 1, 1) := by decide +kernel
theorem dX7_nextOrder_12 : decode cX7_nextOrder 12 = .ok (.isub, 1) := by decide +kernel
theorem dX7_nextOrder_13 : decode cX7_nextOrder 13 = .ok (.istore_n 2, 1) := by decide +kernel
theorem dX7_nextOrder_14 : decode cX7_nextOrder 14 = .ok (.iload_n 2, 1) := by decide +kernel
theorem dX7_nextOrder_15 : decode cX7_nextOrder 15 = .ok (.ifCond .lt 26, 3) := by decide +kernel
theorem dX7_nextOrder_18 : decode cX7_nextOrder 18 = .ok (.aload_n 0, 1) := by decide +kernel
theorem dX7_nextOrder_19 : decode cX7_nextOrder 19 = .ok (.getfield 9, 3) := by decide +kernel
theorem dX7_nextOrder_22 : decode cX7_nextOrder 22 = .ok (.iload_n 2, 1) := by decide +kernel
theorem dX7_nextOrder_23 : decode cX7_nextOrder 23 = .ok (.iaload, 1) := by decide +kernel
theorem dX7_nextOrder_24 : decode cX7_nextOrder 24 = .ok (.aload_n 0, 1) := by decide +kernel
theorem dX7_nextOrder_25 : decode cX7_nextOrder 25 = .ok (.getfield 9, 3) := by decide +kernel
theorem dX7_nextOrder_28 : decode cX7_nextOrder 28 = .ok (.iload_n 2, 1) := by decide +kernel
theorem dX7_nextOrder_29 : decode cX7_nextOrder 29 = .ok (.iconst 1, 1) := by decide +kernel
theorem dX7_nextOrder_30 : decode cX7_nextOrder 30 = .ok (.iadd, 1) := by decide +kernel
theorem dX7_nextOrder_31 : decode cX7_nextOrder 31 = .ok (.iaload, 1) := by decide +kernel
theorem dX7_nextOrder_32 : decode cX7_nextOrder 32 = .ok (.if_icmp .le 9, 3) := by decide +kernel
theorem dX7_nextOrder_35 : decode cX7_nextOrder 35 = .ok (.iinc 2 (-1), 3) := by decide +kernel
theorem dX7_nextOrder_38 : decode cX7_nextOrder 38 = .ok (.goto (-24), 3) := by decide +kernel
theorem dX7_nextOrder_41 : decode cX7_nextOrder 41 = .ok (.iload_n 2, 1) := by decide +kernel
theorem dX7_nextOrder_42 : decode cX7_nextOrder 42 = .ok (.ifCond .ge 4, 3) := by decide +kernel
theorem dX7_nextOrder_45 : decode cX7_nextOrder 45 = .ok (.return_, 1) := by decide +kernel
theorem dX7_nextOrder_46 : decode cX7_nextOrder 46 = .ok (.iload_n 1, 1) := by decide +kernel
theorem dX7_nextOrder_47 : decode cX7_nextOrder 47 = .ok (.istore_n 3, 1) := by decide +kernel
theorem dX7_nextOrder_48 : decode cX7_nextOrder 48 = .ok (.iload_n 3, 1) := by decide +kernel
theorem dX7_nextOrder_49 : decode cX7_nextOrder 49 = .ok (.iload_n 2, 1) := by decide +kernel
theorem dX7_nextOrder_50 : decode cX7_nextOrder 50 = .ok (.iconst 1, 1) := by decide +kernel
theorem dX7_nextOrder_51 : decode cX7_nextOrder 51 = .ok (.iadd, 1) := by decide +kernel
theorem dX7_nextOrder_52 : decode cX7_nextOrder 52 = .ok (.if_icmp .le 24, 3) := by decide +kernel
theorem dX7_nextOrder_55 : decode cX7_nextOrder 55 = .ok (.aload_n 0, 1) := by decide +kernel
theorem dX7_nextOrder_56 : decode cX7_nextOrder 56 = .ok (.getfield 9, 3) := by decide +kernel
theorem dX7_nextOrder_59 : decode cX7_nextOrder 59 = .ok (.iload_n 3, 1) := by decide +kernel
theorem dX7_nextOrder_60 : decode cX7_nextOrder 60 = .ok (.iaload, 1) := by decide +kernel
theorem dX7_nextOrder_61 : decode cX7_nextOrder 61 = .ok (.aload_n 0, 1) := by decide +kernel
theorem dX7_nextOrder_62 : decode cX7_nextOrder 62 = .ok (.getfield 9, 3) := by decide +kernel
theorem dX7_nextOrder_65 : decode cX7_nextOrder 65 = .ok (.iload_n 2, 1) := by decide +kernel
theorem dX7_nextOrder_66 : decode cX7_nextOrder 66 = .ok (.iaload, 1) := by decide +kernel
theorem dX7_nextOrder_67 : decode cX7_nextOrder 67 = .ok (.if_icmp .ge 9, 3) := by decide +kernel
theorem dX7_nextOrder_70 : decode cX7_nextOrder 70 = .ok (.iinc 3 (-1), 3) := by decide +kernel
theorem dX7_nextOrder_73 : decode cX7_nextOrder 73 = .ok (.goto (-25), 3) := by decide +kernel
theorem dX7_nextOrder_76 : decode cX7_nextOrder 76 = .ok (.aload_n 0, 1) := by decide +kernel
theorem dX7_nextOrder_77 : decode cX7_nextOrder 77 = .ok (.iload_n 2, 1) := by decide +kernel
theorem dX7_nextOrder_78 : decode cX7_nextOrder 78 = .ok (.iload_n 3, 1) := by decide +kernel
theorem dX7_nextOrder_79 : decode cX7_nextOrder 79 = .ok (.invokevirtual 113, 3) := by decide +kernel
theorem dX7_nextOrder_82 : decode cX7_nextOrder 82 = .ok (.iload_n 2, 1) := by decide +kernel
theorem dX7_nextOrder_83 : decode cX7_nextOrder 83 = .ok (.iconst 1, 1) := by decide +kernel
theorem dX7_nextOrder_84 : decode cX7_nextOrder 84 = .ok (.iadd, 1) := by decide +kernel
theorem dX7_nextOrder_85 : decode cX7_nextOrder 85 = .ok (.istore 4, 2) := by decide +kernel
theorem dX7_nextOrder_87 : decode cX7_nextOrder 87 = .ok (.iload_n 1, 1) := by decide +kernel
theorem dX7_nextOrder_88 : decode cX7_nextOrder 88 = .ok (.istore 5, 2) := by decide +kernel
theorem dX7_nextOrder_90 : decode cX7_nextOrder 90 = .ok (.iload 5, 2) := by decide +kernel
theorem dX7_nextOrder_92 : decode cX7_nextOrder 92 = .ok (.iload 4, 2) := by decide +kernel
theorem dX7_nextOrder_94 : decode cX7_nextOrder 94 = .ok (.if_icmp .le 20, 3) := by decide +kernel
theorem dX7_nextOrder_97 : decode cX7_nextOrder 97 = .ok (.aload_n 0, 1) := by decide +kernel
theorem dX7_nextOrder_98 : decode cX7_nextOrder 98 = .ok (.iload 4, 2) := by decide +kernel
theorem dX7_nextOrder_100 : decode cX7_nextOrder 100 = .ok (.iload 5, 2) := by decide +kernel
theorem dX7_nextOrder_102 : decode cX7_nextOrder 102 = .ok (.invokevirtual 113, 3) := by decide +kernel
theorem dX7_nextOrder_105 : decode cX7_nextOrder 105 = .ok (.iinc 4 1, 3) := by decide +kernel
theorem dX7_nextOrder_108 : decode cX7_nextOrder 108 = .ok (.iinc 5 (-1), 3) := by decide +kernel
theorem dX7_nextOrder_111 : decode cX7_nextOrder 111 = .ok (.goto (-21), 3) := by decide +kernel
theorem dX7_nextOrder_114 : decode cX7_nextOrder 114 = .ok (.return_, 1) := by decide +kernel
theorem dX7_exchange_0 : decode cX7_exchange 0 = .ok (.aload_n 0, 1) := by decide +kernel
theorem dX7_exchange_1 : decode cX7_exchange 1 = .ok (.getfield 9, 3) := by decide +kernel
theorem dX7_exchange_4 : decode cX7_exchange 4 = .ok (.iload_n 1, 1) := by decide +kernel
theorem dX7_exchange_5 : decode cX7_exchange 5 = .ok (.iaload, 1) := by decide +kernel
theorem dX7_exchange_6 : decode cX7_exchange 6 = .ok (.istore_n 3, 1) := by decide +kernel
theorem dX7_exchange_7 : decode cX7_exchange 7 = .ok (.aload_n 0, 1) := by decide +kernel
theorem dX7_exchange_8 : decode cX7_exchange 8 = .ok (.iload_n 1, 1) := by decide +kernel
theorem dX7_exchange_9 : decode cX7_exchange 9 = .ok (.aload_n 0, 1) := by decide +kernel
theorem dX7_exchange_10 : decode cX7_exchange 10 = .ok (.getfield 9, 3) := by decide +kernel
theorem dX7_exchange_13 : decode cX7_exchange 13 = .ok (.iload_n 2, 1) := by decide +kernel
theorem dX7_exchange_14 : decode cX7_exchange 14 = .ok (.iaload, 1) := by decide +kernel
theorem dX7_exchange_15 : decode cX7_exchange 15 = .ok (.invokevirtual 76, 3) := by decide +kernel
theorem dX7_exchange_18 : decode cX7_exchange 18 = .ok (.aload_n 0, 1) := by decide +kernel
theorem dX7_exchange_19 : decode cX7_exchange 19 = .ok (.iload_n 2, 1) := by decide +kernel
theorem dX7_exchange_20 : decode cX7_exchange 20 = .ok (.iload_n 3, 1) := by decide +kernel
theorem dX7_exchange_21 : decode cX7_exchange 21 = .ok (.invokevirtual 76, 3) := by decide +kernel
theorem dX7_exchange_24 : decode cX7_exchange 24 = .ok (.return_, 1) := by decide +kernel
theorem dX7_lotsThatKeep_0 : decode cX7_lotsThatKeep 0 = .ok (.aload_n 0, 1) := by decide +kernel
theorem dX7_lotsThatKeep_1 : decode cX7_lotsThatKeep 1 = .ok (.invokevirtual 56, 3) := by decide +kernel
theorem dX7_lotsThatKeep_4 : decode cX7_lotsThatKeep 4 = .ok (.aload_n 0, 1) := by decide +kernel
theorem dX7_lotsThatKeep_5 : decode cX7_lotsThatKeep 5 = .ok (.iload_n 3, 1) := by decide +kernel
theorem dX7_lotsThatKeep_6 : decode cX7_lotsThatKeep 6 = .ok (.putfield 31, 3) := by decide +kernel
theorem dX7_lotsThatKeep_9 : decode cX7_lotsThatKeep 9 = .ok (.iconst 0, 1) := by decide +kernel
theorem dX7_lotsThatKeep_10 : decode cX7_lotsThatKeep 10 = .ok (.istore 4, 2) := by decide +kernel
theorem dX7_lotsThatKeep_12 : decode cX7_lotsThatKeep 12 = .ok (.iconst 0, 1) := by decide +kernel
theorem dX7_lotsThatKeep_13 : decode cX7_lotsThatKeep 13 = .ok (.istore 5, 2) := by decide +kernel
theorem dX7_lotsThatKeep_15 : decode cX7_lotsThatKeep 15 = .ok (.iload 5, 2) := by decide +kernel
theorem dX7_lotsThatKeep_17 : decode cX7_lotsThatKeep 17 = .ok (.iload_n 2, 1) := by decide +kernel
theorem dX7_lotsThatKeep_18 : decode cX7_lotsThatKeep 18 = .ok (.if_icmp .ge 34, 3) := by decide +kernel
theorem dX7_lotsThatKeep_21 : decode cX7_lotsThatKeep 21 = .ok (.aload_n 0, 1) := by decide +kernel
theorem dX7_lotsThatKeep_22 : decode cX7_lotsThatKeep 22 = .ok (.invokevirtual 116, 3) := by decide +kernel
theorem dX7_lotsThatKeep_25 : decode cX7_lotsThatKeep 25 = .ok (.iload_n 1, 1) := by decide +kernel
theorem dX7_lotsThatKeep_26 : decode cX7_lotsThatKeep 26 = .ok (.aload_n 0, 1) := by decide +kernel
theorem dX7_lotsThatKeep_27 : decode cX7_lotsThatKeep 27 = .ok (.getfield 15, 3) := by decide +kernel
theorem dX7_lotsThatKeep_30 : decode cX7_lotsThatKeep 30 = .ok (.aload_n 0, 1) := by decide +kernel
theorem dX7_lotsThatKeep_31 : decode cX7_lotsThatKeep 31 = .ok (.getfield 34, 3) := by decide +kernel
theorem dX7_lotsThatKeep_34 : decode cX7_lotsThatKeep 34 = .ok (.getfield 63, 3) := by decide +kernel
theorem dX7_lotsThatKeep_37 : decode cX7_lotsThatKeep 37 = .ok (.invokestatic 66, 3) := by decide +kernel
theorem dX7_lotsThatKeep_40 : decode cX7_lotsThatKeep 40 = .ok (.ifCond .eq 6, 3) := by decide +kernel
theorem dX7_lotsThatKeep_43 : decode cX7_lotsThatKeep 43 = .ok (.iinc 4 1, 3) := by decide +kernel
theorem dX7_lotsThatKeep_46 : decode cX7_lotsThatKeep 46 = .ok (.iinc 5 1, 3) := by decide +kernel
theorem dX7_lotsThatKeep_49 : decode cX7_lotsThatKeep 49 = .ok (.goto (-34), 3) := by decide +kernel
theorem dX7_lotsThatKeep_52 : decode cX7_lotsThatKeep 52 = .ok (.iload 4, 2) := by decide +kernel
theorem dX7_lotsThatKeep_54 : decode cX7_lotsThatKeep 54 = .ok (.ireturn, 1) := by decide +kernel
theorem dX7_lotsTogether_0 : decode cX7_lotsTogether 0 = .ok (.aload_n 0, 1) := by decide +kernel
theorem dX7_lotsTogether_1 : decode cX7_lotsTogether 1 = .ok (.invokevirtual 56, 3) := by decide +kernel
theorem dX7_lotsTogether_4 : decode cX7_lotsTogether 4 = .ok (.aload_n 0, 1) := by decide +kernel
theorem dX7_lotsTogether_5 : decode cX7_lotsTogether 5 = .ok (.iload_n 2, 1) := by decide +kernel
theorem dX7_lotsTogether_6 : decode cX7_lotsTogether 6 = .ok (.putfield 31, 3) := by decide +kernel
theorem dX7_lotsTogether_9 : decode cX7_lotsTogether 9 = .ok (.iconst 0, 1) := by decide +kernel
theorem dX7_lotsTogether_10 : decode cX7_lotsTogether 10 = .ok (.istore_n 3, 1) := by decide +kernel
theorem dX7_lotsTogether_11 : decode cX7_lotsTogether 11 = .ok (.iconst 0, 1) := by decide +kernel
theorem dX7_lotsTogether_12 : decode cX7_lotsTogether 12 = .ok (.istore 4, 2) := by decide +kernel
theorem dX7_lotsTogether_14 : decode cX7_lotsTogether 14 = .ok (.iload 4, 2) := by decide +kernel
theorem dX7_lotsTogether_16 : decode cX7_lotsTogether 16 = .ok (.iload_n 1, 1) := by decide +kernel
theorem dX7_lotsTogether_17 : decode cX7_lotsTogether 17 = .ok (.if_icmp .ge 30, 3) := by decide +kernel
theorem dX7_lotsTogether_20 : decode cX7_lotsTogether 20 = .ok (.aload_n 0, 1) := by decide +kernel
theorem dX7_lotsTogether_21 : decode cX7_lotsTogether 21 = .ok (.invokevirtual 116, 3) := by decide +kernel
theorem dX7_lotsTogether_24 : decode cX7_lotsTogether 24 = .ok (.iload_n 3, 1) := by decide +kernel
theorem dX7_lotsTogether_25 : decode cX7_lotsTogether 25 = .ok (.aload_n 0, 1) := by decide +kernel
theorem dX7_lotsTogether_26 : decode cX7_lotsTogether 26 = .ok (.getfield 15, 3) := by decide +kernel
theorem dX7_lotsTogether_29 : decode cX7_lotsTogether 29 = .ok (.aload_n 0, 1) := by decide +kernel
theorem dX7_lotsTogether_30 : decode cX7_lotsTogether 30 = .ok (.getfield 34, 3) := by decide +kernel
theorem dX7_lotsTogether_33 : decode cX7_lotsTogether 33 = .ok (.getfield 63, 3) := by decide +kernel
theorem dX7_lotsTogether_36 : decode cX7_lotsTogether 36 = .ok (.invokestatic 119, 3) := by decide +kernel
theorem dX7_lotsTogether_39 : decode cX7_lotsTogether 39 = .ok (.iadd, 1) := by decide +kernel
theorem dX7_lotsTogether_40 : decode cX7_lotsTogether 40 = .ok (.istore_n 3, 1) := by decide +kernel
theorem dX7_lotsTogether_41 : decode cX7_lotsTogether 41 = .ok (.iinc 4 1, 3) := by decide +kernel
theorem dX7_lotsTogether_44 : decode cX7_lotsTogether 44 = .ok (.goto (-30), 3) := by decide +kernel
theorem dX7_lotsTogether_47 : decode cX7_lotsTogether 47 = .ok (.iload_n 3, 1) := by decide +kernel
theorem dX7_lotsTogether_48 : decode cX7_lotsTogether 48 = .ok (.ireturn, 1) := by decide +kernel
theorem dX7_drawLabels_0 : decode cX7_drawLabels 0 = .ok (.iconst 0, 1) := by decide +kernel
theorem dX7_drawLabels_1 : decode cX7_drawLabels 1 = .ok (.istore_n 1, 1) := by decide +kernel
theorem dX7_drawLabels_2 : decode cX7_drawLabels 2 = .ok (.iload_n 1, 1) := by decide +kernel
theorem dX7_drawLabels_3 : decode cX7_drawLabels 3 = .ok (.aload_n 0, 1) := by decide +kernel
theorem dX7_drawLabels_4 : decode cX7_drawLabels 4 = .ok (.getfield 34, 3) := by decide +kernel
theorem dX7_drawLabels_7 : decode cX7_drawLabels 7 = .ok (.getfield 38, 3) := by decide +kernel
theorem dX7_drawLabels_10 : decode cX7_drawLabels 10 = .ok (.if_icmp .ge 42, 3) := by decide +kernel
theorem dX7_drawLabels_13 : decode cX7_drawLabels 13 = .ok (.aload_n 0, 1) := by decide +kernel
theorem dX7_drawLabels_14 : decode cX7_drawLabels 14 = .ok (.aload_n 0, 1) := by decide +kernel
theorem dX7_drawLabels_15 : decode cX7_drawLabels 15 = .ok (.getfield 31, 3) := by decide +kernel
theorem dX7_drawLabels_18 : decode cX7_drawLabels 18 = .ok (.ldc 122, 2) := by decide +kernel
theorem dX7_drawLabels_20 : decode cX7_drawLabels 20 = .ok (.imul, 1) := by decide +kernel
theorem dX7_drawLabels_21 : decode cX7_drawLabels 21 = .ok (.ldc 123, 2) := by decide +kernel
theorem dX7_drawLabels_23 : decode cX7_drawLabels 23 = .ok (.iadd, 1) := by decide +kernel
theorem dX7_drawLabels_24 : decode cX7_drawLabels 24 = .ok (.putfield 31, 3) := by decide +kernel
theorem dX7_drawLabels_27 : decode cX7_drawLabels 27 = .ok (.aload_n 0, 1) := by decide +kernel
theorem dX7_drawLabels_28 : decode cX7_drawLabels 28 = .ok (.iload_n 1, 1) := by decide +kernel
theorem dX7_drawLabels_29 : decode cX7_drawLabels 29 = .ok (.aload_n 0, 1) := by decide +kernel
theorem dX7_drawLabels_30 : decode cX7_drawLabels 30 = .ok (.getfield 31, 3) := by decide +kernel
theorem dX7_drawLabels_33 : decode cX7_drawLabels 33 = .ok (.ldc 124, 2) := by decide +kernel
theorem dX7_drawLabels_35 : decode cX7_drawLabels 35 = .ok (.iand, 1) := by decide +kernel
theorem dX7_drawLabels_36 : decode cX7_drawLabels 36 = .ok (.sipush 256, 3) := by decide +kernel
theorem dX7_drawLabels_39 : decode cX7_drawLabels 39 = .ok (.idiv, 1) := by decide +kernel
theorem dX7_drawLabels_40 : decode cX7_drawLabels 40 = .ok (.bipush 10, 2) := by decide +kernel
theorem dX7_drawLabels_42 : decode cX7_drawLabels 42 = .ok (.irem, 1) := by decide +kernel
theorem dX7_drawLabels_43 : decode cX7_drawLabels 43 = .ok (.invokevirtual 76, 3) := by decide +kernel
theorem dX7_drawLabels_46 : decode cX7_drawLabels 46 = .ok (.iinc 1 1, 3) := by decide +kernel
theorem dX7_drawLabels_49 : decode cX7_drawLabels 49 = .ok (.goto (-47), 3) := by decide +kernel
theorem dX7_drawLabels_52 : decode cX7_drawLabels 52 = .ok (.return_, 1) := by decide +kernel
theorem dX7_power_0 : decode cX7_power 0 = .ok (.iconst 1, 1) := by decide +kernel
theorem dX7_power_1 : decode cX7_power 1 = .ok (.istore_n 2, 1) := by decide +kernel
theorem dX7_power_2 : decode cX7_power 2 = .ok (.iconst 0, 1) := by decide +kernel
theorem dX7_power_3 : decode cX7_power 3 = .ok (.istore_n 3, 1) := by decide +kernel
theorem dX7_power_4 : decode cX7_power 4 = .ok (.iload_n 3, 1) := by decide +kernel
theorem dX7_power_5 : decode cX7_power 5 = .ok (.iload_n 1, 1) := by decide +kernel
theorem dX7_power_6 : decode cX7_power 6 = .ok (.if_icmp .ge 13, 3) := by decide +kernel
theorem dX7_power_9 : decode cX7_power 9 = .ok (.iload_n 2, 1) := by decide +kernel
theorem dX7_power_10 : decode cX7_power 10 = .ok (.iload_n 0, 1) := by decide +kernel
theorem dX7_power_11 : decode cX7_power 11 = .ok (.imul, 1) := by decide +kernel
theorem dX7_power_12 : decode cX7_power 12 = .ok (.istore_n 2, 1) := by decide +kernel
theorem dX7_power_13 : decode cX7_power 13 = .ok (.iinc 3 1, 3) := by decide +kernel
theorem dX7_power_16 : decode cX7_power 16 = .ok (.goto (-12), 3) := by decide +kernel
theorem dX7_power_19 : decode cX7_power 19 = .ok (.iload_n 2, 1) := by decide +kernel
theorem dX7_power_20 : decode cX7_power 20 = .ok (.ireturn, 1) := by decide +kernel
theorem dX7_ordersOf_0 : decode cX7_ordersOf 0 = .ok (.iconst 1, 1) := by decide +kernel
theorem dX7_ordersOf_1 : decode cX7_ordersOf 1 = .ok (.istore_n 1, 1) := by decide +kernel
theorem dX7_ordersOf_2 : decode cX7_ordersOf 2 = .ok (.iconst 2, 1) := by decide +kernel
theorem dX7_ordersOf_3 : decode cX7_ordersOf 3 = .ok (.istore_n 2, 1) := by decide +kernel
theorem dX7_ordersOf_4 : decode cX7_ordersOf 4 = .ok (.iload_n 2, 1) := by decide +kernel
theorem dX7_ordersOf_5 : decode cX7_ordersOf 5 = .ok (.iload_n 0, 1) := by decide +kernel
theorem dX7_ordersOf_6 : decode cX7_ordersOf 6 = .ok (.if_icmp .gt 13, 3) := by decide +kernel
theorem dX7_ordersOf_9 : decode cX7_ordersOf 9 = .ok (.iload_n 1, 1) := by decide +kernel
theorem dX7_ordersOf_10 : decode cX7_ordersOf 10 = .ok (.iload_n 2, 1) := by decide +kernel
theorem dX7_ordersOf_11 : decode cX7_ordersOf 11 = .ok (.imul, 1) := by decide +kernel
theorem dX7_ordersOf_12 : decode cX7_ordersOf 12 = .ok (.istore_n 1, 1) := by decide +kernel
theorem dX7_ordersOf_13 : decode cX7_ordersOf 13 = .ok (.iinc 2 1, 3) := by decide +kernel
theorem dX7_ordersOf_16 : decode cX7_ordersOf 16 = .ok (.goto (-12), 3) := by decide +kernel
theorem dX7_ordersOf_19 : decode cX7_ordersOf 19 = .ok (.iload_n 1, 1) := by decide +kernel
theorem dX7_ordersOf_20 : decode cX7_ordersOf 20 = .ok (.ireturn, 1) := by decide +kernel
theorem dX8_init_0 : decode cX8_init 0 = .ok (.aload_n 0, 1) := by decide +kernel
theorem dX8_init_1 : decode cX8_init 1 = .ok (.invokespecial 3, 3) := by decide +kernel
theorem dX8_init_4 : decode cX8_init 4 = .ok (.aload_n 0, 1) := by decide +kernel
theorem dX8_init_5 : decode cX8_init 5 = .ok (.bipush 115, 2) := by decide +kernel
theorem dX8_init_7 : decode cX8_init 7 = .ok (.newarray .int, 2) := by decide +kernel
theorem dX8_init_9 : decode cX8_init 9 = .ok (.putfield 11, 3) := by decide +kernel
theorem dX8_init_12 : decode cX8_init 12 = .ok (.aload_n 0, 1) := by decide +kernel
theorem dX8_init_13 : decode cX8_init 13 = .ok (.iconst 0, 1) := by decide +kernel
theorem dX8_init_14 : decode cX8_init 14 = .ok (.putfield 15, 3) := by decide +kernel
theorem dX8_init_17 : decode cX8_init 17 = .ok (.return_, 1) := by decide +kernel
theorem dX8_write_0 : decode cX8_write 0 = .ok (.aload_n 0, 1) := by decide +kernel
theorem dX8_write_1 : decode cX8_write 1 = .ok (.iconst 0, 1) := by decide +kernel
theorem dX8_write_2 : decode cX8_write 2 = .ok (.putfield 15, 3) := by decide +kernel
theorem dX8_write_5 : decode cX8_write 5 = .ok (.aload_n 0, 1) := by decide +kernel
theorem dX8_write_6 : decode cX8_write 6 = .ok (.bipush 110, 2) := by decide +kernel
theorem dX8_write_8 : decode cX8_write 8 = .ok (.invokevirtual 19, 3) := by decide +kernel
theorem dX8_write_11 : decode cX8_write 11 = .ok (.aload_n 0, 1) := by decide +kernel
theorem dX8_write_12 : decode cX8_write 12 = .ok (.aload_n 1, 1) := by decide +kernel
theorem dX8_write_13 : decode cX8_write 13 = .ok (.getfield 23, 3) := by decide +kernel
theorem dX8_write_16 : decode cX8_write 16 = .ok (.invokevirtual 28, 3) := by decide +kernel
theorem dX8_write_19 : decode cX8_write 19 = .ok (.aload_n 0, 1) := by decide +kernel
theorem dX8_write_20 : decode cX8_write 20 = .ok (.bipush 59, 2) := by decide +kernel
theorem dX8_write_22 : decode cX8_write 22 = .ok (.invokevirtual 19, 3) := by decide +kernel
theorem dX8_write_25 : decode cX8_write 25 = .ok (.iconst 0, 1) := by decide +kernel
theorem dX8_write_26 : decode cX8_write 26 = .ok (.istore_n 2, 1) := by decide +kernel
theorem dX8_write_27 : decode cX8_write 27 = .ok (.iload_n 2, 1) := by decide +kernel
theorem dX8_write_28 : decode cX8_write 28 = .ok (.aload_n 1, 1) := by decide +kernel
theorem dX8_write_29 : decode cX8_write 29 = .ok (.getfield 31, 3) := by decide +kernel
theorem dX8_write_32 : decode cX8_write 32 = .ok (.if_icmp .ge 15, 3) := by decide +kernel
theorem dX8_write_35 : decode cX8_write 35 = .ok (.aload_n 0, 1) := by decide +kernel
theorem dX8_write_36 : decode cX8_write 36 = .ok (.aload_n 1, 1) := by decide +kernel
theorem dX8_write_37 : decode cX8_write 37 = .ok (.iload_n 2, 1) := by decide +kernel
theorem dX8_write_38 : decode cX8_write 38 = .ok (.invokevirtual 34, 3) := by decide +kernel
theorem dX8_write_41 : decode cX8_write 41 = .ok (.iinc 2 1, 3) := by decide +kernel
theorem dX8_write_44 : decode cX8_write 44 = .ok (.goto (-17), 3) := by decide +kernel
theorem dX8_write_47 : decode cX8_write 47 = .ok (.return_, 1) := by decide +kernel
theorem dX8_writeLine_0 : decode cX8_writeLine 0 = .ok (.aload_n 0, 1) := by decide +kernel
theorem dX8_writeLine_1 : decode cX8_writeLine 1 = .ok (.bipush 108, 2) := by decide +kernel
theorem dX8_writeLine_3 : decode cX8_writeLine 3 = .ok (.invokevirtual 19, 3) := by decide +kernel
theorem dX8_writeLine_6 : decode cX8_writeLine 6 = .ok (.aload_n 0, 1) := by decide +kernel
theorem dX8_writeLine_7 : decode cX8_writeLine 7 = .ok (.aload_n 1, 1) := by decide +kernel
theorem dX8_writeLine_8 : decode cX8_writeLine 8 = .ok (.getfield 38, 3) := by decide +kernel
theorem dX8_writeLine_11 : decode cX8_writeLine 11 = .ok (.iload_n 2, 1) := by decide +kernel
theorem dX8_writeLine_12 : decode cX8_writeLine 12 = .ok (.iaload, 1) := by decide +kernel
theorem dX8_writeLine_13 : decode cX8_writeLine 13 = .ok (.invokevirtual 28, 3) := by decide +kernel
theorem dX8_writeLine_16 : decode cX8_writeLine 16 = .ok (.aload_n 0, 1) := by decide +kernel
theorem dX8_writeLine_17 : decode cX8_writeLine 17 = .ok (.aload_n 1, 1) := by decide +kernel
theorem dX8_writeLine_18 : decode cX8_writeLine 18 = .ok (.getfield 41, 3) := by decide +kernel
theorem dX8_writeLine_21 : decode cX8_writeLine 21 = .ok (.iload_n 2, 1) := by decide +kernel
theorem dX8_writeLine_22 : decode cX8_writeLine 22 = .ok (.iaload, 1) := by decide +kernel
theorem dX8_writeLine_23 : decode cX8_writeLine 23 = .ok (.invokevirtual 28, 3) := by decide +kernel
theorem dX8_writeLine_26 : decode cX8_writeLine 26 = .ok (.aload_n 0, 1) := by decide +kernel
theorem dX8_writeLine_27 : decode cX8_writeLine 27 = .ok (.aload_n 1, 1) := by decide +kernel
theorem dX8_writeLine_28 : decode cX8_writeLine 28 = .ok (.getfield 44, 3) := by decide +kernel
theorem dX8_writeLine_31 : decode cX8_writeLine 31 = .ok (.iload_n 2, 1) := by decide +kernel
theorem dX8_writeLine_32 : decode cX8_writeLine 32 = .ok (.iaload, 1) := by decide +kernel
theorem dX8_writeLine_33 : decode cX8_writeLine 33 = .ok (.invokevirtual 28, 3) := by decide +kernel
theorem dX8_writeLine_36 : decode cX8_writeLine 36 = .ok (.aload_n 0, 1) := by decide +kernel
theorem dX8_writeLine_37 : decode cX8_writeLine 37 = .ok (.bipush 59, 2) := by decide +kernel
theorem dX8_writeLine_39 : decode cX8_writeLine 39 = .ok (.invokevirtual 19, 3) := by decide +kernel
theorem dX8_writeLine_42 : decode cX8_writeLine 42 = .ok (.aload_n 1, 1) := by decide +kernel
theorem dX8_writeLine_43 : decode cX8_writeLine 43 = .ok (.getfield 47, 3) := by decide +kernel
theorem dX8_writeLine_46 : decode cX8_writeLine 46 = .ok (.iload_n 2, 1) := by decide +kernel
theorem dX8_writeLine_47 : decode cX8_writeLine 47 = .ok (.iaload, 1) := by decide +kernel
theorem dX8_writeLine_48 : decode cX8_writeLine 48 = .ok (.ifCond .eq 30, 3) := by decide +kernel
theorem dX8_writeLine_51 : decode cX8_writeLine 51 = .ok (.aload_n 0, 1) := by decide +kernel
theorem dX8_writeLine_52 : decode cX8_writeLine 52 = .ok (.bipush 102, 2) := by decide +kernel
theorem dX8_writeLine_54 : decode cX8_writeLine 54 = .ok (.invokevirtual 19, 3) := by decide +kernel
theorem dX8_writeLine_57 : decode cX8_writeLine 57 = .ok (.aload_n 0, 1) := by decide +kernel
theorem dX8_writeLine_58 : decode cX8_writeLine 58 = .ok (.iload_n 2, 1) := by decide +kernel
theorem dX8_writeLine_59 : decode cX8_writeLine 59 = .ok (.invokevirtual 28, 3) := by decide +kernel
theorem dX8_writeLine_62 : decode cX8_writeLine 62 = .ok (.aload_n 0, 1) := by decide +kernel
theorem dX8_writeLine_63 : decode cX8_writeLine 63 = .ok (.aload_n 1, 1) := by decide +kernel
theorem dX8_writeLine_64 : decode cX8_writeLine 64 = .ok (.getfield 47, 3) := by decide +kernel
theorem dX8_writeLine_67 : decode cX8_writeLine 67 = .ok (.iload_n 2, 1) := by decide +kernel
theorem dX8_writeLine_68 : decode cX8_writeLine 68 = .ok (.iaload, 1) := by decide +kernel
theorem dX8_writeLine_69 : decode cX8_writeLine 69 = .ok (.invokevirtual 28, 3) := by decide +kernel
theorem dX8_writeLine_72 : decode cX8_writeLine 72 = .ok (.aload_n 0, 1) := by decide +kernel
theorem dX8_writeLine_73 : decode cX8_writeLine 73 = .ok (.bipush 59, 2) := by decide +kernel
theorem dX8_writeLine_75 : decode cX8_writeLine 75 = .ok (.invokevirtual 19, 3) := by decide +kernel
theorem dX8_writeLine_78 : decode cX8_writeLine 78 = .ok (.aload_n 1, 1) := by decide +kernel
theorem dX8_writeLine_79 : decode cX8_writeLine 79 = .ok (.getfield 50, 3) := by decide +kernel
theorem dX8_writeLine_82 : decode cX8_writeLine 82 = .ok (.iload_n 2, 1) := by decide +kernel
theorem dX8_writeLine_83 : decode cX8_writeLine 83 = .ok (.iaload, 1) := by decide +kernel
theorem dX8_writeLine_84 : decode cX8_writeLine 84 = .ok (.ifCond .eq 46, 3) := by decide +kernel
theorem dX8_writeLine_87 : decode cX8_writeLine 87 = .ok (.aload_n 0, 1) := by decide +kernel
theorem dX8_writeLine_88 : decode cX8_writeLine 88 = .ok (.bipush 118, 2) := by decide +kernel
theorem dX8_writeLine_90 : decode cX8_writeLine 90 = .ok (.invokevirtual 19, 3) := by decide +kernel
theorem dX8_writeLine_93 : decode cX8_writeLine 93 = .ok (.aload_n 0, 1) := by decide +kernel
theorem dX8_writeLine_94 : decode cX8_writeLine 94 = .ok (.iload_n 2, 1) := by decide +kernel
theorem dX8_writeLine_95 : decode cX8_writeLine 95 = .ok (.invokevirtual 28, 3) := by decide +kernel
theorem dX8_writeLine_98 : decode cX8_writeLine 98 = .ok (.aload_n 0, 1) := by decide +kernel
theorem dX8_writeLine_99 : decode cX8_writeLine 99 = .ok (.aload_n 1, 1) := by decide +kernel
theorem dX8_writeLine_100 : decode cX8_writeLine 100 = .ok (.getfield 50, 3) := by decide +kernel
theorem dX8_writeLine_103 : decode cX8_writeLine 103 = .ok (.iload_n 2, 1) := by decide +kernel
theorem dX8_writeLine_104 : decode cX8_writeLine 104 = .ok (.iaload, 1) := by decide +kernel
theorem dX8_writeLine_105 : decode cX8_writeLine 105 = .ok (.bipush 10, 2) := by decide +kernel
theorem dX8_writeLine_107 : decode cX8_writeLine 107 = .ok (.idiv, 1) := by decide +kernel
theorem dX8_writeLine_108 : decode cX8_writeLine 108 = .ok (.invokevirtual 28, 3) := by decide +kernel
theorem dX8_writeLine_111 : decode cX8_writeLine 111 = .ok (.aload_n 0, 1) := by decide +kernel
theorem dX8_writeLine_112 : decode cX8_writeLine 112 = .ok (.aload_n 1, 1) := by decide +kernel
theorem dX8_writeLine_113 : decode cX8_writeLine 113 = .ok (.getfield 50, 3) := by decide +kernel
theorem dX8_writeLine_116 : decode cX8_writeLine 116 = .ok (.iload_n 2, 1) := by decide +kernel
theorem dX8_writeLine_117 : decode cX8_writeLine 117 = .ok (.iaload, 1) := by decide +kernel
theorem dX8_writeLine_118 : decode cX8_writeLine 118 = .ok (.bipush 10, 2) := by decide +kernel
theorem dX8_writeLine_120 : decode cX8_writeLine 120 = .ok (.irem, 1) := by decide +kernel
theorem dX8_writeLine_121 : decode cX8_writeLine 121 = .ok (.invokevirtual 28, 3) := by decide +kernel
theorem dX8_writeLine_124 : decode cX8_writeLine 124 = .ok (.aload_n 0, 1) := by decide +kernel
theorem dX8_writeLine_125 : decode cX8_writeLine 125 = .ok (.bipush 59, 2) := by decide +kernel
theorem dX8_writeLine_127 : decode cX8_writeLine 127 = .ok (.invokevirtual 19, 3) := by decide +kernel
theorem dX8_writeLine_130 : decode cX8_writeLine 130 = .ok (.return_, 1) := by decide +kernel
theorem dX8_addDigit_0 : decode cX8_addDigit 0 = .ok (.aload_n 0, 1) := by decide +kernel
theorem dX8_addDigit_1 : decode cX8_addDigit 1 = .ok (.bipush 48, 2) := by decide +kernel
theorem dX8_addDigit_3 : decode cX8_addDigit 3 = .ok (.iload_n 1, 1) := by decide +kernel
theorem dX8_addDigit_4 : decode cX8_addDigit 4 = .ok (.iadd, 1) := by decide +kernel
theorem dX8_addDigit_5 : decode cX8_addDigit 5 = .ok (.invokevirtual 19, 3) := by decide +kernel
theorem dX8_addDigit_8 : decode cX8_addDigit 8 = .ok (.return_, 1) := by decide +kernel
theorem dX8_add_0 : decode cX8_add 0 = .ok (.aload_n 0, 1) := by decide +kernel
theorem dX8_add_1 : decode cX8_add 1 = .ok (.getfield 15, 3) := by decide +kernel
theorem dX8_add_4 : decode cX8_add 4 = .ok (.bipush 115, 2) := by decide +kernel
theorem dX8_add_6 : decode cX8_add 6 = .ok (.if_icmp .ge 23, 3) := by decide +kernel
theorem dX8_add_9 : decode cX8_add 9 = .ok (.aload_n 0, 1) := by decide +kernel
theorem dX8_add_10 : decode cX8_add 10 = .ok (.getfield 11, 3) := by decide +kernel
theorem dX8_add_13 : decode cX8_add 13 = .ok (.aload_n 0, 1) := by decide +kernel
theorem dX8_add_14 : decode cX8_add 14 = .ok (.getfield 15, 3) := by decide +kernel
theorem dX8_add_17 : decode cX8_add 17 = .ok (.iload_n 1, 1) := by decide +kernel
theorem dX8_add_18 : decode cX8_add 18 = .ok (.iastore, 1) := by decide +kernel
theorem dX8_add_19 : decode cX8_add 19 = .ok (.aload_n 0, 1) := by decide +kernel
theorem dX8_add_20 : decode cX8_add 20 = .ok (.dup, 1) := by decide +kernel
theorem dX8_add_21 : decode cX8_add 21 = .ok (.getfield 15, 3) := by decide +kernel
theorem dX8_add_24 : decode cX8_add 24 = .ok (.iconst 1, 1) := by decide +kernel
theorem dX8_add_25 : decode cX8_add 25 = .ok (.iadd, 1) := by decide +kernel
theorem dX8_add_26 : decode cX8_add 26 = .ok (.putfield 15, 3) := by decide +kernel
theorem dX8_add_29 : decode cX8_add 29 = .ok (.return_, 1) := by decide +kernel
theorem dX9_init_0 : decode cX9_init 0 = .ok (.aload_n 0, 1) := by decide +kernel
theorem dX9_init_1 : decode cX9_init 1 = .ok (.invokespecial 1, 3) := by decide +kernel
theorem dX9_init_4 : decode cX9_init 4 = .ok (.aload_n 0, 1) := by decide +kernel
theorem dX9_init_5 : decode cX9_init 5 = .ok (.new 7, 3) := by decide +kernel
theorem dX9_init_8 : decode cX9_init 8 = .ok (.dup, 1) := by decide +kernel
theorem dX9_init_9 : decode cX9_init 9 = .ok (.invokespecial 9, 3) := by decide +kernel
theorem dX9_init_12 : decode cX9_init 12 = .ok (.putfield 10, 3) := by decide +kernel
theorem dX9_init_15 : decode cX9_init 15 = .ok (.aload_n 0, 1) := by decide +kernel
theorem dX9_init_16 : decode cX9_init 16 = .ok (.new 7, 3) := by decide +kernel
theorem dX9_init_19 : decode cX9_init 19 = .ok (.dup, 1) := by decide +kernel
theorem dX9_init_20 : decode cX9_init 20 = .ok (.invokespecial 9, 3) := by decide +kernel
theorem dX9_init_23 : decode cX9_init 23 = .ok (.putfield 16, 3) := by decide +kernel
theorem dX9_init_26 : decode cX9_init 26 = .ok (.aload_n 0, 1) := by decide +kernel
theorem dX9_init_27 : decode cX9_init 27 = .ok (.iconst 0, 1) := by decide +kernel
theorem dX9_init_28 : decode cX9_init 28 = .ok (.putfield 19, 3) := by decide +kernel
theorem dX9_init_31 : decode cX9_init 31 = .ok (.aload_n 0, 1) := by decide +kernel
theorem dX9_init_32 : decode cX9_init 32 = .ok (.new 23, 3) := by decide +kernel
theorem dX9_init_35 : decode cX9_init 35 = .ok (.dup, 1) := by decide +kernel
theorem dX9_init_36 : decode cX9_init 36 = .ok (.invokespecial 25, 3) := by decide +kernel
theorem dX9_init_39 : decode cX9_init 39 = .ok (.putfield 26, 3) := by decide +kernel
theorem dX9_init_42 : decode cX9_init 42 = .ok (.aload_n 0, 1) := by decide +kernel
theorem dX9_init_43 : decode cX9_init 43 = .ok (.new 30, 3) := by decide +kernel
theorem dX9_init_46 : decode cX9_init 46 = .ok (.dup, 1) := by decide +kernel
theorem dX9_init_47 : decode cX9_init 47 = .ok (.aload_n 0, 1) := by decide +kernel
theorem dX9_init_48 : decode cX9_init 48 = .ok (.getfield 10, 3) := by decide +kernel
theorem dX9_init_51 : decode cX9_init 51 = .ok (.invokespecial 32, 3) := by decide +kernel
theorem dX9_init_54 : decode cX9_init 54 = .ok (.putfield 35, 3) := by decide +kernel
theorem dX9_init_57 : decode cX9_init 57 = .ok (.aload_n 0, 1) := by decide +kernel
theorem dX9_init_58 : decode cX9_init 58 = .ok (.new 39, 3) := by decide +kernel
theorem dX9_init_61 : decode cX9_init 61 = .ok (.dup, 1) := by decide +kernel
theorem dX9_init_62 : decode cX9_init 62 = .ok (.aload_n 0, 1) := by decide +kernel
theorem dX9_init_63 : decode cX9_init 63 = .ok (.getfield 10, 3) := by decide +kernel
theorem dX9_init_66 : decode cX9_init 66 = .ok (.invokespecial 41, 3) := by decide +kernel
theorem dX9_init_69 : decode cX9_init 69 = .ok (.putfield 42, 3) := by decide +kernel
theorem dX9_init_72 : decode cX9_init 72 = .ok (.aload_n 0, 1) := by decide +kernel
theorem dX9_init_73 : decode cX9_init 73 = .ok (.new 46, 3) := by decide +kernel
theorem dX9_init_76 : decode cX9_init 76 = .ok (.dup, 1) := by decide +kernel
theorem dX9_init_77 : decode cX9_init 77 = .ok (.invokespecial 48, 3) := by decide +kernel
theorem dX9_init_80 : decode cX9_init 80 = .ok (.putfield 49, 3) := by decide +kernel
theorem dX9_init_83 : decode cX9_init 83 = .ok (.aload_n 0, 1) := by decide +kernel
theorem dX9_init_84 : decode cX9_init 84 = .ok (.new 53, 3) := by decide +kernel
theorem dX9_init_87 : decode cX9_init 87 = .ok (.dup, 1) := by decide +kernel
theorem dX9_init_88 : decode cX9_init 88 = .ok (.invokespecial 55, 3) := by decide +kernel
theorem dX9_init_91 : decode cX9_init 91 = .ok (.putfield 56, 3) := by decide +kernel
theorem dX9_init_94 : decode cX9_init 94 = .ok (.aload_n 0, 1) := by decide +kernel
theorem dX9_init_95 : decode cX9_init 95 = .ok (.new 60, 3) := by decide +kernel
theorem dX9_init_98 : decode cX9_init 98 = .ok (.dup, 1) := by decide +kernel
theorem dX9_init_99 : decode cX9_init 99 = .ok (.invokespecial 62, 3) := by decide +kernel
theorem dX9_init_102 : decode cX9_init 102 = .ok (.putfield 63, 3) := by decide +kernel
theorem dX9_init_105 : decode cX9_init 105 = .ok (.aload_n 0, 1) := by decide +kernel
theorem dX9_init_106 : decode cX9_init 106 = .ok (.bipush 7, 2) := by decide +kernel
theorem dX9_init_108 : decode cX9_init 108 = .ok (.newarray .int, 2) := by decide +kernel
theorem dX9_init_110 : decode cX9_init 110 = .ok (.putfield 67, 3) := by decide +kernel
theorem dX9_init_113 : decode cX9_init 113 = .ok (.aload_n 0, 1) := by decide +kernel
theorem dX9_init_114 : decode cX9_init 114 = .ok (.bipush 7, 2) := by decide +kernel
theorem dX9_init_116 : decode cX9_init 116 = .ok (.newarray .int, 2) := by decide +kernel
theorem dX9_init_118 : decode cX9_init 118 = .ok (.putfield 71, 3) := by decide +kernel
theorem dX9_init_121 : decode cX9_init 121 = .ok (.aload_n 0, 1) := by decide +kernel
theorem dX9_init_122 : decode cX9_init 122 = .ok (.bipush 7, 2) := by decide +kernel
theorem dX9_init_124 : decode cX9_init 124 = .ok (.newarray .int, 2) := by decide +kernel
theorem dX9_init_126 : decode cX9_init 126 = .ok (.putfield 74, 3) := by decide +kernel
theorem dX9_init_129 : decode cX9_init 129 = .ok (.return_, 1) := by decide +kernel
theorem dX9_letter_0 : decode cX9_letter 0 = .ok (.iload_n 1, 1) := by decide +kernel
theorem dX9_letter_1 : decode cX9_letter 1 = .ok (.ifCond .ge 10, 3) := by decide +kernel
theorem dX9_letter_4 : decode cX9_letter 4 = .ok (.aload_n 0, 1) := by decide +kernel
theorem dX9_letter_5 : decode cX9_letter 5 = .ok (.bipush (-4), 2) := by decide +kernel
theorem dX9_letter_7 : decode cX9_letter 7 = .ok (.invokevirtual 77, 3) := by decide +kernel
theorem dX9_letter_10 : decode cX9_letter 10 = .ok (.ireturn, 1) := by decide +kernel
theorem dX9_letter_11 : decode cX9_letter 11 = .ok (.iload_n 1, 1) := by decide +kernel
theorem dX9_letter_12 : decode cX9_letter 12 = .ok (.sipush 255, 3) := by decide +kernel
theorem dX9_letter_15 : decode cX9_letter 15 = .ok (.if_icmp .gt 15, 3) := by decide +kernel
theorem dX9_letter_18 : decode cX9_letter 18 = .ok (.aload_n 0, 1) := by decide +kernel
theorem dX9_letter_19 : decode cX9_letter 19 = .ok (.getfield 49, 3) := by decide +kernel
theorem dX9_letter_22 : decode cX9_letter 22 = .ok (.getfield 81, 3) := by decide +kernel
theorem dX9_letter_25 : decode cX9_letter 25 = .ok (.bipush 72, 2) := by decide +kernel
theorem dX9_letter_27 : decode cX9_letter 27 = .ok (.if_icmp .lt 10, 3) := by decide +kernel
theorem dX9_letter_30 : decode cX9_letter 30 = .ok (.aload_n 0, 1) := by decide +kernel
theorem dX9_letter_31 : decode cX9_letter 31 = .ok (.bipush (-6), 2) := by decide +kernel
theorem dX9_letter_33 : decode cX9_letter 33 = .ok (.invokevirtual 77, 3) := by decide +kernel
theorem dX9_letter_36 : decode cX9_letter 36 = .ok (.ireturn, 1) := by decide +kernel
theorem dX9_letter_37 : decode cX9_letter 37 = .ok (.aload_n 0, 1) := by decide +kernel
theorem dX9_letter_38 : decode cX9_letter 38 = .ok (.getfield 49, 3) := by decide +kernel
theorem dX9_letter_41 : decode cX9_letter 41 = .ok (.iload_n 1, 1) := by decide +kernel
theorem dX9_letter_42 : decode cX9_letter 42 = .ok (.invokevirtual 85, 3) := by decide +kernel
theorem dX9_letter_45 : decode cX9_letter 45 = .ok (.aload_n 0, 1) := by decide +kernel
theorem dX9_letter_46 : decode cX9_letter 46 = .ok (.getfield 49, 3) := by decide +kernel
theorem dX9_letter_49 : decode cX9_letter 49 = .ok (.getfield 81, 3) := by decide +kernel
theorem dX9_letter_52 : decode cX9_letter 52 = .ok (.ireturn, 1) := by decide +kernel
theorem dX9_text_0 : decode cX9_text 0 = .ok (.aload_n 0, 1) := by decide +kernel
theorem dX9_text_1 : decode cX9_text 1 = .ok (.getfield 49, 3) := by decide +kernel
theorem dX9_text_4 : decode cX9_text 4 = .ok (.aload_n 0, 1) := by decide +kernel
theorem dX9_text_5 : decode cX9_text 5 = .ok (.getfield 10, 3) := by decide +kernel
theorem dX9_text_8 : decode cX9_text 8 = .ok (.invokevirtual 89, 3) := by decide +kernel
theorem dX9_text_11 : decode cX9_text 11 = .ok (.istore_n 1, 1) := by decide +kernel
theorem dX9_text_12 : decode cX9_text 12 = .ok (.aload_n 0, 1) := by decide +kernel
theorem dX9_text_13 : decode cX9_text 13 = .ok (.getfield 49, 3) := by decide +kernel
theorem dX9_text_16 : decode cX9_text 16 = .ok (.iconst 0, 1) := by decide +kernel
theorem dX9_text_17 : decode cX9_text 17 = .ok (.putfield 81, 3) := by decide +kernel
theorem dX9_text_20 : decode cX9_text 20 = .ok (.iload_n 1, 1) := by decide +kernel
theorem dX9_text_21 : decode cX9_text 21 = .ok (.ifCond .lt 10, 3) := by decide +kernel
theorem dX9_text_24 : decode cX9_text 24 = .ok (.aload_n 0, 1) := by decide +kernel
theorem dX9_text_25 : decode cX9_text 25 = .ok (.getfield 26, 3) := by decide +kernel
theorem dX9_text_28 : decode cX9_text 28 = .ok (.invokevirtual 93, 3) := by decide +kernel
theorem dX9_text_31 : decode cX9_text 31 = .ok (.iload_n 1, 1) := by decide +kernel
theorem dX9_text_32 : decode cX9_text 32 = .ok (.ireturn, 1) := by decide +kernel
theorem dX9_points_0 : decode cX9_points 0 = .ok (.iload_n 1, 1) := by decide +kernel
theorem dX9_points_1 : decode cX9_points 1 = .ok (.iconst 1, 1) := by decide +kernel
theorem dX9_points_2 : decode cX9_points 2 = .ok (.if_icmp .ge 10, 3) := by decide +kernel
theorem dX9_points_5 : decode cX9_points 5 = .ok (.aload_n 0, 1) := by decide +kernel
theorem dX9_points_6 : decode cX9_points 6 = .ok (.bipush (-4), 2) := by decide +kernel
theorem dX9_points_8 : decode cX9_points 8 = .ok (.invokevirtual 77, 3) := by decide +kernel
theorem dX9_points_11 : decode cX9_points 11 = .ok (.ireturn, 1) := by decide +kernel
theorem dX9_points_12 : decode cX9_points 12 = .ok (.iload_n 1, 1) := by decide +kernel
theorem dX9_points_13 : decode cX9_points 13 = .ok (.bipush 7, 2) := by decide +kernel
theorem dX9_points_15 : decode cX9_points 15 = .ok (.if_icmp .le 10, 3) := by decide +kernel
theorem dX9_points_18 : decode cX9_points 18 = .ok (.aload_n 0, 1) := by decide +kernel
theorem dX9_points_19 : decode cX9_points 19 = .ok (.bipush (-6), 2) := by decide +kernel
theorem dX9_points_21 : decode cX9_points 21 = .ok (.invokevirtual 77, 3) := by decide +kernel
theorem dX9_points_24 : decode cX9_points 24 = .ok (.ireturn, 1) := by decide +kernel
theorem dX9_points_25 : decode cX9_points 25 = .ok (.aload_n 0, 1) := by decide +kernel
theorem dX9_points_26 : decode cX9_points 26 = .ok (.getfield 10, 3) := by decide +kernel
theorem dX9_points_29 : decode cX9_points 29 = .ok (.getfield 96, 3) := by decide +kernel
theorem dX9_points_32 : decode cX9_points 32 = .ok (.istore_n 2, 1) := by decide +kernel
theorem dX9_points_33 : decode cX9_points 33 = .ok (.aload_n 0, 1) := by decide +kernel
theorem dX9_points_34 : decode cX9_points 34 = .ok (.getfield 10, 3) := by decide +kernel
theorem dX9_points_37 : decode cX9_points 37 = .ok (.iload_n 1, 1) := by decide +kernel
theorem dX9_points_38 : decode cX9_points 38 = .ok (.invokevirtual 99, 3) := by decide +kernel
theorem dX9_points_41 : decode cX9_points 41 = .ok (.aload_n 0, 1) := by decide +kernel
theorem dX9_points_42 : decode cX9_points 42 = .ok (.getfield 26, 3) := by decide +kernel
theorem dX9_points_45 : decode cX9_points 45 = .ok (.invokevirtual 93, 3) := by decide +kernel
theorem dX9_points_48 : decode cX9_points 48 = .ok (.iload_n 2, 1) := by decide +kernel
theorem dX9_points_49 : decode cX9_points 49 = .ok (.ireturn, 1) := by decide +kernel
theorem dX9_line_0 : decode cX9_line 0 = .ok (.iload_n 1, 1) := by decide +kernel
theorem dX9_line_1 : decode cX9_line 1 = .ok (.invokestatic 102, 3) := by decide +kernel
theorem dX9_line_4 : decode cX9_line 4 = .ok (.ifCond .ne 10, 3) := by decide +kernel
theorem dX9_line_7 : decode cX9_line 7 = .ok (.aload_n 0, 1) := by decide +kernel
theorem dX9_line_8 : decode cX9_line 8 = .ok (.bipush (-2), 2) := by decide +kernel
theorem dX9_line_10 : decode cX9_line 10 = .ok (.invokevirtual 77, 3) := by decide +kernel
theorem dX9_line_13 : decode cX9_line 13 = .ok (.ireturn, 1) := by decide +kernel
theorem dX9_line_14 : decode cX9_line 14 = .ok (.aload_n 0, 1) := by decide +kernel
theorem dX9_line_15 : decode cX9_line 15 = .ok (.getfield 10, 3) := by decide +kernel
theorem dX9_line_18 : decode cX9_line 18 = .ok (.iload_n 2, 1) := by decide +kernel
theorem dX9_line_19 : decode cX9_line 19 = .ok (.invokevirtual 106, 3) := by decide +kernel
theorem dX9_line_22 : decode cX9_line 22 = .ok (.ifCond .eq 14, 3) := by decide +kernel
theorem dX9_line_25 : decode cX9_line 25 = .ok (.aload_n 0, 1) := by decide +kernel
theorem dX9_line_26 : decode cX9_line 26 = .ok (.getfield 10, 3) := by decide +kernel
theorem dX9_line_29 : decode cX9_line 29 = .ok (.iload_n 3, 1) := by decide +kernel
theorem dX9_line_30 : decode cX9_line 30 = .ok (.invokevirtual 106, 3) := by decide +kernel
theorem dX9_line_33 : decode cX9_line 33 = .ok (.ifCond .ne 9, 3) := by decide +kernel
theorem dX9_line_36 : decode cX9_line 36 = .ok (.aload_n 0, 1) := by decide +kernel
theorem dX9_line_37 : decode cX9_line 37 = .ok (.iconst (-1), 1) := by decide +kernel
theorem dX9_line_38 : decode cX9_line 38 = .ok (.invokevirtual 77, 3) := by decide +kernel
theorem dX9_line_41 : decode cX9_line 41 = .ok (.ireturn, 1) := by decide +kernel
theorem dX9_line_42 : decode cX9_line 42 = .ok (.aload_n 0, 1) := by decide +kernel
theorem dX9_line_43 : decode cX9_line 43 = .ok (.getfield 10, 3) := by decide +kernel
theorem dX9_line_46 : decode cX9_line 46 = .ok (.getfield 109, 3) := by decide +kernel
theorem dX9_line_49 : decode cX9_line 49 = .ok (.bipush 8, 2) := by decide +kernel
theorem dX9_line_51 : decode cX9_line 51 = .ok (.if_icmp .lt 10, 3) := by decide +kernel
theorem dX9_line_54 : decode cX9_line 54 = .ok (.aload_n 0, 1) := by decide +kernel
theorem dX9_line_55 : decode cX9_line 55 = .ok (.bipush (-6), 2) := by decide +kernel
theorem dX9_line_57 : decode cX9_line 57 = .ok (.invokevirtual 77, 3) := by decide +kernel
theorem dX9_line_60 : decode cX9_line 60 = .ok (.ireturn, 1) := by decide +kernel
theorem dX9_line_61 : decode cX9_line 61 = .ok (.aload_n 0, 1) := by decide +kernel
theorem dX9_line_62 : decode cX9_line 62 = .ok (.getfield 10, 3) := by decide +kernel
theorem dX9_line_65 : decode cX9_line 65 = .ok (.iload_n 1, 1) := by decide +kernel
theorem dX9_line_66 : decode cX9_line 66 = .ok (.iload_n 2, 1) := by decide +kernel
theorem dX9_line_67 : decode cX9_line 67 = .ok (.iload_n 3, 1) := by decide +kernel
theorem dX9_line_68 : decode cX9_line 68 = .ok (.invokevirtual 112, 3) := by decide +kernel
theorem dX9_line_71 : decode cX9_line 71 = .ok (.aload_n 0, 1) := by decide +kernel
theorem dX9_line_72 : decode cX9_line 72 = .ok (.getfield 26, 3) := by decide +kernel
theorem dX9_line_75 : decode cX9_line 75 = .ok (.invokevirtual 93, 3) := by decide +kernel
theorem dX9_line_78 : decode cX9_line 78 = .ok (.aload_n 0, 1) := by decide +kernel
theorem dX9_line_79 : decode cX9_line 79 = .ok (.getfield 10, 3) := by decide +kernel
theorem dX9_line_82 : decode cX9_line 82 = .ok (.getfield 109, 3) := by decide +kernel
theorem dX9_line_85 : decode cX9_line 85 = .ok (.iconst 1, 1) := by decide +kernel
theorem dX9_line_86 : decode cX9_line 86 = .ok (.isub, 1) := by decide +kernel
theorem dX9_line_87 : decode cX9_line 87 = .ok (.ireturn, 1) := by decide +kernel
theorem dX9_drop_0 : decode cX9_drop 0 = .ok (.aload_n 0, 1) := by decide +kernel
theorem dX9_drop_1 : decode cX9_drop 1 = .ok (.getfield 10, 3) := by decide +kernel
theorem dX9_drop_4 : decode cX9_drop 4 = .ok (.getfield 109, 3) := by decide +kernel
theorem dX9_drop_7 : decode cX9_drop 7 = .ok (.iconst 1, 1) := by decide +kernel
theorem dX9_drop_8 : decode cX9_drop 8 = .ok (.if_icmp .ge 10, 3) := by decide +kernel
theorem dX9_drop_11 : decode cX9_drop 11 = .ok (.aload_n 0, 1) := by decide +kernel
theorem dX9_drop_12 : decode cX9_drop 12 = .ok (.bipush (-3), 2) := by decide +kernel
theorem dX9_drop_14 : decode cX9_drop 14 = .ok (.invokevirtual 77, 3) := by decide +kernel
theorem dX9_drop_17 : decode cX9_drop 17 = .ok (.ireturn, 1) := by decide +kernel
theorem dX9_drop_18 : decode cX9_drop 18 = .ok (.aload_n 0, 1) := by decide +kernel
theorem dX9_drop_19 : decode cX9_drop 19 = .ok (.getfield 10, 3) := by decide +kernel
theorem dX9_drop_22 : decode cX9_drop 22 = .ok (.dup, 1) := by decide +kernel
theorem dX9_drop_23 : decode cX9_drop 23 = .ok (.getfield 109, 3) := by decide +kernel
theorem dX9_drop_26 : decode cX9_drop 26 = .ok (.iconst 1, 1) := by decide +kernel
theorem dX9_drop_27 : decode cX9_drop 27 = .ok (.isub, 1) := by decide +kernel
theorem dX9_drop_28 : decode cX9_drop 28 = .ok (.putfield 109, 3) := by decide +kernel
theorem dX9_drop_31 : decode cX9_drop 31 = .ok (.aload_n 0, 1) := by decide +kernel
theorem dX9_drop_32 : decode cX9_drop 32 = .ok (.getfield 26, 3) := by decide +kernel
theorem dX9_drop_35 : decode cX9_drop 35 = .ok (.invokevirtual 93, 3) := by decide +kernel
theorem dX9_drop_38 : decode cX9_drop 38 = .ok (.aload_n 0, 1) := by decide +kernel
theorem dX9_drop_39 : decode cX9_drop 39 = .ok (.getfield 10, 3) := by decide +kernel
theorem dX9_drop_42 : decode cX9_drop 42 = .ok (.getfield 109, 3) := by decide +kernel
theorem dX9_drop_45 : decode cX9_drop 45 = .ok (.ireturn, 1) := by decide +kernel
theorem dX9_label_0 : decode cX9_label 0 = .ok (.aload_n 0, 1) := by decide +kernel
theorem dX9_label_1 : decode cX9_label 1 = .ok (.getfield 10, 3) := by decide +kernel
theorem dX9_label_4 : decode cX9_label 4 = .ok (.iload_n 1, 1) := by decide +kernel
theorem dX9_label_5 : decode cX9_label 5 = .ok (.invokevirtual 115, 3) := by decide +kernel
theorem dX9_label_8 : decode cX9_label 8 = .ok (.ifCond .ne 9, 3) := by decide +kernel
theorem dX9_label_11 : decode cX9_label 11 = .ok (.aload_n 0, 1) := by decide +kernel
theorem dX9_label_12 : decode cX9_label 12 = .ok (.iconst (-1), 1) := by decide +kernel
theorem dX9_label_13 : decode cX9_label 13 = .ok (.invokevirtual 77, 3) := by decide +kernel
theorem dX9_label_16 : decode cX9_label 16 = .ok (.ireturn, 1) := by decide +kernel
theorem dX9_label_17 : decode cX9_label 17 = .ok (.iload_n 2, 1) := by decide +kernel
theorem dX9_label_18 : decode cX9_label 18 = .ok (.ifCond .ge 10, 3) := by decide +kernel
theorem dX9_label_21 : decode cX9_label 21 = .ok (.aload_n 0, 1) := by decide +kernel
theorem dX9_label_22 : decode cX9_label 22 = .ok (.bipush (-4), 2) := by decide +kernel
theorem dX9_label_24 : decode cX9_label 24 = .ok (.invokevirtual 77, 3) := by decide +kernel
theorem dX9_label_27 : decode cX9_label 27 = .ok (.ireturn, 1) := by decide +kernel
theorem dX9_label_28 : decode cX9_label 28 = .ok (.iload_n 2, 1) := by decide +kernel
theorem dX9_label_29 : decode cX9_label 29 = .ok (.bipush 99, 2) := by decide +kernel
theorem dX9_label_31 : decode cX9_label 31 = .ok (.if_icmp .le 10, 3) := by decide +kernel
theorem dX9_label_34 : decode cX9_label 34 = .ok (.aload_n 0, 1) := by decide +kernel
theorem dX9_label_35 : decode cX9_label 35 = .ok (.bipush (-6), 2) := by decide +kernel
theorem dX9_label_37 : decode cX9_label 37 = .ok (.invokevirtual 77, 3) := by decide +kernel
theorem dX9_label_40 : decode cX9_label 40 = .ok (.ireturn, 1) := by decide +kernel
theorem dX9_label_41 : decode cX9_label 41 = .ok (.aload_n 0, 1) := by decide +kernel
theorem dX9_label_42 : decode cX9_label 42 = .ok (.getfield 26, 3) := by decide +kernel
theorem dX9_label_45 : decode cX9_label 45 = .ok (.aload_n 0, 1) := by decide +kernel
theorem dX9_label_46 : decode cX9_label 46 = .ok (.getfield 10, 3) := by decide +kernel
theorem dX9_label_49 : decode cX9_label 49 = .ok (.invokevirtual 118, 3) := by decide +kernel
theorem dX9_label_52 : decode cX9_label 52 = .ok (.aload_n 0, 1) := by decide +kernel
theorem dX9_label_53 : decode cX9_label 53 = .ok (.getfield 10, 3) := by decide +kernel
theorem dX9_label_56 : decode cX9_label 56 = .ok (.getfield 121, 3) := by decide +kernel
theorem dX9_label_59 : decode cX9_label 59 = .ok (.iload_n 1, 1) := by decide +kernel
theorem dX9_label_60 : decode cX9_label 60 = .ok (.iaload, 1) := by decide +kernel
theorem dX9_label_61 : decode cX9_label 61 = .ok (.istore_n 3, 1) := by decide +kernel
theorem dX9_label_62 : decode cX9_label 62 = .ok (.aload_n 0, 1) := by decide +kernel
theorem dX9_label_63 : decode cX9_label 63 = .ok (.getfield 10, 3) := by decide +kernel
theorem dX9_label_66 : decode cX9_label 66 = .ok (.getfield 121, 3) := by decide +kernel
theorem dX9_label_69 : decode cX9_label 69 = .ok (.iload_n 1, 1) := by decide +kernel
theorem dX9_label_70 : decode cX9_label 70 = .ok (.iload_n 2, 1) := by decide +kernel
theorem dX9_label_71 : decode cX9_label 71 = .ok (.iastore, 1) := by decide +kernel
theorem dX9_label_72 : decode cX9_label 72 = .ok (.iload_n 3, 1) := by decide +kernel
theorem dX9_label_73 : decode cX9_label 73 = .ok (.ireturn, 1) := by decide +kernel
theorem dX9_turn_0 : decode cX9_turn 0 = .ok (.aload_n 0, 1) := by decide +kernel
theorem dX9_turn_1 : decode cX9_turn 1 = .ok (.getfield 10, 3) := by decide +kernel
theorem dX9_turn_4 : decode cX9_turn 4 = .ok (.iload_n 1, 1) := by decide +kernel
theorem dX9_turn_5 : decode cX9_turn 5 = .ok (.invokevirtual 115, 3) := by decide +kernel
theorem dX9_turn_8 : decode cX9_turn 8 = .ok (.ifCond .ne 9, 3) := by decide +kernel
theorem dX9_turn_11 : decode cX9_turn 11 = .ok (.aload_n 0, 1) := by decide +kernel
theorem dX9_turn_12 : decode cX9_turn 12 = .ok (.iconst (-1), 1) := by decide +kernel
theorem dX9_turn_13 : decode cX9_turn 13 = .ok (.invokevirtual 77, 3) := by decide +kernel
theorem dX9_turn_16 : decode cX9_turn 16 = .ok (.ireturn, 1) := by decide +kernel
theorem dX9_turn_17 : decode cX9_turn 17 = .ok (.iload_n 2, 1) := by decide +kernel
theorem dX9_turn_18 : decode cX9_turn 18 = .ok (.invokestatic 102, 3) := by decide +kernel
theorem dX9_turn_21 : decode cX9_turn 21 = .ok (.ifCond .ne 10, 3) := by decide +kernel
theorem dX9_turn_24 : decode cX9_turn 24 = .ok (.aload_n 0, 1) := by decide +kernel
theorem dX9_turn_25 : decode cX9_turn 25 = .ok (.bipush (-2), 2) := by decide +kernel
theorem dX9_turn_27 : decode cX9_turn 27 = .ok (.invokevirtual 77, 3) := by decide +kernel
theorem dX9_turn_30 : decode cX9_turn 30 = .ok (.ireturn, 1) := by decide +kernel
theorem dX9_turn_31 : decode cX9_turn 31 = .ok (.iload_n 3, 1) := by decide +kernel
theorem dX9_turn_32 : decode cX9_turn 32 = .ok (.ifCond .ge 10, 3) := by decide +kernel
theorem dX9_turn_35 : decode cX9_turn 35 = .ok (.aload_n 0, 1) := by decide +kernel
theorem dX9_turn_36 : decode cX9_turn 36 = .ok (.bipush (-4), 2) := by decide +kernel
theorem dX9_turn_38 : decode cX9_turn 38 = .ok (.invokevirtual 77, 3) := by decide +kernel
theorem dX9_turn_41 : decode cX9_turn 41 = .ok (.ireturn, 1) := by decide +kernel
theorem dX9_turn_42 : decode cX9_turn 42 = .ok (.iload_n 3, 1) := by decide +kernel
theorem dX9_turn_43 : decode cX9_turn 43 = .ok (.bipush 9, 2) := by decide +kernel
theorem dX9_turn_45 : decode cX9_turn 45 = .ok (.if_icmp .le 10, 3) := by decide +kernel
theorem dX9_turn_48 : decode cX9_turn 48 = .ok (.aload_n 0, 1) := by decide +kernel
theorem dX9_turn_49 : decode cX9_turn 49 = .ok (.bipush (-6), 2) := by decide +kernel
theorem dX9_turn_51 : decode cX9_turn 51 = .ok (.invokevirtual 77, 3) := by decide +kernel
theorem dX9_turn_54 : decode cX9_turn 54 = .ok (.ireturn, 1) := by decide +kernel
theorem dX9_turn_55 : decode cX9_turn 55 = .ok (.aload_n 0, 1) := by decide +kernel
theorem dX9_turn_56 : decode cX9_turn 56 = .ok (.getfield 26, 3) := by decide +kernel
theorem dX9_turn_59 : decode cX9_turn 59 = .ok (.aload_n 0, 1) := by decide +kernel
theorem dX9_turn_60 : decode cX9_turn 60 = .ok (.getfield 10, 3) := by decide +kernel
theorem dX9_turn_63 : decode cX9_turn 63 = .ok (.invokevirtual 118, 3) := by decide +kernel
theorem dX9_turn_66 : decode cX9_turn 66 = .ok (.bipush 10, 2) := by decide +kernel
theorem dX9_turn_68 : decode cX9_turn 68 = .ok (.aload_n 0, 1) := by decide +kernel
theorem dX9_turn_69 : decode cX9_turn 69 = .ok (.getfield 10, 3) := by decide +kernel
theorem dX9_turn_72 : decode cX9_turn 72 = .ok (.getfield 124, 3) := by decide +kernel
theorem dX9_turn_75 : decode cX9_turn 75 = .ok (.iload_n 1, 1) := by decide +kernel
theorem dX9_turn_76 : decode cX9_turn 76 = .ok (.iaload, 1) := by decide +kernel
theorem dX9_turn_77 : decode cX9_turn 77 = .ok (.imul, 1) := by decide +kernel
theorem dX9_turn_78 : decode cX9_turn 78 = .ok (.aload_n 0, 1) := by decide +kernel
theorem dX9_turn_79 : decode cX9_turn 79 = .ok (.getfield 10, 3) := by decide +kernel
theorem dX9_turn_82 : decode cX9_turn 82 = .ok (.getfield 127, 3) := by decide +kernel
theorem dX9_turn_85 : decode cX9_turn 85 = .ok (.iload_n 1, 1) := by decide +kernel
theorem dX9_turn_86 : decode cX9_turn 86 = .ok (.iaload, 1) := by decide +kernel
theorem dX9_turn_87 : decode cX9_turn 87 = .ok (.iadd, 1) := by decide +kernel
theorem dX9_turn_88 : decode cX9_turn 88 = .ok (.istore 4, 2) := by decide +kernel
theorem dX9_turn_90 : decode cX9_turn 90 = .ok (.aload_n 0, 1) := by decide +kernel
theorem dX9_turn_91 : decode cX9_turn 91 = .ok (.getfield 10, 3) := by decide +kernel
theorem dX9_turn_94 : decode cX9_turn 94 = .ok (.getfield 124, 3) := by decide +kernel
theorem dX9_turn_97 : decode cX9_turn 97 = .ok (.iload_n 1, 1) := by decide +kernel
theorem dX9_turn_98 : decode cX9_turn 98 = .ok (.iload_n 2, 1) := by decide +kernel
theorem dX9_turn_99 : decode cX9_turn 99 = .ok (.iastore, 1) := by decide +kernel
theorem dX9_turn_100 : decode cX9_turn 100 = .ok (.aload_n 0, 1) := by decide +kernel
theorem dX9_turn_101 : decode cX9_turn 101 = .ok (.getfield 10, 3) := by decide +kernel
theorem dX9_turn_104 : decode cX9_turn 104 = .ok (.getfield 127, 3) := by decide +kernel
theorem dX9_turn_107 : decode cX9_turn 107 = .ok (.iload_n 1, 1) := by decide +kernel
theorem dX9_turn_108 : decode cX9_turn 108 = .ok (.iload_n 3, 1) := by decide +kernel
theorem dX9_turn_109 : decode cX9_turn 109 = .ok (.iastore, 1) := by decide +kernel
theorem dX9_turn_110 : decode cX9_turn 110 = .ok (.iload 4, 2) := by decide +kernel
theorem dX9_turn_112 : decode cX9_turn 112 = .ok (.ireturn, 1) := by decide +kernel
theorem dX9_of_0 : decode cX9_of 0 = .ok (.aload_n 0, 1) := by decide +kernel
theorem dX9_of_1 : decode cX9_of 1 = .ok (.getfield 10, 3) := by decide +kernel
theorem dX9_of_4 : decode cX9_of 4 = .ok (.iload_n 1, 1) := by decide +kernel
theorem dX9_of_5 : decode cX9_of 5 = .ok (.invokevirtual 115, 3) := by decide +kernel
theorem dX9_of_8 : decode cX9_of 8 = .ok (.ifCond .ne 9, 3) := by decide +kernel
theorem dX9_of_11 : decode cX9_of 11 = .ok (.aload_n 0, 1) := by decide +kernel
theorem dX9_of_12 : decode cX9_of 12 = .ok (.iconst (-1), 1) := by decide +kernel
theorem dX9_of_13 : decode cX9_of 13 = .ok (.invokevirtual 77, 3) := by decide +kernel
theorem dX9_of_16 : decode cX9_of 16 = .ok (.ireturn, 1) := by decide +kernel
theorem dX9_of_17 : decode cX9_of 17 = .ok (.iload_n 2, 1) := by decide +kernel
theorem dX9_of_18 : decode cX9_of 18 = .ok (.tableswitch 110 0 6 #[42, 52, 62, 72, 82, 92, 101], 42) := by decide +kernel
theorem dX9_of_60 : decode cX9_of 60 = .ok (.aload_n 0, 1) := by decide +kernel
theorem dX9_of_61 : decode cX9_of 61 = .ok (.getfield 10, 3) := by decide +kernel
theorem dX9_of_64 : decode cX9_of 64 = .ok (.getfield 124, 3) := by decide +kernel
theorem dX9_of_67 : decode cX9_of 67 = .ok (.iload_n 1, 1) := by decide +kernel
theorem dX9_of_68 : decode cX9_of 68 = .ok (.iaload, 1) := by decide +kernel
theorem dX9_of_69 : decode cX9_of 69 = .ok (.ireturn, 1) := by decide +kernel
theorem dX9_of_70 : decode cX9_of 70 = .ok (.aload_n 0, 1) := by decide +kernel
theorem dX9_of_71 : decode cX9_of 71 = .ok (.getfield 10, 3) := by decide +kernel
theorem dX9_of_74 : decode cX9_of 74 = .ok (.getfield 127, 3) := by decide +kernel
theorem dX9_of_77 : decode cX9_of 77 = .ok (.iload_n 1, 1) := by decide +kernel
theorem dX9_of_78 : decode cX9_of 78 = .ok (.iaload, 1) := by decide +kernel
theorem dX9_of_79 : decode cX9_of 79 = .ok (.ireturn, 1) := by decide +kernel
theorem dX9_of_80 : decode cX9_of 80 = .ok (.aload_n 0, 1) := by decide +kernel
theorem dX9_of_81 : decode cX9_of 81 = .ok (.getfield 10, 3) := by decide +kernel
theorem dX9_of_84 : decode cX9_of 84 = .ok (.getfield 130, 3) := by decide +kernel
theorem dX9_of_87 : decode cX9_of 87 = .ok (.iload_n 1, 1) := by decide +kernel
theorem dX9_of_88 : decode cX9_of 88 = .ok (.iaload, 1) := by decide +kernel
theorem dX9_of_89 : decode cX9_of 89 = .ok (.ireturn, 1) := by decide +kernel
theorem dX9_of_90 : decode cX9_of 90 = .ok (.aload_n 0, 1) := by decide +kernel
theorem dX9_of_91 : decode cX9_of 91 = .ok (.getfield 10, 3) := by decide +kernel
theorem dX9_of_94 : decode cX9_of 94 = .ok (.getfield 133, 3) := by decide +kernel
theorem dX9_of_97 : decode cX9_of 97 = .ok (.iload_n 1, 1) := by decide +kernel
theorem dX9_of_98 : decode cX9_of 98 = .ok (.iaload, 1) := by decide +kernel
theorem dX9_of_99 : decode cX9_of 99 = .ok (.ireturn, 1) := by decide +kernel
theorem dX9_of_100 : decode cX9_of 100 = .ok (.aload_n 0, 1) := by decide +kernel
theorem dX9_of_101 : decode cX9_of 101 = .ok (.getfield 10, 3) := by decide +kernel
theorem dX9_of_104 : decode cX9_of 104 = .ok (.getfield 121, 3) := by decide +kernel
theorem dX9_of_107 : decode cX9_of 107 = .ok (.iload_n 1, 1) := by decide +kernel
theorem dX9_of_108 : decode cX9_of 108 = .ok (.iaload, 1) := by decide +kernel
theorem dX9_of_109 : decode cX9_of 109 = .ok (.ireturn, 1) := by decide +kernel
theorem dX9_of_110 : decode cX9_of 110 = .ok (.aload_n 0, 1) := by decide +kernel
theorem dX9_of_111 : decode cX9_of 111 = .ok (.getfield 10, 3) := by decide +kernel
theorem dX9_of_114 : decode cX9_of 114 = .ok (.iload_n 1, 1) := by decide +kernel
theorem dX9_of_115 : decode cX9_of 115 = .ok (.invokevirtual 136, 3) := by decide +kernel
theorem dX9_of_118 : decode cX9_of 118 = .ok (.ireturn, 1) := by decide +kernel
theorem dX9_of_119 : decode cX9_of 119 = .ok (.aload_n 0, 1) := by decide +kernel
theorem dX9_of_120 : decode cX9_of 120 = .ok (.getfield 10, 3) := by decide +kernel
theorem dX9_of_123 : decode cX9_of 123 = .ok (.iload_n 1, 1) := by decide +kernel
theorem dX9_of_124 : decode cX9_of 124 = .ok (.invokevirtual 139, 3) := by decide +kernel
theorem dX9_of_127 : decode cX9_of 127 = .ok (.ireturn, 1) := by decide +kernel
theorem dX9_of_128 : decode cX9_of 128 = .ok (.aload_n 0, 1) := by decide +kernel
theorem dX9_of_129 : decode cX9_of 129 = .ok (.bipush (-2), 2) := by decide +kernel
theorem dX9_of_131 : decode cX9_of 131 = .ok (.invokevirtual 77, 3) := by decide +kernel
theorem dX9_of_134 : decode cX9_of 134 = .ok (.ireturn, 1) := by decide +kernel
theorem dX9_taken_0 : decode cX9_taken 0 = .ok (.aload_n 0, 1) := by decide +kernel
theorem dX9_taken_1 : decode cX9_taken 1 = .ok (.getfield 10, 3) := by decide +kernel
theorem dX9_taken_4 : decode cX9_taken 4 = .ok (.iload_n 1, 1) := by decide +kernel
theorem dX9_taken_5 : decode cX9_taken 5 = .ok (.invokevirtual 115, 3) := by decide +kernel
theorem dX9_taken_8 : decode cX9_taken 8 = .ok (.ifCond .ne 9, 3) := by decide +kernel
theorem dX9_taken_11 : decode cX9_taken 11 = .ok (.aload_n 0, 1) := by decide +kernel
theorem dX9_taken_12 : decode cX9_taken 12 = .ok (.iconst (-1), 1) := by decide +kernel
theorem dX9_taken_13 : decode cX9_taken 13 = .ok (.invokevirtual 77, 3) := by decide +kernel
theorem dX9_taken_16 : decode cX9_taken 16 = .ok (.ireturn, 1) := by decide +kernel
theorem dX9_taken_17 : decode cX9_taken 17 = .ok (.iload_n 2, 1) := by decide +kernel
theorem dX9_taken_18 : decode cX9_taken 18 = .ok (.invokestatic 102, 3) := by decide +kernel
theorem dX9_taken_21 : decode cX9_taken 21 = .ok (.ifCond .ne 10, 3) := by decide +kernel
theorem dX9_taken_24 : decode cX9_taken 24 = .ok (.aload_n 0, 1) := by decide +kernel
theorem dX9_taken_25 : decode cX9_taken 25 = .ok (.bipush (-2), 2) := by decide +kernel
theorem dX9_taken_27 : decode cX9_taken 27 = .ok (.invokevirtual 77, 3) := by decide +kernel
theorem dX9_taken_30 : decode cX9_taken 30 = .ok (.ireturn, 1) := by decide +kernel
theorem dX9_taken_31 : decode cX9_taken 31 = .ok (.aload_n 0, 1) := by decide +kernel
theorem dX9_taken_32 : decode cX9_taken 32 = .ok (.getfield 10, 3) := by decide +kernel
theorem dX9_taken_35 : decode cX9_taken 35 = .ok (.getfield 124, 3) := by decide +kernel
theorem dX9_taken_38 : decode cX9_taken 38 = .ok (.iload_n 1, 1) := by decide +kernel
theorem dX9_taken_39 : decode cX9_taken 39 = .ok (.iaload, 1) := by decide +kernel
theorem dX9_taken_40 : decode cX9_taken 40 = .ok (.istore_n 3, 1) := by decide +kernel
theorem dX9_taken_41 : decode cX9_taken 41 = .ok (.iload_n 3, 1) := by decide +kernel
theorem dX9_taken_42 : decode cX9_taken 42 = .ok (.iload_n 2, 1) := by decide +kernel
theorem dX9_taken_43 : decode cX9_taken 43 = .ok (.invokestatic 142, 3) := by decide +kernel
theorem dX9_taken_46 : decode cX9_taken 46 = .ok (.ifCond .eq 7, 3) := by decide +kernel
theorem dX9_taken_49 : decode cX9_taken 49 = .ok (.iload_n 3, 1) := by decide +kernel
theorem dX9_taken_50 : decode cX9_taken 50 = .ok (.goto 5, 3) := by decide +kernel
theorem dX9_taken_53 : decode cX9_taken 53 = .ok (.bipush (-16), 2) := by decide +kernel
theorem dX9_taken_55 : decode cX9_taken 55 = .ok (.ireturn, 1) := by decide +kernel
theorem dX9_table_0 : decode cX9_table 0 = .ok (.aload_n 0, 1) := by decide +kernel
theorem dX9_table_1 : decode cX9_table 1 = .ok (.getfield 10, 3) := by decide +kernel
theorem dX9_table_4 : decode cX9_table 4 = .ok (.iload_n 1, 1) := by decide +kernel
theorem dX9_table_5 : decode cX9_table 5 = .ok (.invokevirtual 106, 3) := by decide +kernel
theorem dX9_table_8 : decode cX9_table 8 = .ok (.ifCond .eq 14, 3) := by decide +kernel
theorem dX9_table_11 : decode cX9_table 11 = .ok (.aload_n 0, 1) := by decide +kernel
theorem dX9_table_12 : decode cX9_table 12 = .ok (.getfield 10, 3) := by decide +kernel
theorem dX9_table_15 : decode cX9_table 15 = .ok (.iload_n 2, 1) := by decide +kernel
theorem dX9_table_16 : decode cX9_table 16 = .ok (.invokevirtual 115, 3) := by decide +kernel
theorem dX9_table_19 : decode cX9_table 19 = .ok (.ifCond .ne 9, 3) := by decide +kernel
theorem dX9_table_22 : decode cX9_table 22 = .ok (.aload_n 0, 1) := by decide +kernel
theorem dX9_table_23 : decode cX9_table 23 = .ok (.iconst (-1), 1) := by decide +kernel
theorem dX9_table_24 : decode cX9_table 24 = .ok (.invokevirtual 77, 3) := by decide +kernel
theorem dX9_table_27 : decode cX9_table 27 = .ok (.ireturn, 1) := by decide +kernel
theorem dX9_table_28 : decode cX9_table 28 = .ok (.aload_n 0, 1) := by decide +kernel
theorem dX9_table_29 : decode cX9_table 29 = .ok (.getfield 10, 3) := by decide +kernel
theorem dX9_table_32 : decode cX9_table 32 = .ok (.iload_n 1, 1) := by decide +kernel
theorem dX9_table_33 : decode cX9_table 33 = .ok (.iload_n 2, 1) := by decide +kernel
theorem dX9_table_34 : decode cX9_table 34 = .ok (.invokevirtual 148, 3) := by decide +kernel
theorem dX9_table_37 : decode cX9_table 37 = .ok (.ireturn, 1) := by decide +kernel
theorem dX9_sum_0 : decode cX9_sum 0 = .ok (.aload_n 0, 1) := by decide +kernel
theorem dX9_sum_1 : decode cX9_sum 1 = .ok (.getfield 10, 3) := by decide +kernel
theorem dX9_sum_4 : decode cX9_sum 4 = .ok (.iload_n 1, 1) := by decide +kernel
theorem dX9_sum_5 : decode cX9_sum 5 = .ok (.invokevirtual 106, 3) := by decide +kernel
theorem dX9_sum_8 : decode cX9_sum 8 = .ok (.ifCond .ne 9, 3) := by decide +kernel
theorem dX9_sum_11 : decode cX9_sum 11 = .ok (.aload_n 0, 1) := by decide +kernel
theorem dX9_sum_12 : decode cX9_sum 12 = .ok (.iconst (-1), 1) := by decide +kernel
theorem dX9_sum_13 : decode cX9_sum 13 = .ok (.invokevirtual 77, 3) := by decide +kernel
theorem dX9_sum_16 : decode cX9_sum 16 = .ok (.ireturn, 1) := by decide +kernel
theorem dX9_sum_17 : decode cX9_sum 17 = .ok (.aload_n 0, 1) := by decide +kernel
theorem dX9_sum_18 : decode cX9_sum 18 = .ok (.getfield 10, 3) := by decide +kernel
theorem dX9_sum_21 : decode cX9_sum 21 = .ok (.iload_n 1, 1) := by decide +kernel
theorem dX9_sum_22 : decode cX9_sum 22 = .ok (.invokevirtual 152, 3) := by decide +kernel
theorem dX9_sum_25 : decode cX9_sum 25 = .ok (.ireturn, 1) := by decide +kernel
theorem dX9_total_0 : decode cX9_total 0 = .ok (.aload_n 0, 1) := by decide +kernel
theorem dX9_total_1 : decode cX9_total 1 = .ok (.getfield 10, 3) := by decide +kernel
theorem dX9_total_4 : decode cX9_total 4 = .ok (.aload_n 0, 1) := by decide +kernel
theorem dX9_total_5 : decode cX9_total 5 = .ok (.getfield 71, 3) := by decide +kernel
theorem dX9_total_8 : decode cX9_total 8 = .ok (.invokevirtual 155, 3) := by decide +kernel
theorem dX9_total_11 : decode cX9_total 11 = .ok (.aload_n 0, 1) := by decide +kernel
theorem dX9_total_12 : decode cX9_total 12 = .ok (.getfield 71, 3) := by decide +kernel
theorem dX9_total_15 : decode cX9_total 15 = .ok (.aload_n 0, 1) := by decide +kernel
theorem dX9_total_16 : decode cX9_total 16 = .ok (.getfield 10, 3) := by decide +kernel
theorem dX9_total_19 : decode cX9_total 19 = .ok (.getfield 96, 3) := by decide +kernel
theorem dX9_total_22 : decode cX9_total 22 = .ok (.invokestatic 159, 3) := by decide +kernel
theorem dX9_total_25 : decode cX9_total 25 = .ok (.ireturn, 1) := by decide +kernel
theorem dX9_rule_0 : decode cX9_rule 0 = .ok (.iload_n 1, 1) := by decide +kernel
theorem dX9_rule_1 : decode cX9_rule 1 = .ok (.invokestatic 165, 3) := by decide +kernel
theorem dX9_rule_4 : decode cX9_rule 4 = .ok (.ifCond .ne 10, 3) := by decide +kernel
theorem dX9_rule_7 : decode cX9_rule 7 = .ok (.aload_n 0, 1) := by decide +kernel
theorem dX9_rule_8 : decode cX9_rule 8 = .ok (.bipush (-2), 2) := by decide +kernel
theorem dX9_rule_10 : decode cX9_rule 10 = .ok (.invokevirtual 77, 3) := by decide +kernel
theorem dX9_rule_13 : decode cX9_rule 13 = .ok (.ireturn, 1) := by decide +kernel
theorem dX9_rule_14 : decode cX9_rule 14 = .ok (.aload_n 0, 1) := by decide +kernel
theorem dX9_rule_15 : decode cX9_rule 15 = .ok (.getfield 10, 3) := by decide +kernel
theorem dX9_rule_18 : decode cX9_rule 18 = .ok (.aload_n 0, 1) := by decide +kernel
theorem dX9_rule_19 : decode cX9_rule 19 = .ok (.getfield 71, 3) := by decide +kernel
theorem dX9_rule_22 : decode cX9_rule 22 = .ok (.invokevirtual 155, 3) := by decide +kernel
theorem dX9_rule_25 : decode cX9_rule 25 = .ok (.iload_n 1, 1) := by decide +kernel
theorem dX9_rule_26 : decode cX9_rule 26 = .ok (.aload_n 0, 1) := by decide +kernel
theorem dX9_rule_27 : decode cX9_rule 27 = .ok (.getfield 71, 3) := by decide +kernel
theorem dX9_rule_30 : decode cX9_rule 30 = .ok (.aload_n 0, 1) := by decide +kernel
theorem dX9_rule_31 : decode cX9_rule 31 = .ok (.getfield 10, 3) := by decide +kernel
theorem dX9_rule_34 : decode cX9_rule 34 = .ok (.getfield 96, 3) := by decide +kernel
theorem dX9_rule_37 : decode cX9_rule 37 = .ok (.invokestatic 168, 3) := by decide +kernel
theorem dX9_rule_40 : decode cX9_rule 40 = .ok (.ifCond .eq 7, 3) := by decide +kernel
theorem dX9_rule_43 : decode cX9_rule 43 = .ok (.iconst 1, 1) := by decide +kernel
theorem dX9_rule_44 : decode cX9_rule 44 = .ok (.goto 4, 3) := by decide +kernel
theorem dX9_rule_47 : decode cX9_rule 47 = .ok (.iconst 0, 1) := by decide +kernel
theorem dX9_rule_48 : decode cX9_rule 48 = .ok (.ireturn, 1) := by decide +kernel
theorem dX9_ranked_0 : decode cX9_ranked 0 = .ok (.iload_n 1, 1) := by decide +kernel
theorem dX9_ranked_1 : decode cX9_ranked 1 = .ok (.ifCond .ge 10, 3) := by decide +kernel
theorem dX9_ranked_4 : decode cX9_ranked 4 = .ok (.aload_n 0, 1) := by decide +kernel
theorem dX9_ranked_5 : decode cX9_ranked 5 = .ok (.bipush (-4), 2) := by decide +kernel
theorem dX9_ranked_7 : decode cX9_ranked 7 = .ok (.invokevirtual 77, 3) := by decide +kernel
theorem dX9_ranked_10 : decode cX9_ranked 10 = .ok (.ireturn, 1) := by decide +kernel
theorem dX9_ranked_11 : decode cX9_ranked 11 = .ok (.aload_n 0, 1) := by decide +kernel
theorem dX9_ranked_12 : decode cX9_ranked 12 = .ok (.getfield 10, 3) := by decide +kernel
theorem dX9_ranked_15 : decode cX9_ranked 15 = .ok (.aload_n 0, 1) := by decide +kernel
theorem dX9_ranked_16 : decode cX9_ranked 16 = .ok (.getfield 71, 3) := by decide +kernel
theorem dX9_ranked_19 : decode cX9_ranked 19 = .ok (.invokevirtual 155, 3) := by decide +kernel
theorem dX9_ranked_22 : decode cX9_ranked 22 = .ok (.iconst 0, 1) := by decide +kernel
theorem dX9_ranked_23 : decode cX9_ranked 23 = .ok (.istore_n 2, 1) := by decide +kernel
theorem dX9_ranked_24 : decode cX9_ranked 24 = .ok (.iload_n 2, 1) := by decide +kernel
theorem dX9_ranked_25 : decode cX9_ranked 25 = .ok (.aload_n 0, 1) := by decide +kernel
theorem dX9_ranked_26 : decode cX9_ranked 26 = .ok (.getfield 10, 3) := by decide +kernel
theorem dX9_ranked_29 : decode cX9_ranked 29 = .ok (.getfield 96, 3) := by decide +kernel
theorem dX9_ranked_32 : decode cX9_ranked 32 = .ok (.if_icmp .ge 30, 3) := by decide +kernel
theorem dX9_ranked_35 : decode cX9_ranked 35 = .ok (.iload_n 2, 1) := by decide +kernel
theorem dX9_ranked_36 : decode cX9_ranked 36 = .ok (.aload_n 0, 1) := by decide +kernel
theorem dX9_ranked_37 : decode cX9_ranked 37 = .ok (.getfield 71, 3) := by decide +kernel
theorem dX9_ranked_40 : decode cX9_ranked 40 = .ok (.aload_n 0, 1) := by decide +kernel
theorem dX9_ranked_41 : decode cX9_ranked 41 = .ok (.getfield 10, 3) := by decide +kernel
theorem dX9_ranked_44 : decode cX9_ranked 44 = .ok (.getfield 96, 3) := by decide +kernel
theorem dX9_ranked_47 : decode cX9_ranked 47 = .ok (.invokestatic 172, 3) := by decide +kernel
theorem dX9_ranked_50 : decode cX9_ranked 50 = .ok (.iload_n 1, 1) := by decide +kernel
theorem dX9_ranked_51 : decode cX9_ranked 51 = .ok (.if_icmp .ne 5, 3) := by decide +kernel
theorem dX9_ranked_54 : decode cX9_ranked 54 = .ok (.iload_n 2, 1) := by decide +kernel
theorem dX9_ranked_55 : decode cX9_ranked 55 = .ok (.ireturn, 1) := by decide +kernel
theorem dX9_ranked_56 : decode cX9_ranked 56 = .ok (.iinc 2 1, 3) := by decide +kernel
theorem dX9_ranked_59 : decode cX9_ranked 59 = .ok (.goto (-35), 3) := by decide +kernel
theorem dX9_ranked_62 : decode cX9_ranked 62 = .ok (.bipush (-9), 2) := by decide +kernel
theorem dX9_ranked_64 : decode cX9_ranked 64 = .ok (.ireturn, 1) := by decide +kernel
theorem dX9_ways_0 : decode cX9_ways 0 = .ok (.iload_n 1, 1) := by decide +kernel
theorem dX9_ways_1 : decode cX9_ways 1 = .ok (.invokestatic 165, 3) := by decide +kernel
theorem dX9_ways_4 : decode cX9_ways 4 = .ok (.ifCond .ne 10, 3) := by decide +kernel
theorem dX9_ways_7 : decode cX9_ways 7 = .ok (.aload_n 0, 1) := by decide +kernel
theorem dX9_ways_8 : decode cX9_ways 8 = .ok (.bipush (-2), 2) := by decide +kernel
theorem dX9_ways_10 : decode cX9_ways 10 = .ok (.invokevirtual 77, 3) := by decide +kernel
theorem dX9_ways_13 : decode cX9_ways 13 = .ok (.ireturn, 1) := by decide +kernel
theorem dX9_ways_14 : decode cX9_ways 14 = .ok (.iload_n 2, 1) := by decide +kernel
theorem dX9_ways_15 : decode cX9_ways 15 = .ok (.ifCond .lt 8, 3) := by decide +kernel
theorem dX9_ways_18 : decode cX9_ways 18 = .ok (.iload_n 3, 1) := by decide +kernel
theorem dX9_ways_19 : decode cX9_ways 19 = .ok (.iconst (-1), 1) := by decide +kernel
theorem dX9_ways_20 : decode cX9_ways 20 = .ok (.if_icmp .ge 10, 3) := by decide +kernel
theorem dX9_ways_23 : decode cX9_ways 23 = .ok (.aload_n 0, 1) := by decide +kernel
theorem dX9_ways_24 : decode cX9_ways 24 = .ok (.bipush (-4), 2) := by decide +kernel
theorem dX9_ways_26 : decode cX9_ways 26 = .ok (.invokevirtual 77, 3) := by decide +kernel
theorem dX9_ways_29 : decode cX9_ways 29 = .ok (.ireturn, 1) := by decide +kernel
theorem dX9_ways_30 : decode cX9_ways 30 = .ok (.iload_n 2, 1) := by decide +kernel
theorem dX9_ways_31 : decode cX9_ways 31 = .ok (.iconst 3, 1) := by decide +kernel
theorem dX9_ways_32 : decode cX9_ways 32 = .ok (.if_icmp .le 10, 3) := by decide +kernel
theorem dX9_ways_35 : decode cX9_ways 35 = .ok (.aload_n 0, 1) := by decide +kernel
theorem dX9_ways_36 : decode cX9_ways 36 = .ok (.bipush (-6), 2) := by decide +kernel
theorem dX9_ways_38 : decode cX9_ways 38 = .ok (.invokevirtual 77, 3) := by decide +kernel
theorem dX9_ways_41 : decode cX9_ways 41 = .ok (.ireturn, 1) := by decide +kernel
theorem dX9_ways_42 : decode cX9_ways 42 = .ok (.iload_n 3, 1) := by decide +kernel
theorem dX9_ways_43 : decode cX9_ways 43 = .ok (.iconst (-1), 1) := by decide +kernel
theorem dX9_ways_44 : decode cX9_ways 44 = .ok (.if_icmp .eq 21, 3) := by decide +kernel
theorem dX9_ways_47 : decode cX9_ways 47 = .ok (.aload_n 0, 1) := by decide +kernel
theorem dX9_ways_48 : decode cX9_ways 48 = .ok (.getfield 10, 3) := by decide +kernel
theorem dX9_ways_51 : decode cX9_ways 51 = .ok (.iload 4, 2) := by decide +kernel
theorem dX9_ways_53 : decode cX9_ways 53 = .ok (.invokevirtual 115, 3) := by decide +kernel
theorem dX9_ways_56 : decode cX9_ways 56 = .ok (.ifCond .ne 9, 3) := by decide +kernel
theorem dX9_ways_59 : decode cX9_ways 59 = .ok (.aload_n 0, 1) := by decide +kernel
theorem dX9_ways_60 : decode cX9_ways 60 = .ok (.iconst (-1), 1) := by decide +kernel
theorem dX9_ways_61 : decode cX9_ways 61 = .ok (.invokevirtual 77, 3) := by decide +kernel
theorem dX9_ways_64 : decode cX9_ways 64 = .ok (.ireturn, 1) := by decide +kernel
theorem dX9_ways_65 : decode cX9_ways 65 = .ok (.aload_n 0, 1) := by decide +kernel
theorem dX9_ways_66 : decode cX9_ways 66 = .ok (.aload_n 0, 1) := by decide +kernel
theorem dX9_ways_67 : decode cX9_ways 67 = .ok (.getfield 35, 3) := by decide +kernel
theorem dX9_ways_70 : decode cX9_ways 70 = .ok (.iload_n 1, 1) := by decide +kernel
theorem dX9_ways_71 : decode cX9_ways 71 = .ok (.iload_n 2, 1) := by decide +kernel
theorem dX9_ways_72 : decode cX9_ways 72 = .ok (.iload_n 3, 1) := by decide +kernel
theorem dX9_ways_73 : decode cX9_ways 73 = .ok (.invokevirtual 176, 3) := by decide +kernel
theorem dX9_ways_76 : decode cX9_ways 76 = .ok (.iload_n 3, 1) := by decide +kernel
theorem dX9_ways_77 : decode cX9_ways 77 = .ok (.iload 4, 2) := by decide +kernel
theorem dX9_ways_79 : decode cX9_ways 79 = .ok (.invokevirtual 180, 3) := by decide +kernel
theorem dX9_ways_82 : decode cX9_ways 82 = .ok (.ireturn, 1) := by decide +kernel
theorem dX9_magic_0 : decode cX9_magic 0 = .ok (.iload_n 1, 1) := by decide +kernel
theorem dX9_magic_1 : decode cX9_magic 1 = .ok (.ifCond .lt 8, 3) := by decide +kernel
theorem dX9_magic_4 : decode cX9_magic 4 = .ok (.iload_n 2, 1) := by decide +kernel
theorem dX9_magic_5 : decode cX9_magic 5 = .ok (.iconst (-1), 1) := by decide +kernel
theorem dX9_magic_6 : decode cX9_magic 6 = .ok (.if_icmp .ge 10, 3) := by decide +kernel
theorem dX9_magic_9 : decode cX9_magic 9 = .ok (.aload_n 0, 1) := by decide +kernel
theorem dX9_magic_10 : decode cX9_magic 10 = .ok (.bipush (-4), 2) := by decide +kernel
theorem dX9_magic_12 : decode cX9_magic 12 = .ok (.invokevirtual 77, 3) := by decide +kernel
theorem dX9_magic_15 : decode cX9_magic 15 = .ok (.ireturn, 1) := by decide +kernel
theorem dX9_magic_16 : decode cX9_magic 16 = .ok (.iload_n 1, 1) := by decide +kernel
theorem dX9_magic_17 : decode cX9_magic 17 = .ok (.bipush 6, 2) := by decide +kernel
theorem dX9_magic_19 : decode cX9_magic 19 = .ok (.if_icmp .le 10, 3) := by decide +kernel
theorem dX9_magic_22 : decode cX9_magic 22 = .ok (.aload_n 0, 1) := by decide +kernel
theorem dX9_magic_23 : decode cX9_magic 23 = .ok (.bipush (-6), 2) := by decide +kernel
theorem dX9_magic_25 : decode cX9_magic 25 = .ok (.invokevirtual 77, 3) := by decide +kernel
theorem dX9_magic_28 : decode cX9_magic 28 = .ok (.ireturn, 1) := by decide +kernel
theorem dX9_magic_29 : decode cX9_magic 29 = .ok (.iload_n 2, 1) := by decide +kernel
theorem dX9_magic_30 : decode cX9_magic 30 = .ok (.iconst (-1), 1) := by decide +kernel
theorem dX9_magic_31 : decode cX9_magic 31 = .ok (.if_icmp .eq 20, 3) := by decide +kernel
theorem dX9_magic_34 : decode cX9_magic 34 = .ok (.aload_n 0, 1) := by decide +kernel
theorem dX9_magic_35 : decode cX9_magic 35 = .ok (.getfield 10, 3) := by decide +kernel
theorem dX9_magic_38 : decode cX9_magic 38 = .ok (.iload_n 3, 1) := by decide +kernel
theorem dX9_magic_39 : decode cX9_magic 39 = .ok (.invokevirtual 115, 3) := by decide +kernel
theorem dX9_magic_42 : decode cX9_magic 42 = .ok (.ifCond .ne 9, 3) := by decide +kernel
theorem dX9_magic_45 : decode cX9_magic 45 = .ok (.aload_n 0, 1) := by decide +kernel
theorem dX9_magic_46 : decode cX9_magic 46 = .ok (.iconst (-1), 1) := by decide +kernel
theorem dX9_magic_47 : decode cX9_magic 47 = .ok (.invokevirtual 77, 3) := by decide +kernel
theorem dX9_magic_50 : decode cX9_magic 50 = .ok (.ireturn, 1) := by decide +kernel
theorem dX9_magic_51 : decode cX9_magic 51 = .ok (.aload_n 0, 1) := by decide +kernel
theorem dX9_magic_52 : decode cX9_magic 52 = .ok (.aload_n 0, 1) := by decide +kernel
theorem dX9_magic_53 : decode cX9_magic 53 = .ok (.getfield 35, 3) := by decide +kernel
theorem dX9_magic_56 : decode cX9_magic 56 = .ok (.iload_n 1, 1) := by decide +kernel
theorem dX9_magic_57 : decode cX9_magic 57 = .ok (.iload_n 2, 1) := by decide +kernel
theorem dX9_magic_58 : decode cX9_magic 58 = .ok (.invokevirtual 183, 3) := by decide +kernel
theorem dX9_magic_61 : decode cX9_magic 61 = .ok (.iload_n 2, 1) := by decide +kernel
theorem dX9_magic_62 : decode cX9_magic 62 = .ok (.iload_n 3, 1) := by decide +kernel
theorem dX9_magic_63 : decode cX9_magic 63 = .ok (.invokevirtual 180, 3) := by decide +kernel
theorem dX9_magic_66 : decode cX9_magic 66 = .ok (.ireturn, 1) := by decide +kernel
theorem dX9_difference_0 : decode cX9_difference 0 = .ok (.iload_n 1, 1) := by decide +kernel
theorem dX9_difference_1 : decode cX9_difference 1 = .ok (.ifCond .lt 7, 3) := by decide +kernel
theorem dX9_difference_4 : decode cX9_difference 4 = .ok (.iload_n 2, 1) := by decide +kernel
theorem dX9_difference_5 : decode cX9_difference 5 = .ok (.ifCond .ge 13, 3) := by decide +kernel
theorem dX9_difference_8 : decode cX9_difference 8 = .ok (.ldc 186, 2) := by decide +kernel
theorem dX9_difference_10 : decode cX9_difference 10 = .ok (.aload_n 0, 1) := by decide +kernel
theorem dX9_difference_11 : decode cX9_difference 11 = .ok (.bipush (-4), 2) := by decide +kernel
theorem dX9_difference_13 : decode cX9_difference 13 = .ok (.invokevirtual 77, 3) := by decide +kernel
theorem dX9_difference_16 : decode cX9_difference 16 = .ok (.isub, 1) := by decide +kernel
theorem dX9_difference_17 : decode cX9_difference 17 = .ok (.ireturn, 1) := by decide +kernel
theorem dX9_difference_18 : decode cX9_difference 18 = .ok (.iload_n 1, 1) := by decide +kernel
theorem dX9_difference_19 : decode cX9_difference 19 = .ok (.bipush 6, 2) := by decide +kernel
theorem dX9_difference_21 : decode cX9_difference 21 = .ok (.if_icmp .gt 11, 3) := by decide +kernel
theorem dX9_difference_24 : decode cX9_difference 24 = .ok (.iload_n 2, 1) := by decide +kernel
theorem dX9_difference_25 : decode cX9_difference 25 = .ok (.bipush 6, 2) := by decide +kernel
theorem dX9_difference_27 : decode cX9_difference 27 = .ok (.iload_n 1, 1) := by decide +kernel
theorem dX9_difference_28 : decode cX9_difference 28 = .ok (.isub, 1) := by decide +kernel
theorem dX9_difference_29 : decode cX9_difference 29 = .ok (.if_icmp .le 13, 3) := by decide +kernel
theorem dX9_difference_32 : decode cX9_difference 32 = .ok (.ldc 186, 2) := by decide +kernel
theorem dX9_difference_34 : decode cX9_difference 34 = .ok (.aload_n 0, 1) := by decide +kernel
theorem dX9_difference_35 : decode cX9_difference 35 = .ok (.bipush (-6), 2) := by decide +kernel
theorem dX9_difference_37 : decode cX9_difference 37 = .ok (.invokevirtual 77, 3) := by decide +kernel
theorem dX9_difference_40 : decode cX9_difference 40 = .ok (.isub, 1) := by decide +kernel
theorem dX9_difference_41 : decode cX9_difference 41 = .ok (.ireturn, 1) := by decide +kernel
theorem dX9_difference_42 : decode cX9_difference 42 = .ok (.aload_n 0, 1) := by decide +kernel
theorem dX9_difference_43 : decode cX9_difference 43 = .ok (.iload_n 2, 1) := by decide +kernel
theorem dX9_difference_44 : decode cX9_difference 44 = .ok (.iload_n 2, 1) := by decide +kernel
theorem dX9_difference_45 : decode cX9_difference 45 = .ok (.iload_n 1, 1) := by decide +kernel
theorem dX9_difference_46 : decode cX9_difference 46 = .ok (.iadd, 1) := by decide +kernel
theorem dX9_difference_47 : decode cX9_difference 47 = .ok (.invokevirtual 187, 3) := by decide +kernel
theorem dX9_difference_50 : decode cX9_difference 50 = .ok (.iconst 0, 1) := by decide +kernel
theorem dX9_difference_51 : decode cX9_difference 51 = .ok (.istore_n 3, 1) := by decide +kernel
theorem dX9_difference_52 : decode cX9_difference 52 = .ok (.iload_n 3, 1) := by decide +kernel
theorem dX9_difference_53 : decode cX9_difference 53 = .ok (.iload_n 1, 1) := by decide +kernel
theorem dX9_difference_54 : decode cX9_difference 54 = .ok (.if_icmp .ge 19, 3) := by decide +kernel
theorem dX9_difference_57 : decode cX9_difference 57 = .ok (.aload_n 0, 1) := by decide +kernel
theorem dX9_difference_58 : decode cX9_difference 58 = .ok (.iload_n 2, 1) := by decide +kernel
theorem dX9_difference_59 : decode cX9_difference 59 = .ok (.iload_n 2, 1) := by decide +kernel
theorem dX9_difference_60 : decode cX9_difference 60 = .ok (.iload_n 1, 1) := by decide +kernel
theorem dX9_difference_61 : decode cX9_difference 61 = .ok (.iadd, 1) := by decide +kernel
theorem dX9_difference_62 : decode cX9_difference 62 = .ok (.iload_n 3, 1) := by decide +kernel
theorem dX9_difference_63 : decode cX9_difference 63 = .ok (.isub, 1) := by decide +kernel
theorem dX9_difference_64 : decode cX9_difference 64 = .ok (.invokevirtual 191, 3) := by decide +kernel
theorem dX9_difference_67 : decode cX9_difference 67 = .ok (.iinc 3 1, 3) := by decide +kernel
theorem dX9_difference_70 : decode cX9_difference 70 = .ok (.goto (-18), 3) := by decide +kernel
theorem dX9_difference_73 : decode cX9_difference 73 = .ok (.aload_n 0, 1) := by decide +kernel
theorem dX9_difference_74 : decode cX9_difference 74 = .ok (.getfield 74, 3) := by decide +kernel
theorem dX9_difference_77 : decode cX9_difference 77 = .ok (.iload_n 2, 1) := by decide +kernel
theorem dX9_difference_78 : decode cX9_difference 78 = .ok (.iaload, 1) := by decide +kernel
theorem dX9_difference_79 : decode cX9_difference 79 = .ok (.ireturn, 1) := by decide +kernel
theorem dX9_settled_0 : decode cX9_settled 0 = .ok (.aload_n 0, 1) := by decide +kernel
theorem dX9_settled_1 : decode cX9_settled 1 = .ok (.iconst 0, 1) := by decide +kernel
theorem dX9_settled_2 : decode cX9_settled 2 = .ok (.bipush 6, 2) := by decide +kernel
theorem dX9_settled_4 : decode cX9_settled 4 = .ok (.invokevirtual 187, 3) := by decide +kernel
theorem dX9_settled_7 : decode cX9_settled 7 = .ok (.iconst 0, 1) := by decide +kernel
theorem dX9_settled_8 : decode cX9_settled 8 = .ok (.istore_n 1, 1) := by decide +kernel
theorem dX9_settled_9 : decode cX9_settled 9 = .ok (.iload_n 1, 1) := by decide +kernel
theorem dX9_settled_10 : decode cX9_settled 10 = .ok (.bipush 6, 2) := by decide +kernel
theorem dX9_settled_12 : decode cX9_settled 12 = .ok (.if_icmp .ge 35, 3) := by decide +kernel
theorem dX9_settled_15 : decode cX9_settled 15 = .ok (.iconst 0, 1) := by decide +kernel
theorem dX9_settled_16 : decode cX9_settled 16 = .ok (.aload_n 0, 1) := by decide +kernel
theorem dX9_settled_17 : decode cX9_settled 17 = .ok (.getfield 74, 3) := by decide +kernel
theorem dX9_settled_20 : decode cX9_settled 20 = .ok (.bipush 7, 2) := by decide +kernel
theorem dX9_settled_22 : decode cX9_settled 22 = .ok (.iload_n 1, 1) := by decide +kernel
theorem dX9_settled_23 : decode cX9_settled 23 = .ok (.isub, 1) := by decide +kernel
theorem dX9_settled_24 : decode cX9_settled 24 = .ok (.invokestatic 168, 3) := by decide +kernel
theorem dX9_settled_27 : decode cX9_settled 27 = .ok (.ifCond .eq 5, 3) := by decide +kernel
theorem dX9_settled_30 : decode cX9_settled 30 = .ok (.iload_n 1, 1) := by decide +kernel
theorem dX9_settled_31 : decode cX9_settled 31 = .ok (.ireturn, 1) := by decide +kernel
theorem dX9_settled_32 : decode cX9_settled 32 = .ok (.aload_n 0, 1) := by decide +kernel
theorem dX9_settled_33 : decode cX9_settled 33 = .ok (.iconst 0, 1) := by decide +kernel
theorem dX9_settled_34 : decode cX9_settled 34 = .ok (.bipush 6, 2) := by decide +kernel
theorem dX9_settled_36 : decode cX9_settled 36 = .ok (.iload_n 1, 1) := by decide +kernel
theorem dX9_settled_37 : decode cX9_settled 37 = .ok (.isub, 1) := by decide +kernel
theorem dX9_settled_38 : decode cX9_settled 38 = .ok (.invokevirtual 191, 3) := by decide +kernel
theorem dX9_settled_41 : decode cX9_settled 41 = .ok (.iinc 1 1, 3) := by decide +kernel
theorem dX9_settled_44 : decode cX9_settled 44 = .ok (.goto (-35), 3) := by decide +kernel
theorem dX9_settled_47 : decode cX9_settled 47 = .ok (.bipush 6, 2) := by decide +kernel
theorem dX9_settled_49 : decode cX9_settled 49 = .ok (.ireturn, 1) := by decide +kernel
theorem dX9_orders_0 : decode cX9_orders 0 = .ok (.iload_n 1, 1) := by decide +kernel
theorem dX9_orders_1 : decode cX9_orders 1 = .ok (.iconst (-1), 1) := by decide +kernel
theorem dX9_orders_2 : decode cX9_orders 2 = .ok (.if_icmp .ge 10, 3) := by decide +kernel
theorem dX9_orders_5 : decode cX9_orders 5 = .ok (.aload_n 0, 1) := by decide +kernel
theorem dX9_orders_6 : decode cX9_orders 6 = .ok (.bipush (-4), 2) := by decide +kernel
theorem dX9_orders_8 : decode cX9_orders 8 = .ok (.invokevirtual 77, 3) := by decide +kernel
theorem dX9_orders_11 : decode cX9_orders 11 = .ok (.ireturn, 1) := by decide +kernel
theorem dX9_orders_12 : decode cX9_orders 12 = .ok (.iload_n 1, 1) := by decide +kernel
theorem dX9_orders_13 : decode cX9_orders 13 = .ok (.iconst (-1), 1) := by decide +kernel
theorem dX9_orders_14 : decode cX9_orders 14 = .ok (.if_icmp .eq 20, 3) := by decide +kernel
theorem dX9_orders_17 : decode cX9_orders 17 = .ok (.aload_n 0, 1) := by decide +kernel
theorem dX9_orders_18 : decode cX9_orders 18 = .ok (.getfield 10, 3) := by decide +kernel
theorem dX9_orders_21 : decode cX9_orders 21 = .ok (.iload_n 2, 1) := by decide +kernel
theorem dX9_orders_22 : decode cX9_orders 22 = .ok (.invokevirtual 115, 3) := by decide +kernel
theorem dX9_orders_25 : decode cX9_orders 25 = .ok (.ifCond .ne 9, 3) := by decide +kernel
theorem dX9_orders_28 : decode cX9_orders 28 = .ok (.aload_n 0, 1) := by decide +kernel
theorem dX9_orders_29 : decode cX9_orders 29 = .ok (.iconst (-1), 1) := by decide +kernel
theorem dX9_orders_30 : decode cX9_orders 30 = .ok (.invokevirtual 77, 3) := by decide +kernel
theorem dX9_orders_33 : decode cX9_orders 33 = .ok (.ireturn, 1) := by decide +kernel
theorem dX9_orders_34 : decode cX9_orders 34 = .ok (.aload_n 0, 1) := by decide +kernel
theorem dX9_orders_35 : decode cX9_orders 35 = .ok (.aload_n 0, 1) := by decide +kernel
theorem dX9_orders_36 : decode cX9_orders 36 = .ok (.getfield 35, 3) := by decide +kernel
theorem dX9_orders_39 : decode cX9_orders 39 = .ok (.iload_n 1, 1) := by decide +kernel
theorem dX9_orders_40 : decode cX9_orders 40 = .ok (.invokevirtual 194, 3) := by decide +kernel
theorem dX9_orders_43 : decode cX9_orders 43 = .ok (.iload_n 1, 1) := by decide +kernel
theorem dX9_orders_44 : decode cX9_orders 44 = .ok (.iload_n 2, 1) := by decide +kernel
theorem dX9_orders_45 : decode cX9_orders 45 = .ok (.invokevirtual 180, 3) := by decide +kernel
theorem dX9_orders_48 : decode cX9_orders 48 = .ok (.ireturn, 1) := by decide +kernel
theorem dX9_spread_0 : decode cX9_spread 0 = .ok (.aload_n 0, 1) := by decide +kernel
theorem dX9_spread_1 : decode cX9_spread 1 = .ok (.getfield 35, 3) := by decide +kernel
theorem dX9_spread_4 : decode cX9_spread 4 = .ok (.invokevirtual 197, 3) := by decide +kernel
theorem dX9_spread_7 : decode cX9_spread 7 = .ok (.ireturn, 1) := by decide +kernel
theorem dX9_odds_0 : decode cX9_odds 0 = .ok (.iload_n 1, 1) := by decide +kernel
theorem dX9_odds_1 : decode cX9_odds 1 = .ok (.invokestatic 165, 3) := by decide +kernel
theorem dX9_odds_4 : decode cX9_odds 4 = .ok (.ifCond .ne 15, 3) := by decide +kernel
theorem dX9_odds_7 : decode cX9_odds 7 = .ok (.ldc2_w 201, 3) := by decide +kernel
theorem dX9_odds_10 : decode cX9_odds 10 = .ok (.aload_n 0, 1) := by decide +kernel
theorem dX9_odds_11 : decode cX9_odds 11 = .ok (.bipush (-2), 2) := by decide +kernel
theorem dX9_odds_13 : decode cX9_odds 13 = .ok (.invokevirtual 77, 3) := by decide +kernel
theorem dX9_odds_16 : decode cX9_odds 16 = .ok (.i2l, 1) := by decide +kernel
theorem dX9_odds_17 : decode cX9_odds 17 = .ok (.lsub, 1) := by decide +kernel
theorem dX9_odds_18 : decode cX9_odds 18 = .ok (.lreturn, 1) := by decide +kernel
theorem dX9_odds_19 : decode cX9_odds 19 = .ok (.iload_n 2, 1) := by decide +kernel
theorem dX9_odds_20 : decode cX9_odds 20 = .ok (.ifCond .ge 15, 3) := by decide +kernel
theorem dX9_odds_23 : decode cX9_odds 23 = .ok (.ldc2_w 201, 3) := by decide +kernel
theorem dX9_odds_26 : decode cX9_odds 26 = .ok (.aload_n 0, 1) := by decide +kernel
theorem dX9_odds_27 : decode cX9_odds 27 = .ok (.bipush (-4), 2) := by decide +kernel
theorem dX9_odds_29 : decode cX9_odds 29 = .ok (.invokevirtual 77, 3) := by decide +kernel
theorem dX9_odds_32 : decode cX9_odds 32 = .ok (.i2l, 1) := by decide +kernel
theorem dX9_odds_33 : decode cX9_odds 33 = .ok (.lsub, 1) := by decide +kernel
theorem dX9_odds_34 : decode cX9_odds 34 = .ok (.lreturn, 1) := by decide +kernel
theorem dX9_odds_35 : decode cX9_odds 35 = .ok (.iload_n 2, 1) := by decide +kernel
theorem dX9_odds_36 : decode cX9_odds 36 = .ok (.iconst 3, 1) := by decide +kernel
theorem dX9_odds_37 : decode cX9_odds 37 = .ok (.if_icmp .le 15, 3) := by decide +kernel
theorem dX9_odds_40 : decode cX9_odds 40 = .ok (.ldc2_w 201, 3) := by decide +kernel
theorem dX9_odds_43 : decode cX9_odds 43 = .ok (.aload_n 0, 1) := by decide +kernel
theorem dX9_odds_44 : decode cX9_odds 44 = .ok (.bipush (-6), 2) := by decide +kernel
theorem dX9_odds_46 : decode cX9_odds 46 = .ok (.invokevirtual 77, 3) := by decide +kernel
theorem dX9_odds_49 : decode cX9_odds 49 = .ok (.i2l, 1) := by decide +kernel
theorem dX9_odds_50 : decode cX9_odds 50 = .ok (.lsub, 1) := by decide +kernel
theorem dX9_odds_51 : decode cX9_odds 51 = .ok (.lreturn, 1) := by decide +kernel
theorem dX9_odds_52 : decode cX9_odds 52 = .ok (.iload_n 3, 1) := by decide +kernel
theorem dX9_odds_53 : decode cX9_odds 53 = .ok (.ifCond .eq 20, 3) := by decide +kernel
theorem dX9_odds_56 : decode cX9_odds 56 = .ok (.iload_n 3, 1) := by decide +kernel
theorem dX9_odds_57 : decode cX9_odds 57 = .ok (.iconst 1, 1) := by decide +kernel
theorem dX9_odds_58 : decode cX9_odds 58 = .ok (.if_icmp .eq 15, 3) := by decide +kernel
theorem dX9_odds_61 : decode cX9_odds 61 = .ok (.ldc2_w 201, 3) := by decide +kernel
theorem dX9_odds_64 : decode cX9_odds 64 = .ok (.aload_n 0, 1) := by decide +kernel
theorem dX9_odds_65 : decode cX9_odds 65 = .ok (.bipush (-2), 2) := by decide +kernel
theorem dX9_odds_67 : decode cX9_odds 67 = .ok (.invokevirtual 77, 3) := by decide +kernel
theorem dX9_odds_70 : decode cX9_odds 70 = .ok (.i2l, 1) := by decide +kernel
theorem dX9_odds_71 : decode cX9_odds 71 = .ok (.lsub, 1) := by decide +kernel
theorem dX9_odds_72 : decode cX9_odds 72 = .ok (.lreturn, 1) := by decide +kernel
theorem dX9_odds_73 : decode cX9_odds 73 = .ok (.aload_n 0, 1) := by decide +kernel
theorem dX9_odds_74 : decode cX9_odds 74 = .ok (.getfield 35, 3) := by decide +kernel
theorem dX9_odds_77 : decode cX9_odds 77 = .ok (.iload_n 1, 1) := by decide +kernel
theorem dX9_odds_78 : decode cX9_odds 78 = .ok (.iload_n 2, 1) := by decide +kernel
theorem dX9_odds_79 : decode cX9_odds 79 = .ok (.iconst (-1), 1) := by decide +kernel
theorem dX9_odds_80 : decode cX9_odds 80 = .ok (.invokevirtual 176, 3) := by decide +kernel
theorem dX9_odds_83 : decode cX9_odds 83 = .ok (.istore 4, 2) := by decide +kernel
theorem dX9_odds_85 : decode cX9_odds 85 = .ok (.iload_n 2, 1) := by decide +kernel
theorem dX9_odds_86 : decode cX9_odds 86 = .ok (.iconst 1, 1) := by decide +kernel
theorem dX9_odds_87 : decode cX9_odds 87 = .ok (.iadd, 1) := by decide +kernel
theorem dX9_odds_88 : decode cX9_odds 88 = .ok (.aload_n 0, 1) := by decide +kernel
theorem dX9_odds_89 : decode cX9_odds 89 = .ok (.getfield 10, 3) := by decide +kernel
theorem dX9_odds_92 : decode cX9_odds 92 = .ok (.getfield 109, 3) := by decide +kernel
theorem dX9_odds_95 : decode cX9_odds 95 = .ok (.invokestatic 203, 3) := by decide +kernel
theorem dX9_odds_98 : decode cX9_odds 98 = .ok (.istore 5, 2) := by decide +kernel
theorem dX9_odds_100 : decode cX9_odds 100 = .ok (.iload_n 3, 1) := by decide +kernel
theorem dX9_odds_101 : decode cX9_odds 101 = .ok (.ifCond .ne 8, 3) := by decide +kernel
theorem dX9_odds_104 : decode cX9_odds 104 = .ok (.iload 4, 2) := by decide +kernel
theorem dX9_odds_106 : decode cX9_odds 106 = .ok (.goto 5, 3) := by decide +kernel
theorem dX9_odds_109 : decode cX9_odds 109 = .ok (.iload 5, 2) := by decide +kernel
theorem dX9_odds_111 : decode cX9_odds 111 = .ok (.iload 4, 2) := by decide +kernel
theorem dX9_odds_113 : decode cX9_odds 113 = .ok (.iload 5, 2) := by decide +kernel
theorem dX9_odds_115 : decode cX9_odds 115 = .ok (.invokestatic 206, 3) := by decide +kernel
theorem dX9_odds_118 : decode cX9_odds 118 = .ok (.idiv, 1) := by decide +kernel
theorem dX9_odds_119 : decode cX9_odds 119 = .ok (.i2l, 1) := by decide +kernel
theorem dX9_odds_120 : decode cX9_odds 120 = .ok (.lreturn, 1) := by decide +kernel
theorem dX9_lots_0 : decode cX9_lots 0 = .ok (.iload_n 1, 1) := by decide +kernel
theorem dX9_lots_1 : decode cX9_lots 1 = .ok (.invokestatic 165, 3) := by decide +kernel
theorem dX9_lots_4 : decode cX9_lots 4 = .ok (.ifCond .ne 10, 3) := by decide +kernel
theorem dX9_lots_7 : decode cX9_lots 7 = .ok (.aload_n 0, 1) := by decide +kernel
theorem dX9_lots_8 : decode cX9_lots 8 = .ok (.bipush (-2), 2) := by decide +kernel
theorem dX9_lots_10 : decode cX9_lots 10 = .ok (.invokevirtual 77, 3) := by decide +kernel
theorem dX9_lots_13 : decode cX9_lots 13 = .ok (.ireturn, 1) := by decide +kernel
theorem dX9_lots_14 : decode cX9_lots 14 = .ok (.iload_n 2, 1) := by decide +kernel
theorem dX9_lots_15 : decode cX9_lots 15 = .ok (.iconst 1, 1) := by decide +kernel
theorem dX9_lots_16 : decode cX9_lots 16 = .ok (.if_icmp .ge 10, 3) := by decide +kernel
theorem dX9_lots_19 : decode cX9_lots 19 = .ok (.aload_n 0, 1) := by decide +kernel
theorem dX9_lots_20 : decode cX9_lots 20 = .ok (.bipush (-4), 2) := by decide +kernel
theorem dX9_lots_22 : decode cX9_lots 22 = .ok (.invokevirtual 77, 3) := by decide +kernel
theorem dX9_lots_25 : decode cX9_lots 25 = .ok (.ireturn, 1) := by decide +kernel
theorem dX9_lots_26 : decode cX9_lots 26 = .ok (.iload_n 2, 1) := by decide +kernel
theorem dX9_lots_27 : decode cX9_lots 27 = .ok (.bipush 50, 2) := by decide +kernel
theorem dX9_lots_29 : decode cX9_lots 29 = .ok (.if_icmp .le 10, 3) := by decide +kernel
theorem dX9_lots_32 : decode cX9_lots 32 = .ok (.aload_n 0, 1) := by decide +kernel
theorem dX9_lots_33 : decode cX9_lots 33 = .ok (.bipush (-6), 2) := by decide +kernel
theorem dX9_lots_35 : decode cX9_lots 35 = .ok (.invokevirtual 77, 3) := by decide +kernel
theorem dX9_lots_38 : decode cX9_lots 38 = .ok (.ireturn, 1) := by decide +kernel
theorem dX9_lots_39 : decode cX9_lots 39 = .ok (.iload 4, 2) := by decide +kernel
theorem dX9_lots_41 : decode cX9_lots 41 = .ok (.ifCond .eq 16, 3) := by decide +kernel
theorem dX9_lots_44 : decode cX9_lots 44 = .ok (.iload 4, 2) := by decide +kernel
theorem dX9_lots_46 : decode cX9_lots 46 = .ok (.iconst 1, 1) := by decide +kernel
theorem dX9_lots_47 : decode cX9_lots 47 = .ok (.if_icmp .eq 10, 3) := by decide +kernel
theorem dX9_lots_50 : decode cX9_lots 50 = .ok (.aload_n 0, 1) := by decide +kernel
theorem dX9_lots_51 : decode cX9_lots 51 = .ok (.bipush (-2), 2) := by decide +kernel
theorem dX9_lots_53 : decode cX9_lots 53 = .ok (.invokevirtual 77, 3) := by decide +kernel
theorem dX9_lots_56 : decode cX9_lots 56 = .ok (.ireturn, 1) := by decide +kernel
theorem dX9_lots_57 : decode cX9_lots 57 = .ok (.iload 4, 2) := by decide +kernel
theorem dX9_lots_59 : decode cX9_lots 59 = .ok (.ifCond .ne 16, 3) := by decide +kernel
theorem dX9_lots_62 : decode cX9_lots 62 = .ok (.aload_n 0, 1) := by decide +kernel
theorem dX9_lots_63 : decode cX9_lots 63 = .ok (.getfield 35, 3) := by decide +kernel
theorem dX9_lots_66 : decode cX9_lots 66 = .ok (.iload_n 1, 1) := by decide +kernel
theorem dX9_lots_67 : decode cX9_lots 67 = .ok (.iload_n 2, 1) := by decide +kernel
theorem dX9_lots_68 : decode cX9_lots 68 = .ok (.iload_n 3, 1) := by decide +kernel
theorem dX9_lots_69 : decode cX9_lots 69 = .ok (.invokevirtual 209, 3) := by decide +kernel
theorem dX9_lots_72 : decode cX9_lots 72 = .ok (.goto 12, 3) := by decide +kernel
theorem dX9_lots_75 : decode cX9_lots 75 = .ok (.aload_n 0, 1) := by decide +kernel
theorem dX9_lots_76 : decode cX9_lots 76 = .ok (.getfield 35, 3) := by decide +kernel
theorem dX9_lots_79 : decode cX9_lots 79 = .ok (.iload_n 2, 1) := by decide +kernel
theorem dX9_lots_80 : decode cX9_lots 80 = .ok (.iload_n 3, 1) := by decide +kernel
theorem dX9_lots_81 : decode cX9_lots 81 = .ok (.invokevirtual 212, 3) := by decide +kernel
theorem dX9_lots_84 : decode cX9_lots 84 = .ok (.ireturn, 1) := by decide +kernel
theorem dX9_rank_0 : decode cX9_rank 0 = .ok (.iload_n 1, 1) := by decide +kernel
theorem dX9_rank_1 : decode cX9_rank 1 = .ok (.ifCond .eq 15, 3) := by decide +kernel
theorem dX9_rank_4 : decode cX9_rank 4 = .ok (.iload_n 1, 1) := by decide +kernel
theorem dX9_rank_5 : decode cX9_rank 5 = .ok (.iconst 1, 1) := by decide +kernel
theorem dX9_rank_6 : decode cX9_rank 6 = .ok (.if_icmp .eq 10, 3) := by decide +kernel
theorem dX9_rank_9 : decode cX9_rank 9 = .ok (.aload_n 0, 1) := by decide +kernel
theorem dX9_rank_10 : decode cX9_rank 10 = .ok (.bipush (-2), 2) := by decide +kernel
theorem dX9_rank_12 : decode cX9_rank 12 = .ok (.invokevirtual 77, 3) := by decide +kernel
theorem dX9_rank_15 : decode cX9_rank 15 = .ok (.ireturn, 1) := by decide +kernel
theorem dX9_rank_16 : decode cX9_rank 16 = .ok (.aload_n 0, 1) := by decide +kernel
theorem dX9_rank_17 : decode cX9_rank 17 = .ok (.getfield 42, 3) := by decide +kernel
theorem dX9_rank_20 : decode cX9_rank 20 = .ok (.invokevirtual 215, 3) := by decide +kernel
theorem dX9_rank_23 : decode cX9_rank 23 = .ok (.istore_n 2, 1) := by decide +kernel
theorem dX9_rank_24 : decode cX9_rank 24 = .ok (.iload_n 1, 1) := by decide +kernel
theorem dX9_rank_25 : decode cX9_rank 25 = .ok (.ifCond .ne 7, 3) := by decide +kernel
theorem dX9_rank_28 : decode cX9_rank 28 = .ok (.iload_n 2, 1) := by decide +kernel
theorem dX9_rank_29 : decode cX9_rank 29 = .ok (.goto 12, 3) := by decide +kernel
theorem dX9_rank_32 : decode cX9_rank 32 = .ok (.aload_n 0, 1) := by decide +kernel
theorem dX9_rank_33 : decode cX9_rank 33 = .ok (.getfield 10, 3) := by decide +kernel
theorem dX9_rank_36 : decode cX9_rank 36 = .ok (.getfield 109, 3) := by decide +kernel
theorem dX9_rank_39 : decode cX9_rank 39 = .ok (.iload_n 2, 1) := by decide +kernel
theorem dX9_rank_40 : decode cX9_rank 40 = .ok (.isub, 1) := by decide +kernel
theorem dX9_rank_41 : decode cX9_rank 41 = .ok (.ireturn, 1) := by decide +kernel
theorem dX9_parts_0 : decode cX9_parts 0 = .ok (.iload_n 1, 1) := by decide +kernel
theorem dX9_parts_1 : decode cX9_parts 1 = .ok (.iconst (-1), 1) := by decide +kernel
theorem dX9_parts_2 : decode cX9_parts 2 = .ok (.if_icmp .ne 11, 3) := by decide +kernel
theorem dX9_parts_5 : decode cX9_parts 5 = .ok (.aload_n 0, 1) := by decide +kernel
theorem dX9_parts_6 : decode cX9_parts 6 = .ok (.getfield 42, 3) := by decide +kernel
theorem dX9_parts_9 : decode cX9_parts 9 = .ok (.invokevirtual 218, 3) := by decide +kernel
theorem dX9_parts_12 : decode cX9_parts 12 = .ok (.ireturn, 1) := by decide +kernel
theorem dX9_parts_13 : decode cX9_parts 13 = .ok (.aload_n 0, 1) := by decide +kernel
theorem dX9_parts_14 : decode cX9_parts 14 = .ok (.getfield 10, 3) := by decide +kernel
theorem dX9_parts_17 : decode cX9_parts 17 = .ok (.iload_n 1, 1) := by decide +kernel
theorem dX9_parts_18 : decode cX9_parts 18 = .ok (.invokevirtual 106, 3) := by decide +kernel
theorem dX9_parts_21 : decode cX9_parts 21 = .ok (.ifCond .ne 9, 3) := by decide +kernel
theorem dX9_parts_24 : decode cX9_parts 24 = .ok (.aload_n 0, 1) := by decide +kernel
theorem dX9_parts_25 : decode cX9_parts 25 = .ok (.iconst (-1), 1) := by decide +kernel
theorem dX9_parts_26 : decode cX9_parts 26 = .ok (.invokevirtual 77, 3) := by decide +kernel
theorem dX9_parts_29 : decode cX9_parts 29 = .ok (.ireturn, 1) := by decide +kernel
theorem dX9_parts_30 : decode cX9_parts 30 = .ok (.aload_n 0, 1) := by decide +kernel
theorem dX9_parts_31 : decode cX9_parts 31 = .ok (.getfield 42, 3) := by decide +kernel
theorem dX9_parts_34 : decode cX9_parts 34 = .ok (.iload_n 1, 1) := by decide +kernel
theorem dX9_parts_35 : decode cX9_parts 35 = .ok (.invokevirtual 221, 3) := by decide +kernel
theorem dX9_parts_38 : decode cX9_parts 38 = .ok (.ireturn, 1) := by decide +kernel
theorem dX9_sides_0 : decode cX9_sides 0 = .ok (.iload_n 1, 1) := by decide +kernel
theorem dX9_sides_1 : decode cX9_sides 1 = .ok (.iconst (-1), 1) := by decide +kernel
theorem dX9_sides_2 : decode cX9_sides 2 = .ok (.if_icmp .ne 19, 3) := by decide +kernel
theorem dX9_sides_5 : decode cX9_sides 5 = .ok (.aload_n 0, 1) := by decide +kernel
theorem dX9_sides_6 : decode cX9_sides 6 = .ok (.getfield 42, 3) := by decide +kernel
theorem dX9_sides_9 : decode cX9_sides 9 = .ok (.invokevirtual 224, 3) := by decide +kernel
theorem dX9_sides_12 : decode cX9_sides 12 = .ok (.ifCond .eq 7, 3) := by decide +kernel
theorem dX9_sides_15 : decode cX9_sides 15 = .ok (.iconst 1, 1) := by decide +kernel
theorem dX9_sides_16 : decode cX9_sides 16 = .ok (.goto 4, 3) := by decide +kernel
theorem dX9_sides_19 : decode cX9_sides 19 = .ok (.iconst 0, 1) := by decide +kernel
theorem dX9_sides_20 : decode cX9_sides 20 = .ok (.ireturn, 1) := by decide +kernel
theorem dX9_sides_21 : decode cX9_sides 21 = .ok (.aload_n 0, 1) := by decide +kernel
theorem dX9_sides_22 : decode cX9_sides 22 = .ok (.getfield 10, 3) := by decide +kernel
theorem dX9_sides_25 : decode cX9_sides 25 = .ok (.iload_n 1, 1) := by decide +kernel
theorem dX9_sides_26 : decode cX9_sides 26 = .ok (.invokevirtual 106, 3) := by decide +kernel
theorem dX9_sides_29 : decode cX9_sides 29 = .ok (.ifCond .ne 9, 3) := by decide +kernel
theorem dX9_sides_32 : decode cX9_sides 32 = .ok (.aload_n 0, 1) := by decide +kernel
theorem dX9_sides_33 : decode cX9_sides 33 = .ok (.iconst (-1), 1) := by decide +kernel
theorem dX9_sides_34 : decode cX9_sides 34 = .ok (.invokevirtual 77, 3) := by decide +kernel
theorem dX9_sides_37 : decode cX9_sides 37 = .ok (.ireturn, 1) := by decide +kernel
theorem dX9_sides_38 : decode cX9_sides 38 = .ok (.aload_n 0, 1) := by decide +kernel
theorem dX9_sides_39 : decode cX9_sides 39 = .ok (.getfield 42, 3) := by decide +kernel
theorem dX9_sides_42 : decode cX9_sides 42 = .ok (.invokevirtual 224, 3) := by decide +kernel
theorem dX9_sides_45 : decode cX9_sides 45 = .ok (.ifCond .eq 14, 3) := by decide +kernel
theorem dX9_sides_48 : decode cX9_sides 48 = .ok (.aload_n 0, 1) := by decide +kernel
theorem dX9_sides_49 : decode cX9_sides 49 = .ok (.getfield 42, 3) := by decide +kernel
theorem dX9_sides_52 : decode cX9_sides 52 = .ok (.iload_n 1, 1) := by decide +kernel
theorem dX9_sides_53 : decode cX9_sides 53 = .ok (.invokevirtual 228, 3) := by decide +kernel
theorem dX9_sides_56 : decode cX9_sides 56 = .ok (.goto 5, 3) := by decide +kernel
theorem dX9_sides_59 : decode cX9_sides 59 = .ok (.bipush (-9), 2) := by decide +kernel
theorem dX9_sides_61 : decode cX9_sides 61 = .ok (.ireturn, 1) := by decide +kernel
theorem dX9_written_0 : decode cX9_written 0 = .ok (.iload_n 1, 1) := by decide +kernel
theorem dX9_written_1 : decode cX9_written 1 = .ok (.iconst (-1), 1) := by decide +kernel
theorem dX9_written_2 : decode cX9_written 2 = .ok (.if_icmp .ge 10, 3) := by decide +kernel
theorem dX9_written_5 : decode cX9_written 5 = .ok (.aload_n 0, 1) := by decide +kernel
theorem dX9_written_6 : decode cX9_written 6 = .ok (.bipush (-4), 2) := by decide +kernel
theorem dX9_written_8 : decode cX9_written 8 = .ok (.invokevirtual 77, 3) := by decide +kernel
theorem dX9_written_11 : decode cX9_written 11 = .ok (.ireturn, 1) := by decide +kernel
theorem dX9_written_12 : decode cX9_written 12 = .ok (.aload_n 0, 1) := by decide +kernel
theorem dX9_written_13 : decode cX9_written 13 = .ok (.getfield 56, 3) := by decide +kernel
theorem dX9_written_16 : decode cX9_written 16 = .ok (.aload_n 0, 1) := by decide +kernel
theorem dX9_written_17 : decode cX9_written 17 = .ok (.getfield 10, 3) := by decide +kernel
theorem dX9_written_20 : decode cX9_written 20 = .ok (.invokevirtual 231, 3) := by decide +kernel
theorem dX9_written_23 : decode cX9_written 23 = .ok (.iload_n 1, 1) := by decide +kernel
theorem dX9_written_24 : decode cX9_written 24 = .ok (.iconst (-1), 1) := by decide +kernel
theorem dX9_written_25 : decode cX9_written 25 = .ok (.if_icmp .ne 11, 3) := by decide +kernel
theorem dX9_written_28 : decode cX9_written 28 = .ok (.aload_n 0, 1) := by decide +kernel
theorem dX9_written_29 : decode cX9_written 29 = .ok (.getfield 56, 3) := by decide +kernel
theorem dX9_written_32 : decode cX9_written 32 = .ok (.getfield 234, 3) := by decide +kernel
theorem dX9_written_35 : decode cX9_written 35 = .ok (.ireturn, 1) := by decide +kernel
theorem dX9_written_36 : decode cX9_written 36 = .ok (.iload_n 1, 1) := by decide +kernel
theorem dX9_written_37 : decode cX9_written 37 = .ok (.aload_n 0, 1) := by decide +kernel
theorem dX9_written_38 : decode cX9_written 38 = .ok (.getfield 56, 3) := by decide +kernel
theorem dX9_written_41 : decode cX9_written 41 = .ok (.getfield 234, 3) := by decide +kernel
theorem dX9_written_44 : decode cX9_written 44 = .ok (.if_icmp .ge 15, 3) := by decide +kernel
theorem dX9_written_47 : decode cX9_written 47 = .ok (.aload_n 0, 1) := by decide +kernel
theorem dX9_written_48 : decode cX9_written 48 = .ok (.getfield 56, 3) := by decide +kernel
theorem dX9_written_51 : decode cX9_written 51 = .ok (.getfield 235, 3) := by decide +kernel
theorem dX9_written_54 : decode cX9_written 54 = .ok (.iload_n 1, 1) := by decide +kernel
theorem dX9_written_55 : decode cX9_written 55 = .ok (.iaload, 1) := by decide +kernel
theorem dX9_written_56 : decode cX9_written 56 = .ok (.goto 5, 3) := by decide +kernel
theorem dX9_written_59 : decode cX9_written 59 = .ok (.bipush (-9), 2) := by decide +kernel
theorem dX9_written_61 : decode cX9_written 61 = .ok (.ireturn, 1) := by decide +kernel
theorem dX9_list_0 : decode cX9_list 0 = .ok (.iload_n 1, 1) := by decide +kernel
theorem dX9_list_1 : decode cX9_list 1 = .ok (.invokestatic 238, 3) := by decide +kernel
theorem dX9_list_4 : decode cX9_list 4 = .ok (.ifCond .ne 9, 3) := by decide +kernel
theorem dX9_list_7 : decode cX9_list 7 = .ok (.aload_n 0, 1) := by decide +kernel
theorem dX9_list_8 : decode cX9_list 8 = .ok (.iconst (-1), 1) := by decide +kernel
theorem dX9_list_9 : decode cX9_list 9 = .ok (.invokevirtual 77, 3) := by decide +kernel
theorem dX9_list_12 : decode cX9_list 12 = .ok (.ireturn, 1) := by decide +kernel
theorem dX9_list_13 : decode cX9_list 13 = .ok (.iload_n 2, 1) := by decide +kernel
theorem dX9_list_14 : decode cX9_list 14 = .ok (.bipush 40, 2) := by decide +kernel
theorem dX9_list_16 : decode cX9_list 16 = .ok (.if_icmp .le 10, 3) := by decide +kernel
theorem dX9_list_19 : decode cX9_list 19 = .ok (.aload_n 0, 1) := by decide +kernel
theorem dX9_list_20 : decode cX9_list 20 = .ok (.bipush (-6), 2) := by decide +kernel
theorem dX9_list_22 : decode cX9_list 22 = .ok (.invokevirtual 77, 3) := by decide +kernel
theorem dX9_list_25 : decode cX9_list 25 = .ok (.ireturn, 1) := by decide +kernel
theorem dX9_list_26 : decode cX9_list 26 = .ok (.iload_n 2, 1) := by decide +kernel
theorem dX9_list_27 : decode cX9_list 27 = .ok (.ifCond .ge 6, 3) := by decide +kernel
theorem dX9_list_30 : decode cX9_list 30 = .ok (.bipush (-14), 2) := by decide +kernel
theorem dX9_list_32 : decode cX9_list 32 = .ok (.ireturn, 1) := by decide +kernel
theorem dX9_list_33 : decode cX9_list 33 = .ok (.aload_n 0, 1) := by decide +kernel
theorem dX9_list_34 : decode cX9_list 34 = .ok (.getfield 63, 3) := by decide +kernel
theorem dX9_list_37 : decode cX9_list 37 = .ok (.iload_n 1, 1) := by decide +kernel
theorem dX9_list_38 : decode cX9_list 38 = .ok (.iload_n 2, 1) := by decide +kernel
theorem dX9_list_39 : decode cX9_list 39 = .ok (.invokevirtual 241, 3) := by decide +kernel
theorem dX9_list_42 : decode cX9_list 42 = .ok (.iconst 1, 1) := by decide +kernel
theorem dX9_list_43 : decode cX9_list 43 = .ok (.ireturn, 1) := by decide +kernel
theorem dX9_put_0 : decode cX9_put 0 = .ok (.aload_n 0, 1) := by decide +kernel
theorem dX9_put_1 : decode cX9_put 1 = .ok (.iload_n 1, 1) := by decide +kernel
theorem dX9_put_2 : decode cX9_put 2 = .ok (.iload_n 2, 1) := by decide +kernel
theorem dX9_put_3 : decode cX9_put 3 = .ok (.invokevirtual 244, 3) := by decide +kernel
theorem dX9_put_6 : decode cX9_put 6 = .ok (.istore 4, 2) := by decide +kernel
theorem dX9_put_8 : decode cX9_put 8 = .ok (.iload 4, 2) := by decide +kernel
theorem dX9_put_10 : decode cX9_put 10 = .ok (.ifCond .eq 6, 3) := by decide +kernel
theorem dX9_put_13 : decode cX9_put 13 = .ok (.iload 4, 2) := by decide +kernel
theorem dX9_put_15 : decode cX9_put 15 = .ok (.ireturn, 1) := by decide +kernel
theorem dX9_put_16 : decode cX9_put 16 = .ok (.aload_n 0, 1) := by decide +kernel
theorem dX9_put_17 : decode cX9_put 17 = .ok (.getfield 63, 3) := by decide +kernel
theorem dX9_put_20 : decode cX9_put 20 = .ok (.getfield 247, 3) := by decide +kernel
theorem dX9_put_23 : decode cX9_put 23 = .ok (.iload_n 1, 1) := by decide +kernel
theorem dX9_put_24 : decode cX9_put 24 = .ok (.aaload, 1) := by decide +kernel
theorem dX9_put_25 : decode cX9_put 25 = .ok (.iload_n 2, 1) := by decide +kernel
theorem dX9_put_26 : decode cX9_put 26 = .ok (.iload_n 3, 1) := by decide +kernel
theorem dX9_put_27 : decode cX9_put 27 = .ok (.iastore, 1) := by decide +kernel
theorem dX9_put_28 : decode cX9_put 28 = .ok (.iconst 1, 1) := by decide +kernel
theorem dX9_put_29 : decode cX9_put 29 = .ok (.ireturn, 1) := by decide +kernel
theorem dX9_look_0 : decode cX9_look 0 = .ok (.aload_n 0, 1) := by decide +kernel
theorem dX9_look_1 : decode cX9_look 1 = .ok (.iload_n 1, 1) := by decide +kernel
theorem dX9_look_2 : decode cX9_look 2 = .ok (.iload_n 2, 1) := by decide +kernel
theorem dX9_look_3 : decode cX9_look 3 = .ok (.invokevirtual 244, 3) := by decide +kernel
theorem dX9_look_6 : decode cX9_look 6 = .ok (.istore_n 3, 1) := by decide +kernel
theorem dX9_look_7 : decode cX9_look 7 = .ok (.iload_n 3, 1) := by decide +kernel
theorem dX9_look_8 : decode cX9_look 8 = .ok (.ifCond .eq 10, 3) := by decide +kernel
theorem dX9_look_11 : decode cX9_look 11 = .ok (.ldc2_w 201, 3) := by decide +kernel
theorem dX9_look_14 : decode cX9_look 14 = .ok (.iload_n 3, 1) := by decide +kernel
theorem dX9_look_15 : decode cX9_look 15 = .ok (.i2l, 1) := by decide +kernel
theorem dX9_look_16 : decode cX9_look 16 = .ok (.lsub, 1) := by decide +kernel
theorem dX9_look_17 : decode cX9_look 17 = .ok (.lreturn, 1) := by decide +kernel
theorem dX9_look_18 : decode cX9_look 18 = .ok (.aload_n 0, 1) := by decide +kernel
theorem dX9_look_19 : decode cX9_look 19 = .ok (.getfield 63, 3) := by decide +kernel
theorem dX9_look_22 : decode cX9_look 22 = .ok (.getfield 247, 3) := by decide +kernel
theorem dX9_look_25 : decode cX9_look 25 = .ok (.iload_n 1, 1) := by decide +kernel
theorem dX9_look_26 : decode cX9_look 26 = .ok (.aaload, 1) := by decide +kernel
theorem dX9_look_27 : decode cX9_look 27 = .ok (.iload_n 2, 1) := by decide +kernel
theorem dX9_look_28 : decode cX9_look 28 = .ok (.iaload, 1) := by decide +kernel
theorem dX9_look_29 : decode cX9_look 29 = .ok (.i2l, 1) := by decide +kernel
theorem dX9_look_30 : decode cX9_look 30 = .ok (.lreturn, 1) := by decide +kernel
theorem dX9_lays_0 : decode cX9_lays 0 = .ok (.aload_n 0, 1) := by decide +kernel
theorem dX9_lays_1 : decode cX9_lays 1 = .ok (.iload_n 1, 1) := by decide +kernel
theorem dX9_lays_2 : decode cX9_lays 2 = .ok (.invokevirtual 251, 3) := by decide +kernel
theorem dX9_lays_5 : decode cX9_lays 5 = .ok (.istore_n 3, 1) := by decide +kernel
theorem dX9_lays_6 : decode cX9_lays 6 = .ok (.iload_n 3, 1) := by decide +kernel
theorem dX9_lays_7 : decode cX9_lays 7 = .ok (.ifCond .eq 5, 3) := by decide +kernel
theorem dX9_lays_10 : decode cX9_lays 10 = .ok (.iload_n 3, 1) := by decide +kernel
theorem dX9_lays_11 : decode cX9_lays 11 = .ok (.ireturn, 1) := by decide +kernel
theorem dX9_lays_12 : decode cX9_lays 12 = .ok (.iload_n 2, 1) := by decide +kernel
theorem dX9_lays_13 : decode cX9_lays 13 = .ok (.ifCond .lt 24, 3) := by decide +kernel
theorem dX9_lays_16 : decode cX9_lays 16 = .ok (.iload_n 2, 1) := by decide +kernel
theorem dX9_lays_17 : decode cX9_lays 17 = .ok (.aload_n 0, 1) := by decide +kernel
theorem dX9_lays_18 : decode cX9_lays 18 = .ok (.getfield 63, 3) := by decide +kernel
theorem dX9_lays_21 : decode cX9_lays 21 = .ok (.getfield 254, 3) := by decide +kernel
theorem dX9_lays_24 : decode cX9_lays 24 = .ok (.iload_n 1, 1) := by decide +kernel
theorem dX9_lays_25 : decode cX9_lays 25 = .ok (.iaload, 1) := by decide +kernel
theorem dX9_lays_26 : decode cX9_lays 26 = .ok (.aload_n 0, 1) := by decide +kernel
theorem dX9_lays_27 : decode cX9_lays 27 = .ok (.getfield 10, 3) := by decide +kernel
theorem dX9_lays_30 : decode cX9_lays 30 = .ok (.getfield 96, 3) := by decide +kernel
theorem dX9_lays_33 : decode cX9_lays 33 = .ok (.isub, 1) := by decide +kernel
theorem dX9_lays_34 : decode cX9_lays 34 = .ok (.if_icmp .le 6, 3) := by decide +kernel
theorem dX9_lays_37 : decode cX9_lays 37 = .ok (.bipush (-13), 2) := by decide +kernel
theorem dX9_lays_39 : decode cX9_lays 39 = .ok (.ireturn, 1) := by decide +kernel
theorem dX9_lays_40 : decode cX9_lays 40 = .ok (.aload_n 0, 1) := by decide +kernel
theorem dX9_lays_41 : decode cX9_lays 41 = .ok (.getfield 10, 3) := by decide +kernel
theorem dX9_lays_44 : decode cX9_lays 44 = .ok (.aload_n 0, 1) := by decide +kernel
theorem dX9_lays_45 : decode cX9_lays 45 = .ok (.getfield 71, 3) := by decide +kernel
theorem dX9_lays_48 : decode cX9_lays 48 = .ok (.invokevirtual 155, 3) := by decide +kernel
theorem dX9_lays_51 : decode cX9_lays 51 = .ok (.aload_n 0, 1) := by decide +kernel
theorem dX9_lays_52 : decode cX9_lays 52 = .ok (.getfield 71, 3) := by decide +kernel
theorem dX9_lays_55 : decode cX9_lays 55 = .ok (.iconst 0, 1) := by decide +kernel
theorem dX9_lays_56 : decode cX9_lays 56 = .ok (.aload_n 0, 1) := by decide +kernel
theorem dX9_lays_57 : decode cX9_lays 57 = .ok (.getfield 63, 3) := by decide +kernel
theorem dX9_lays_60 : decode cX9_lays 60 = .ok (.getfield 247, 3) := by decide +kernel
theorem dX9_lays_63 : decode cX9_lays 63 = .ok (.iload_n 1, 1) := by decide +kernel
theorem dX9_lays_64 : decode cX9_lays 64 = .ok (.aaload, 1) := by decide +kernel
theorem dX9_lays_65 : decode cX9_lays 65 = .ok (.iload_n 2, 1) := by decide +kernel
theorem dX9_lays_66 : decode cX9_lays 66 = .ok (.aload_n 0, 1) := by decide +kernel
theorem dX9_lays_67 : decode cX9_lays 67 = .ok (.getfield 10, 3) := by decide +kernel
theorem dX9_lays_70 : decode cX9_lays 70 = .ok (.getfield 96, 3) := by decide +kernel
theorem dX9_lays_73 : decode cX9_lays 73 = .ok (.invokestatic 257, 3) := by decide +kernel
theorem dX9_lays_76 : decode cX9_lays 76 = .ok (.aload_n 0, 1) := by decide +kernel
theorem dX9_lays_77 : decode cX9_lays 77 = .ok (.getfield 10, 3) := by decide +kernel
theorem dX9_lays_80 : decode cX9_lays 80 = .ok (.getfield 96, 3) := by decide +kernel
theorem dX9_lays_83 : decode cX9_lays 83 = .ok (.ireturn, 1) := by decide +kernel
theorem dX9_judge_0 : decode cX9_judge 0 = .ok (.aload_n 0, 1) := by decide +kernel
theorem dX9_judge_1 : decode cX9_judge 1 = .ok (.iload_n 1, 1) := by decide +kernel
theorem dX9_judge_2 : decode cX9_judge 2 = .ok (.invokevirtual 251, 3) := by decide +kernel
theorem dX9_judge_5 : decode cX9_judge 5 = .ok (.istore_n 2, 1) := by decide +kernel
theorem dX9_judge_6 : decode cX9_judge 6 = .ok (.iload_n 2, 1) := by decide +kernel
theorem dX9_judge_7 : decode cX9_judge 7 = .ok (.ifCond .eq 5, 3) := by decide +kernel
theorem dX9_judge_10 : decode cX9_judge 10 = .ok (.iload_n 2, 1) := by decide +kernel
theorem dX9_judge_11 : decode cX9_judge 11 = .ok (.ireturn, 1) := by decide +kernel
theorem dX9_judge_12 : decode cX9_judge 12 = .ok (.aload_n 0, 1) := by decide +kernel
theorem dX9_judge_13 : decode cX9_judge 13 = .ok (.getfield 10, 3) := by decide +kernel
theorem dX9_judge_16 : decode cX9_judge 16 = .ok (.aload_n 0, 1) := by decide +kernel
theorem dX9_judge_17 : decode cX9_judge 17 = .ok (.getfield 71, 3) := by decide +kernel
theorem dX9_judge_20 : decode cX9_judge 20 = .ok (.invokevirtual 155, 3) := by decide +kernel
theorem dX9_judge_23 : decode cX9_judge 23 = .ok (.iconst 0, 1) := by decide +kernel
theorem dX9_judge_24 : decode cX9_judge 24 = .ok (.istore_n 3, 1) := by decide +kernel
theorem dX9_judge_25 : decode cX9_judge 25 = .ok (.iload_n 3, 1) := by decide +kernel
theorem dX9_judge_26 : decode cX9_judge 26 = .ok (.aload_n 0, 1) := by decide +kernel
theorem dX9_judge_27 : decode cX9_judge 27 = .ok (.getfield 63, 3) := by decide +kernel
theorem dX9_judge_30 : decode cX9_judge 30 = .ok (.getfield 254, 3) := by decide +kernel
theorem dX9_judge_33 : decode cX9_judge 33 = .ok (.iload_n 1, 1) := by decide +kernel
theorem dX9_judge_34 : decode cX9_judge 34 = .ok (.iaload, 1) := by decide +kernel
theorem dX9_judge_35 : decode cX9_judge 35 = .ok (.if_icmp .ge 42, 3) := by decide +kernel
theorem dX9_judge_38 : decode cX9_judge 38 = .ok (.iload_n 3, 1) := by decide +kernel
theorem dX9_judge_39 : decode cX9_judge 39 = .ok (.aload_n 0, 1) := by decide +kernel
theorem dX9_judge_40 : decode cX9_judge 40 = .ok (.getfield 10, 3) := by decide +kernel
theorem dX9_judge_43 : decode cX9_judge 43 = .ok (.getfield 96, 3) := by decide +kernel
theorem dX9_judge_46 : decode cX9_judge 46 = .ok (.if_icmp .ge 23, 3) := by decide +kernel
theorem dX9_judge_49 : decode cX9_judge 49 = .ok (.aload_n 0, 1) := by decide +kernel
theorem dX9_judge_50 : decode cX9_judge 50 = .ok (.getfield 63, 3) := by decide +kernel
theorem dX9_judge_53 : decode cX9_judge 53 = .ok (.getfield 247, 3) := by decide +kernel
theorem dX9_judge_56 : decode cX9_judge 56 = .ok (.iload_n 1, 1) := by decide +kernel
theorem dX9_judge_57 : decode cX9_judge 57 = .ok (.aaload, 1) := by decide +kernel
theorem dX9_judge_58 : decode cX9_judge 58 = .ok (.iload_n 3, 1) := by decide +kernel
theorem dX9_judge_59 : decode cX9_judge 59 = .ok (.iaload, 1) := by decide +kernel
theorem dX9_judge_60 : decode cX9_judge 60 = .ok (.aload_n 0, 1) := by decide +kernel
theorem dX9_judge_61 : decode cX9_judge 61 = .ok (.getfield 71, 3) := by decide +kernel
theorem dX9_judge_64 : decode cX9_judge 64 = .ok (.iload_n 3, 1) := by decide +kernel
theorem dX9_judge_65 : decode cX9_judge 65 = .ok (.iaload, 1) := by decide +kernel
theorem dX9_judge_66 : decode cX9_judge 66 = .ok (.if_icmp .eq 5, 3) := by decide +kernel
theorem dX9_judge_69 : decode cX9_judge 69 = .ok (.iload_n 3, 1) := by decide +kernel
theorem dX9_judge_70 : decode cX9_judge 70 = .ok (.ireturn, 1) := by decide +kernel
theorem dX9_judge_71 : decode cX9_judge 71 = .ok (.iinc 3 1, 3) := by decide +kernel
theorem dX9_judge_74 : decode cX9_judge 74 = .ok (.goto (-49), 3) := by decide +kernel
theorem dX9_judge_77 : decode cX9_judge 77 = .ok (.bipush (-9), 2) := by decide +kernel
theorem dX9_judge_79 : decode cX9_judge 79 = .ok (.ireturn, 1) := by decide +kernel
theorem dX9_gives_0 : decode cX9_gives 0 = .ok (.aload_n 0, 1) := by decide +kernel
theorem dX9_gives_1 : decode cX9_gives 1 = .ok (.iload_n 1, 1) := by decide +kernel
theorem dX9_gives_2 : decode cX9_gives 2 = .ok (.invokevirtual 251, 3) := by decide +kernel
theorem dX9_gives_5 : decode cX9_gives 5 = .ok (.istore_n 2, 1) := by decide +kernel
theorem dX9_gives_6 : decode cX9_gives 6 = .ok (.iload_n 2, 1) := by decide +kernel
theorem dX9_gives_7 : decode cX9_gives 7 = .ok (.ifCond .eq 5, 3) := by decide +kernel
theorem dX9_gives_10 : decode cX9_gives 10 = .ok (.iload_n 2, 1) := by decide +kernel
theorem dX9_gives_11 : decode cX9_gives 11 = .ok (.ireturn, 1) := by decide +kernel
theorem dX9_gives_12 : decode cX9_gives 12 = .ok (.aload_n 0, 1) := by decide +kernel
theorem dX9_gives_13 : decode cX9_gives 13 = .ok (.getfield 63, 3) := by decide +kernel
theorem dX9_gives_16 : decode cX9_gives 16 = .ok (.getfield 254, 3) := by decide +kernel
theorem dX9_gives_19 : decode cX9_gives 19 = .ok (.iload_n 1, 1) := by decide +kernel
theorem dX9_gives_20 : decode cX9_gives 20 = .ok (.iaload, 1) := by decide +kernel
theorem dX9_gives_21 : decode cX9_gives 21 = .ok (.aload_n 0, 1) := by decide +kernel
theorem dX9_gives_22 : decode cX9_gives 22 = .ok (.getfield 10, 3) := by decide +kernel
theorem dX9_gives_25 : decode cX9_gives 25 = .ok (.getfield 109, 3) := by decide +kernel
theorem dX9_gives_28 : decode cX9_gives 28 = .ok (.if_icmp .ne 17, 3) := by decide +kernel
theorem dX9_gives_31 : decode cX9_gives 31 = .ok (.aload_n 0, 1) := by decide +kernel
theorem dX9_gives_32 : decode cX9_gives 32 = .ok (.getfield 63, 3) := by decide +kernel
theorem dX9_gives_35 : decode cX9_gives 35 = .ok (.iload_n 1, 1) := by decide +kernel
theorem dX9_gives_36 : decode cX9_gives 36 = .ok (.iconst 0, 1) := by decide +kernel
theorem dX9_gives_37 : decode cX9_gives 37 = .ok (.bipush 99, 2) := by decide +kernel
theorem dX9_gives_39 : decode cX9_gives 39 = .ok (.invokevirtual 263, 3) := by decide +kernel
theorem dX9_gives_42 : decode cX9_gives 42 = .ok (.ifCond .ne 10, 3) := by decide +kernel
theorem dX9_gives_45 : decode cX9_gives 45 = .ok (.aload_n 0, 1) := by decide +kernel
theorem dX9_gives_46 : decode cX9_gives 46 = .ok (.bipush (-3), 2) := by decide +kernel
theorem dX9_gives_48 : decode cX9_gives 48 = .ok (.invokevirtual 77, 3) := by decide +kernel
theorem dX9_gives_51 : decode cX9_gives 51 = .ok (.ireturn, 1) := by decide +kernel
theorem dX9_gives_52 : decode cX9_gives 52 = .ok (.aload_n 0, 1) := by decide +kernel
theorem dX9_gives_53 : decode cX9_gives 53 = .ok (.getfield 26, 3) := by decide +kernel
theorem dX9_gives_56 : decode cX9_gives 56 = .ok (.aload_n 0, 1) := by decide +kernel
theorem dX9_gives_57 : decode cX9_gives 57 = .ok (.getfield 10, 3) := by decide +kernel
theorem dX9_gives_60 : decode cX9_gives 60 = .ok (.invokevirtual 118, 3) := by decide +kernel
theorem dX9_gives_63 : decode cX9_gives 63 = .ok (.aload_n 0, 1) := by decide +kernel
theorem dX9_gives_64 : decode cX9_gives 64 = .ok (.getfield 63, 3) := by decide +kernel
theorem dX9_gives_67 : decode cX9_gives 67 = .ok (.getfield 247, 3) := by decide +kernel
theorem dX9_gives_70 : decode cX9_gives 70 = .ok (.iload_n 1, 1) := by decide +kernel
theorem dX9_gives_71 : decode cX9_gives 71 = .ok (.aaload, 1) := by decide +kernel
theorem dX9_gives_72 : decode cX9_gives 72 = .ok (.iconst 0, 1) := by decide +kernel
theorem dX9_gives_73 : decode cX9_gives 73 = .ok (.aload_n 0, 1) := by decide +kernel
theorem dX9_gives_74 : decode cX9_gives 74 = .ok (.getfield 10, 3) := by decide +kernel
theorem dX9_gives_77 : decode cX9_gives 77 = .ok (.getfield 121, 3) := by decide +kernel
theorem dX9_gives_80 : decode cX9_gives 80 = .ok (.iconst 0, 1) := by decide +kernel
theorem dX9_gives_81 : decode cX9_gives 81 = .ok (.aload_n 0, 1) := by decide +kernel
theorem dX9_gives_82 : decode cX9_gives 82 = .ok (.getfield 10, 3) := by decide +kernel
theorem dX9_gives_85 : decode cX9_gives 85 = .ok (.getfield 109, 3) := by decide +kernel
theorem dX9_gives_88 : decode cX9_gives 88 = .ok (.invokestatic 257, 3) := by decide +kernel
theorem dX9_gives_91 : decode cX9_gives 91 = .ok (.aload_n 0, 1) := by decide +kernel
theorem dX9_gives_92 : decode cX9_gives 92 = .ok (.getfield 10, 3) := by decide +kernel
theorem dX9_gives_95 : decode cX9_gives 95 = .ok (.getfield 109, 3) := by decide +kernel
theorem dX9_gives_98 : decode cX9_gives 98 = .ok (.ireturn, 1) := by decide +kernel
theorem dX9_rules_0 : decode cX9_rules 0 = .ok (.aload_n 0, 1) := by decide +kernel
theorem dX9_rules_1 : decode cX9_rules 1 = .ok (.iload_n 1, 1) := by decide +kernel
theorem dX9_rules_2 : decode cX9_rules 2 = .ok (.invokevirtual 251, 3) := by decide +kernel
theorem dX9_rules_5 : decode cX9_rules 5 = .ok (.istore_n 2, 1) := by decide +kernel
theorem dX9_rules_6 : decode cX9_rules 6 = .ok (.iload_n 2, 1) := by decide +kernel
theorem dX9_rules_7 : decode cX9_rules 7 = .ok (.ifCond .eq 5, 3) := by decide +kernel
theorem dX9_rules_10 : decode cX9_rules 10 = .ok (.iload_n 2, 1) := by decide +kernel
theorem dX9_rules_11 : decode cX9_rules 11 = .ok (.ireturn, 1) := by decide +kernel
theorem dX9_rules_12 : decode cX9_rules 12 = .ok (.aload_n 0, 1) := by decide +kernel
theorem dX9_rules_13 : decode cX9_rules 13 = .ok (.getfield 63, 3) := by decide +kernel
theorem dX9_rules_16 : decode cX9_rules 16 = .ok (.getfield 254, 3) := by decide +kernel
theorem dX9_rules_19 : decode cX9_rules 19 = .ok (.iload_n 1, 1) := by decide +kernel
theorem dX9_rules_20 : decode cX9_rules 20 = .ok (.iaload, 1) := by decide +kernel
theorem dX9_rules_21 : decode cX9_rules 21 = .ok (.istore_n 3, 1) := by decide +kernel
theorem dX9_rules_22 : decode cX9_rules 22 = .ok (.iload_n 3, 1) := by decide +kernel
theorem dX9_rules_23 : decode cX9_rules 23 = .ok (.iconst 1, 1) := by decide +kernel
theorem dX9_rules_24 : decode cX9_rules 24 = .ok (.if_icmp .lt 9, 3) := by decide +kernel
theorem dX9_rules_27 : decode cX9_rules 27 = .ok (.iload_n 3, 1) := by decide +kernel
theorem dX9_rules_28 : decode cX9_rules 28 = .ok (.bipush 7, 2) := by decide +kernel
theorem dX9_rules_30 : decode cX9_rules 30 = .ok (.if_icmp .le 10, 3) := by decide +kernel
theorem dX9_rules_33 : decode cX9_rules 33 = .ok (.aload_n 0, 1) := by decide +kernel
theorem dX9_rules_34 : decode cX9_rules 34 = .ok (.bipush (-3), 2) := by decide +kernel
theorem dX9_rules_36 : decode cX9_rules 36 = .ok (.invokevirtual 77, 3) := by decide +kernel
theorem dX9_rules_39 : decode cX9_rules 39 = .ok (.ireturn, 1) := by decide +kernel
theorem dX9_rules_40 : decode cX9_rules 40 = .ok (.iconst 0, 1) := by decide +kernel
theorem dX9_rules_41 : decode cX9_rules 41 = .ok (.istore 4, 2) := by decide +kernel
theorem dX9_rules_43 : decode cX9_rules 43 = .ok (.iconst 0, 1) := by decide +kernel
theorem dX9_rules_44 : decode cX9_rules 44 = .ok (.istore 5, 2) := by decide +kernel
theorem dX9_rules_46 : decode cX9_rules 46 = .ok (.iload 5, 2) := by decide +kernel
theorem dX9_rules_48 : decode cX9_rules 48 = .ok (.bipush 6, 2) := by decide +kernel
theorem dX9_rules_50 : decode cX9_rules 50 = .ok (.if_icmp .ge 36, 3) := by decide +kernel
theorem dX9_rules_53 : decode cX9_rules 53 = .ok (.iload 5, 2) := by decide +kernel
theorem dX9_rules_55 : decode cX9_rules 55 = .ok (.aload_n 0, 1) := by decide +kernel
theorem dX9_rules_56 : decode cX9_rules 56 = .ok (.getfield 63, 3) := by decide +kernel
theorem dX9_rules_59 : decode cX9_rules 59 = .ok (.getfield 247, 3) := by decide +kernel
theorem dX9_rules_62 : decode cX9_rules 62 = .ok (.iload_n 1, 1) := by decide +kernel
theorem dX9_rules_63 : decode cX9_rules 63 = .ok (.aaload, 1) := by decide +kernel
theorem dX9_rules_64 : decode cX9_rules 64 = .ok (.iload_n 3, 1) := by decide +kernel
theorem dX9_rules_65 : decode cX9_rules 65 = .ok (.invokestatic 168, 3) := by decide +kernel
theorem dX9_rules_68 : decode cX9_rules 68 = .ok (.ifCond .eq 12, 3) := by decide +kernel
theorem dX9_rules_71 : decode cX9_rules 71 = .ok (.iload 4, 2) := by decide +kernel
theorem dX9_rules_73 : decode cX9_rules 73 = .ok (.iconst 1, 1) := by decide +kernel
theorem dX9_rules_74 : decode cX9_rules 74 = .ok (.iload 5, 2) := by decide +kernel
theorem dX9_rules_76 : decode cX9_rules 76 = .ok (.ishl, 1) := by decide +kernel
theorem dX9_rules_77 : decode cX9_rules 77 = .ok (.ior, 1) := by decide +kernel
theorem dX9_rules_78 : decode cX9_rules 78 = .ok (.istore 4, 2) := by decide +kernel
theorem dX9_rules_80 : decode cX9_rules 80 = .ok (.iinc 5 1, 3) := by decide +kernel
theorem dX9_rules_83 : decode cX9_rules 83 = .ok (.goto (-37), 3) := by decide +kernel
theorem dX9_rules_86 : decode cX9_rules 86 = .ok (.iload 4, 2) := by decide +kernel
theorem dX9_rules_88 : decode cX9_rules 88 = .ok (.ireturn, 1) := by decide +kernel
theorem dX9_undo_0 : decode cX9_undo 0 = .ok (.aload_n 0, 1) := by decide +kernel
theorem dX9_undo_1 : decode cX9_undo 1 = .ok (.getfield 26, 3) := by decide +kernel
theorem dX9_undo_4 : decode cX9_undo 4 = .ok (.getfield 267, 3) := by decide +kernel
theorem dX9_undo_7 : decode cX9_undo 7 = .ok (.iconst 1, 1) := by decide +kernel
theorem dX9_undo_8 : decode cX9_undo 8 = .ok (.if_icmp .ge 10, 3) := by decide +kernel
theorem dX9_undo_11 : decode cX9_undo 11 = .ok (.aload_n 0, 1) := by decide +kernel
theorem dX9_undo_12 : decode cX9_undo 12 = .ok (.bipush (-3), 2) := by decide +kernel
theorem dX9_undo_14 : decode cX9_undo 14 = .ok (.invokevirtual 77, 3) := by decide +kernel
theorem dX9_undo_17 : decode cX9_undo 17 = .ok (.ireturn, 1) := by decide +kernel
theorem dX9_undo_18 : decode cX9_undo 18 = .ok (.aload_n 0, 1) := by decide +kernel
theorem dX9_undo_19 : decode cX9_undo 19 = .ok (.getfield 26, 3) := by decide +kernel
theorem dX9_undo_22 : decode cX9_undo 22 = .ok (.aload_n 0, 1) := by decide +kernel
theorem dX9_undo_23 : decode cX9_undo 23 = .ok (.getfield 10, 3) := by decide +kernel
theorem dX9_undo_26 : decode cX9_undo 26 = .ok (.invokevirtual 268, 3) := by decide +kernel
theorem dX9_undo_29 : decode cX9_undo 29 = .ok (.aload_n 0, 1) := by decide +kernel
theorem dX9_undo_30 : decode cX9_undo 30 = .ok (.getfield 26, 3) := by decide +kernel
theorem dX9_undo_33 : decode cX9_undo 33 = .ok (.getfield 267, 3) := by decide +kernel
theorem dX9_undo_36 : decode cX9_undo 36 = .ok (.ireturn, 1) := by decide +kernel
theorem dX9_image_0 : decode cX9_image 0 = .ok (.aload_n 0, 1) := by decide +kernel
theorem dX9_image_1 : decode cX9_image 1 = .ok (.getfield 16, 3) := by decide +kernel
theorem dX9_image_4 : decode cX9_image 4 = .ok (.aload_n 0, 1) := by decide +kernel
theorem dX9_image_5 : decode cX9_image 5 = .ok (.getfield 10, 3) := by decide +kernel
theorem dX9_image_8 : decode cX9_image 8 = .ok (.invokevirtual 271, 3) := by decide +kernel
theorem dX9_image_11 : decode cX9_image 11 = .ok (.aload_n 0, 1) := by decide +kernel
theorem dX9_image_12 : decode cX9_image 12 = .ok (.iconst 1, 1) := by decide +kernel
theorem dX9_image_13 : decode cX9_image 13 = .ok (.putfield 19, 3) := by decide +kernel
theorem dX9_image_16 : decode cX9_image 16 = .ok (.aload_n 0, 1) := by decide +kernel
theorem dX9_image_17 : decode cX9_image 17 = .ok (.getfield 16, 3) := by decide +kernel
theorem dX9_image_20 : decode cX9_image 20 = .ok (.getfield 109, 3) := by decide +kernel
theorem dX9_image_23 : decode cX9_image 23 = .ok (.ireturn, 1) := by decide +kernel
theorem dX9_on_0 : decode cX9_on 0 = .ok (.aload_n 0, 1) := by decide +kernel
theorem dX9_on_1 : decode cX9_on 1 = .ok (.getfield 19, 3) := by decide +kernel
theorem dX9_on_4 : decode cX9_on 4 = .ok (.ifCond .ne 10, 3) := by decide +kernel
theorem dX9_on_7 : decode cX9_on 7 = .ok (.aload_n 0, 1) := by decide +kernel
theorem dX9_on_8 : decode cX9_on 8 = .ok (.bipush (-3), 2) := by decide +kernel
theorem dX9_on_10 : decode cX9_on 10 = .ok (.invokevirtual 77, 3) := by decide +kernel
theorem dX9_on_13 : decode cX9_on 13 = .ok (.ireturn, 1) := by decide +kernel
theorem dX9_on_14 : decode cX9_on 14 = .ok (.aload_n 0, 1) := by decide +kernel
theorem dX9_on_15 : decode cX9_on 15 = .ok (.getfield 10, 3) := by decide +kernel
theorem dX9_on_18 : decode cX9_on 18 = .ok (.aload_n 0, 1) := by decide +kernel
theorem dX9_on_19 : decode cX9_on 19 = .ok (.getfield 16, 3) := by decide +kernel
theorem dX9_on_22 : decode cX9_on 22 = .ok (.invokevirtual 271, 3) := by decide +kernel
theorem dX9_on_25 : decode cX9_on 25 = .ok (.aload_n 0, 1) := by decide +kernel
theorem dX9_on_26 : decode cX9_on 26 = .ok (.getfield 26, 3) := by decide +kernel
theorem dX9_on_29 : decode cX9_on 29 = .ok (.invokevirtual 93, 3) := by decide +kernel
theorem dX9_on_32 : decode cX9_on 32 = .ok (.aload_n 0, 1) := by decide +kernel
theorem dX9_on_33 : decode cX9_on 33 = .ok (.getfield 10, 3) := by decide +kernel
theorem dX9_on_36 : decode cX9_on 36 = .ok (.getfield 109, 3) := by decide +kernel
theorem dX9_on_39 : decode cX9_on 39 = .ok (.ireturn, 1) := by decide +kernel
theorem dX9_count_0 : decode cX9_count 0 = .ok (.iload_n 1, 1) := by decide +kernel
theorem dX9_count_1 : decode cX9_count 1 = .ok (.tableswitch 85 0 4 #[35, 43, 51, 59, 67], 35) := by decide +kernel
theorem dX9_count_36 : decode cX9_count 36 = .ok (.aload_n 0, 1) := by decide +kernel
theorem dX9_count_37 : decode cX9_count 37 = .ok (.getfield 10, 3) := by decide +kernel
theorem dX9_count_40 : decode cX9_count 40 = .ok (.getfield 96, 3) := by decide +kernel
theorem dX9_count_43 : decode cX9_count 43 = .ok (.ireturn, 1) := by decide +kernel
theorem dX9_count_44 : decode cX9_count 44 = .ok (.aload_n 0, 1) := by decide +kernel
theorem dX9_count_45 : decode cX9_count 45 = .ok (.getfield 10, 3) := by decide +kernel
theorem dX9_count_48 : decode cX9_count 48 = .ok (.getfield 109, 3) := by decide +kernel
theorem dX9_count_51 : decode cX9_count 51 = .ok (.ireturn, 1) := by decide +kernel
theorem dX9_count_52 : decode cX9_count 52 = .ok (.aload_n 0, 1) := by decide +kernel
theorem dX9_count_53 : decode cX9_count 53 = .ok (.getfield 49, 3) := by decide +kernel
theorem dX9_count_56 : decode cX9_count 56 = .ok (.getfield 81, 3) := by decide +kernel
theorem dX9_count_59 : decode cX9_count 59 = .ok (.ireturn, 1) := by decide +kernel
theorem dX9_count_60 : decode cX9_count 60 = .ok (.aload_n 0, 1) := by decide +kernel
theorem dX9_count_61 : decode cX9_count 61 = .ok (.getfield 26, 3) := by decide +kernel
theorem dX9_count_64 : decode cX9_count 64 = .ok (.getfield 267, 3) := by decide +kernel
theorem dX9_count_67 : decode cX9_count 67 = .ok (.ireturn, 1) := by decide +kernel
theorem dX9_count_68 : decode cX9_count 68 = .ok (.aload_n 0, 1) := by decide +kernel
theorem dX9_count_69 : decode cX9_count 69 = .ok (.getfield 10, 3) := by decide +kernel
theorem dX9_count_72 : decode cX9_count 72 = .ok (.getfield 121, 3) := by decide +kernel
theorem dX9_count_75 : decode cX9_count 75 = .ok (.aload_n 0, 1) := by decide +kernel
theorem dX9_count_76 : decode cX9_count 76 = .ok (.getfield 10, 3) := by decide +kernel
theorem dX9_count_79 : decode cX9_count 79 = .ok (.getfield 109, 3) := by decide +kernel
theorem dX9_count_82 : decode cX9_count 82 = .ok (.invokestatic 159, 3) := by decide +kernel
theorem dX9_count_85 : decode cX9_count 85 = .ok (.ireturn, 1) := by decide +kernel
theorem dX9_count_86 : decode cX9_count 86 = .ok (.iload_n 1, 1) := by decide +kernel
theorem dX9_count_87 : decode cX9_count 87 = .ok (.bipush 11, 2) := by decide +kernel
theorem dX9_count_89 : decode cX9_count 89 = .ok (.if_icmp .lt 21, 3) := by decide +kernel
theorem dX9_count_92 : decode cX9_count 92 = .ok (.iload_n 1, 1) := by decide +kernel
theorem dX9_count_93 : decode cX9_count 93 = .ok (.bipush 16, 2) := by decide +kernel
theorem dX9_count_95 : decode cX9_count 95 = .ok (.if_icmp .gt 15, 3) := by decide +kernel
theorem dX9_count_98 : decode cX9_count 98 = .ok (.aload_n 0, 1) := by decide +kernel
theorem dX9_count_99 : decode cX9_count 99 = .ok (.getfield 67, 3) := by decide +kernel
theorem dX9_count_102 : decode cX9_count 102 = .ok (.iload_n 1, 1) := by decide +kernel
theorem dX9_count_103 : decode cX9_count 103 = .ok (.bipush 10, 2) := by decide +kernel
theorem dX9_count_105 : decode cX9_count 105 = .ok (.isub, 1) := by decide +kernel
theorem dX9_count_106 : decode cX9_count 106 = .ok (.iaload, 1) := by decide +kernel
theorem dX9_count_107 : decode cX9_count 107 = .ok (.goto 5, 3) := by decide +kernel
theorem dX9_count_110 : decode cX9_count 110 = .ok (.bipush (-9), 2) := by decide +kernel
theorem dX9_count_112 : decode cX9_count 112 = .ok (.ireturn, 1) := by decide +kernel
theorem dX9_refused_0 : decode cX9_refused 0 = .ok (.iload_n 1, 1) := by decide +kernel
theorem dX9_refused_1 : decode cX9_refused 1 = .ok (.ifCond .ge 24, 3) := by decide +kernel
theorem dX9_refused_4 : decode cX9_refused 4 = .ok (.iload_n 1, 1) := by decide +kernel
theorem dX9_refused_5 : decode cX9_refused 5 = .ok (.aload_n 0, 1) := by decide +kernel
theorem dX9_refused_6 : decode cX9_refused 6 = .ok (.getfield 67, 3) := by decide +kernel
theorem dX9_refused_9 : decode cX9_refused 9 = .ok (.arraylength, 1) := by decide +kernel
theorem dX9_refused_10 : decode cX9_refused 10 = .ok (.ineg, 1) := by decide +kernel
theorem dX9_refused_11 : decode cX9_refused 11 = .ok (.if_icmp .le 14, 3) := by decide +kernel
theorem dX9_refused_14 : decode cX9_refused 14 = .ok (.aload_n 0, 1) := by decide +kernel
theorem dX9_refused_15 : decode cX9_refused 15 = .ok (.getfield 67, 3) := by decide +kernel
theorem dX9_refused_18 : decode cX9_refused 18 = .ok (.iload_n 1, 1) := by decide +kernel
theorem dX9_refused_19 : decode cX9_refused 19 = .ok (.ineg, 1) := by decide +kernel
theorem dX9_refused_20 : decode cX9_refused 20 = .ok (.dup2, 1) := by decide +kernel
theorem dX9_refused_21 : decode cX9_refused 21 = .ok (.iaload, 1) := by decide +kernel
theorem dX9_refused_22 : decode cX9_refused 22 = .ok (.iconst 1, 1) := by decide +kernel
theorem dX9_refused_23 : decode cX9_refused 23 = .ok (.iadd, 1) := by decide +kernel
theorem dX9_refused_24 : decode cX9_refused 24 = .ok (.iastore, 1) := by decide +kernel
theorem dX9_refused_25 : decode cX9_refused 25 = .ok (.iload_n 1, 1) := by decide +kernel
theorem dX9_refused_26 : decode cX9_refused 26 = .ok (.ireturn, 1) := by decide +kernel
theorem dX9_refusalOfList_0 : decode cX9_refusalOfList 0 = .ok (.iload_n 1, 1) := by decide +kernel
theorem dX9_refusalOfList_1 : decode cX9_refusalOfList 1 = .ok (.invokestatic 238, 3) := by decide +kernel
theorem dX9_refusalOfList_4 : decode cX9_refusalOfList 4 = .ok (.ifCond .ne 9, 3) := by decide +kernel
theorem dX9_refusalOfList_7 : decode cX9_refusalOfList 7 = .ok (.aload_n 0, 1) := by decide +kernel
theorem dX9_refusalOfList_8 : decode cX9_refusalOfList 8 = .ok (.iconst (-1), 1) := by decide +kernel
theorem dX9_refusalOfList_9 : decode cX9_refusalOfList 9 = .ok (.invokevirtual 77, 3) := by decide +kernel
theorem dX9_refusalOfList_12 : decode cX9_refusalOfList 12 = .ok (.ireturn, 1) := by decide +kernel
theorem dX9_refusalOfList_13 : decode cX9_refusalOfList 13 = .ok (.aload_n 0, 1) := by decide +kernel
theorem dX9_refusalOfList_14 : decode cX9_refusalOfList 14 = .ok (.getfield 63, 3) := by decide +kernel
theorem dX9_refusalOfList_17 : decode cX9_refusalOfList 17 = .ok (.iload_n 1, 1) := by decide +kernel
theorem dX9_refusalOfList_18 : decode cX9_refusalOfList 18 = .ok (.invokevirtual 274, 3) := by decide +kernel
theorem dX9_refusalOfList_21 : decode cX9_refusalOfList 21 = .ok (.ifCond .eq 8, 3) := by decide +kernel
theorem dX9_refusalOfList_24 : decode cX9_refusalOfList 24 = .ok (.bipush (-11), 2) := by decide +kernel
theorem dX9_refusalOfList_26 : decode cX9_refusalOfList 26 = .ok (.goto 4, 3) := by decide +kernel
theorem dX9_refusalOfList_29 : decode cX9_refusalOfList 29 = .ok (.iconst 0, 1) := by decide +kernel
theorem dX9_refusalOfList_30 : decode cX9_refusalOfList 30 = .ok (.ireturn, 1) := by decide +kernel
theorem dX9_refusalOfPlace_0 : decode cX9_refusalOfPlace 0 = .ok (.aload_n 0, 1) := by decide +kernel
theorem dX9_refusalOfPlace_1 : decode cX9_refusalOfPlace 1 = .ok (.iload_n 1, 1) := by decide +kernel
theorem dX9_refusalOfPlace_2 : decode cX9_refusalOfPlace 2 = .ok (.invokevirtual 251, 3) := by decide +kernel
theorem dX9_refusalOfPlace_5 : decode cX9_refusalOfPlace 5 = .ok (.istore_n 3, 1) := by decide +kernel
theorem dX9_refusalOfPlace_6 : decode cX9_refusalOfPlace 6 = .ok (.iload_n 3, 1) := by decide +kernel
theorem dX9_refusalOfPlace_7 : decode cX9_refusalOfPlace 7 = .ok (.ifCond .eq 5, 3) := by decide +kernel
theorem dX9_refusalOfPlace_10 : decode cX9_refusalOfPlace 10 = .ok (.iload_n 3, 1) := by decide +kernel
theorem dX9_refusalOfPlace_11 : decode cX9_refusalOfPlace 11 = .ok (.ireturn, 1) := by decide +kernel
theorem dX9_refusalOfPlace_12 : decode cX9_refusalOfPlace 12 = .ok (.iload_n 2, 1) := by decide +kernel
theorem dX9_refusalOfPlace_13 : decode cX9_refusalOfPlace 13 = .ok (.ifCond .lt 16, 3) := by decide +kernel
theorem dX9_refusalOfPlace_16 : decode cX9_refusalOfPlace 16 = .ok (.iload_n 2, 1) := by decide +kernel
theorem dX9_refusalOfPlace_17 : decode cX9_refusalOfPlace 17 = .ok (.aload_n 0, 1) := by decide +kernel
theorem dX9_refusalOfPlace_18 : decode cX9_refusalOfPlace 18 = .ok (.getfield 63, 3) := by decide +kernel
theorem dX9_refusalOfPlace_21 : decode cX9_refusalOfPlace 21 = .ok (.getfield 254, 3) := by decide +kernel
theorem dX9_refusalOfPlace_24 : decode cX9_refusalOfPlace 24 = .ok (.iload_n 1, 1) := by decide +kernel
theorem dX9_refusalOfPlace_25 : decode cX9_refusalOfPlace 25 = .ok (.iaload, 1) := by decide +kernel
theorem dX9_refusalOfPlace_26 : decode cX9_refusalOfPlace 26 = .ok (.if_icmp .lt 8, 3) := by decide +kernel
theorem dX9_refusalOfPlace_29 : decode cX9_refusalOfPlace 29 = .ok (.bipush (-13), 2) := by decide +kernel
theorem dX9_refusalOfPlace_31 : decode cX9_refusalOfPlace 31 = .ok (.goto 4, 3) := by decide +kernel
theorem dX9_refusalOfPlace_34 : decode cX9_refusalOfPlace 34 = .ok (.iconst 0, 1) := by decide +kernel
theorem dX9_refusalOfPlace_35 : decode cX9_refusalOfPlace 35 = .ok (.ireturn, 1) := by decide +kernel
theorem dX9_found_0 : decode cX9_found 0 = .ok (.iload_n 2, 1) := by decide +kernel
theorem dX9_found_1 : decode cX9_found 1 = .ok (.iconst (-1), 1) := by decide +kernel
theorem dX9_found_2 : decode cX9_found 2 = .ok (.if_icmp .ne 5, 3) := by decide +kernel
theorem dX9_found_5 : decode cX9_found 5 = .ok (.iload_n 1, 1) := by decide +kernel
theorem dX9_found_6 : decode cX9_found 6 = .ok (.ireturn, 1) := by decide +kernel
theorem dX9_found_7 : decode cX9_found 7 = .ok (.iload_n 1, 1) := by decide +kernel
theorem dX9_found_8 : decode cX9_found 8 = .ok (.iload_n 2, 1) := by decide +kernel
theorem dX9_found_9 : decode cX9_found 9 = .ok (.if_icmp .le 15, 3) := by decide +kernel
theorem dX9_found_12 : decode cX9_found 12 = .ok (.aload_n 0, 1) := by decide +kernel
theorem dX9_found_13 : decode cX9_found 13 = .ok (.getfield 35, 3) := by decide +kernel
theorem dX9_found_16 : decode cX9_found 16 = .ok (.getfield 277, 3) := by decide +kernel
theorem dX9_found_19 : decode cX9_found 19 = .ok (.iload_n 3, 1) := by decide +kernel
theorem dX9_found_20 : decode cX9_found 20 = .ok (.iaload, 1) := by decide +kernel
theorem dX9_found_21 : decode cX9_found 21 = .ok (.goto 5, 3) := by decide +kernel
theorem dX9_found_24 : decode cX9_found 24 = .ok (.bipush (-9), 2) := by decide +kernel
theorem dX9_found_26 : decode cX9_found 26 = .ok (.ireturn, 1) := by decide +kernel
theorem dX9_fillMagicRow_0 : decode cX9_fillMagicRow 0 = .ok (.iload_n 1, 1) := by decide +kernel
theorem dX9_fillMagicRow_1 : decode cX9_fillMagicRow 1 = .ok (.istore_n 3, 1) := by decide +kernel
theorem dX9_fillMagicRow_2 : decode cX9_fillMagicRow 2 = .ok (.iload_n 3, 1) := by decide +kernel
theorem dX9_fillMagicRow_3 : decode cX9_fillMagicRow 3 = .ok (.iload_n 2, 1) := by decide +kernel
theorem dX9_fillMagicRow_4 : decode cX9_fillMagicRow 4 = .ok (.if_icmp .gt 24, 3) := by decide +kernel
theorem dX9_fillMagicRow_7 : decode cX9_fillMagicRow 7 = .ok (.aload_n 0, 1) := by decide +kernel
theorem dX9_fillMagicRow_8 : decode cX9_fillMagicRow 8 = .ok (.getfield 74, 3) := by decide +kernel
theorem dX9_fillMagicRow_11 : decode cX9_fillMagicRow 11 = .ok (.iload_n 3, 1) := by decide +kernel
theorem dX9_fillMagicRow_12 : decode cX9_fillMagicRow 12 = .ok (.aload_n 0, 1) := by decide +kernel
theorem dX9_fillMagicRow_13 : decode cX9_fillMagicRow 13 = .ok (.getfield 35, 3) := by decide +kernel
theorem dX9_fillMagicRow_16 : decode cX9_fillMagicRow 16 = .ok (.iload_n 3, 1) := by decide +kernel
theorem dX9_fillMagicRow_17 : decode cX9_fillMagicRow 17 = .ok (.iconst (-1), 1) := by decide +kernel
theorem dX9_fillMagicRow_18 : decode cX9_fillMagicRow 18 = .ok (.invokevirtual 183, 3) := by decide +kernel
theorem dX9_fillMagicRow_21 : decode cX9_fillMagicRow 21 = .ok (.iastore, 1) := by decide +kernel
theorem dX9_fillMagicRow_22 : decode cX9_fillMagicRow 22 = .ok (.iinc 3 1, 3) := by decide +kernel
theorem dX9_fillMagicRow_25 : decode cX9_fillMagicRow 25 = .ok (.goto (-23), 3) := by decide +kernel
theorem dX9_fillMagicRow_28 : decode cX9_fillMagicRow 28 = .ok (.return_, 1) := by decide +kernel
theorem dX9_becomeDifferences_0 : decode cX9_becomeDifferences 0 = .ok (.iload_n 1, 1) := by decide +kernel
theorem dX9_becomeDifferences_1 : decode cX9_becomeDifferences 1 = .ok (.istore_n 3, 1) := by decide +kernel
theorem dX9_becomeDifferences_2 : decode cX9_becomeDifferences 2 = .ok (.iload_n 3, 1) := by decide +kernel
theorem dX9_becomeDifferences_3 : decode cX9_becomeDifferences 3 = .ok (.iload_n 2, 1) := by decide +kernel
theorem dX9_becomeDifferences_4 : decode cX9_becomeDifferences 4 = .ok (.if_icmp .ge 30, 3) := by decide +kernel
theorem dX9_becomeDifferences_7 : decode cX9_becomeDifferences 7 = .ok (.aload_n 0, 1) := by decide +kernel
theorem dX9_becomeDifferences_8 : decode cX9_becomeDifferences 8 = .ok (.getfield 74, 3) := by decide +kernel
theorem dX9_becomeDifferences_11 : decode cX9_becomeDifferences 11 = .ok (.iload_n 3, 1) := by decide +kernel
theorem dX9_becomeDifferences_12 : decode cX9_becomeDifferences 12 = .ok (.aload_n 0, 1) := by decide +kernel
theorem dX9_becomeDifferences_13 : decode cX9_becomeDifferences 13 = .ok (.getfield 74, 3) := by decide +kernel
theorem dX9_becomeDifferences_16 : decode cX9_becomeDifferences 16 = .ok (.iload_n 3, 1) := by decide +kernel
theorem dX9_becomeDifferences_17 : decode cX9_becomeDifferences 17 = .ok (.iconst 1, 1) := by decide +kernel
theorem dX9_becomeDifferences_18 : decode cX9_becomeDifferences 18 = .ok (.iadd, 1) := by decide +kernel
theorem dX9_becomeDifferences_19 : decode cX9_becomeDifferences 19 = .ok (.iaload, 1) := by decide +kernel
theorem dX9_becomeDifferences_20 : decode cX9_becomeDifferences 20 = .ok (.aload_n 0, 1) := by decide +kernel
theorem dX9_becomeDifferences_21 : decode cX9_becomeDifferences 21 = .ok (.getfield 74, 3) := by decide +kernel
theorem dX9_becomeDifferences_24 : decode cX9_becomeDifferences 24 = .ok (.iload_n 3, 1) := by decide +kernel
theorem dX9_becomeDifferences_25 : decode cX9_becomeDifferences 25 = .ok (.iaload, 1) := by decide +kernel
theorem dX9_becomeDifferences_26 : decode cX9_becomeDifferences 26 = .ok (.isub, 1) := by decide +kernel
theorem dX9_becomeDifferences_27 : decode cX9_becomeDifferences 27 = .ok (.iastore, 1) := by decide +kernel
theorem dX9_becomeDifferences_28 : decode cX9_becomeDifferences 28 = .ok (.iinc 3 1, 3) := by decide +kernel
theorem dX9_becomeDifferences_31 : decode cX9_becomeDifferences 31 = .ok (.goto (-29), 3) := by decide +kernel
theorem dX9_becomeDifferences_34 : decode cX9_becomeDifferences 34 = .ok (.return_, 1) := by decide +kernel
theorem dX9_isKind_0 : decode cX9_isKind 0 = .ok (.iload_n 0, 1) := by decide +kernel
theorem dX9_isKind_1 : decode cX9_isKind 1 = .ok (.ifCond .lt 13, 3) := by decide +kernel
theorem dX9_isKind_4 : decode cX9_isKind 4 = .ok (.iload_n 0, 1) := by decide +kernel
theorem dX9_isKind_5 : decode cX9_isKind 5 = .ok (.bipush 6, 2) := by decide +kernel
theorem dX9_isKind_7 : decode cX9_isKind 7 = .ok (.if_icmp .ge 7, 3) := by decide +kernel
theorem dX9_isKind_10 : decode cX9_isKind 10 = .ok (.iconst 1, 1) := by decide +kernel
theorem dX9_isKind_11 : decode cX9_isKind 11 = .ok (.goto 4, 3) := by decide +kernel
theorem dX9_isKind_14 : decode cX9_isKind 14 = .ok (.iconst 0, 1) := by decide +kernel
theorem dX9_isKind_15 : decode cX9_isKind 15 = .ok (.ireturn, 1) := by decide +kernel
theorem dX9_isRule_0 : decode cX9_isRule 0 = .ok (.iload_n 0, 1) := by decide +kernel
theorem dX9_isRule_1 : decode cX9_isRule 1 = .ok (.ifCond .lt 13, 3) := by decide +kernel
theorem dX9_isRule_4 : decode cX9_isRule 4 = .ok (.iload_n 0, 1) := by decide +kernel
theorem dX9_isRule_5 : decode cX9_isRule 5 = .ok (.bipush 6, 2) := by decide +kernel
theorem dX9_isRule_7 : decode cX9_isRule 7 = .ok (.if_icmp .ge 7, 3) := by decide +kernel
theorem dX9_isRule_10 : decode cX9_isRule 10 = .ok (.iconst 1, 1) := by decide +kernel
theorem dX9_isRule_11 : decode cX9_isRule 11 = .ok (.goto 4, 3) := by decide +kernel
theorem dX9_isRule_14 : decode cX9_isRule 14 = .ok (.iconst 0, 1) := by decide +kernel
theorem dX9_isRule_15 : decode cX9_isRule 15 = .ok (.ireturn, 1) := by decide +kernel
theorem dX9_isList_0 : decode cX9_isList 0 = .ok (.iload_n 0, 1) := by decide +kernel
theorem dX9_isList_1 : decode cX9_isList 1 = .ok (.ifCond .lt 12, 3) := by decide +kernel
theorem dX9_isList_4 : decode cX9_isList 4 = .ok (.iload_n 0, 1) := by decide +kernel
theorem dX9_isList_5 : decode cX9_isList 5 = .ok (.iconst 3, 1) := by decide +kernel
theorem dX9_isList_6 : decode cX9_isList 6 = .ok (.if_icmp .ge 7, 3) := by decide +kernel
theorem dX9_isList_9 : decode cX9_isList 9 = .ok (.iconst 1, 1) := by decide +kernel
theorem dX9_isList_10 : decode cX9_isList 10 = .ok (.goto 4, 3) := by decide +kernel
theorem dX9_isList_13 : decode cX9_isList 13 = .ok (.iconst 0, 1) := by decide +kernel
theorem dX9_isList_14 : decode cX9_isList 14 = .ok (.ireturn, 1) := by decide +kernel
theorem dX9_commonDivisor_0 : decode cX9_commonDivisor 0 = .ok (.iload_n 1, 1) := by decide +kernel
theorem dX9_commonDivisor_1 : decode cX9_commonDivisor 1 = .ok (.istore_n 2, 1) := by decide +kernel
theorem dX9_commonDivisor_2 : decode cX9_commonDivisor 2 = .ok (.iload_n 0, 1) := by decide +kernel
theorem dX9_commonDivisor_3 : decode cX9_commonDivisor 3 = .ok (.istore_n 3, 1) := by decide +kernel
theorem dX9_commonDivisor_4 : decode cX9_commonDivisor 4 = .ok (.iconst 0, 1) := by decide +kernel
theorem dX9_commonDivisor_5 : decode cX9_commonDivisor 5 = .ok (.istore 4, 2) := by decide +kernel
theorem dX9_commonDivisor_7 : decode cX9_commonDivisor 7 = .ok (.iload 4, 2) := by decide +kernel
theorem dX9_commonDivisor_9 : decode cX9_commonDivisor 9 = .ok (.bipush 64, 2) := by decide +kernel
theorem dX9_commonDivisor_11 : decode cX9_commonDivisor 11 = .ok (.if_icmp .ge 23, 3) := by decide +kernel
theorem dX9_commonDivisor_14 : decode cX9_commonDivisor 14 = .ok (.iload_n 3, 1) := by decide +kernel
theorem dX9_commonDivisor_15 : decode cX9_commonDivisor 15 = .ok (.ifCond .eq 19, 3) := by decide +kernel
theorem dX9_commonDivisor_18 : decode cX9_commonDivisor 18 = .ok (.iload_n 2, 1) := by decide +kernel
theorem dX9_commonDivisor_19 : decode cX9_commonDivisor 19 = .ok (.iload_n 3, 1) := by decide +kernel
theorem dX9_commonDivisor_20 : decode cX9_commonDivisor 20 = .ok (.irem, 1) := by decide +kernel
theorem dX9_commonDivisor_21 : decode cX9_commonDivisor 21 = .ok (.istore 5, 2) := by decide +kernel
theorem dX9_commonDivisor_23 : decode cX9_commonDivisor 23 = .ok (.iload_n 3, 1) := by decide +kernel
theorem dX9_commonDivisor_24 : decode cX9_commonDivisor 24 = .ok (.istore_n 2, 1) := by decide +kernel
theorem dX9_commonDivisor_25 : decode cX9_commonDivisor 25 = .ok (.iload 5, 2) := by decide +kernel
theorem dX9_commonDivisor_27 : decode cX9_commonDivisor 27 = .ok (.istore_n 3, 1) := by decide +kernel
theorem dX9_commonDivisor_28 : decode cX9_commonDivisor 28 = .ok (.iinc 4 1, 3) := by decide +kernel
theorem dX9_commonDivisor_31 : decode cX9_commonDivisor 31 = .ok (.goto (-24), 3) := by decide +kernel
theorem dX9_commonDivisor_34 : decode cX9_commonDivisor 34 = .ok (.iconst 1, 1) := by decide +kernel
theorem dX9_commonDivisor_35 : decode cX9_commonDivisor 35 = .ok (.iload_n 2, 1) := by decide +kernel
theorem dX9_commonDivisor_36 : decode cX9_commonDivisor 36 = .ok (.invokestatic 278, 3) := by decide +kernel
theorem dX9_commonDivisor_39 : decode cX9_commonDivisor 39 = .ok (.ireturn, 1) := by decide +kernel
end
section
theorem dX10_init_0 : decode cX10_init 0 = .ok (.aload_n 0, 1) := by decide +kernel
theorem dX10_init_1 : decode cX10_init 1 = .ok (.invokespecial 1, 3) := by decide +kernel
theorem dX10_init_4 : decode cX10_init 4 = .ok (.aload_n 0, 1) := by decide +kernel
theorem dX10_init_5 : decode cX10_init 5 = .ok (.iconst 4, 1) := by decide +kernel
theorem dX10_init_6 : decode cX10_init 6 = .ok (.putfield 7, 3) := by decide +kernel
theorem dX10_init_9 : decode cX10_init 9 = .ok (.aload_n 0, 1) := by decide +kernel
theorem dX10_init_10 : decode cX10_init 10 = .ok (.bipush 8, 2) := by decide +kernel
theorem dX10_init_12 : decode cX10_init 12 = .ok (.newarray .int, 2) := by decide +kernel
theorem dX10_init_14 : decode cX10_init 14 = .ok (.putfield 13, 3) := by decide +kernel
theorem dX10_init_17 : decode cX10_init 17 = .ok (.aload_n 0, 1) := by decide +kernel
theorem dX10_init_18 : decode cX10_init 18 = .ok (.bipush 8, 2) := by decide +kernel
theorem dX10_init_20 : decode cX10_init 20 = .ok (.newarray .int, 2) := by decide +kernel
theorem dX10_init_22 : decode cX10_init 22 = .ok (.putfield 17, 3) := by decide +kernel
theorem dX10_init_25 : decode cX10_init 25 = .ok (.aload_n 0, 1) := by decide +kernel
theorem dX10_init_26 : decode cX10_init 26 = .ok (.bipush 8, 2) := by decide +kernel
theorem dX10_init_28 : decode cX10_init 28 = .ok (.newarray .int, 2) := by decide +kernel
theorem dX10_init_30 : decode cX10_init 30 = .ok (.putfield 20, 3) := by decide +kernel
theorem dX10_init_33 : decode cX10_init 33 = .ok (.aload_n 0, 1) := by decide +kernel
theorem dX10_init_34 : decode cX10_init 34 = .ok (.bipush 8, 2) := by decide +kernel
theorem dX10_init_36 : decode cX10_init 36 = .ok (.newarray .int, 2) := by decide +kernel
theorem dX10_init_38 : decode cX10_init 38 = .ok (.putfield 23, 3) := by decide +kernel
theorem dX10_init_41 : decode cX10_init 41 = .ok (.aload_n 0, 1) := by decide +kernel
theorem dX10_init_42 : decode cX10_init 42 = .ok (.bipush 8, 2) := by decide +kernel
theorem dX10_init_44 : decode cX10_init 44 = .ok (.newarray .int, 2) := by decide +kernel
theorem dX10_init_46 : decode cX10_init 46 = .ok (.putfield 26, 3) := by decide +kernel
theorem dX10_init_49 : decode cX10_init 49 = .ok (.aload_n 0, 1) := by decide +kernel
theorem dX10_init_50 : decode cX10_init 50 = .ok (.bipush 64, 2) := by decide +kernel
theorem dX10_init_52 : decode cX10_init 52 = .ok (.newarray .int, 2) := by decide +kernel
theorem dX10_init_54 : decode cX10_init 54 = .ok (.putfield 29, 3) := by decide +kernel
theorem dX10_init_57 : decode cX10_init 57 = .ok (.aload_n 0, 1) := by decide +kernel
theorem dX10_init_58 : decode cX10_init 58 = .ok (.bipush 64, 2) := by decide +kernel
theorem dX10_init_60 : decode cX10_init 60 = .ok (.newarray .int, 2) := by decide +kernel
theorem dX10_init_62 : decode cX10_init 62 = .ok (.putfield 32, 3) := by decide +kernel
theorem dX10_init_65 : decode cX10_init 65 = .ok (.aload_n 0, 1) := by decide +kernel
theorem dX10_init_66 : decode cX10_init 66 = .ok (.bipush 64, 2) := by decide +kernel
theorem dX10_init_68 : decode cX10_init 68 = .ok (.newarray .int, 2) := by decide +kernel
theorem dX10_init_70 : decode cX10_init 70 = .ok (.putfield 35, 3) := by decide +kernel
theorem dX10_init_73 : decode cX10_init 73 = .ok (.aload_n 0, 1) := by decide +kernel
theorem dX10_init_74 : decode cX10_init 74 = .ok (.bipush 72, 2) := by decide +kernel
theorem dX10_init_76 : decode cX10_init 76 = .ok (.newarray .int, 2) := by decide +kernel
theorem dX10_init_78 : decode cX10_init 78 = .ok (.putfield 38, 3) := by decide +kernel
theorem dX10_init_81 : decode cX10_init 81 = .ok (.aload_n 0, 1) := by decide +kernel
theorem dX10_init_82 : decode cX10_init 82 = .ok (.iconst 3, 1) := by decide +kernel
theorem dX10_init_83 : decode cX10_init 83 = .ok (.newarray .int, 2) := by decide +kernel
theorem dX10_init_85 : decode cX10_init 85 = .ok (.dup, 1) := by decide +kernel
theorem dX10_init_86 : decode cX10_init 86 = .ok (.iconst 0, 1) := by decide +kernel
theorem dX10_init_87 : decode cX10_init 87 = .ok (.iconst (-1), 1) := by decide +kernel
theorem dX10_init_88 : decode cX10_init 88 = .ok (.iastore, 1) := by decide +kernel
theorem dX10_init_89 : decode cX10_init 89 = .ok (.dup, 1) := by decide +kernel
theorem dX10_init_90 : decode cX10_init 90 = .ok (.iconst 1, 1) := by decide +kernel
theorem dX10_init_91 : decode cX10_init 91 = .ok (.iconst (-1), 1) := by decide +kernel
theorem dX10_init_92 : decode cX10_init 92 = .ok (.iastore, 1) := by decide +kernel
theorem dX10_init_93 : decode cX10_init 93 = .ok (.dup, 1) := by decide +kernel
theorem dX10_init_94 : decode cX10_init 94 = .ok (.iconst 2, 1) := by decide +kernel
theorem dX10_init_95 : decode cX10_init 95 = .ok (.iconst (-1), 1) := by decide +kernel
theorem dX10_init_96 : decode cX10_init 96 = .ok (.iastore, 1) := by decide +kernel
theorem dX10_init_97 : decode cX10_init 97 = .ok (.putfield 41, 3) := by decide +kernel
theorem dX10_init_100 : decode cX10_init 100 = .ok (.aload_n 0, 1) := by decide +kernel
theorem dX10_init_101 : decode cX10_init 101 = .ok (.bipush 120, 2) := by decide +kernel
theorem dX10_init_103 : decode cX10_init 103 = .ok (.newarray .int, 2) := by decide +kernel
theorem dX10_init_105 : decode cX10_init 105 = .ok (.putfield 44, 3) := by decide +kernel
theorem dX10_init_108 : decode cX10_init 108 = .ok (.aload_n 0, 1) := by decide +kernel
theorem dX10_init_109 : decode cX10_init 109 = .ok (.bipush 7, 2) := by decide +kernel
theorem dX10_init_111 : decode cX10_init 111 = .ok (.newarray .int, 2) := by decide +kernel
theorem dX10_init_113 : decode cX10_init 113 = .ok (.putfield 47, 3) := by decide +kernel
theorem dX10_init_116 : decode cX10_init 116 = .ok (.aload_n 0, 1) := by decide +kernel
theorem dX10_init_117 : decode cX10_init 117 = .ok (.bipush 8, 2) := by decide +kernel
theorem dX10_init_119 : decode cX10_init 119 = .ok (.newarray .int, 2) := by decide +kernel
theorem dX10_init_121 : decode cX10_init 121 = .ok (.putfield 50, 3) := by decide +kernel
theorem dX10_init_124 : decode cX10_init 124 = .ok (.aload_n 0, 1) := by decide +kernel
theorem dX10_init_125 : decode cX10_init 125 = .ok (.bipush 7, 2) := by decide +kernel
theorem dX10_init_127 : decode cX10_init 127 = .ok (.newarray .int, 2) := by decide +kernel
theorem dX10_init_129 : decode cX10_init 129 = .ok (.putfield 53, 3) := by decide +kernel
theorem dX10_init_132 : decode cX10_init 132 = .ok (.aload_n 0, 1) := by decide +kernel
theorem dX10_init_133 : decode cX10_init 133 = .ok (.bipush 56, 2) := by decide +kernel
theorem dX10_init_135 : decode cX10_init 135 = .ok (.newarray .int, 2) := by decide +kernel
theorem dX10_init_137 : decode cX10_init 137 = .ok (.putfield 56, 3) := by decide +kernel
theorem dX10_init_140 : decode cX10_init 140 = .ok (.aload_n 0, 1) := by decide +kernel
theorem dX10_init_141 : decode cX10_init 141 = .ok (.bipush 7, 2) := by decide +kernel
theorem dX10_init_143 : decode cX10_init 143 = .ok (.newarray .int, 2) := by decide +kernel
theorem dX10_init_145 : decode cX10_init 145 = .ok (.putfield 59, 3) := by decide +kernel
theorem dX10_init_148 : decode cX10_init 148 = .ok (.aload_n 0, 1) := by decide +kernel
theorem dX10_init_149 : decode cX10_init 149 = .ok (.bipush 56, 2) := by decide +kernel
theorem dX10_init_151 : decode cX10_init 151 = .ok (.newarray .long, 2) := by decide +kernel
theorem dX10_init_153 : decode cX10_init 153 = .ok (.putfield 62, 3) := by decide +kernel
theorem dX10_init_156 : decode cX10_init 156 = .ok (.aload_n 0, 1) := by decide +kernel
theorem dX10_init_157 : decode cX10_init 157 = .ok (.bipush 120, 2) := by decide +kernel
theorem dX10_init_159 : decode cX10_init 159 = .ok (.newarray .int, 2) := by decide +kernel
theorem dX10_init_161 : decode cX10_init 161 = .ok (.putfield 66, 3) := by decide +kernel
theorem dX10_init_164 : decode cX10_init 164 = .ok (.aload_n 0, 1) := by decide +kernel
theorem dX10_init_165 : decode cX10_init 165 = .ok (.bipush 7, 2) := by decide +kernel
theorem dX10_init_167 : decode cX10_init 167 = .ok (.newarray .int, 2) := by decide +kernel
theorem dX10_init_169 : decode cX10_init 169 = .ok (.putfield 69, 3) := by decide +kernel
theorem dX10_init_172 : decode cX10_init 172 = .ok (.aload_n 0, 1) := by decide +kernel
theorem dX10_init_173 : decode cX10_init 173 = .ok (.bipush 42, 2) := by decide +kernel
theorem dX10_init_175 : decode cX10_init 175 = .ok (.newarray .int, 2) := by decide +kernel
theorem dX10_init_177 : decode cX10_init 177 = .ok (.putfield 72, 3) := by decide +kernel
theorem dX10_init_180 : decode cX10_init 180 = .ok (.aload_n 0, 1) := by decide +kernel
theorem dX10_init_181 : decode cX10_init 181 = .ok (.bipush 42, 2) := by decide +kernel
theorem dX10_init_183 : decode cX10_init 183 = .ok (.newarray .int, 2) := by decide +kernel
theorem dX10_init_185 : decode cX10_init 185 = .ok (.putfield 75, 3) := by decide +kernel
theorem dX10_init_188 : decode cX10_init 188 = .ok (.return_, 1) := by decide +kernel
theorem dX10_in_0 : decode cX10_in 0 = .ok (.iload_n 0, 1) := by decide +kernel
theorem dX10_in_1 : decode cX10_in 1 = .ok (.iload_n 1, 1) := by decide +kernel
theorem dX10_in_2 : decode cX10_in 2 = .ok (.if_icmp .lt 12, 3) := by decide +kernel
theorem dX10_in_5 : decode cX10_in 5 = .ok (.iload_n 0, 1) := by decide +kernel
theorem dX10_in_6 : decode cX10_in 6 = .ok (.iload_n 2, 1) := by decide +kernel
theorem dX10_in_7 : decode cX10_in 7 = .ok (.if_icmp .gt 7, 3) := by decide +kernel
theorem dX10_in_10 : decode cX10_in 10 = .ok (.iconst 1, 1) := by decide +kernel
theorem dX10_in_11 : decode cX10_in 11 = .ok (.goto 4, 3) := by decide +kernel
theorem dX10_in_14 : decode cX10_in 14 = .ok (.iconst 0, 1) := by decide +kernel
theorem dX10_in_15 : decode cX10_in 15 = .ok (.ireturn, 1) := by decide +kernel
theorem dX10_isPoint_0 : decode cX10_isPoint 0 = .ok (.iload_n 1, 1) := by decide +kernel
theorem dX10_isPoint_1 : decode cX10_isPoint 1 = .ok (.iconst 0, 1) := by decide +kernel
theorem dX10_isPoint_2 : decode cX10_isPoint 2 = .ok (.aload_n 0, 1) := by decide +kernel
theorem dX10_isPoint_3 : decode cX10_isPoint 3 = .ok (.getfield 7, 3) := by decide +kernel
theorem dX10_isPoint_6 : decode cX10_isPoint 6 = .ok (.iconst 1, 1) := by decide +kernel
theorem dX10_isPoint_7 : decode cX10_isPoint 7 = .ok (.isub, 1) := by decide +kernel
theorem dX10_isPoint_8 : decode cX10_isPoint 8 = .ok (.invokestatic 78, 3) := by decide +kernel
theorem dX10_isPoint_11 : decode cX10_isPoint 11 = .ok (.ireturn, 1) := by decide +kernel
theorem dX10_isLine_0 : decode cX10_isLine 0 = .ok (.iload_n 1, 1) := by decide +kernel
theorem dX10_isLine_1 : decode cX10_isLine 1 = .ok (.iconst 0, 1) := by decide +kernel
theorem dX10_isLine_2 : decode cX10_isLine 2 = .ok (.aload_n 0, 1) := by decide +kernel
theorem dX10_isLine_3 : decode cX10_isLine 3 = .ok (.getfield 82, 3) := by decide +kernel
theorem dX10_isLine_6 : decode cX10_isLine 6 = .ok (.iconst 1, 1) := by decide +kernel
theorem dX10_isLine_7 : decode cX10_isLine 7 = .ok (.isub, 1) := by decide +kernel
theorem dX10_isLine_8 : decode cX10_isLine 8 = .ok (.invokestatic 78, 3) := by decide +kernel
theorem dX10_isLine_11 : decode cX10_isLine 11 = .ok (.ireturn, 1) := by decide +kernel
theorem dX10_refused_0 : decode cX10_refused 0 = .ok (.aload_n 0, 1) := by decide +kernel
theorem dX10_refused_1 : decode cX10_refused 1 = .ok (.getfield 47, 3) := by decide +kernel
theorem dX10_refused_4 : decode cX10_refused 4 = .ok (.iload_n 1, 1) := by decide +kernel
theorem dX10_refused_5 : decode cX10_refused 5 = .ok (.ineg, 1) := by decide +kernel
theorem dX10_refused_6 : decode cX10_refused 6 = .ok (.dup2, 1) := by decide +kernel
theorem dX10_refused_7 : decode cX10_refused 7 = .ok (.iaload, 1) := by decide +kernel
theorem dX10_refused_8 : decode cX10_refused 8 = .ok (.iconst 1, 1) := by decide +kernel
theorem dX10_refused_9 : decode cX10_refused 9 = .ok (.iadd, 1) := by decide +kernel
theorem dX10_refused_10 : decode cX10_refused 10 = .ok (.iastore, 1) := by decide +kernel
theorem dX10_refused_11 : decode cX10_refused 11 = .ok (.iload_n 1, 1) := by decide +kernel
theorem dX10_refused_12 : decode cX10_refused 12 = .ok (.ireturn, 1) := by decide +kernel
theorem dX10_farther_0 : decode cX10_farther 0 = .ok (.ldc2_w 85, 3) := by decide +kernel
theorem dX10_farther_3 : decode cX10_farther 3 = .ok (.aload_n 0, 1) := by decide +kernel
theorem dX10_farther_4 : decode cX10_farther 4 = .ok (.iload_n 1, 1) := by decide +kernel
theorem dX10_farther_5 : decode cX10_farther 5 = .ok (.invokevirtual 87, 3) := by decide +kernel
theorem dX10_farther_8 : decode cX10_farther 8 = .ok (.i2l, 1) := by decide +kernel
theorem dX10_farther_9 : decode cX10_farther 9 = .ok (.lsub, 1) := by decide +kernel
theorem dX10_farther_10 : decode cX10_farther 10 = .ok (.lreturn, 1) := by decide +kernel
theorem dX10_letter_0 : decode cX10_letter 0 = .ok (.iload_n 1, 1) := by decide +kernel
theorem dX10_letter_1 : decode cX10_letter 1 = .ok (.ifCond .ge 10, 3) := by decide +kernel
theorem dX10_letter_4 : decode cX10_letter 4 = .ok (.aload_n 0, 1) := by decide +kernel
theorem dX10_letter_5 : decode cX10_letter 5 = .ok (.bipush (-4), 2) := by decide +kernel
theorem dX10_letter_7 : decode cX10_letter 7 = .ok (.invokevirtual 87, 3) := by decide +kernel
theorem dX10_letter_10 : decode cX10_letter 10 = .ok (.ireturn, 1) := by decide +kernel
theorem dX10_letter_11 : decode cX10_letter 11 = .ok (.iload_n 1, 1) := by decide +kernel
theorem dX10_letter_12 : decode cX10_letter 12 = .ok (.sipush 255, 3) := by decide +kernel
theorem dX10_letter_15 : decode cX10_letter 15 = .ok (.if_icmp .gt 12, 3) := by decide +kernel
theorem dX10_letter_18 : decode cX10_letter 18 = .ok (.aload_n 0, 1) := by decide +kernel
theorem dX10_letter_19 : decode cX10_letter 19 = .ok (.getfield 91, 3) := by decide +kernel
theorem dX10_letter_22 : decode cX10_letter 22 = .ok (.bipush 72, 2) := by decide +kernel
theorem dX10_letter_24 : decode cX10_letter 24 = .ok (.if_icmp .ne 10, 3) := by decide +kernel
theorem dX10_letter_27 : decode cX10_letter 27 = .ok (.aload_n 0, 1) := by decide +kernel
theorem dX10_letter_28 : decode cX10_letter 28 = .ok (.bipush (-6), 2) := by decide +kernel
theorem dX10_letter_30 : decode cX10_letter 30 = .ok (.invokevirtual 87, 3) := by decide +kernel
theorem dX10_letter_33 : decode cX10_letter 33 = .ok (.ireturn, 1) := by decide +kernel
theorem dX10_letter_34 : decode cX10_letter 34 = .ok (.aload_n 0, 1) := by decide +kernel
theorem dX10_letter_35 : decode cX10_letter 35 = .ok (.getfield 38, 3) := by decide +kernel
theorem dX10_letter_38 : decode cX10_letter 38 = .ok (.aload_n 0, 1) := by decide +kernel
theorem dX10_letter_39 : decode cX10_letter 39 = .ok (.getfield 91, 3) := by decide +kernel
theorem dX10_letter_42 : decode cX10_letter 42 = .ok (.iload_n 1, 1) := by decide +kernel
theorem dX10_letter_43 : decode cX10_letter 43 = .ok (.iastore, 1) := by decide +kernel
theorem dX10_letter_44 : decode cX10_letter 44 = .ok (.aload_n 0, 1) := by decide +kernel
theorem dX10_letter_45 : decode cX10_letter 45 = .ok (.dup, 1) := by decide +kernel
theorem dX10_letter_46 : decode cX10_letter 46 = .ok (.getfield 91, 3) := by decide +kernel
theorem dX10_letter_49 : decode cX10_letter 49 = .ok (.iconst 1, 1) := by decide +kernel
theorem dX10_letter_50 : decode cX10_letter 50 = .ok (.iadd, 1) := by decide +kernel
theorem dX10_letter_51 : decode cX10_letter 51 = .ok (.putfield 91, 3) := by decide +kernel
theorem dX10_letter_54 : decode cX10_letter 54 = .ok (.aload_n 0, 1) := by decide +kernel
theorem dX10_letter_55 : decode cX10_letter 55 = .ok (.getfield 91, 3) := by decide +kernel
theorem dX10_letter_58 : decode cX10_letter 58 = .ok (.ireturn, 1) := by decide +kernel
theorem dX10_figuresOf_0 : decode cX10_figuresOf 0 = .ok (.iload_n 0, 1) := by decide +kernel
theorem dX10_figuresOf_1 : decode cX10_figuresOf 1 = .ok (.bipush 110, 2) := by decide +kernel
theorem dX10_figuresOf_3 : decode cX10_figuresOf 3 = .ok (.if_icmp .ne 7, 3) := by decide +kernel
theorem dX10_figuresOf_6 : decode cX10_figuresOf 6 = .ok (.iconst 1, 1) := by decide +kernel
theorem dX10_figuresOf_7 : decode cX10_figuresOf 7 = .ok (.goto 14, 3) := by decide +kernel
theorem dX10_figuresOf_10 : decode cX10_figuresOf 10 = .ok (.iload_n 0, 1) := by decide +kernel
theorem dX10_figuresOf_11 : decode cX10_figuresOf 11 = .ok (.bipush 102, 2) := by decide +kernel
theorem dX10_figuresOf_13 : decode cX10_figuresOf 13 = .ok (.if_icmp .ne 7, 3) := by decide +kernel
theorem dX10_figuresOf_16 : decode cX10_figuresOf 16 = .ok (.iconst 2, 1) := by decide +kernel
theorem dX10_figuresOf_17 : decode cX10_figuresOf 17 = .ok (.goto 4, 3) := by decide +kernel
theorem dX10_figuresOf_20 : decode cX10_figuresOf 20 = .ok (.iconst 3, 1) := by decide +kernel
theorem dX10_figuresOf_21 : decode cX10_figuresOf 21 = .ok (.ireturn, 1) := by decide +kernel
theorem dX10_digitAt_0 : decode cX10_digitAt 0 = .ok (.aload_n 0, 1) := by decide +kernel
theorem dX10_digitAt_1 : decode cX10_digitAt 1 = .ok (.getfield 38, 3) := by decide +kernel
theorem dX10_digitAt_4 : decode cX10_digitAt 4 = .ok (.iload_n 1, 1) := by decide +kernel
theorem dX10_digitAt_5 : decode cX10_digitAt 5 = .ok (.iaload, 1) := by decide +kernel
theorem dX10_digitAt_6 : decode cX10_digitAt 6 = .ok (.bipush 48, 2) := by decide +kernel
theorem dX10_digitAt_8 : decode cX10_digitAt 8 = .ok (.isub, 1) := by decide +kernel
theorem dX10_digitAt_9 : decode cX10_digitAt 9 = .ok (.ireturn, 1) := by decide +kernel
theorem dX10_formFault_0 : decode cX10_formFault 0 = .ok (.iconst 0, 1) := by decide +kernel
theorem dX10_formFault_1 : decode cX10_formFault 1 = .ok (.istore_n 1, 1) := by decide +kernel
theorem dX10_formFault_2 : decode cX10_formFault 2 = .ok (.iload_n 1, 1) := by decide +kernel
theorem dX10_formFault_3 : decode cX10_formFault 3 = .ok (.aload_n 0, 1) := by decide +kernel
theorem dX10_formFault_4 : decode cX10_formFault 4 = .ok (.getfield 91, 3) := by decide +kernel
theorem dX10_formFault_7 : decode cX10_formFault 7 = .ok (.if_icmp .ge 12, 3) := by decide +kernel
theorem dX10_formFault_10 : decode cX10_formFault 10 = .ok (.aload_n 0, 1) := by decide +kernel
theorem dX10_formFault_11 : decode cX10_formFault 11 = .ok (.getfield 38, 3) := by decide +kernel
theorem dX10_formFault_14 : decode cX10_formFault 14 = .ok (.iload_n 1, 1) := by decide +kernel
theorem dX10_formFault_15 : decode cX10_formFault 15 = .ok (.iaload, 1) := by decide +kernel
theorem dX10_formFault_16 : decode cX10_formFault 16 = .ok (.goto 4, 3) := by decide +kernel
theorem dX10_formFault_19 : decode cX10_formFault 19 = .ok (.iconst 0, 1) := by decide +kernel
theorem dX10_formFault_20 : decode cX10_formFault 20 = .ok (.istore_n 2, 1) := by decide +kernel
theorem dX10_formFault_21 : decode cX10_formFault 21 = .ok (.iload_n 2, 1) := by decide +kernel
theorem dX10_formFault_22 : decode cX10_formFault 22 = .ok (.bipush 110, 2) := by decide +kernel
theorem dX10_formFault_24 : decode cX10_formFault 24 = .ok (.if_icmp .eq 23, 3) := by decide +kernel
theorem dX10_formFault_27 : decode cX10_formFault 27 = .ok (.iload_n 2, 1) := by decide +kernel
theorem dX10_formFault_28 : decode cX10_formFault 28 = .ok (.bipush 108, 2) := by decide +kernel
theorem dX10_formFault_30 : decode cX10_formFault 30 = .ok (.if_icmp .eq 17, 3) := by decide +kernel
theorem dX10_formFault_33 : decode cX10_formFault 33 = .ok (.iload_n 2, 1) := by decide +kernel
theorem dX10_formFault_34 : decode cX10_formFault 34 = .ok (.bipush 102, 2) := by decide +kernel
theorem dX10_formFault_36 : decode cX10_formFault 36 = .ok (.if_icmp .eq 11, 3) := by decide +kernel
theorem dX10_formFault_39 : decode cX10_formFault 39 = .ok (.iload_n 2, 1) := by decide +kernel
theorem dX10_formFault_40 : decode cX10_formFault 40 = .ok (.bipush 118, 2) := by decide +kernel
theorem dX10_formFault_42 : decode cX10_formFault 42 = .ok (.if_icmp .eq 5, 3) := by decide +kernel
theorem dX10_formFault_45 : decode cX10_formFault 45 = .ok (.iload_n 1, 1) := by decide +kernel
theorem dX10_formFault_46 : decode cX10_formFault 46 = .ok (.ireturn, 1) := by decide +kernel
theorem dX10_formFault_47 : decode cX10_formFault 47 = .ok (.iinc 1 1, 3) := by decide +kernel
theorem dX10_formFault_50 : decode cX10_formFault 50 = .ok (.iconst 0, 1) := by decide +kernel
theorem dX10_formFault_51 : decode cX10_formFault 51 = .ok (.istore_n 3, 1) := by decide +kernel
theorem dX10_formFault_52 : decode cX10_formFault 52 = .ok (.iload_n 3, 1) := by decide +kernel
theorem dX10_formFault_53 : decode cX10_formFault 53 = .ok (.iload_n 2, 1) := by decide +kernel
theorem dX10_formFault_54 : decode cX10_formFault 54 = .ok (.invokestatic 94, 3) := by decide +kernel
theorem dX10_formFault_57 : decode cX10_formFault 57 = .ok (.if_icmp .ge 38, 3) := by decide +kernel
theorem dX10_formFault_60 : decode cX10_formFault 60 = .ok (.iload_n 1, 1) := by decide +kernel
theorem dX10_formFault_61 : decode cX10_formFault 61 = .ok (.aload_n 0, 1) := by decide +kernel
theorem dX10_formFault_62 : decode cX10_formFault 62 = .ok (.getfield 91, 3) := by decide +kernel
theorem dX10_formFault_65 : decode cX10_formFault 65 = .ok (.if_icmp .eq 19, 3) := by decide +kernel
theorem dX10_formFault_68 : decode cX10_formFault 68 = .ok (.aload_n 0, 1) := by decide +kernel
theorem dX10_formFault_69 : decode cX10_formFault 69 = .ok (.getfield 38, 3) := by decide +kernel
theorem dX10_formFault_72 : decode cX10_formFault 72 = .ok (.iload_n 1, 1) := by decide +kernel
theorem dX10_formFault_73 : decode cX10_formFault 73 = .ok (.iaload, 1) := by decide +kernel
theorem dX10_formFault_74 : decode cX10_formFault 74 = .ok (.bipush 48, 2) := by decide +kernel
theorem dX10_formFault_76 : decode cX10_formFault 76 = .ok (.bipush 57, 2) := by decide +kernel
theorem dX10_formFault_78 : decode cX10_formFault 78 = .ok (.invokestatic 78, 3) := by decide +kernel
theorem dX10_formFault_81 : decode cX10_formFault 81 = .ok (.ifCond .ne 5, 3) := by decide +kernel
theorem dX10_formFault_84 : decode cX10_formFault 84 = .ok (.iload_n 1, 1) := by decide +kernel
theorem dX10_formFault_85 : decode cX10_formFault 85 = .ok (.ireturn, 1) := by decide +kernel
theorem dX10_formFault_86 : decode cX10_formFault 86 = .ok (.iinc 1 1, 3) := by decide +kernel
theorem dX10_formFault_89 : decode cX10_formFault 89 = .ok (.iinc 3 1, 3) := by decide +kernel
theorem dX10_formFault_92 : decode cX10_formFault 92 = .ok (.goto (-40), 3) := by decide +kernel
theorem dX10_formFault_95 : decode cX10_formFault 95 = .ok (.iload_n 1, 1) := by decide +kernel
theorem dX10_formFault_96 : decode cX10_formFault 96 = .ok (.aload_n 0, 1) := by decide +kernel
theorem dX10_formFault_97 : decode cX10_formFault 97 = .ok (.getfield 91, 3) := by decide +kernel
theorem dX10_formFault_100 : decode cX10_formFault 100 = .ok (.if_icmp .eq 14, 3) := by decide +kernel
theorem dX10_formFault_103 : decode cX10_formFault 103 = .ok (.aload_n 0, 1) := by decide +kernel
theorem dX10_formFault_104 : decode cX10_formFault 104 = .ok (.getfield 38, 3) := by decide +kernel
theorem dX10_formFault_107 : decode cX10_formFault 107 = .ok (.iload_n 1, 1) := by decide +kernel
theorem dX10_formFault_108 : decode cX10_formFault 108 = .ok (.iaload, 1) := by decide +kernel
theorem dX10_formFault_109 : decode cX10_formFault 109 = .ok (.bipush 59, 2) := by decide +kernel
theorem dX10_formFault_111 : decode cX10_formFault 111 = .ok (.if_icmp .eq 5, 3) := by decide +kernel
theorem dX10_formFault_114 : decode cX10_formFault 114 = .ok (.iload_n 1, 1) := by decide +kernel
theorem dX10_formFault_115 : decode cX10_formFault 115 = .ok (.ireturn, 1) := by decide +kernel
theorem dX10_formFault_116 : decode cX10_formFault 116 = .ok (.iinc 1 1, 3) := by decide +kernel
theorem dX10_formFault_119 : decode cX10_formFault 119 = .ok (.iload_n 1, 1) := by decide +kernel
theorem dX10_formFault_120 : decode cX10_formFault 120 = .ok (.aload_n 0, 1) := by decide +kernel
theorem dX10_formFault_121 : decode cX10_formFault 121 = .ok (.getfield 91, 3) := by decide +kernel
theorem dX10_formFault_124 : decode cX10_formFault 124 = .ok (.if_icmp .lt (-122), 3) := by decide +kernel
theorem dX10_formFault_127 : decode cX10_formFault 127 = .ok (.iconst (-1), 1) := by decide +kernel
theorem dX10_formFault_128 : decode cX10_formFault 128 = .ok (.ireturn, 1) := by decide +kernel
theorem dX10_isDone_0 : decode cX10_isDone 0 = .ok (.aload_n 0, 1) := by decide +kernel
theorem dX10_isDone_1 : decode cX10_isDone 1 = .ok (.getfield 38, 3) := by decide +kernel
theorem dX10_isDone_4 : decode cX10_isDone 4 = .ok (.iload_n 1, 1) := by decide +kernel
theorem dX10_isDone_5 : decode cX10_isDone 5 = .ok (.iaload, 1) := by decide +kernel
theorem dX10_isDone_6 : decode cX10_isDone 6 = .ok (.lookupswitch 185 #[(102, 148), (108, 70), (110, 34)], 34) := by decide +kernel
theorem dX10_isDone_40 : decode cX10_isDone 40 = .ok (.aload_n 0, 1) := by decide +kernel
theorem dX10_isDone_41 : decode cX10_isDone 41 = .ok (.iload_n 1, 1) := by decide +kernel
theorem dX10_isDone_42 : decode cX10_isDone 42 = .ok (.iconst 1, 1) := by decide +kernel
theorem dX10_isDone_43 : decode cX10_isDone 43 = .ok (.iadd, 1) := by decide +kernel
theorem dX10_isDone_44 : decode cX10_isDone 44 = .ok (.invokevirtual 97, 3) := by decide +kernel
theorem dX10_isDone_47 : decode cX10_isDone 47 = .ok (.iconst 1, 1) := by decide +kernel
theorem dX10_isDone_48 : decode cX10_isDone 48 = .ok (.bipush 7, 2) := by decide +kernel
theorem dX10_isDone_50 : decode cX10_isDone 50 = .ok (.invokestatic 78, 3) := by decide +kernel
theorem dX10_isDone_53 : decode cX10_isDone 53 = .ok (.ifCond .ne 5, 3) := by decide +kernel
theorem dX10_isDone_56 : decode cX10_isDone 56 = .ok (.iconst 0, 1) := by decide +kernel
theorem dX10_isDone_57 : decode cX10_isDone 57 = .ok (.ireturn, 1) := by decide +kernel
theorem dX10_isDone_58 : decode cX10_isDone 58 = .ok (.aload_n 0, 1) := by decide +kernel
theorem dX10_isDone_59 : decode cX10_isDone 59 = .ok (.aload_n 0, 1) := by decide +kernel
theorem dX10_isDone_60 : decode cX10_isDone 60 = .ok (.iload_n 1, 1) := by decide +kernel
theorem dX10_isDone_61 : decode cX10_isDone 61 = .ok (.iconst 1, 1) := by decide +kernel
theorem dX10_isDone_62 : decode cX10_isDone 62 = .ok (.iadd, 1) := by decide +kernel
theorem dX10_isDone_63 : decode cX10_isDone 63 = .ok (.invokevirtual 97, 3) := by decide +kernel
theorem dX10_isDone_66 : decode cX10_isDone 66 = .ok (.putfield 7, 3) := by decide +kernel
theorem dX10_isDone_69 : decode cX10_isDone 69 = .ok (.aload_n 0, 1) := by decide +kernel
theorem dX10_isDone_70 : decode cX10_isDone 70 = .ok (.iconst 0, 1) := by decide +kernel
theorem dX10_isDone_71 : decode cX10_isDone 71 = .ok (.putfield 82, 3) := by decide +kernel
theorem dX10_isDone_74 : decode cX10_isDone 74 = .ok (.iconst 1, 1) := by decide +kernel
theorem dX10_isDone_75 : decode cX10_isDone 75 = .ok (.ireturn, 1) := by decide +kernel
theorem dX10_isDone_76 : decode cX10_isDone 76 = .ok (.aload_n 0, 1) := by decide +kernel
theorem dX10_isDone_77 : decode cX10_isDone 77 = .ok (.iload_n 1, 1) := by decide +kernel
theorem dX10_isDone_78 : decode cX10_isDone 78 = .ok (.iconst 1, 1) := by decide +kernel
theorem dX10_isDone_79 : decode cX10_isDone 79 = .ok (.iadd, 1) := by decide +kernel
theorem dX10_isDone_80 : decode cX10_isDone 80 = .ok (.invokevirtual 97, 3) := by decide +kernel
theorem dX10_isDone_83 : decode cX10_isDone 83 = .ok (.bipush 6, 2) := by decide +kernel
theorem dX10_isDone_85 : decode cX10_isDone 85 = .ok (.if_icmp .ge 40, 3) := by decide +kernel
theorem dX10_isDone_88 : decode cX10_isDone 88 = .ok (.aload_n 0, 1) := by decide +kernel
theorem dX10_isDone_89 : decode cX10_isDone 89 = .ok (.aload_n 0, 1) := by decide +kernel
theorem dX10_isDone_90 : decode cX10_isDone 90 = .ok (.iload_n 1, 1) := by decide +kernel
theorem dX10_isDone_91 : decode cX10_isDone 91 = .ok (.iconst 2, 1) := by decide +kernel
theorem dX10_isDone_92 : decode cX10_isDone 92 = .ok (.iadd, 1) := by decide +kernel
theorem dX10_isDone_93 : decode cX10_isDone 93 = .ok (.invokevirtual 97, 3) := by decide +kernel
theorem dX10_isDone_96 : decode cX10_isDone 96 = .ok (.invokevirtual 100, 3) := by decide +kernel
theorem dX10_isDone_99 : decode cX10_isDone 99 = .ok (.ifCond .eq 26, 3) := by decide +kernel
theorem dX10_isDone_102 : decode cX10_isDone 102 = .ok (.aload_n 0, 1) := by decide +kernel
theorem dX10_isDone_103 : decode cX10_isDone 103 = .ok (.aload_n 0, 1) := by decide +kernel
theorem dX10_isDone_104 : decode cX10_isDone 104 = .ok (.iload_n 1, 1) := by decide +kernel
theorem dX10_isDone_105 : decode cX10_isDone 105 = .ok (.iconst 3, 1) := by decide +kernel
theorem dX10_isDone_106 : decode cX10_isDone 106 = .ok (.iadd, 1) := by decide +kernel
theorem dX10_isDone_107 : decode cX10_isDone 107 = .ok (.invokevirtual 97, 3) := by decide +kernel
theorem dX10_isDone_110 : decode cX10_isDone 110 = .ok (.invokevirtual 100, 3) := by decide +kernel
theorem dX10_isDone_113 : decode cX10_isDone 113 = .ok (.ifCond .eq 12, 3) := by decide +kernel
theorem dX10_isDone_116 : decode cX10_isDone 116 = .ok (.aload_n 0, 1) := by decide +kernel
theorem dX10_isDone_117 : decode cX10_isDone 117 = .ok (.getfield 82, 3) := by decide +kernel
theorem dX10_isDone_120 : decode cX10_isDone 120 = .ok (.bipush 8, 2) := by decide +kernel
theorem dX10_isDone_122 : decode cX10_isDone 122 = .ok (.if_icmp .ne 5, 3) := by decide +kernel
theorem dX10_isDone_125 : decode cX10_isDone 125 = .ok (.iconst 0, 1) := by decide +kernel
theorem dX10_isDone_126 : decode cX10_isDone 126 = .ok (.ireturn, 1) := by decide +kernel
theorem dX10_isDone_127 : decode cX10_isDone 127 = .ok (.aload_n 0, 1) := by decide +kernel
theorem dX10_isDone_128 : decode cX10_isDone 128 = .ok (.aload_n 0, 1) := by decide +kernel
theorem dX10_isDone_129 : decode cX10_isDone 129 = .ok (.iload_n 1, 1) := by decide +kernel
theorem dX10_isDone_130 : decode cX10_isDone 130 = .ok (.iconst 1, 1) := by decide +kernel
theorem dX10_isDone_131 : decode cX10_isDone 131 = .ok (.iadd, 1) := by decide +kernel
theorem dX10_isDone_132 : decode cX10_isDone 132 = .ok (.invokevirtual 97, 3) := by decide +kernel
theorem dX10_isDone_135 : decode cX10_isDone 135 = .ok (.aload_n 0, 1) := by decide +kernel
theorem dX10_isDone_136 : decode cX10_isDone 136 = .ok (.iload_n 1, 1) := by decide +kernel
theorem dX10_isDone_137 : decode cX10_isDone 137 = .ok (.iconst 2, 1) := by decide +kernel
theorem dX10_isDone_138 : decode cX10_isDone 138 = .ok (.iadd, 1) := by decide +kernel
theorem dX10_isDone_139 : decode cX10_isDone 139 = .ok (.invokevirtual 97, 3) := by decide +kernel
theorem dX10_isDone_142 : decode cX10_isDone 142 = .ok (.aload_n 0, 1) := by decide +kernel
theorem dX10_isDone_143 : decode cX10_isDone 143 = .ok (.iload_n 1, 1) := by decide +kernel
theorem dX10_isDone_144 : decode cX10_isDone 144 = .ok (.iconst 3, 1) := by decide +kernel
theorem dX10_isDone_145 : decode cX10_isDone 145 = .ok (.iadd, 1) := by decide +kernel
theorem dX10_isDone_146 : decode cX10_isDone 146 = .ok (.invokevirtual 97, 3) := by decide +kernel
theorem dX10_isDone_149 : decode cX10_isDone 149 = .ok (.invokevirtual 104, 3) := by decide +kernel
theorem dX10_isDone_152 : decode cX10_isDone 152 = .ok (.iconst 1, 1) := by decide +kernel
theorem dX10_isDone_153 : decode cX10_isDone 153 = .ok (.ireturn, 1) := by decide +kernel
theorem dX10_isDone_154 : decode cX10_isDone 154 = .ok (.aload_n 0, 1) := by decide +kernel
theorem dX10_isDone_155 : decode cX10_isDone 155 = .ok (.aload_n 0, 1) := by decide +kernel
theorem dX10_isDone_156 : decode cX10_isDone 156 = .ok (.iload_n 1, 1) := by decide +kernel
theorem dX10_isDone_157 : decode cX10_isDone 157 = .ok (.iconst 1, 1) := by decide +kernel
theorem dX10_isDone_158 : decode cX10_isDone 158 = .ok (.iadd, 1) := by decide +kernel
theorem dX10_isDone_159 : decode cX10_isDone 159 = .ok (.invokevirtual 97, 3) := by decide +kernel
theorem dX10_isDone_162 : decode cX10_isDone 162 = .ok (.invokevirtual 108, 3) := by decide +kernel
theorem dX10_isDone_165 : decode cX10_isDone 165 = .ok (.ifCond .ne 5, 3) := by decide +kernel
theorem dX10_isDone_168 : decode cX10_isDone 168 = .ok (.iconst 0, 1) := by decide +kernel
theorem dX10_isDone_169 : decode cX10_isDone 169 = .ok (.ireturn, 1) := by decide +kernel
theorem dX10_isDone_170 : decode cX10_isDone 170 = .ok (.aload_n 0, 1) := by decide +kernel
theorem dX10_isDone_171 : decode cX10_isDone 171 = .ok (.getfield 17, 3) := by decide +kernel
theorem dX10_isDone_174 : decode cX10_isDone 174 = .ok (.aload_n 0, 1) := by decide +kernel
theorem dX10_isDone_175 : decode cX10_isDone 175 = .ok (.iload_n 1, 1) := by decide +kernel
theorem dX10_isDone_176 : decode cX10_isDone 176 = .ok (.iconst 1, 1) := by decide +kernel
theorem dX10_isDone_177 : decode cX10_isDone 177 = .ok (.iadd, 1) := by decide +kernel
theorem dX10_isDone_178 : decode cX10_isDone 178 = .ok (.invokevirtual 97, 3) := by decide +kernel
theorem dX10_isDone_181 : decode cX10_isDone 181 = .ok (.aload_n 0, 1) := by decide +kernel
theorem dX10_isDone_182 : decode cX10_isDone 182 = .ok (.iload_n 1, 1) := by decide +kernel
theorem dX10_isDone_183 : decode cX10_isDone 183 = .ok (.iconst 2, 1) := by decide +kernel
theorem dX10_isDone_184 : decode cX10_isDone 184 = .ok (.iadd, 1) := by decide +kernel
theorem dX10_isDone_185 : decode cX10_isDone 185 = .ok (.invokevirtual 97, 3) := by decide +kernel
theorem dX10_isDone_188 : decode cX10_isDone 188 = .ok (.iastore, 1) := by decide +kernel
theorem dX10_isDone_189 : decode cX10_isDone 189 = .ok (.iconst 1, 1) := by decide +kernel
theorem dX10_isDone_190 : decode cX10_isDone 190 = .ok (.ireturn, 1) := by decide +kernel
theorem dX10_isDone_191 : decode cX10_isDone 191 = .ok (.aload_n 0, 1) := by decide +kernel
theorem dX10_isDone_192 : decode cX10_isDone 192 = .ok (.aload_n 0, 1) := by decide +kernel
theorem dX10_isDone_193 : decode cX10_isDone 193 = .ok (.iload_n 1, 1) := by decide +kernel
theorem dX10_isDone_194 : decode cX10_isDone 194 = .ok (.iconst 1, 1) := by decide +kernel
theorem dX10_isDone_195 : decode cX10_isDone 195 = .ok (.iadd, 1) := by decide +kernel
theorem dX10_isDone_196 : decode cX10_isDone 196 = .ok (.invokevirtual 97, 3) := by decide +kernel
theorem dX10_isDone_199 : decode cX10_isDone 199 = .ok (.invokevirtual 108, 3) := by decide +kernel
theorem dX10_isDone_202 : decode cX10_isDone 202 = .ok (.ifCond .ne 5, 3) := by decide +kernel
theorem dX10_isDone_205 : decode cX10_isDone 205 = .ok (.iconst 0, 1) := by decide +kernel
theorem dX10_isDone_206 : decode cX10_isDone 206 = .ok (.ireturn, 1) := by decide +kernel
theorem dX10_isDone_207 : decode cX10_isDone 207 = .ok (.aload_n 0, 1) := by decide +kernel
theorem dX10_isDone_208 : decode cX10_isDone 208 = .ok (.getfield 26, 3) := by decide +kernel
theorem dX10_isDone_211 : decode cX10_isDone 211 = .ok (.aload_n 0, 1) := by decide +kernel
theorem dX10_isDone_212 : decode cX10_isDone 212 = .ok (.iload_n 1, 1) := by decide +kernel
theorem dX10_isDone_213 : decode cX10_isDone 213 = .ok (.iconst 1, 1) := by decide +kernel
theorem dX10_isDone_214 : decode cX10_isDone 214 = .ok (.iadd, 1) := by decide +kernel
theorem dX10_isDone_215 : decode cX10_isDone 215 = .ok (.invokevirtual 97, 3) := by decide +kernel
theorem dX10_isDone_218 : decode cX10_isDone 218 = .ok (.bipush 10, 2) := by decide +kernel
theorem dX10_isDone_220 : decode cX10_isDone 220 = .ok (.aload_n 0, 1) := by decide +kernel
theorem dX10_isDone_221 : decode cX10_isDone 221 = .ok (.iload_n 1, 1) := by decide +kernel
theorem dX10_isDone_222 : decode cX10_isDone 222 = .ok (.iconst 2, 1) := by decide +kernel
theorem dX10_isDone_223 : decode cX10_isDone 223 = .ok (.iadd, 1) := by decide +kernel
theorem dX10_isDone_224 : decode cX10_isDone 224 = .ok (.invokevirtual 97, 3) := by decide +kernel
theorem dX10_isDone_227 : decode cX10_isDone 227 = .ok (.imul, 1) := by decide +kernel
theorem dX10_isDone_228 : decode cX10_isDone 228 = .ok (.aload_n 0, 1) := by decide +kernel
theorem dX10_isDone_229 : decode cX10_isDone 229 = .ok (.iload_n 1, 1) := by decide +kernel
theorem dX10_isDone_230 : decode cX10_isDone 230 = .ok (.iconst 3, 1) := by decide +kernel
theorem dX10_isDone_231 : decode cX10_isDone 231 = .ok (.iadd, 1) := by decide +kernel
theorem dX10_isDone_232 : decode cX10_isDone 232 = .ok (.invokevirtual 97, 3) := by decide +kernel
theorem dX10_isDone_235 : decode cX10_isDone 235 = .ok (.iadd, 1) := by decide +kernel
theorem dX10_isDone_236 : decode cX10_isDone 236 = .ok (.iastore, 1) := by decide +kernel
theorem dX10_isDone_237 : decode cX10_isDone 237 = .ok (.iconst 1, 1) := by decide +kernel
theorem dX10_isDone_238 : decode cX10_isDone 238 = .ok (.ireturn, 1) := by decide +kernel
theorem dX10_text_0 : decode cX10_text 0 = .ok (.aload_n 0, 1) := by decide +kernel
theorem dX10_text_1 : decode cX10_text 1 = .ok (.invokevirtual 111, 3) := by decide +kernel
theorem dX10_text_4 : decode cX10_text 4 = .ok (.istore_n 1, 1) := by decide +kernel
theorem dX10_text_5 : decode cX10_text 5 = .ok (.aload_n 0, 1) := by decide +kernel
theorem dX10_text_6 : decode cX10_text 6 = .ok (.getfield 91, 3) := by decide +kernel
theorem dX10_text_9 : decode cX10_text 9 = .ok (.istore_n 2, 1) := by decide +kernel
theorem dX10_text_10 : decode cX10_text 10 = .ok (.aload_n 0, 1) := by decide +kernel
theorem dX10_text_11 : decode cX10_text 11 = .ok (.iconst 0, 1) := by decide +kernel
theorem dX10_text_12 : decode cX10_text 12 = .ok (.putfield 91, 3) := by decide +kernel
theorem dX10_text_15 : decode cX10_text 15 = .ok (.iload_n 1, 1) := by decide +kernel
theorem dX10_text_16 : decode cX10_text 16 = .ok (.ifCond .lt 9, 3) := by decide +kernel
theorem dX10_text_19 : decode cX10_text 19 = .ok (.sipush (-1000), 3) := by decide +kernel
theorem dX10_text_22 : decode cX10_text 22 = .ok (.iload_n 1, 1) := by decide +kernel
theorem dX10_text_23 : decode cX10_text 23 = .ok (.isub, 1) := by decide +kernel
theorem dX10_text_24 : decode cX10_text 24 = .ok (.ireturn, 1) := by decide +kernel
theorem dX10_text_25 : decode cX10_text 25 = .ok (.aload_n 0, 1) := by decide +kernel
theorem dX10_text_26 : decode cX10_text 26 = .ok (.aload_n 0, 1) := by decide +kernel
theorem dX10_text_27 : decode cX10_text 27 = .ok (.getfield 75, 3) := by decide +kernel
theorem dX10_text_30 : decode cX10_text 30 = .ok (.invokevirtual 115, 3) := by decide +kernel
theorem dX10_text_33 : decode cX10_text 33 = .ok (.iconst 0, 1) := by decide +kernel
theorem dX10_text_34 : decode cX10_text 34 = .ok (.istore_n 3, 1) := by decide +kernel
theorem dX10_text_35 : decode cX10_text 35 = .ok (.iconst 0, 1) := by decide +kernel
theorem dX10_text_36 : decode cX10_text 36 = .ok (.istore 4, 2) := by decide +kernel
theorem dX10_text_38 : decode cX10_text 38 = .ok (.iload 4, 2) := by decide +kernel
theorem dX10_text_40 : decode cX10_text 40 = .ok (.iload_n 2, 1) := by decide +kernel
theorem dX10_text_41 : decode cX10_text 41 = .ok (.if_icmp .ge 50, 3) := by decide +kernel
theorem dX10_text_44 : decode cX10_text 44 = .ok (.aload_n 0, 1) := by decide +kernel
theorem dX10_text_45 : decode cX10_text 45 = .ok (.iload 4, 2) := by decide +kernel
theorem dX10_text_47 : decode cX10_text 47 = .ok (.invokevirtual 119, 3) := by decide +kernel
theorem dX10_text_50 : decode cX10_text 50 = .ok (.ifCond .ne 18, 3) := by decide +kernel
theorem dX10_text_53 : decode cX10_text 53 = .ok (.aload_n 0, 1) := by decide +kernel
theorem dX10_text_54 : decode cX10_text 54 = .ok (.aload_n 0, 1) := by decide +kernel
theorem dX10_text_55 : decode cX10_text 55 = .ok (.getfield 75, 3) := by decide +kernel
theorem dX10_text_58 : decode cX10_text 58 = .ok (.invokevirtual 122, 3) := by decide +kernel
theorem dX10_text_61 : decode cX10_text 61 = .ok (.sipush (-2000), 3) := by decide +kernel
theorem dX10_text_64 : decode cX10_text 64 = .ok (.iload 4, 2) := by decide +kernel
theorem dX10_text_66 : decode cX10_text 66 = .ok (.isub, 1) := by decide +kernel
theorem dX10_text_67 : decode cX10_text 67 = .ok (.ireturn, 1) := by decide +kernel
theorem dX10_text_68 : decode cX10_text 68 = .ok (.iload 4, 2) := by decide +kernel
theorem dX10_text_70 : decode cX10_text 70 = .ok (.aload_n 0, 1) := by decide +kernel
theorem dX10_text_71 : decode cX10_text 71 = .ok (.getfield 38, 3) := by decide +kernel
theorem dX10_text_74 : decode cX10_text 74 = .ok (.iload 4, 2) := by decide +kernel
theorem dX10_text_76 : decode cX10_text 76 = .ok (.iaload, 1) := by decide +kernel
theorem dX10_text_77 : decode cX10_text 77 = .ok (.invokestatic 94, 3) := by decide +kernel
theorem dX10_text_80 : decode cX10_text 80 = .ok (.iconst 2, 1) := by decide +kernel
theorem dX10_text_81 : decode cX10_text 81 = .ok (.iadd, 1) := by decide +kernel
theorem dX10_text_82 : decode cX10_text 82 = .ok (.iadd, 1) := by decide +kernel
theorem dX10_text_83 : decode cX10_text 83 = .ok (.istore 4, 2) := by decide +kernel
theorem dX10_text_85 : decode cX10_text 85 = .ok (.iinc 3 1, 3) := by decide +kernel
theorem dX10_text_88 : decode cX10_text 88 = .ok (.goto (-50), 3) := by decide +kernel
theorem dX10_text_91 : decode cX10_text 91 = .ok (.aload_n 0, 1) := by decide +kernel
theorem dX10_text_92 : decode cX10_text 92 = .ok (.iconst 0, 1) := by decide +kernel
theorem dX10_text_93 : decode cX10_text 93 = .ok (.putfield 125, 3) := by decide +kernel
theorem dX10_text_96 : decode cX10_text 96 = .ok (.iload_n 3, 1) := by decide +kernel
theorem dX10_text_97 : decode cX10_text 97 = .ok (.ireturn, 1) := by decide +kernel
theorem dX10_comes_0 : decode cX10_comes 0 = .ok (.aload_n 0, 1) := by decide +kernel
theorem dX10_comes_1 : decode cX10_comes 1 = .ok (.getfield 13, 3) := by decide +kernel
theorem dX10_comes_4 : decode cX10_comes 4 = .ok (.aload_n 0, 1) := by decide +kernel
theorem dX10_comes_5 : decode cX10_comes 5 = .ok (.getfield 82, 3) := by decide +kernel
theorem dX10_comes_8 : decode cX10_comes 8 = .ok (.iload_n 1, 1) := by decide +kernel
theorem dX10_comes_9 : decode cX10_comes 9 = .ok (.iastore, 1) := by decide +kernel
theorem dX10_comes_10 : decode cX10_comes 10 = .ok (.aload_n 0, 1) := by decide +kernel
theorem dX10_comes_11 : decode cX10_comes 11 = .ok (.getfield 17, 3) := by decide +kernel
theorem dX10_comes_14 : decode cX10_comes 14 = .ok (.aload_n 0, 1) := by decide +kernel
theorem dX10_comes_15 : decode cX10_comes 15 = .ok (.getfield 82, 3) := by decide +kernel
theorem dX10_comes_18 : decode cX10_comes 18 = .ok (.iconst 0, 1) := by decide +kernel
theorem dX10_comes_19 : decode cX10_comes 19 = .ok (.iastore, 1) := by decide +kernel
theorem dX10_comes_20 : decode cX10_comes 20 = .ok (.aload_n 0, 1) := by decide +kernel
theorem dX10_comes_21 : decode cX10_comes 21 = .ok (.getfield 20, 3) := by decide +kernel
theorem dX10_comes_24 : decode cX10_comes 24 = .ok (.aload_n 0, 1) := by decide +kernel
theorem dX10_comes_25 : decode cX10_comes 25 = .ok (.getfield 82, 3) := by decide +kernel
theorem dX10_comes_28 : decode cX10_comes 28 = .ok (.iload_n 2, 1) := by decide +kernel
theorem dX10_comes_29 : decode cX10_comes 29 = .ok (.iastore, 1) := by decide +kernel
theorem dX10_comes_30 : decode cX10_comes 30 = .ok (.aload_n 0, 1) := by decide +kernel
theorem dX10_comes_31 : decode cX10_comes 31 = .ok (.getfield 23, 3) := by decide +kernel
theorem dX10_comes_34 : decode cX10_comes 34 = .ok (.aload_n 0, 1) := by decide +kernel
theorem dX10_comes_35 : decode cX10_comes 35 = .ok (.getfield 82, 3) := by decide +kernel
theorem dX10_comes_38 : decode cX10_comes 38 = .ok (.iload_n 3, 1) := by decide +kernel
theorem dX10_comes_39 : decode cX10_comes 39 = .ok (.iastore, 1) := by decide +kernel
theorem dX10_comes_40 : decode cX10_comes 40 = .ok (.aload_n 0, 1) := by decide +kernel
theorem dX10_comes_41 : decode cX10_comes 41 = .ok (.getfield 26, 3) := by decide +kernel
theorem dX10_comes_44 : decode cX10_comes 44 = .ok (.aload_n 0, 1) := by decide +kernel
theorem dX10_comes_45 : decode cX10_comes 45 = .ok (.getfield 82, 3) := by decide +kernel
theorem dX10_comes_48 : decode cX10_comes 48 = .ok (.iconst 0, 1) := by decide +kernel
theorem dX10_comes_49 : decode cX10_comes 49 = .ok (.iastore, 1) := by decide +kernel
theorem dX10_comes_50 : decode cX10_comes 50 = .ok (.aload_n 0, 1) := by decide +kernel
theorem dX10_comes_51 : decode cX10_comes 51 = .ok (.dup, 1) := by decide +kernel
theorem dX10_comes_52 : decode cX10_comes 52 = .ok (.getfield 82, 3) := by decide +kernel
theorem dX10_comes_55 : decode cX10_comes 55 = .ok (.iconst 1, 1) := by decide +kernel
theorem dX10_comes_56 : decode cX10_comes 56 = .ok (.iadd, 1) := by decide +kernel
theorem dX10_comes_57 : decode cX10_comes 57 = .ok (.putfield 82, 3) := by decide +kernel
theorem dX10_comes_60 : decode cX10_comes 60 = .ok (.return_, 1) := by decide +kernel
theorem dX10_points_0 : decode cX10_points 0 = .ok (.iload_n 1, 1) := by decide +kernel
theorem dX10_points_1 : decode cX10_points 1 = .ok (.iconst 1, 1) := by decide +kernel
theorem dX10_points_2 : decode cX10_points 2 = .ok (.if_icmp .ge 10, 3) := by decide +kernel
theorem dX10_points_5 : decode cX10_points 5 = .ok (.aload_n 0, 1) := by decide +kernel
theorem dX10_points_6 : decode cX10_points 6 = .ok (.bipush (-4), 2) := by decide +kernel
theorem dX10_points_8 : decode cX10_points 8 = .ok (.invokevirtual 87, 3) := by decide +kernel
theorem dX10_points_11 : decode cX10_points 11 = .ok (.ireturn, 1) := by decide +kernel
theorem dX10_points_12 : decode cX10_points 12 = .ok (.iload_n 1, 1) := by decide +kernel
theorem dX10_points_13 : decode cX10_points 13 = .ok (.bipush 7, 2) := by decide +kernel
theorem dX10_points_15 : decode cX10_points 15 = .ok (.if_icmp .le 10, 3) := by decide +kernel
theorem dX10_points_18 : decode cX10_points 18 = .ok (.aload_n 0, 1) := by decide +kernel
theorem dX10_points_19 : decode cX10_points 19 = .ok (.bipush (-6), 2) := by decide +kernel
theorem dX10_points_21 : decode cX10_points 21 = .ok (.invokevirtual 87, 3) := by decide +kernel
theorem dX10_points_24 : decode cX10_points 24 = .ok (.ireturn, 1) := by decide +kernel
theorem dX10_points_25 : decode cX10_points 25 = .ok (.aload_n 0, 1) := by decide +kernel
theorem dX10_points_26 : decode cX10_points 26 = .ok (.getfield 7, 3) := by decide +kernel
theorem dX10_points_29 : decode cX10_points 29 = .ok (.istore_n 2, 1) := by decide +kernel
theorem dX10_points_30 : decode cX10_points 30 = .ok (.aload_n 0, 1) := by decide +kernel
theorem dX10_points_31 : decode cX10_points 31 = .ok (.iload_n 1, 1) := by decide +kernel
theorem dX10_points_32 : decode cX10_points 32 = .ok (.putfield 7, 3) := by decide +kernel
theorem dX10_points_35 : decode cX10_points 35 = .ok (.aload_n 0, 1) := by decide +kernel
theorem dX10_points_36 : decode cX10_points 36 = .ok (.iconst 0, 1) := by decide +kernel
theorem dX10_points_37 : decode cX10_points 37 = .ok (.putfield 82, 3) := by decide +kernel
theorem dX10_points_40 : decode cX10_points 40 = .ok (.aload_n 0, 1) := by decide +kernel
theorem dX10_points_41 : decode cX10_points 41 = .ok (.iconst 0, 1) := by decide +kernel
theorem dX10_points_42 : decode cX10_points 42 = .ok (.putfield 125, 3) := by decide +kernel
theorem dX10_points_45 : decode cX10_points 45 = .ok (.iload_n 2, 1) := by decide +kernel
theorem dX10_points_46 : decode cX10_points 46 = .ok (.ireturn, 1) := by decide +kernel
theorem dX10_line_0 : decode cX10_line 0 = .ok (.iload_n 1, 1) := by decide +kernel
theorem dX10_line_1 : decode cX10_line 1 = .ok (.iconst 0, 1) := by decide +kernel
theorem dX10_line_2 : decode cX10_line 2 = .ok (.iconst 5, 1) := by decide +kernel
theorem dX10_line_3 : decode cX10_line 3 = .ok (.invokestatic 78, 3) := by decide +kernel
theorem dX10_line_6 : decode cX10_line 6 = .ok (.ifCond .ne 10, 3) := by decide +kernel
theorem dX10_line_9 : decode cX10_line 9 = .ok (.aload_n 0, 1) := by decide +kernel
theorem dX10_line_10 : decode cX10_line 10 = .ok (.bipush (-2), 2) := by decide +kernel
theorem dX10_line_12 : decode cX10_line 12 = .ok (.invokevirtual 87, 3) := by decide +kernel
theorem dX10_line_15 : decode cX10_line 15 = .ok (.ireturn, 1) := by decide +kernel
theorem dX10_line_16 : decode cX10_line 16 = .ok (.aload_n 0, 1) := by decide +kernel
theorem dX10_line_17 : decode cX10_line 17 = .ok (.iload_n 2, 1) := by decide +kernel
theorem dX10_line_18 : decode cX10_line 18 = .ok (.invokevirtual 100, 3) := by decide +kernel
theorem dX10_line_21 : decode cX10_line 21 = .ok (.ifCond .eq 11, 3) := by decide +kernel
theorem dX10_line_24 : decode cX10_line 24 = .ok (.aload_n 0, 1) := by decide +kernel
theorem dX10_line_25 : decode cX10_line 25 = .ok (.iload_n 3, 1) := by decide +kernel
theorem dX10_line_26 : decode cX10_line 26 = .ok (.invokevirtual 100, 3) := by decide +kernel
theorem dX10_line_29 : decode cX10_line 29 = .ok (.ifCond .ne 9, 3) := by decide +kernel
theorem dX10_line_32 : decode cX10_line 32 = .ok (.aload_n 0, 1) := by decide +kernel
theorem dX10_line_33 : decode cX10_line 33 = .ok (.iconst (-1), 1) := by decide +kernel
theorem dX10_line_34 : decode cX10_line 34 = .ok (.invokevirtual 87, 3) := by decide +kernel
theorem dX10_line_37 : decode cX10_line 37 = .ok (.ireturn, 1) := by decide +kernel
theorem dX10_line_38 : decode cX10_line 38 = .ok (.aload_n 0, 1) := by decide +kernel
theorem dX10_line_39 : decode cX10_line 39 = .ok (.getfield 82, 3) := by decide +kernel
theorem dX10_line_42 : decode cX10_line 42 = .ok (.bipush 8, 2) := by decide +kernel
theorem dX10_line_44 : decode cX10_line 44 = .ok (.if_icmp .ne 10, 3) := by decide +kernel
theorem dX10_line_47 : decode cX10_line 47 = .ok (.aload_n 0, 1) := by decide +kernel
theorem dX10_line_48 : decode cX10_line 48 = .ok (.bipush (-6), 2) := by decide +kernel
theorem dX10_line_50 : decode cX10_line 50 = .ok (.invokevirtual 87, 3) := by decide +kernel
theorem dX10_line_53 : decode cX10_line 53 = .ok (.ireturn, 1) := by decide +kernel
theorem dX10_line_54 : decode cX10_line 54 = .ok (.aload_n 0, 1) := by decide +kernel
theorem dX10_line_55 : decode cX10_line 55 = .ok (.iload_n 1, 1) := by decide +kernel
theorem dX10_line_56 : decode cX10_line 56 = .ok (.iload_n 2, 1) := by decide +kernel
theorem dX10_line_57 : decode cX10_line 57 = .ok (.iload_n 3, 1) := by decide +kernel
theorem dX10_line_58 : decode cX10_line 58 = .ok (.invokevirtual 104, 3) := by decide +kernel
theorem dX10_line_61 : decode cX10_line 61 = .ok (.aload_n 0, 1) := by decide +kernel
theorem dX10_line_62 : decode cX10_line 62 = .ok (.iconst 0, 1) := by decide +kernel
theorem dX10_line_63 : decode cX10_line 63 = .ok (.putfield 125, 3) := by decide +kernel
theorem dX10_line_66 : decode cX10_line 66 = .ok (.aload_n 0, 1) := by decide +kernel
theorem dX10_line_67 : decode cX10_line 67 = .ok (.getfield 82, 3) := by decide +kernel
theorem dX10_line_70 : decode cX10_line 70 = .ok (.iconst 1, 1) := by decide +kernel
theorem dX10_line_71 : decode cX10_line 71 = .ok (.isub, 1) := by decide +kernel
theorem dX10_line_72 : decode cX10_line 72 = .ok (.ireturn, 1) := by decide +kernel
theorem dX10_drop_0 : decode cX10_drop 0 = .ok (.aload_n 0, 1) := by decide +kernel
theorem dX10_drop_1 : decode cX10_drop 1 = .ok (.getfield 82, 3) := by decide +kernel
theorem dX10_drop_4 : decode cX10_drop 4 = .ok (.ifCond .ne 10, 3) := by decide +kernel
theorem dX10_drop_7 : decode cX10_drop 7 = .ok (.aload_n 0, 1) := by decide +kernel
theorem dX10_drop_8 : decode cX10_drop 8 = .ok (.bipush (-3), 2) := by decide +kernel
theorem dX10_drop_10 : decode cX10_drop 10 = .ok (.invokevirtual 87, 3) := by decide +kernel
theorem dX10_drop_13 : decode cX10_drop 13 = .ok (.ireturn, 1) := by decide +kernel
theorem dX10_drop_14 : decode cX10_drop 14 = .ok (.aload_n 0, 1) := by decide +kernel
theorem dX10_drop_15 : decode cX10_drop 15 = .ok (.dup, 1) := by decide +kernel
theorem dX10_drop_16 : decode cX10_drop 16 = .ok (.getfield 82, 3) := by decide +kernel
theorem dX10_drop_19 : decode cX10_drop 19 = .ok (.iconst 1, 1) := by decide +kernel
theorem dX10_drop_20 : decode cX10_drop 20 = .ok (.isub, 1) := by decide +kernel
theorem dX10_drop_21 : decode cX10_drop 21 = .ok (.putfield 82, 3) := by decide +kernel
theorem dX10_drop_24 : decode cX10_drop 24 = .ok (.aload_n 0, 1) := by decide +kernel
theorem dX10_drop_25 : decode cX10_drop 25 = .ok (.iconst 0, 1) := by decide +kernel
theorem dX10_drop_26 : decode cX10_drop 26 = .ok (.putfield 125, 3) := by decide +kernel
theorem dX10_drop_29 : decode cX10_drop 29 = .ok (.aload_n 0, 1) := by decide +kernel
theorem dX10_drop_30 : decode cX10_drop 30 = .ok (.getfield 82, 3) := by decide +kernel
theorem dX10_drop_33 : decode cX10_drop 33 = .ok (.ireturn, 1) := by decide +kernel
theorem dX10_canBeUndone_0 : decode cX10_canBeUndone 0 = .ok (.aload_n 0, 1) := by decide +kernel
theorem dX10_canBeUndone_1 : decode cX10_canBeUndone 1 = .ok (.getfield 125, 3) := by decide +kernel
theorem dX10_canBeUndone_4 : decode cX10_canBeUndone 4 = .ok (.bipush 8, 2) := by decide +kernel
theorem dX10_canBeUndone_6 : decode cX10_canBeUndone 6 = .ok (.if_icmp .ne 73, 3) := by decide +kernel
theorem dX10_canBeUndone_9 : decode cX10_canBeUndone 9 = .ok (.bipush 8, 2) := by decide +kernel
theorem dX10_canBeUndone_11 : decode cX10_canBeUndone 11 = .ok (.istore_n 1, 1) := by decide +kernel
theorem dX10_canBeUndone_12 : decode cX10_canBeUndone 12 = .ok (.iload_n 1, 1) := by decide +kernel
theorem dX10_canBeUndone_13 : decode cX10_canBeUndone 13 = .ok (.bipush 64, 2) := by decide +kernel
theorem dX10_canBeUndone_15 : decode cX10_canBeUndone 15 = .ok (.if_icmp .ge 54, 3) := by decide +kernel
theorem dX10_canBeUndone_18 : decode cX10_canBeUndone 18 = .ok (.aload_n 0, 1) := by decide +kernel
theorem dX10_canBeUndone_19 : decode cX10_canBeUndone 19 = .ok (.getfield 29, 3) := by decide +kernel
theorem dX10_canBeUndone_22 : decode cX10_canBeUndone 22 = .ok (.iload_n 1, 1) := by decide +kernel
theorem dX10_canBeUndone_23 : decode cX10_canBeUndone 23 = .ok (.bipush 8, 2) := by decide +kernel
theorem dX10_canBeUndone_25 : decode cX10_canBeUndone 25 = .ok (.isub, 1) := by decide +kernel
theorem dX10_canBeUndone_26 : decode cX10_canBeUndone 26 = .ok (.aload_n 0, 1) := by decide +kernel
theorem dX10_canBeUndone_27 : decode cX10_canBeUndone 27 = .ok (.getfield 29, 3) := by decide +kernel
theorem dX10_canBeUndone_30 : decode cX10_canBeUndone 30 = .ok (.iload_n 1, 1) := by decide +kernel
theorem dX10_canBeUndone_31 : decode cX10_canBeUndone 31 = .ok (.iaload, 1) := by decide +kernel
theorem dX10_canBeUndone_32 : decode cX10_canBeUndone 32 = .ok (.iastore, 1) := by decide +kernel
theorem dX10_canBeUndone_33 : decode cX10_canBeUndone 33 = .ok (.aload_n 0, 1) := by decide +kernel
theorem dX10_canBeUndone_34 : decode cX10_canBeUndone 34 = .ok (.getfield 32, 3) := by decide +kernel
theorem dX10_canBeUndone_37 : decode cX10_canBeUndone 37 = .ok (.iload_n 1, 1) := by decide +kernel
theorem dX10_canBeUndone_38 : decode cX10_canBeUndone 38 = .ok (.bipush 8, 2) := by decide +kernel
theorem dX10_canBeUndone_40 : decode cX10_canBeUndone 40 = .ok (.isub, 1) := by decide +kernel
theorem dX10_canBeUndone_41 : decode cX10_canBeUndone 41 = .ok (.aload_n 0, 1) := by decide +kernel
theorem dX10_canBeUndone_42 : decode cX10_canBeUndone 42 = .ok (.getfield 32, 3) := by decide +kernel
theorem dX10_canBeUndone_45 : decode cX10_canBeUndone 45 = .ok (.iload_n 1, 1) := by decide +kernel
theorem dX10_canBeUndone_46 : decode cX10_canBeUndone 46 = .ok (.iaload, 1) := by decide +kernel
theorem dX10_canBeUndone_47 : decode cX10_canBeUndone 47 = .ok (.iastore, 1) := by decide +kernel
theorem dX10_canBeUndone_48 : decode cX10_canBeUndone 48 = .ok (.aload_n 0, 1) := by decide +kernel
theorem dX10_canBeUndone_49 : decode cX10_canBeUndone 49 = .ok (.getfield 35, 3) := by decide +kernel
theorem dX10_canBeUndone_52 : decode cX10_canBeUndone 52 = .ok (.iload_n 1, 1) := by decide +kernel
theorem dX10_canBeUndone_53 : decode cX10_canBeUndone 53 = .ok (.bipush 8, 2) := by decide +kernel
theorem dX10_canBeUndone_55 : decode cX10_canBeUndone 55 = .ok (.isub, 1) := by decide +kernel
theorem dX10_canBeUndone_56 : decode cX10_canBeUndone 56 = .ok (.aload_n 0, 1) := by decide +kernel
theorem dX10_canBeUndone_57 : decode cX10_canBeUndone 57 = .ok (.getfield 35, 3) := by decide +kernel
theorem dX10_canBeUndone_60 : decode cX10_canBeUndone 60 = .ok (.iload_n 1, 1) := by decide +kernel
theorem dX10_canBeUndone_61 : decode cX10_canBeUndone 61 = .ok (.iaload, 1) := by decide +kernel
theorem dX10_canBeUndone_62 : decode cX10_canBeUndone 62 = .ok (.iastore, 1) := by decide +kernel
theorem dX10_canBeUndone_63 : decode cX10_canBeUndone 63 = .ok (.iinc 1 1, 3) := by decide +kernel
theorem dX10_canBeUndone_66 : decode cX10_canBeUndone 66 = .ok (.goto (-54), 3) := by decide +kernel
theorem dX10_canBeUndone_69 : decode cX10_canBeUndone 69 = .ok (.aload_n 0, 1) := by decide +kernel
theorem dX10_canBeUndone_70 : decode cX10_canBeUndone 70 = .ok (.dup, 1) := by decide +kernel
theorem dX10_canBeUndone_71 : decode cX10_canBeUndone 71 = .ok (.getfield 125, 3) := by decide +kernel
theorem dX10_canBeUndone_74 : decode cX10_canBeUndone 74 = .ok (.iconst 1, 1) := by decide +kernel
theorem dX10_canBeUndone_75 : decode cX10_canBeUndone 75 = .ok (.isub, 1) := by decide +kernel
theorem dX10_canBeUndone_76 : decode cX10_canBeUndone 76 = .ok (.putfield 125, 3) := by decide +kernel
theorem dX10_canBeUndone_79 : decode cX10_canBeUndone 79 = .ok (.iconst 0, 1) := by decide +kernel
theorem dX10_canBeUndone_80 : decode cX10_canBeUndone 80 = .ok (.istore_n 1, 1) := by decide +kernel
theorem dX10_canBeUndone_81 : decode cX10_canBeUndone 81 = .ok (.iload_n 1, 1) := by decide +kernel
theorem dX10_canBeUndone_82 : decode cX10_canBeUndone 82 = .ok (.bipush 8, 2) := by decide +kernel
theorem dX10_canBeUndone_84 : decode cX10_canBeUndone 84 = .ok (.if_icmp .ge 69, 3) := by decide +kernel
theorem dX10_canBeUndone_87 : decode cX10_canBeUndone 87 = .ok (.aload_n 0, 1) := by decide +kernel
theorem dX10_canBeUndone_88 : decode cX10_canBeUndone 88 = .ok (.getfield 29, 3) := by decide +kernel
theorem dX10_canBeUndone_91 : decode cX10_canBeUndone 91 = .ok (.bipush 8, 2) := by decide +kernel
theorem dX10_canBeUndone_93 : decode cX10_canBeUndone 93 = .ok (.aload_n 0, 1) := by decide +kernel
theorem dX10_canBeUndone_94 : decode cX10_canBeUndone 94 = .ok (.getfield 125, 3) := by decide +kernel
theorem dX10_canBeUndone_97 : decode cX10_canBeUndone 97 = .ok (.imul, 1) := by decide +kernel
theorem dX10_canBeUndone_98 : decode cX10_canBeUndone 98 = .ok (.iload_n 1, 1) := by decide +kernel
theorem dX10_canBeUndone_99 : decode cX10_canBeUndone 99 = .ok (.iadd, 1) := by decide +kernel
theorem dX10_canBeUndone_100 : decode cX10_canBeUndone 100 = .ok (.aload_n 0, 1) := by decide +kernel
theorem dX10_canBeUndone_101 : decode cX10_canBeUndone 101 = .ok (.getfield 13, 3) := by decide +kernel
theorem dX10_canBeUndone_104 : decode cX10_canBeUndone 104 = .ok (.iload_n 1, 1) := by decide +kernel
theorem dX10_canBeUndone_105 : decode cX10_canBeUndone 105 = .ok (.iaload, 1) := by decide +kernel
theorem dX10_canBeUndone_106 : decode cX10_canBeUndone 106 = .ok (.iastore, 1) := by decide +kernel
theorem dX10_canBeUndone_107 : decode cX10_canBeUndone 107 = .ok (.aload_n 0, 1) := by decide +kernel
theorem dX10_canBeUndone_108 : decode cX10_canBeUndone 108 = .ok (.getfield 32, 3) := by decide +kernel
theorem dX10_canBeUndone_111 : decode cX10_canBeUndone 111 = .ok (.bipush 8, 2) := by decide +kernel
theorem dX10_canBeUndone_113 : decode cX10_canBeUndone 113 = .ok (.aload_n 0, 1) := by decide +kernel
theorem dX10_canBeUndone_114 : decode cX10_canBeUndone 114 = .ok (.getfield 125, 3) := by decide +kernel
theorem dX10_canBeUndone_117 : decode cX10_canBeUndone 117 = .ok (.imul, 1) := by decide +kernel
theorem dX10_canBeUndone_118 : decode cX10_canBeUndone 118 = .ok (.iload_n 1, 1) := by decide +kernel
theorem dX10_canBeUndone_119 : decode cX10_canBeUndone 119 = .ok (.iadd, 1) := by decide +kernel
theorem dX10_canBeUndone_120 : decode cX10_canBeUndone 120 = .ok (.aload_n 0, 1) := by decide +kernel
theorem dX10_canBeUndone_121 : decode cX10_canBeUndone 121 = .ok (.getfield 17, 3) := by decide +kernel
theorem dX10_canBeUndone_124 : decode cX10_canBeUndone 124 = .ok (.iload_n 1, 1) := by decide +kernel
theorem dX10_canBeUndone_125 : decode cX10_canBeUndone 125 = .ok (.iaload, 1) := by decide +kernel
theorem dX10_canBeUndone_126 : decode cX10_canBeUndone 126 = .ok (.iastore, 1) := by decide +kernel
theorem dX10_canBeUndone_127 : decode cX10_canBeUndone 127 = .ok (.aload_n 0, 1) := by decide +kernel
theorem dX10_canBeUndone_128 : decode cX10_canBeUndone 128 = .ok (.getfield 35, 3) := by decide +kernel
theorem dX10_canBeUndone_131 : decode cX10_canBeUndone 131 = .ok (.bipush 8, 2) := by decide +kernel
theorem dX10_canBeUndone_133 : decode cX10_canBeUndone 133 = .ok (.aload_n 0, 1) := by decide +kernel
theorem dX10_canBeUndone_134 : decode cX10_canBeUndone 134 = .ok (.getfield 125, 3) := by decide +kernel
theorem dX10_canBeUndone_137 : decode cX10_canBeUndone 137 = .ok (.imul, 1) := by decide +kernel
theorem dX10_canBeUndone_138 : decode cX10_canBeUndone 138 = .ok (.iload_n 1, 1) := by decide +kernel
theorem dX10_canBeUndone_139 : decode cX10_canBeUndone 139 = .ok (.iadd, 1) := by decide +kernel
theorem dX10_canBeUndone_140 : decode cX10_canBeUndone 140 = .ok (.aload_n 0, 1) := by decide +kernel
theorem dX10_canBeUndone_141 : decode cX10_canBeUndone 141 = .ok (.getfield 26, 3) := by decide +kernel
theorem dX10_canBeUndone_144 : decode cX10_canBeUndone 144 = .ok (.iload_n 1, 1) := by decide +kernel
theorem dX10_canBeUndone_145 : decode cX10_canBeUndone 145 = .ok (.iaload, 1) := by decide +kernel
theorem dX10_canBeUndone_146 : decode cX10_canBeUndone 146 = .ok (.iastore, 1) := by decide +kernel
theorem dX10_canBeUndone_147 : decode cX10_canBeUndone 147 = .ok (.iinc 1 1, 3) := by decide +kernel
theorem dX10_canBeUndone_150 : decode cX10_canBeUndone 150 = .ok (.goto (-69), 3) := by decide +kernel
theorem dX10_canBeUndone_153 : decode cX10_canBeUndone 153 = .ok (.aload_n 0, 1) := by decide +kernel
theorem dX10_canBeUndone_154 : decode cX10_canBeUndone 154 = .ok (.dup, 1) := by decide +kernel
theorem dX10_canBeUndone_155 : decode cX10_canBeUndone 155 = .ok (.getfield 125, 3) := by decide +kernel
theorem dX10_canBeUndone_158 : decode cX10_canBeUndone 158 = .ok (.iconst 1, 1) := by decide +kernel
theorem dX10_canBeUndone_159 : decode cX10_canBeUndone 159 = .ok (.iadd, 1) := by decide +kernel
theorem dX10_canBeUndone_160 : decode cX10_canBeUndone 160 = .ok (.putfield 125, 3) := by decide +kernel
theorem dX10_canBeUndone_163 : decode cX10_canBeUndone 163 = .ok (.return_, 1) := by decide +kernel
theorem dX10_label_0 : decode cX10_label 0 = .ok (.aload_n 0, 1) := by decide +kernel
theorem dX10_label_1 : decode cX10_label 1 = .ok (.iload_n 1, 1) := by decide +kernel
theorem dX10_label_2 : decode cX10_label 2 = .ok (.invokevirtual 108, 3) := by decide +kernel
theorem dX10_label_5 : decode cX10_label 5 = .ok (.ifCond .ne 9, 3) := by decide +kernel
theorem dX10_label_8 : decode cX10_label 8 = .ok (.aload_n 0, 1) := by decide +kernel
theorem dX10_label_9 : decode cX10_label 9 = .ok (.iconst (-1), 1) := by decide +kernel
theorem dX10_label_10 : decode cX10_label 10 = .ok (.invokevirtual 87, 3) := by decide +kernel
theorem dX10_label_13 : decode cX10_label 13 = .ok (.ireturn, 1) := by decide +kernel
theorem dX10_label_14 : decode cX10_label 14 = .ok (.iload_n 2, 1) := by decide +kernel
theorem dX10_label_15 : decode cX10_label 15 = .ok (.ifCond .ge 10, 3) := by decide +kernel
theorem dX10_label_18 : decode cX10_label 18 = .ok (.aload_n 0, 1) := by decide +kernel
theorem dX10_label_19 : decode cX10_label 19 = .ok (.bipush (-4), 2) := by decide +kernel
theorem dX10_label_21 : decode cX10_label 21 = .ok (.invokevirtual 87, 3) := by decide +kernel
theorem dX10_label_24 : decode cX10_label 24 = .ok (.ireturn, 1) := by decide +kernel
theorem dX10_label_25 : decode cX10_label 25 = .ok (.iload_n 2, 1) := by decide +kernel
theorem dX10_label_26 : decode cX10_label 26 = .ok (.bipush 99, 2) := by decide +kernel
theorem dX10_label_28 : decode cX10_label 28 = .ok (.if_icmp .le 10, 3) := by decide +kernel
theorem dX10_label_31 : decode cX10_label 31 = .ok (.aload_n 0, 1) := by decide +kernel
theorem dX10_label_32 : decode cX10_label 32 = .ok (.bipush (-6), 2) := by decide +kernel
theorem dX10_label_34 : decode cX10_label 34 = .ok (.invokevirtual 87, 3) := by decide +kernel
theorem dX10_label_37 : decode cX10_label 37 = .ok (.ireturn, 1) := by decide +kernel
theorem dX10_label_38 : decode cX10_label 38 = .ok (.aload_n 0, 1) := by decide +kernel
theorem dX10_label_39 : decode cX10_label 39 = .ok (.invokevirtual 128, 3) := by decide +kernel
theorem dX10_label_42 : decode cX10_label 42 = .ok (.aload_n 0, 1) := by decide +kernel
theorem dX10_label_43 : decode cX10_label 43 = .ok (.getfield 26, 3) := by decide +kernel
theorem dX10_label_46 : decode cX10_label 46 = .ok (.iload_n 1, 1) := by decide +kernel
theorem dX10_label_47 : decode cX10_label 47 = .ok (.iaload, 1) := by decide +kernel
theorem dX10_label_48 : decode cX10_label 48 = .ok (.istore_n 3, 1) := by decide +kernel
theorem dX10_label_49 : decode cX10_label 49 = .ok (.aload_n 0, 1) := by decide +kernel
theorem dX10_label_50 : decode cX10_label 50 = .ok (.getfield 26, 3) := by decide +kernel
theorem dX10_label_53 : decode cX10_label 53 = .ok (.iload_n 1, 1) := by decide +kernel
theorem dX10_label_54 : decode cX10_label 54 = .ok (.iload_n 2, 1) := by decide +kernel
theorem dX10_label_55 : decode cX10_label 55 = .ok (.iastore, 1) := by decide +kernel
theorem dX10_label_56 : decode cX10_label 56 = .ok (.iload_n 3, 1) := by decide +kernel
theorem dX10_label_57 : decode cX10_label 57 = .ok (.ireturn, 1) := by decide +kernel
theorem dX10_turn_0 : decode cX10_turn 0 = .ok (.aload_n 0, 1) := by decide +kernel
theorem dX10_turn_1 : decode cX10_turn 1 = .ok (.iload_n 1, 1) := by decide +kernel
theorem dX10_turn_2 : decode cX10_turn 2 = .ok (.invokevirtual 108, 3) := by decide +kernel
theorem dX10_turn_5 : decode cX10_turn 5 = .ok (.ifCond .ne 9, 3) := by decide +kernel
theorem dX10_turn_8 : decode cX10_turn 8 = .ok (.aload_n 0, 1) := by decide +kernel
theorem dX10_turn_9 : decode cX10_turn 9 = .ok (.iconst (-1), 1) := by decide +kernel
theorem dX10_turn_10 : decode cX10_turn 10 = .ok (.invokevirtual 87, 3) := by decide +kernel
theorem dX10_turn_13 : decode cX10_turn 13 = .ok (.ireturn, 1) := by decide +kernel
theorem dX10_turn_14 : decode cX10_turn 14 = .ok (.iload_n 2, 1) := by decide +kernel
theorem dX10_turn_15 : decode cX10_turn 15 = .ok (.iconst 0, 1) := by decide +kernel
theorem dX10_turn_16 : decode cX10_turn 16 = .ok (.iconst 5, 1) := by decide +kernel
theorem dX10_turn_17 : decode cX10_turn 17 = .ok (.invokestatic 78, 3) := by decide +kernel
theorem dX10_turn_20 : decode cX10_turn 20 = .ok (.ifCond .ne 10, 3) := by decide +kernel
theorem dX10_turn_23 : decode cX10_turn 23 = .ok (.aload_n 0, 1) := by decide +kernel
theorem dX10_turn_24 : decode cX10_turn 24 = .ok (.bipush (-2), 2) := by decide +kernel
theorem dX10_turn_26 : decode cX10_turn 26 = .ok (.invokevirtual 87, 3) := by decide +kernel
theorem dX10_turn_29 : decode cX10_turn 29 = .ok (.ireturn, 1) := by decide +kernel
theorem dX10_turn_30 : decode cX10_turn 30 = .ok (.iload_n 3, 1) := by decide +kernel
theorem dX10_turn_31 : decode cX10_turn 31 = .ok (.ifCond .ge 10, 3) := by decide +kernel
theorem dX10_turn_34 : decode cX10_turn 34 = .ok (.aload_n 0, 1) := by decide +kernel
theorem dX10_turn_35 : decode cX10_turn 35 = .ok (.bipush (-4), 2) := by decide +kernel
theorem dX10_turn_37 : decode cX10_turn 37 = .ok (.invokevirtual 87, 3) := by decide +kernel
theorem dX10_turn_40 : decode cX10_turn 40 = .ok (.ireturn, 1) := by decide +kernel
theorem dX10_turn_41 : decode cX10_turn 41 = .ok (.iload_n 3, 1) := by decide +kernel
theorem dX10_turn_42 : decode cX10_turn 42 = .ok (.bipush 9, 2) := by decide +kernel
theorem dX10_turn_44 : decode cX10_turn 44 = .ok (.if_icmp .le 10, 3) := by decide +kernel
theorem dX10_turn_47 : decode cX10_turn 47 = .ok (.aload_n 0, 1) := by decide +kernel
theorem dX10_turn_48 : decode cX10_turn 48 = .ok (.bipush (-6), 2) := by decide +kernel
theorem dX10_turn_50 : decode cX10_turn 50 = .ok (.invokevirtual 87, 3) := by decide +kernel
theorem dX10_turn_53 : decode cX10_turn 53 = .ok (.ireturn, 1) := by decide +kernel
theorem dX10_turn_54 : decode cX10_turn 54 = .ok (.aload_n 0, 1) := by decide +kernel
theorem dX10_turn_55 : decode cX10_turn 55 = .ok (.invokevirtual 128, 3) := by decide +kernel
theorem dX10_turn_58 : decode cX10_turn 58 = .ok (.bipush 10, 2) := by decide +kernel
theorem dX10_turn_60 : decode cX10_turn 60 = .ok (.aload_n 0, 1) := by decide +kernel
theorem dX10_turn_61 : decode cX10_turn 61 = .ok (.getfield 13, 3) := by decide +kernel
theorem dX10_turn_64 : decode cX10_turn 64 = .ok (.iload_n 1, 1) := by decide +kernel
theorem dX10_turn_65 : decode cX10_turn 65 = .ok (.iaload, 1) := by decide +kernel
theorem dX10_turn_66 : decode cX10_turn 66 = .ok (.imul, 1) := by decide +kernel
theorem dX10_turn_67 : decode cX10_turn 67 = .ok (.aload_n 0, 1) := by decide +kernel
theorem dX10_turn_68 : decode cX10_turn 68 = .ok (.getfield 17, 3) := by decide +kernel
theorem dX10_turn_71 : decode cX10_turn 71 = .ok (.iload_n 1, 1) := by decide +kernel
theorem dX10_turn_72 : decode cX10_turn 72 = .ok (.iaload, 1) := by decide +kernel
theorem dX10_turn_73 : decode cX10_turn 73 = .ok (.iadd, 1) := by decide +kernel
theorem dX10_turn_74 : decode cX10_turn 74 = .ok (.istore 4, 2) := by decide +kernel
theorem dX10_turn_76 : decode cX10_turn 76 = .ok (.aload_n 0, 1) := by decide +kernel
theorem dX10_turn_77 : decode cX10_turn 77 = .ok (.getfield 13, 3) := by decide +kernel
theorem dX10_turn_80 : decode cX10_turn 80 = .ok (.iload_n 1, 1) := by decide +kernel
theorem dX10_turn_81 : decode cX10_turn 81 = .ok (.iload_n 2, 1) := by decide +kernel
theorem dX10_turn_82 : decode cX10_turn 82 = .ok (.iastore, 1) := by decide +kernel
theorem dX10_turn_83 : decode cX10_turn 83 = .ok (.aload_n 0, 1) := by decide +kernel
theorem dX10_turn_84 : decode cX10_turn 84 = .ok (.getfield 17, 3) := by decide +kernel
theorem dX10_turn_87 : decode cX10_turn 87 = .ok (.iload_n 1, 1) := by decide +kernel
theorem dX10_turn_88 : decode cX10_turn 88 = .ok (.iload_n 3, 1) := by decide +kernel
theorem dX10_turn_89 : decode cX10_turn 89 = .ok (.iastore, 1) := by decide +kernel
theorem dX10_turn_90 : decode cX10_turn 90 = .ok (.iload 4, 2) := by decide +kernel
theorem dX10_turn_92 : decode cX10_turn 92 = .ok (.ireturn, 1) := by decide +kernel
theorem dX10_forth_0 : decode cX10_forth 0 = .ok (.aload_n 0, 1) := by decide +kernel
theorem dX10_forth_1 : decode cX10_forth 1 = .ok (.getfield 13, 3) := by decide +kernel
theorem dX10_forth_4 : decode cX10_forth 4 = .ok (.iload_n 1, 1) := by decide +kernel
theorem dX10_forth_5 : decode cX10_forth 5 = .ok (.iaload, 1) := by decide +kernel
theorem dX10_forth_6 : decode cX10_forth 6 = .ok (.iconst 2, 1) := by decide +kernel
theorem dX10_forth_7 : decode cX10_forth 7 = .ok (.if_icmp .ne 7, 3) := by decide +kernel
theorem dX10_forth_10 : decode cX10_forth 10 = .ok (.iconst 2, 1) := by decide +kernel
theorem dX10_forth_11 : decode cX10_forth 11 = .ok (.goto 39, 3) := by decide +kernel
theorem dX10_forth_14 : decode cX10_forth 14 = .ok (.aload_n 0, 1) := by decide +kernel
theorem dX10_forth_15 : decode cX10_forth 15 = .ok (.getfield 13, 3) := by decide +kernel
theorem dX10_forth_18 : decode cX10_forth 18 = .ok (.iload_n 1, 1) := by decide +kernel
theorem dX10_forth_19 : decode cX10_forth 19 = .ok (.iaload, 1) := by decide +kernel
theorem dX10_forth_20 : decode cX10_forth 20 = .ok (.iconst 3, 1) := by decide +kernel
theorem dX10_forth_21 : decode cX10_forth 21 = .ok (.if_icmp .ne 7, 3) := by decide +kernel
theorem dX10_forth_24 : decode cX10_forth 24 = .ok (.iconst 0, 1) := by decide +kernel
theorem dX10_forth_25 : decode cX10_forth 25 = .ok (.goto 25, 3) := by decide +kernel
theorem dX10_forth_28 : decode cX10_forth 28 = .ok (.aload_n 0, 1) := by decide +kernel
theorem dX10_forth_29 : decode cX10_forth 29 = .ok (.getfield 13, 3) := by decide +kernel
theorem dX10_forth_32 : decode cX10_forth 32 = .ok (.iload_n 1, 1) := by decide +kernel
theorem dX10_forth_33 : decode cX10_forth 33 = .ok (.iaload, 1) := by decide +kernel
theorem dX10_forth_34 : decode cX10_forth 34 = .ok (.iconst 4, 1) := by decide +kernel
theorem dX10_forth_35 : decode cX10_forth 35 = .ok (.if_icmp .ne 14, 3) := by decide +kernel
theorem dX10_forth_38 : decode cX10_forth 38 = .ok (.iconst 2, 1) := by decide +kernel
theorem dX10_forth_39 : decode cX10_forth 39 = .ok (.aload_n 0, 1) := by decide +kernel
theorem dX10_forth_40 : decode cX10_forth 40 = .ok (.getfield 17, 3) := by decide +kernel
theorem dX10_forth_43 : decode cX10_forth 43 = .ok (.iload_n 1, 1) := by decide +kernel
theorem dX10_forth_44 : decode cX10_forth 44 = .ok (.iaload, 1) := by decide +kernel
theorem dX10_forth_45 : decode cX10_forth 45 = .ok (.iadd, 1) := by decide +kernel
theorem dX10_forth_46 : decode cX10_forth 46 = .ok (.goto 4, 3) := by decide +kernel
theorem dX10_forth_49 : decode cX10_forth 49 = .ok (.iconst 1, 1) := by decide +kernel
theorem dX10_forth_50 : decode cX10_forth 50 = .ok (.ireturn, 1) := by decide +kernel
theorem dX10_back_0 : decode cX10_back 0 = .ok (.aload_n 0, 1) := by decide +kernel
theorem dX10_back_1 : decode cX10_back 1 = .ok (.getfield 13, 3) := by decide +kernel
theorem dX10_back_4 : decode cX10_back 4 = .ok (.iload_n 1, 1) := by decide +kernel
theorem dX10_back_5 : decode cX10_back 5 = .ok (.iaload, 1) := by decide +kernel
theorem dX10_back_6 : decode cX10_back 6 = .ok (.iconst 1, 1) := by decide +kernel
theorem dX10_back_7 : decode cX10_back 7 = .ok (.if_icmp .ne 7, 3) := by decide +kernel
theorem dX10_back_10 : decode cX10_back 10 = .ok (.iconst 0, 1) := by decide +kernel
theorem dX10_back_11 : decode cX10_back 11 = .ok (.goto 51, 3) := by decide +kernel
theorem dX10_back_14 : decode cX10_back 14 = .ok (.aload_n 0, 1) := by decide +kernel
theorem dX10_back_15 : decode cX10_back 15 = .ok (.getfield 13, 3) := by decide +kernel
theorem dX10_back_18 : decode cX10_back 18 = .ok (.iload_n 1, 1) := by decide +kernel
theorem dX10_back_19 : decode cX10_back 19 = .ok (.iaload, 1) := by decide +kernel
theorem dX10_back_20 : decode cX10_back 20 = .ok (.iconst 2, 1) := by decide +kernel
theorem dX10_back_21 : decode cX10_back 21 = .ok (.if_icmp .eq 13, 3) := by decide +kernel
theorem dX10_back_24 : decode cX10_back 24 = .ok (.aload_n 0, 1) := by decide +kernel
theorem dX10_back_25 : decode cX10_back 25 = .ok (.getfield 13, 3) := by decide +kernel
theorem dX10_back_28 : decode cX10_back 28 = .ok (.iload_n 1, 1) := by decide +kernel
theorem dX10_back_29 : decode cX10_back 29 = .ok (.iaload, 1) := by decide +kernel
theorem dX10_back_30 : decode cX10_back 30 = .ok (.iconst 4, 1) := by decide +kernel
theorem dX10_back_31 : decode cX10_back 31 = .ok (.if_icmp .ne 7, 3) := by decide +kernel
theorem dX10_back_34 : decode cX10_back 34 = .ok (.iconst 2, 1) := by decide +kernel
theorem dX10_back_35 : decode cX10_back 35 = .ok (.goto 27, 3) := by decide +kernel
theorem dX10_back_38 : decode cX10_back 38 = .ok (.aload_n 0, 1) := by decide +kernel
theorem dX10_back_39 : decode cX10_back 39 = .ok (.getfield 13, 3) := by decide +kernel
theorem dX10_back_42 : decode cX10_back 42 = .ok (.iload_n 1, 1) := by decide +kernel
theorem dX10_back_43 : decode cX10_back 43 = .ok (.iaload, 1) := by decide +kernel
theorem dX10_back_44 : decode cX10_back 44 = .ok (.iconst 5, 1) := by decide +kernel
theorem dX10_back_45 : decode cX10_back 45 = .ok (.if_icmp .ne 16, 3) := by decide +kernel
theorem dX10_back_48 : decode cX10_back 48 = .ok (.iconst 1, 1) := by decide +kernel
theorem dX10_back_49 : decode cX10_back 49 = .ok (.aload_n 0, 1) := by decide +kernel
theorem dX10_back_50 : decode cX10_back 50 = .ok (.getfield 17, 3) := by decide +kernel
theorem dX10_back_53 : decode cX10_back 53 = .ok (.iload_n 1, 1) := by decide +kernel
theorem dX10_back_54 : decode cX10_back 54 = .ok (.iaload, 1) := by decide +kernel
theorem dX10_back_55 : decode cX10_back 55 = .ok (.iconst 2, 1) := by decide +kernel
theorem dX10_back_56 : decode cX10_back 56 = .ok (.irem, 1) := by decide +kernel
theorem dX10_back_57 : decode cX10_back 57 = .ok (.isub, 1) := by decide +kernel
theorem dX10_back_58 : decode cX10_back 58 = .ok (.goto 4, 3) := by decide +kernel
theorem dX10_back_61 : decode cX10_back 61 = .ok (.iconst 1, 1) := by decide +kernel
theorem dX10_back_62 : decode cX10_back 62 = .ok (.ireturn, 1) := by decide +kernel
theorem dX10_of_0 : decode cX10_of 0 = .ok (.aload_n 0, 1) := by decide +kernel
theorem dX10_of_1 : decode cX10_of 1 = .ok (.iload_n 1, 1) := by decide +kernel
theorem dX10_of_2 : decode cX10_of 2 = .ok (.invokevirtual 108, 3) := by decide +kernel
theorem dX10_of_5 : decode cX10_of 5 = .ok (.ifCond .ne 9, 3) := by decide +kernel
theorem dX10_of_8 : decode cX10_of 8 = .ok (.aload_n 0, 1) := by decide +kernel
theorem dX10_of_9 : decode cX10_of 9 = .ok (.iconst (-1), 1) := by decide +kernel
theorem dX10_of_10 : decode cX10_of 10 = .ok (.invokevirtual 87, 3) := by decide +kernel
theorem dX10_of_13 : decode cX10_of 13 = .ok (.ireturn, 1) := by decide +kernel
theorem dX10_of_14 : decode cX10_of 14 = .ok (.iload_n 2, 1) := by decide +kernel
theorem dX10_of_15 : decode cX10_of 15 = .ok (.tableswitch 88 0 6 #[41, 48, 55, 62, 69, 76, 82], 41) := by decide +kernel
theorem dX10_of_56 : decode cX10_of 56 = .ok (.aload_n 0, 1) := by decide +kernel
theorem dX10_of_57 : decode cX10_of 57 = .ok (.getfield 13, 3) := by decide +kernel
theorem dX10_of_60 : decode cX10_of 60 = .ok (.iload_n 1, 1) := by decide +kernel
theorem dX10_of_61 : decode cX10_of 61 = .ok (.iaload, 1) := by decide +kernel
theorem dX10_of_62 : decode cX10_of 62 = .ok (.ireturn, 1) := by decide +kernel
theorem dX10_of_63 : decode cX10_of 63 = .ok (.aload_n 0, 1) := by decide +kernel
theorem dX10_of_64 : decode cX10_of 64 = .ok (.getfield 17, 3) := by decide +kernel
theorem dX10_of_67 : decode cX10_of 67 = .ok (.iload_n 1, 1) := by decide +kernel
theorem dX10_of_68 : decode cX10_of 68 = .ok (.iaload, 1) := by decide +kernel
theorem dX10_of_69 : decode cX10_of 69 = .ok (.ireturn, 1) := by decide +kernel
theorem dX10_of_70 : decode cX10_of 70 = .ok (.aload_n 0, 1) := by decide +kernel
theorem dX10_of_71 : decode cX10_of 71 = .ok (.getfield 20, 3) := by decide +kernel
theorem dX10_of_74 : decode cX10_of 74 = .ok (.iload_n 1, 1) := by decide +kernel
theorem dX10_of_75 : decode cX10_of 75 = .ok (.iaload, 1) := by decide +kernel
theorem dX10_of_76 : decode cX10_of 76 = .ok (.ireturn, 1) := by decide +kernel
theorem dX10_of_77 : decode cX10_of 77 = .ok (.aload_n 0, 1) := by decide +kernel
theorem dX10_of_78 : decode cX10_of 78 = .ok (.getfield 23, 3) := by decide +kernel
theorem dX10_of_81 : decode cX10_of 81 = .ok (.iload_n 1, 1) := by decide +kernel
theorem dX10_of_82 : decode cX10_of 82 = .ok (.iaload, 1) := by decide +kernel
theorem dX10_of_83 : decode cX10_of 83 = .ok (.ireturn, 1) := by decide +kernel
theorem dX10_of_84 : decode cX10_of 84 = .ok (.aload_n 0, 1) := by decide +kernel
theorem dX10_of_85 : decode cX10_of 85 = .ok (.getfield 26, 3) := by decide +kernel
theorem dX10_of_88 : decode cX10_of 88 = .ok (.iload_n 1, 1) := by decide +kernel
theorem dX10_of_89 : decode cX10_of 89 = .ok (.iaload, 1) := by decide +kernel
theorem dX10_of_90 : decode cX10_of 90 = .ok (.ireturn, 1) := by decide +kernel
theorem dX10_of_91 : decode cX10_of 91 = .ok (.aload_n 0, 1) := by decide +kernel
theorem dX10_of_92 : decode cX10_of 92 = .ok (.iload_n 1, 1) := by decide +kernel
theorem dX10_of_93 : decode cX10_of 93 = .ok (.invokevirtual 131, 3) := by decide +kernel
theorem dX10_of_96 : decode cX10_of 96 = .ok (.ireturn, 1) := by decide +kernel
theorem dX10_of_97 : decode cX10_of 97 = .ok (.aload_n 0, 1) := by decide +kernel
theorem dX10_of_98 : decode cX10_of 98 = .ok (.iload_n 1, 1) := by decide +kernel
theorem dX10_of_99 : decode cX10_of 99 = .ok (.invokevirtual 134, 3) := by decide +kernel
theorem dX10_of_102 : decode cX10_of 102 = .ok (.ireturn, 1) := by decide +kernel
theorem dX10_of_103 : decode cX10_of 103 = .ok (.aload_n 0, 1) := by decide +kernel
theorem dX10_of_104 : decode cX10_of 104 = .ok (.bipush (-2), 2) := by decide +kernel
theorem dX10_of_106 : decode cX10_of 106 = .ok (.invokevirtual 87, 3) := by decide +kernel
theorem dX10_of_109 : decode cX10_of 109 = .ok (.ireturn, 1) := by decide +kernel
theorem dX10_taken_0 : decode cX10_taken 0 = .ok (.aload_n 0, 1) := by decide +kernel
theorem dX10_taken_1 : decode cX10_taken 1 = .ok (.iload_n 1, 1) := by decide +kernel
theorem dX10_taken_2 : decode cX10_taken 2 = .ok (.invokevirtual 108, 3) := by decide +kernel
theorem dX10_taken_5 : decode cX10_taken 5 = .ok (.ifCond .ne 9, 3) := by decide +kernel
theorem dX10_taken_8 : decode cX10_taken 8 = .ok (.aload_n 0, 1) := by decide +kernel
theorem dX10_taken_9 : decode cX10_taken 9 = .ok (.iconst (-1), 1) := by decide +kernel
theorem dX10_taken_10 : decode cX10_taken 10 = .ok (.invokevirtual 87, 3) := by decide +kernel
theorem dX10_taken_13 : decode cX10_taken 13 = .ok (.ireturn, 1) := by decide +kernel
theorem dX10_taken_14 : decode cX10_taken 14 = .ok (.iload_n 2, 1) := by decide +kernel
theorem dX10_taken_15 : decode cX10_taken 15 = .ok (.iconst 0, 1) := by decide +kernel
theorem dX10_taken_16 : decode cX10_taken 16 = .ok (.iconst 5, 1) := by decide +kernel
theorem dX10_taken_17 : decode cX10_taken 17 = .ok (.invokestatic 78, 3) := by decide +kernel
theorem dX10_taken_20 : decode cX10_taken 20 = .ok (.ifCond .ne 10, 3) := by decide +kernel
theorem dX10_taken_23 : decode cX10_taken 23 = .ok (.aload_n 0, 1) := by decide +kernel
theorem dX10_taken_24 : decode cX10_taken 24 = .ok (.bipush (-2), 2) := by decide +kernel
theorem dX10_taken_26 : decode cX10_taken 26 = .ok (.invokevirtual 87, 3) := by decide +kernel
theorem dX10_taken_29 : decode cX10_taken 29 = .ok (.ireturn, 1) := by decide +kernel
theorem dX10_taken_30 : decode cX10_taken 30 = .ok (.aload_n 0, 1) := by decide +kernel
theorem dX10_taken_31 : decode cX10_taken 31 = .ok (.getfield 13, 3) := by decide +kernel
theorem dX10_taken_34 : decode cX10_taken 34 = .ok (.iload_n 1, 1) := by decide +kernel
theorem dX10_taken_35 : decode cX10_taken 35 = .ok (.iaload, 1) := by decide +kernel
theorem dX10_taken_36 : decode cX10_taken 36 = .ok (.istore_n 3, 1) := by decide +kernel
theorem dX10_taken_37 : decode cX10_taken 37 = .ok (.iload_n 2, 1) := by decide +kernel
theorem dX10_taken_38 : decode cX10_taken 38 = .ok (.ifCond .eq 28, 3) := by decide +kernel
theorem dX10_taken_41 : decode cX10_taken 41 = .ok (.iload_n 3, 1) := by decide +kernel
theorem dX10_taken_42 : decode cX10_taken 42 = .ok (.iload_n 2, 1) := by decide +kernel
theorem dX10_taken_43 : decode cX10_taken 43 = .ok (.if_icmp .eq 23, 3) := by decide +kernel
theorem dX10_taken_46 : decode cX10_taken 46 = .ok (.iload_n 2, 1) := by decide +kernel
theorem dX10_taken_47 : decode cX10_taken 47 = .ok (.iconst 1, 1) := by decide +kernel
theorem dX10_taken_48 : decode cX10_taken 48 = .ok (.if_icmp .ne 8, 3) := by decide +kernel
theorem dX10_taken_51 : decode cX10_taken 51 = .ok (.iload_n 3, 1) := by decide +kernel
theorem dX10_taken_52 : decode cX10_taken 52 = .ok (.iconst 3, 1) := by decide +kernel
theorem dX10_taken_53 : decode cX10_taken 53 = .ok (.if_icmp .eq 13, 3) := by decide +kernel
theorem dX10_taken_56 : decode cX10_taken 56 = .ok (.iload_n 2, 1) := by decide +kernel
theorem dX10_taken_57 : decode cX10_taken 57 = .ok (.iconst 2, 1) := by decide +kernel
theorem dX10_taken_58 : decode cX10_taken 58 = .ok (.if_icmp .ne 12, 3) := by decide +kernel
theorem dX10_taken_61 : decode cX10_taken 61 = .ok (.iload_n 3, 1) := by decide +kernel
theorem dX10_taken_62 : decode cX10_taken 62 = .ok (.iconst 4, 1) := by decide +kernel
theorem dX10_taken_63 : decode cX10_taken 63 = .ok (.if_icmp .ne 7, 3) := by decide +kernel
theorem dX10_taken_66 : decode cX10_taken 66 = .ok (.iload_n 3, 1) := by decide +kernel
theorem dX10_taken_67 : decode cX10_taken 67 = .ok (.goto 5, 3) := by decide +kernel
theorem dX10_taken_70 : decode cX10_taken 70 = .ok (.bipush (-16), 2) := by decide +kernel
theorem dX10_taken_72 : decode cX10_taken 72 = .ok (.ireturn, 1) := by decide +kernel
theorem dX10_weight_0 : decode cX10_weight 0 = .ok (.aload_n 0, 1) := by decide +kernel
theorem dX10_weight_1 : decode cX10_weight 1 = .ok (.getfield 20, 3) := by decide +kernel
theorem dX10_weight_4 : decode cX10_weight 4 = .ok (.iload_n 2, 1) := by decide +kernel
theorem dX10_weight_5 : decode cX10_weight 5 = .ok (.iaload, 1) := by decide +kernel
theorem dX10_weight_6 : decode cX10_weight 6 = .ok (.iload_n 1, 1) := by decide +kernel
theorem dX10_weight_7 : decode cX10_weight 7 = .ok (.if_icmp .ne 11, 3) := by decide +kernel
theorem dX10_weight_10 : decode cX10_weight 10 = .ok (.aload_n 0, 1) := by decide +kernel
theorem dX10_weight_11 : decode cX10_weight 11 = .ok (.iload_n 2, 1) := by decide +kernel
theorem dX10_weight_12 : decode cX10_weight 12 = .ok (.invokevirtual 131, 3) := by decide +kernel
theorem dX10_weight_15 : decode cX10_weight 15 = .ok (.goto 4, 3) := by decide +kernel
theorem dX10_weight_18 : decode cX10_weight 18 = .ok (.iconst 0, 1) := by decide +kernel
theorem dX10_weight_19 : decode cX10_weight 19 = .ok (.aload_n 0, 1) := by decide +kernel
theorem dX10_weight_20 : decode cX10_weight 20 = .ok (.getfield 23, 3) := by decide +kernel
theorem dX10_weight_23 : decode cX10_weight 23 = .ok (.iload_n 2, 1) := by decide +kernel
theorem dX10_weight_24 : decode cX10_weight 24 = .ok (.iaload, 1) := by decide +kernel
theorem dX10_weight_25 : decode cX10_weight 25 = .ok (.iload_n 1, 1) := by decide +kernel
theorem dX10_weight_26 : decode cX10_weight 26 = .ok (.if_icmp .ne 11, 3) := by decide +kernel
theorem dX10_weight_29 : decode cX10_weight 29 = .ok (.aload_n 0, 1) := by decide +kernel
theorem dX10_weight_30 : decode cX10_weight 30 = .ok (.iload_n 2, 1) := by decide +kernel
theorem dX10_weight_31 : decode cX10_weight 31 = .ok (.invokevirtual 134, 3) := by decide +kernel
theorem dX10_weight_34 : decode cX10_weight 34 = .ok (.goto 4, 3) := by decide +kernel
theorem dX10_weight_37 : decode cX10_weight 37 = .ok (.iconst 0, 1) := by decide +kernel
theorem dX10_weight_38 : decode cX10_weight 38 = .ok (.iadd, 1) := by decide +kernel
theorem dX10_weight_39 : decode cX10_weight 39 = .ok (.ireturn, 1) := by decide +kernel
theorem dX10_table_0 : decode cX10_table 0 = .ok (.aload_n 0, 1) := by decide +kernel
theorem dX10_table_1 : decode cX10_table 1 = .ok (.iload_n 1, 1) := by decide +kernel
theorem dX10_table_2 : decode cX10_table 2 = .ok (.invokevirtual 100, 3) := by decide +kernel
theorem dX10_table_5 : decode cX10_table 5 = .ok (.ifCond .eq 20, 3) := by decide +kernel
theorem dX10_table_8 : decode cX10_table 8 = .ok (.aload_n 0, 1) := by decide +kernel
theorem dX10_table_9 : decode cX10_table 9 = .ok (.iload_n 2, 1) := by decide +kernel
theorem dX10_table_10 : decode cX10_table 10 = .ok (.invokevirtual 108, 3) := by decide +kernel
theorem dX10_table_13 : decode cX10_table 13 = .ok (.ifCond .eq 12, 3) := by decide +kernel
theorem dX10_table_16 : decode cX10_table 16 = .ok (.aload_n 0, 1) := by decide +kernel
theorem dX10_table_17 : decode cX10_table 17 = .ok (.iload_n 1, 1) := by decide +kernel
theorem dX10_table_18 : decode cX10_table 18 = .ok (.iload_n 2, 1) := by decide +kernel
theorem dX10_table_19 : decode cX10_table 19 = .ok (.invokevirtual 137, 3) := by decide +kernel
theorem dX10_table_22 : decode cX10_table 22 = .ok (.goto 8, 3) := by decide +kernel
theorem dX10_table_25 : decode cX10_table 25 = .ok (.aload_n 0, 1) := by decide +kernel
theorem dX10_table_26 : decode cX10_table 26 = .ok (.iconst (-1), 1) := by decide +kernel
theorem dX10_table_27 : decode cX10_table 27 = .ok (.invokevirtual 87, 3) := by decide +kernel
theorem dX10_table_30 : decode cX10_table 30 = .ok (.ireturn, 1) := by decide +kernel
theorem dX10_layWeights_0 : decode cX10_layWeights 0 = .ok (.iconst 0, 1) := by decide +kernel
theorem dX10_layWeights_1 : decode cX10_layWeights 1 = .ok (.istore_n 1, 1) := by decide +kernel
theorem dX10_layWeights_2 : decode cX10_layWeights 2 = .ok (.iload_n 1, 1) := by decide +kernel
theorem dX10_layWeights_3 : decode cX10_layWeights 3 = .ok (.aload_n 0, 1) := by decide +kernel
theorem dX10_layWeights_4 : decode cX10_layWeights 4 = .ok (.getfield 7, 3) := by decide +kernel
theorem dX10_layWeights_7 : decode cX10_layWeights 7 = .ok (.if_icmp .ge 42, 3) := by decide +kernel
theorem dX10_layWeights_10 : decode cX10_layWeights 10 = .ok (.iconst 0, 1) := by decide +kernel
theorem dX10_layWeights_11 : decode cX10_layWeights 11 = .ok (.istore_n 2, 1) := by decide +kernel
theorem dX10_layWeights_12 : decode cX10_layWeights 12 = .ok (.iload_n 2, 1) := by decide +kernel
theorem dX10_layWeights_13 : decode cX10_layWeights 13 = .ok (.aload_n 0, 1) := by decide +kernel
theorem dX10_layWeights_14 : decode cX10_layWeights 14 = .ok (.getfield 82, 3) := by decide +kernel
theorem dX10_layWeights_17 : decode cX10_layWeights 17 = .ok (.if_icmp .ge 26, 3) := by decide +kernel
theorem dX10_layWeights_20 : decode cX10_layWeights 20 = .ok (.aload_n 0, 1) := by decide +kernel
theorem dX10_layWeights_21 : decode cX10_layWeights 21 = .ok (.getfield 56, 3) := by decide +kernel
theorem dX10_layWeights_24 : decode cX10_layWeights 24 = .ok (.bipush 8, 2) := by decide +kernel
theorem dX10_layWeights_26 : decode cX10_layWeights 26 = .ok (.iload_n 1, 1) := by decide +kernel
theorem dX10_layWeights_27 : decode cX10_layWeights 27 = .ok (.imul, 1) := by decide +kernel
theorem dX10_layWeights_28 : decode cX10_layWeights 28 = .ok (.iload_n 2, 1) := by decide +kernel
theorem dX10_layWeights_29 : decode cX10_layWeights 29 = .ok (.iadd, 1) := by decide +kernel
theorem dX10_layWeights_30 : decode cX10_layWeights 30 = .ok (.aload_n 0, 1) := by decide +kernel
theorem dX10_layWeights_31 : decode cX10_layWeights 31 = .ok (.iload_n 1, 1) := by decide +kernel
theorem dX10_layWeights_32 : decode cX10_layWeights 32 = .ok (.iload_n 2, 1) := by decide +kernel
theorem dX10_layWeights_33 : decode cX10_layWeights 33 = .ok (.invokevirtual 137, 3) := by decide +kernel
theorem dX10_layWeights_36 : decode cX10_layWeights 36 = .ok (.iastore, 1) := by decide +kernel
theorem dX10_layWeights_37 : decode cX10_layWeights 37 = .ok (.iinc 2 1, 3) := by decide +kernel
theorem dX10_layWeights_40 : decode cX10_layWeights 40 = .ok (.goto (-28), 3) := by decide +kernel
theorem dX10_layWeights_43 : decode cX10_layWeights 43 = .ok (.iinc 1 1, 3) := by decide +kernel
theorem dX10_layWeights_46 : decode cX10_layWeights 46 = .ok (.goto (-44), 3) := by decide +kernel
theorem dX10_layWeights_49 : decode cX10_layWeights 49 = .ok (.return_, 1) := by decide +kernel
theorem dX10_laySums_0 : decode cX10_laySums 0 = .ok (.iconst 0, 1) := by decide +kernel
theorem dX10_laySums_1 : decode cX10_laySums 1 = .ok (.istore_n 1, 1) := by decide +kernel
theorem dX10_laySums_2 : decode cX10_laySums 2 = .ok (.iload_n 1, 1) := by decide +kernel
theorem dX10_laySums_3 : decode cX10_laySums 3 = .ok (.aload_n 0, 1) := by decide +kernel
theorem dX10_laySums_4 : decode cX10_laySums 4 = .ok (.getfield 7, 3) := by decide +kernel
theorem dX10_laySums_7 : decode cX10_laySums 7 = .ok (.if_icmp .ge 59, 3) := by decide +kernel
theorem dX10_laySums_10 : decode cX10_laySums 10 = .ok (.aload_n 0, 1) := by decide +kernel
theorem dX10_laySums_11 : decode cX10_laySums 11 = .ok (.getfield 53, 3) := by decide +kernel
theorem dX10_laySums_14 : decode cX10_laySums 14 = .ok (.iload_n 1, 1) := by decide +kernel
theorem dX10_laySums_15 : decode cX10_laySums 15 = .ok (.iconst 0, 1) := by decide +kernel
theorem dX10_laySums_16 : decode cX10_laySums 16 = .ok (.iastore, 1) := by decide +kernel
theorem dX10_laySums_17 : decode cX10_laySums 17 = .ok (.iconst 0, 1) := by decide +kernel
theorem dX10_laySums_18 : decode cX10_laySums 18 = .ok (.istore_n 2, 1) := by decide +kernel
theorem dX10_laySums_19 : decode cX10_laySums 19 = .ok (.iload_n 2, 1) := by decide +kernel
theorem dX10_laySums_20 : decode cX10_laySums 20 = .ok (.aload_n 0, 1) := by decide +kernel
theorem dX10_laySums_21 : decode cX10_laySums 21 = .ok (.getfield 82, 3) := by decide +kernel
theorem dX10_laySums_24 : decode cX10_laySums 24 = .ok (.if_icmp .ge 36, 3) := by decide +kernel
theorem dX10_laySums_27 : decode cX10_laySums 27 = .ok (.aload_n 0, 1) := by decide +kernel
theorem dX10_laySums_28 : decode cX10_laySums 28 = .ok (.getfield 53, 3) := by decide +kernel
theorem dX10_laySums_31 : decode cX10_laySums 31 = .ok (.iload_n 1, 1) := by decide +kernel
theorem dX10_laySums_32 : decode cX10_laySums 32 = .ok (.dup2, 1) := by decide +kernel
theorem dX10_laySums_33 : decode cX10_laySums 33 = .ok (.iaload, 1) := by decide +kernel
theorem dX10_laySums_34 : decode cX10_laySums 34 = .ok (.aload_n 0, 1) := by decide +kernel
theorem dX10_laySums_35 : decode cX10_laySums 35 = .ok (.getfield 50, 3) := by decide +kernel
theorem dX10_laySums_38 : decode cX10_laySums 38 = .ok (.iload_n 2, 1) := by decide +kernel
theorem dX10_laySums_39 : decode cX10_laySums 39 = .ok (.iaload, 1) := by decide +kernel
theorem dX10_laySums_40 : decode cX10_laySums 40 = .ok (.aload_n 0, 1) := by decide +kernel
theorem dX10_laySums_41 : decode cX10_laySums 41 = .ok (.getfield 56, 3) := by decide +kernel
theorem dX10_laySums_44 : decode cX10_laySums 44 = .ok (.bipush 8, 2) := by decide +kernel
theorem dX10_laySums_46 : decode cX10_laySums 46 = .ok (.iload_n 1, 1) := by decide +kernel
theorem dX10_laySums_47 : decode cX10_laySums 47 = .ok (.imul, 1) := by decide +kernel
theorem dX10_laySums_48 : decode cX10_laySums 48 = .ok (.iload_n 2, 1) := by decide +kernel
theorem dX10_laySums_49 : decode cX10_laySums 49 = .ok (.iadd, 1) := by decide +kernel
theorem dX10_laySums_50 : decode cX10_laySums 50 = .ok (.iaload, 1) := by decide +kernel
theorem dX10_laySums_51 : decode cX10_laySums 51 = .ok (.imul, 1) := by decide +kernel
theorem dX10_laySums_52 : decode cX10_laySums 52 = .ok (.iadd, 1) := by decide +kernel
theorem dX10_laySums_53 : decode cX10_laySums 53 = .ok (.iastore, 1) := by decide +kernel
theorem dX10_laySums_54 : decode cX10_laySums 54 = .ok (.iinc 2 1, 3) := by decide +kernel
theorem dX10_laySums_57 : decode cX10_laySums 57 = .ok (.goto (-38), 3) := by decide +kernel
theorem dX10_laySums_60 : decode cX10_laySums 60 = .ok (.iinc 1 1, 3) := by decide +kernel
theorem dX10_laySums_63 : decode cX10_laySums 63 = .ok (.goto (-61), 3) := by decide +kernel
theorem dX10_laySums_66 : decode cX10_laySums 66 = .ok (.return_, 1) := by decide +kernel
theorem dX10_layNow_0 : decode cX10_layNow 0 = .ok (.iconst 0, 1) := by decide +kernel
theorem dX10_layNow_1 : decode cX10_layNow 1 = .ok (.istore_n 1, 1) := by decide +kernel
theorem dX10_layNow_2 : decode cX10_layNow 2 = .ok (.iload_n 1, 1) := by decide +kernel
theorem dX10_layNow_3 : decode cX10_layNow 3 = .ok (.aload_n 0, 1) := by decide +kernel
theorem dX10_layNow_4 : decode cX10_layNow 4 = .ok (.getfield 82, 3) := by decide +kernel
theorem dX10_layNow_7 : decode cX10_layNow 7 = .ok (.if_icmp .ge 21, 3) := by decide +kernel
theorem dX10_layNow_10 : decode cX10_layNow 10 = .ok (.aload_n 0, 1) := by decide +kernel
theorem dX10_layNow_11 : decode cX10_layNow 11 = .ok (.getfield 50, 3) := by decide +kernel
theorem dX10_layNow_14 : decode cX10_layNow 14 = .ok (.iload_n 1, 1) := by decide +kernel
theorem dX10_layNow_15 : decode cX10_layNow 15 = .ok (.aload_n 0, 1) := by decide +kernel
theorem dX10_layNow_16 : decode cX10_layNow 16 = .ok (.getfield 26, 3) := by decide +kernel
theorem dX10_layNow_19 : decode cX10_layNow 19 = .ok (.iload_n 1, 1) := by decide +kernel
theorem dX10_layNow_20 : decode cX10_layNow 20 = .ok (.iaload, 1) := by decide +kernel
theorem dX10_layNow_21 : decode cX10_layNow 21 = .ok (.iastore, 1) := by decide +kernel
theorem dX10_layNow_22 : decode cX10_layNow 22 = .ok (.iinc 1 1, 3) := by decide +kernel
theorem dX10_layNow_25 : decode cX10_layNow 25 = .ok (.goto (-23), 3) := by decide +kernel
theorem dX10_layNow_28 : decode cX10_layNow 28 = .ok (.aload_n 0, 1) := by decide +kernel
theorem dX10_layNow_29 : decode cX10_layNow 29 = .ok (.invokevirtual 141, 3) := by decide +kernel
theorem dX10_layNow_32 : decode cX10_layNow 32 = .ok (.aload_n 0, 1) := by decide +kernel
theorem dX10_layNow_33 : decode cX10_layNow 33 = .ok (.invokevirtual 144, 3) := by decide +kernel
theorem dX10_layNow_36 : decode cX10_layNow 36 = .ok (.return_, 1) := by decide +kernel
theorem dX10_often_0 : decode cX10_often 0 = .ok (.iconst 0, 1) := by decide +kernel
theorem dX10_often_1 : decode cX10_often 1 = .ok (.istore_n 3, 1) := by decide +kernel
theorem dX10_often_2 : decode cX10_often 2 = .ok (.iconst 0, 1) := by decide +kernel
theorem dX10_often_3 : decode cX10_often 3 = .ok (.istore 4, 2) := by decide +kernel
theorem dX10_often_5 : decode cX10_often 5 = .ok (.iload 4, 2) := by decide +kernel
theorem dX10_often_7 : decode cX10_often 7 = .ok (.iload_n 1, 1) := by decide +kernel
theorem dX10_often_8 : decode cX10_often 8 = .ok (.if_icmp .ge 25, 3) := by decide +kernel
theorem dX10_often_11 : decode cX10_often 11 = .ok (.iload_n 3, 1) := by decide +kernel
theorem dX10_often_12 : decode cX10_often 12 = .ok (.aload_n 0, 1) := by decide +kernel
theorem dX10_often_13 : decode cX10_often 13 = .ok (.iload 4, 2) := by decide +kernel
theorem dX10_often_15 : decode cX10_often 15 = .ok (.iaload, 1) := by decide +kernel
theorem dX10_often_16 : decode cX10_often 16 = .ok (.iload_n 2, 1) := by decide +kernel
theorem dX10_often_17 : decode cX10_often 17 = .ok (.if_icmp .ne 7, 3) := by decide +kernel
theorem dX10_often_20 : decode cX10_often 20 = .ok (.iconst 1, 1) := by decide +kernel
theorem dX10_often_21 : decode cX10_often 21 = .ok (.goto 4, 3) := by decide +kernel
theorem dX10_often_24 : decode cX10_often 24 = .ok (.iconst 0, 1) := by decide +kernel
theorem dX10_often_25 : decode cX10_often 25 = .ok (.iadd, 1) := by decide +kernel
theorem dX10_often_26 : decode cX10_often 26 = .ok (.istore_n 3, 1) := by decide +kernel
theorem dX10_often_27 : decode cX10_often 27 = .ok (.iinc 4 1, 3) := by decide +kernel
theorem dX10_often_30 : decode cX10_often 30 = .ok (.goto (-25), 3) := by decide +kernel
theorem dX10_often_33 : decode cX10_often 33 = .ok (.iload_n 3, 1) := by decide +kernel
theorem dX10_often_34 : decode cX10_often 34 = .ok (.ireturn, 1) := by decide +kernel
theorem dX10_isLike_0 : decode cX10_isLike 0 = .ok (.aload_n 0, 1) := by decide +kernel
theorem dX10_isLike_1 : decode cX10_isLike 1 = .ok (.iload_n 1, 1) := by decide +kernel
theorem dX10_isLike_2 : decode cX10_isLike 2 = .ok (.aload_n 0, 1) := by decide +kernel
theorem dX10_isLike_3 : decode cX10_isLike 3 = .ok (.iconst 0, 1) := by decide +kernel
theorem dX10_isLike_4 : decode cX10_isLike 4 = .ok (.iaload, 1) := by decide +kernel
theorem dX10_isLike_5 : decode cX10_isLike 5 = .ok (.invokestatic 147, 3) := by decide +kernel
theorem dX10_isLike_8 : decode cX10_isLike 8 = .ok (.iload_n 1, 1) := by decide +kernel
theorem dX10_isLike_9 : decode cX10_isLike 9 = .ok (.if_icmp .ne 7, 3) := by decide +kernel
theorem dX10_isLike_12 : decode cX10_isLike 12 = .ok (.iconst 1, 1) := by decide +kernel
theorem dX10_isLike_13 : decode cX10_isLike 13 = .ok (.goto 4, 3) := by decide +kernel
theorem dX10_isLike_16 : decode cX10_isLike 16 = .ok (.iconst 0, 1) := by decide +kernel
theorem dX10_isLike_17 : decode cX10_isLike 17 = .ok (.ireturn, 1) := by decide +kernel
theorem dX10_isUnlike_0 : decode cX10_isUnlike 0 = .ok (.iconst 0, 1) := by decide +kernel
theorem dX10_isUnlike_1 : decode cX10_isUnlike 1 = .ok (.istore_n 2, 1) := by decide +kernel
theorem dX10_isUnlike_2 : decode cX10_isUnlike 2 = .ok (.iload_n 2, 1) := by decide +kernel
theorem dX10_isUnlike_3 : decode cX10_isUnlike 3 = .ok (.iload_n 1, 1) := by decide +kernel
theorem dX10_isUnlike_4 : decode cX10_isUnlike 4 = .ok (.if_icmp .ge 23, 3) := by decide +kernel
theorem dX10_isUnlike_7 : decode cX10_isUnlike 7 = .ok (.aload_n 0, 1) := by decide +kernel
theorem dX10_isUnlike_8 : decode cX10_isUnlike 8 = .ok (.iload_n 1, 1) := by decide +kernel
theorem dX10_isUnlike_9 : decode cX10_isUnlike 9 = .ok (.aload_n 0, 1) := by decide +kernel
theorem dX10_isUnlike_10 : decode cX10_isUnlike 10 = .ok (.iload_n 2, 1) := by decide +kernel
theorem dX10_isUnlike_11 : decode cX10_isUnlike 11 = .ok (.iaload, 1) := by decide +kernel
theorem dX10_isUnlike_12 : decode cX10_isUnlike 12 = .ok (.invokestatic 147, 3) := by decide +kernel
theorem dX10_isUnlike_15 : decode cX10_isUnlike 15 = .ok (.iconst 1, 1) := by decide +kernel
theorem dX10_isUnlike_16 : decode cX10_isUnlike 16 = .ok (.if_icmp .le 5, 3) := by decide +kernel
theorem dX10_isUnlike_19 : decode cX10_isUnlike 19 = .ok (.iconst 0, 1) := by decide +kernel
theorem dX10_isUnlike_20 : decode cX10_isUnlike 20 = .ok (.ireturn, 1) := by decide +kernel
theorem dX10_isUnlike_21 : decode cX10_isUnlike 21 = .ok (.iinc 2 1, 3) := by decide +kernel
theorem dX10_isUnlike_24 : decode cX10_isUnlike 24 = .ok (.goto (-22), 3) := by decide +kernel
theorem dX10_isUnlike_27 : decode cX10_isUnlike 27 = .ok (.iconst 1, 1) := by decide +kernel
theorem dX10_isUnlike_28 : decode cX10_isUnlike 28 = .ok (.ireturn, 1) := by decide +kernel
theorem dX10_isSo_0 : decode cX10_isSo 0 = .ok (.iload_n 0, 1) := by decide +kernel
theorem dX10_isSo_1 : decode cX10_isSo 1 = .ok (.lookupswitch 69 #[(0, 35), (1, 41), (5, 47)], 35) := by decide +kernel
theorem dX10_isSo_36 : decode cX10_isSo 36 = .ok (.aload_n 1, 1) := by decide +kernel
theorem dX10_isSo_37 : decode cX10_isSo 37 = .ok (.iload_n 2, 1) := by decide +kernel
theorem dX10_isSo_38 : decode cX10_isSo 38 = .ok (.invokestatic 151, 3) := by decide +kernel
theorem dX10_isSo_41 : decode cX10_isSo 41 = .ok (.ireturn, 1) := by decide +kernel
theorem dX10_isSo_42 : decode cX10_isSo 42 = .ok (.aload_n 1, 1) := by decide +kernel
theorem dX10_isSo_43 : decode cX10_isSo 43 = .ok (.iload_n 2, 1) := by decide +kernel
theorem dX10_isSo_44 : decode cX10_isSo 44 = .ok (.invokestatic 155, 3) := by decide +kernel
theorem dX10_isSo_47 : decode cX10_isSo 47 = .ok (.ireturn, 1) := by decide +kernel
theorem dX10_isSo_48 : decode cX10_isSo 48 = .ok (.aload_n 1, 1) := by decide +kernel
theorem dX10_isSo_49 : decode cX10_isSo 49 = .ok (.iload_n 2, 1) := by decide +kernel
theorem dX10_isSo_50 : decode cX10_isSo 50 = .ok (.invokestatic 151, 3) := by decide +kernel
theorem dX10_isSo_53 : decode cX10_isSo 53 = .ok (.ifCond .ne 15, 3) := by decide +kernel
theorem dX10_isSo_56 : decode cX10_isSo 56 = .ok (.aload_n 1, 1) := by decide +kernel
theorem dX10_isSo_57 : decode cX10_isSo 57 = .ok (.iload_n 2, 1) := by decide +kernel
theorem dX10_isSo_58 : decode cX10_isSo 58 = .ok (.invokestatic 155, 3) := by decide +kernel
theorem dX10_isSo_61 : decode cX10_isSo 61 = .ok (.ifCond .ne 7, 3) := by decide +kernel
theorem dX10_isSo_64 : decode cX10_isSo 64 = .ok (.iconst 1, 1) := by decide +kernel
theorem dX10_isSo_65 : decode cX10_isSo 65 = .ok (.goto 4, 3) := by decide +kernel
theorem dX10_isSo_68 : decode cX10_isSo 68 = .ok (.iconst 0, 1) := by decide +kernel
theorem dX10_isSo_69 : decode cX10_isSo 69 = .ok (.ireturn, 1) := by decide +kernel
theorem dX10_isSo_70 : decode cX10_isSo 70 = .ok (.iconst 0, 1) := by decide +kernel
theorem dX10_isSo_71 : decode cX10_isSo 71 = .ok (.istore_n 3, 1) := by decide +kernel
theorem dX10_isSo_72 : decode cX10_isSo 72 = .ok (.iload_n 3, 1) := by decide +kernel
theorem dX10_isSo_73 : decode cX10_isSo 73 = .ok (.iload_n 2, 1) := by decide +kernel
theorem dX10_isSo_74 : decode cX10_isSo 74 = .ok (.if_icmp .ge 58, 3) := by decide +kernel
theorem dX10_isSo_77 : decode cX10_isSo 77 = .ok (.iload_n 0, 1) := by decide +kernel
theorem dX10_isSo_78 : decode cX10_isSo 78 = .ok (.iconst 2, 1) := by decide +kernel
theorem dX10_isSo_79 : decode cX10_isSo 79 = .ok (.if_icmp .ne 18, 3) := by decide +kernel
theorem dX10_isSo_82 : decode cX10_isSo 82 = .ok (.iload_n 3, 1) := by decide +kernel
theorem dX10_isSo_83 : decode cX10_isSo 83 = .ok (.ifCond .le 14, 3) := by decide +kernel
theorem dX10_isSo_86 : decode cX10_isSo 86 = .ok (.aload_n 1, 1) := by decide +kernel
theorem dX10_isSo_87 : decode cX10_isSo 87 = .ok (.iload_n 3, 1) := by decide +kernel
theorem dX10_isSo_88 : decode cX10_isSo 88 = .ok (.iaload, 1) := by decide +kernel
theorem dX10_isSo_89 : decode cX10_isSo 89 = .ok (.aload_n 1, 1) := by decide +kernel
theorem dX10_isSo_90 : decode cX10_isSo 90 = .ok (.iload_n 3, 1) := by decide +kernel
theorem dX10_isSo_91 : decode cX10_isSo 91 = .ok (.iconst 1, 1) := by decide +kernel
theorem dX10_isSo_92 : decode cX10_isSo 92 = .ok (.isub, 1) := by decide +kernel
theorem dX10_isSo_93 : decode cX10_isSo 93 = .ok (.iaload, 1) := by decide +kernel
theorem dX10_isSo_94 : decode cX10_isSo 94 = .ok (.if_icmp .le 30, 3) := by decide +kernel
theorem dX10_isSo_97 : decode cX10_isSo 97 = .ok (.iload_n 0, 1) := by decide +kernel
theorem dX10_isSo_98 : decode cX10_isSo 98 = .ok (.iconst 3, 1) := by decide +kernel
theorem dX10_isSo_99 : decode cX10_isSo 99 = .ok (.if_icmp .ne 11, 3) := by decide +kernel
theorem dX10_isSo_102 : decode cX10_isSo 102 = .ok (.aload_n 1, 1) := by decide +kernel
theorem dX10_isSo_103 : decode cX10_isSo 103 = .ok (.iload_n 3, 1) := by decide +kernel
theorem dX10_isSo_104 : decode cX10_isSo 104 = .ok (.iaload, 1) := by decide +kernel
theorem dX10_isSo_105 : decode cX10_isSo 105 = .ok (.iconst 2, 1) := by decide +kernel
theorem dX10_isSo_106 : decode cX10_isSo 106 = .ok (.irem, 1) := by decide +kernel
theorem dX10_isSo_107 : decode cX10_isSo 107 = .ok (.ifCond .ne 17, 3) := by decide +kernel
theorem dX10_isSo_110 : decode cX10_isSo 110 = .ok (.iload_n 0, 1) := by decide +kernel
theorem dX10_isSo_111 : decode cX10_isSo 111 = .ok (.iconst 4, 1) := by decide +kernel
theorem dX10_isSo_112 : decode cX10_isSo 112 = .ok (.if_icmp .ne 14, 3) := by decide +kernel
theorem dX10_isSo_115 : decode cX10_isSo 115 = .ok (.aload_n 1, 1) := by decide +kernel
theorem dX10_isSo_116 : decode cX10_isSo 116 = .ok (.iload_n 3, 1) := by decide +kernel
theorem dX10_isSo_117 : decode cX10_isSo 117 = .ok (.iaload, 1) := by decide +kernel
theorem dX10_isSo_118 : decode cX10_isSo 118 = .ok (.iconst 2, 1) := by decide +kernel
theorem dX10_isSo_119 : decode cX10_isSo 119 = .ok (.iload_n 2, 1) := by decide +kernel
theorem dX10_isSo_120 : decode cX10_isSo 120 = .ok (.imul, 1) := by decide +kernel
theorem dX10_isSo_121 : decode cX10_isSo 121 = .ok (.if_icmp .le 5, 3) := by decide +kernel
theorem dX10_isSo_124 : decode cX10_isSo 124 = .ok (.iconst 0, 1) := by decide +kernel
theorem dX10_isSo_125 : decode cX10_isSo 125 = .ok (.ireturn, 1) := by decide +kernel
theorem dX10_isSo_126 : decode cX10_isSo 126 = .ok (.iinc 3 1, 3) := by decide +kernel
theorem dX10_isSo_129 : decode cX10_isSo 129 = .ok (.goto (-57), 3) := by decide +kernel
theorem dX10_isSo_132 : decode cX10_isSo 132 = .ok (.iconst 1, 1) := by decide +kernel
theorem dX10_isSo_133 : decode cX10_isSo 133 = .ok (.ireturn, 1) := by decide +kernel
theorem dX10_sum_0 : decode cX10_sum 0 = .ok (.aload_n 0, 1) := by decide +kernel
theorem dX10_sum_1 : decode cX10_sum 1 = .ok (.iload_n 1, 1) := by decide +kernel
theorem dX10_sum_2 : decode cX10_sum 2 = .ok (.invokevirtual 100, 3) := by decide +kernel
theorem dX10_sum_5 : decode cX10_sum 5 = .ok (.ifCond .ne 9, 3) := by decide +kernel
theorem dX10_sum_8 : decode cX10_sum 8 = .ok (.aload_n 0, 1) := by decide +kernel
theorem dX10_sum_9 : decode cX10_sum 9 = .ok (.iconst (-1), 1) := by decide +kernel
theorem dX10_sum_10 : decode cX10_sum 10 = .ok (.invokevirtual 87, 3) := by decide +kernel
theorem dX10_sum_13 : decode cX10_sum 13 = .ok (.ireturn, 1) := by decide +kernel
theorem dX10_sum_14 : decode cX10_sum 14 = .ok (.aload_n 0, 1) := by decide +kernel
theorem dX10_sum_15 : decode cX10_sum 15 = .ok (.invokevirtual 158, 3) := by decide +kernel
theorem dX10_sum_18 : decode cX10_sum 18 = .ok (.aload_n 0, 1) := by decide +kernel
theorem dX10_sum_19 : decode cX10_sum 19 = .ok (.getfield 53, 3) := by decide +kernel
theorem dX10_sum_22 : decode cX10_sum 22 = .ok (.iload_n 1, 1) := by decide +kernel
theorem dX10_sum_23 : decode cX10_sum 23 = .ok (.iaload, 1) := by decide +kernel
theorem dX10_sum_24 : decode cX10_sum 24 = .ok (.ireturn, 1) := by decide +kernel
theorem dX10_totalNow_0 : decode cX10_totalNow 0 = .ok (.iconst 0, 1) := by decide +kernel
theorem dX10_totalNow_1 : decode cX10_totalNow 1 = .ok (.istore_n 1, 1) := by decide +kernel
theorem dX10_totalNow_2 : decode cX10_totalNow 2 = .ok (.iconst 0, 1) := by decide +kernel
theorem dX10_totalNow_3 : decode cX10_totalNow 3 = .ok (.istore_n 2, 1) := by decide +kernel
theorem dX10_totalNow_4 : decode cX10_totalNow 4 = .ok (.iload_n 2, 1) := by decide +kernel
theorem dX10_totalNow_5 : decode cX10_totalNow 5 = .ok (.aload_n 0, 1) := by decide +kernel
theorem dX10_totalNow_6 : decode cX10_totalNow 6 = .ok (.getfield 7, 3) := by decide +kernel
theorem dX10_totalNow_9 : decode cX10_totalNow 9 = .ok (.if_icmp .ge 18, 3) := by decide +kernel
theorem dX10_totalNow_12 : decode cX10_totalNow 12 = .ok (.iload_n 1, 1) := by decide +kernel
theorem dX10_totalNow_13 : decode cX10_totalNow 13 = .ok (.aload_n 0, 1) := by decide +kernel
theorem dX10_totalNow_14 : decode cX10_totalNow 14 = .ok (.getfield 53, 3) := by decide +kernel
theorem dX10_totalNow_17 : decode cX10_totalNow 17 = .ok (.iload_n 2, 1) := by decide +kernel
theorem dX10_totalNow_18 : decode cX10_totalNow 18 = .ok (.iaload, 1) := by decide +kernel
theorem dX10_totalNow_19 : decode cX10_totalNow 19 = .ok (.iadd, 1) := by decide +kernel
theorem dX10_totalNow_20 : decode cX10_totalNow 20 = .ok (.istore_n 1, 1) := by decide +kernel
theorem dX10_totalNow_21 : decode cX10_totalNow 21 = .ok (.iinc 2 1, 3) := by decide +kernel
theorem dX10_totalNow_24 : decode cX10_totalNow 24 = .ok (.goto (-20), 3) := by decide +kernel
theorem dX10_totalNow_27 : decode cX10_totalNow 27 = .ok (.iload_n 1, 1) := by decide +kernel
theorem dX10_totalNow_28 : decode cX10_totalNow 28 = .ok (.ireturn, 1) := by decide +kernel
theorem dX10_total_0 : decode cX10_total 0 = .ok (.aload_n 0, 1) := by decide +kernel
theorem dX10_total_1 : decode cX10_total 1 = .ok (.invokevirtual 158, 3) := by decide +kernel
theorem dX10_total_4 : decode cX10_total 4 = .ok (.aload_n 0, 1) := by decide +kernel
theorem dX10_total_5 : decode cX10_total 5 = .ok (.invokevirtual 161, 3) := by decide +kernel
theorem dX10_total_8 : decode cX10_total 8 = .ok (.ireturn, 1) := by decide +kernel
theorem dX10_rule_0 : decode cX10_rule 0 = .ok (.iload_n 1, 1) := by decide +kernel
theorem dX10_rule_1 : decode cX10_rule 1 = .ok (.iconst 0, 1) := by decide +kernel
theorem dX10_rule_2 : decode cX10_rule 2 = .ok (.iconst 5, 1) := by decide +kernel
theorem dX10_rule_3 : decode cX10_rule 3 = .ok (.invokestatic 78, 3) := by decide +kernel
theorem dX10_rule_6 : decode cX10_rule 6 = .ok (.ifCond .ne 10, 3) := by decide +kernel
theorem dX10_rule_9 : decode cX10_rule 9 = .ok (.aload_n 0, 1) := by decide +kernel
theorem dX10_rule_10 : decode cX10_rule 10 = .ok (.bipush (-2), 2) := by decide +kernel
theorem dX10_rule_12 : decode cX10_rule 12 = .ok (.invokevirtual 87, 3) := by decide +kernel
theorem dX10_rule_15 : decode cX10_rule 15 = .ok (.ireturn, 1) := by decide +kernel
theorem dX10_rule_16 : decode cX10_rule 16 = .ok (.aload_n 0, 1) := by decide +kernel
theorem dX10_rule_17 : decode cX10_rule 17 = .ok (.invokevirtual 158, 3) := by decide +kernel
theorem dX10_rule_20 : decode cX10_rule 20 = .ok (.iload_n 1, 1) := by decide +kernel
theorem dX10_rule_21 : decode cX10_rule 21 = .ok (.aload_n 0, 1) := by decide +kernel
theorem dX10_rule_22 : decode cX10_rule 22 = .ok (.getfield 53, 3) := by decide +kernel
theorem dX10_rule_25 : decode cX10_rule 25 = .ok (.aload_n 0, 1) := by decide +kernel
theorem dX10_rule_26 : decode cX10_rule 26 = .ok (.getfield 7, 3) := by decide +kernel
theorem dX10_rule_29 : decode cX10_rule 29 = .ok (.invokestatic 164, 3) := by decide +kernel
theorem dX10_rule_32 : decode cX10_rule 32 = .ok (.ifCond .eq 7, 3) := by decide +kernel
theorem dX10_rule_35 : decode cX10_rule 35 = .ok (.iconst 1, 1) := by decide +kernel
theorem dX10_rule_36 : decode cX10_rule 36 = .ok (.goto 4, 3) := by decide +kernel
theorem dX10_rule_39 : decode cX10_rule 39 = .ok (.iconst 0, 1) := by decide +kernel
theorem dX10_rule_40 : decode cX10_rule 40 = .ok (.ireturn, 1) := by decide +kernel
theorem dX10_ranked_0 : decode cX10_ranked 0 = .ok (.iload_n 1, 1) := by decide +kernel
theorem dX10_ranked_1 : decode cX10_ranked 1 = .ok (.ifCond .ge 10, 3) := by decide +kernel
theorem dX10_ranked_4 : decode cX10_ranked 4 = .ok (.aload_n 0, 1) := by decide +kernel
theorem dX10_ranked_5 : decode cX10_ranked 5 = .ok (.bipush (-4), 2) := by decide +kernel
theorem dX10_ranked_7 : decode cX10_ranked 7 = .ok (.invokevirtual 87, 3) := by decide +kernel
theorem dX10_ranked_10 : decode cX10_ranked 10 = .ok (.ireturn, 1) := by decide +kernel
theorem dX10_ranked_11 : decode cX10_ranked 11 = .ok (.aload_n 0, 1) := by decide +kernel
theorem dX10_ranked_12 : decode cX10_ranked 12 = .ok (.invokevirtual 158, 3) := by decide +kernel
theorem dX10_ranked_15 : decode cX10_ranked 15 = .ok (.iconst 0, 1) := by decide +kernel
theorem dX10_ranked_16 : decode cX10_ranked 16 = .ok (.istore_n 2, 1) := by decide +kernel
theorem dX10_ranked_17 : decode cX10_ranked 17 = .ok (.iload_n 2, 1) := by decide +kernel
theorem dX10_ranked_18 : decode cX10_ranked 18 = .ok (.aload_n 0, 1) := by decide +kernel
theorem dX10_ranked_19 : decode cX10_ranked 19 = .ok (.getfield 7, 3) := by decide +kernel
theorem dX10_ranked_22 : decode cX10_ranked 22 = .ok (.if_icmp .ge 82, 3) := by decide +kernel
theorem dX10_ranked_25 : decode cX10_ranked 25 = .ok (.iconst 0, 1) := by decide +kernel
theorem dX10_ranked_26 : decode cX10_ranked 26 = .ok (.istore_n 3, 1) := by decide +kernel
theorem dX10_ranked_27 : decode cX10_ranked 27 = .ok (.iconst 0, 1) := by decide +kernel
theorem dX10_ranked_28 : decode cX10_ranked 28 = .ok (.istore 4, 2) := by decide +kernel
theorem dX10_ranked_30 : decode cX10_ranked 30 = .ok (.iload 4, 2) := by decide +kernel
theorem dX10_ranked_32 : decode cX10_ranked 32 = .ok (.aload_n 0, 1) := by decide +kernel
theorem dX10_ranked_33 : decode cX10_ranked 33 = .ok (.getfield 7, 3) := by decide +kernel
theorem dX10_ranked_36 : decode cX10_ranked 36 = .ok (.if_icmp .ge 55, 3) := by decide +kernel
theorem dX10_ranked_39 : decode cX10_ranked 39 = .ok (.iload_n 3, 1) := by decide +kernel
theorem dX10_ranked_40 : decode cX10_ranked 40 = .ok (.aload_n 0, 1) := by decide +kernel
theorem dX10_ranked_41 : decode cX10_ranked 41 = .ok (.getfield 53, 3) := by decide +kernel
theorem dX10_ranked_44 : decode cX10_ranked 44 = .ok (.iload 4, 2) := by decide +kernel
theorem dX10_ranked_46 : decode cX10_ranked 46 = .ok (.iaload, 1) := by decide +kernel
theorem dX10_ranked_47 : decode cX10_ranked 47 = .ok (.aload_n 0, 1) := by decide +kernel
theorem dX10_ranked_48 : decode cX10_ranked 48 = .ok (.getfield 53, 3) := by decide +kernel
theorem dX10_ranked_51 : decode cX10_ranked 51 = .ok (.iload_n 2, 1) := by decide +kernel
theorem dX10_ranked_52 : decode cX10_ranked 52 = .ok (.iaload, 1) := by decide +kernel
theorem dX10_ranked_53 : decode cX10_ranked 53 = .ok (.if_icmp .gt 25, 3) := by decide +kernel
theorem dX10_ranked_56 : decode cX10_ranked 56 = .ok (.aload_n 0, 1) := by decide +kernel
theorem dX10_ranked_57 : decode cX10_ranked 57 = .ok (.getfield 53, 3) := by decide +kernel
theorem dX10_ranked_60 : decode cX10_ranked 60 = .ok (.iload 4, 2) := by decide +kernel
theorem dX10_ranked_62 : decode cX10_ranked 62 = .ok (.iaload, 1) := by decide +kernel
theorem dX10_ranked_63 : decode cX10_ranked 63 = .ok (.aload_n 0, 1) := by decide +kernel
theorem dX10_ranked_64 : decode cX10_ranked 64 = .ok (.getfield 53, 3) := by decide +kernel
theorem dX10_ranked_67 : decode cX10_ranked 67 = .ok (.iload_n 2, 1) := by decide +kernel
theorem dX10_ranked_68 : decode cX10_ranked 68 = .ok (.iaload, 1) := by decide +kernel
theorem dX10_ranked_69 : decode cX10_ranked 69 = .ok (.if_icmp .ne 13, 3) := by decide +kernel
theorem dX10_ranked_72 : decode cX10_ranked 72 = .ok (.iload 4, 2) := by decide +kernel
theorem dX10_ranked_74 : decode cX10_ranked 74 = .ok (.iload_n 2, 1) := by decide +kernel
theorem dX10_ranked_75 : decode cX10_ranked 75 = .ok (.if_icmp .ge 7, 3) := by decide +kernel
theorem dX10_ranked_78 : decode cX10_ranked 78 = .ok (.iconst 1, 1) := by decide +kernel
theorem dX10_ranked_79 : decode cX10_ranked 79 = .ok (.goto 4, 3) := by decide +kernel
theorem dX10_ranked_82 : decode cX10_ranked 82 = .ok (.iconst 0, 1) := by decide +kernel
theorem dX10_ranked_83 : decode cX10_ranked 83 = .ok (.iadd, 1) := by decide +kernel
theorem dX10_ranked_84 : decode cX10_ranked 84 = .ok (.istore_n 3, 1) := by decide +kernel
theorem dX10_ranked_85 : decode cX10_ranked 85 = .ok (.iinc 4 1, 3) := by decide +kernel
theorem dX10_ranked_88 : decode cX10_ranked 88 = .ok (.goto (-58), 3) := by decide +kernel
theorem dX10_ranked_91 : decode cX10_ranked 91 = .ok (.iload_n 3, 1) := by decide +kernel
theorem dX10_ranked_92 : decode cX10_ranked 92 = .ok (.iload_n 1, 1) := by decide +kernel
theorem dX10_ranked_93 : decode cX10_ranked 93 = .ok (.if_icmp .ne 5, 3) := by decide +kernel
theorem dX10_ranked_96 : decode cX10_ranked 96 = .ok (.iload_n 2, 1) := by decide +kernel
theorem dX10_ranked_97 : decode cX10_ranked 97 = .ok (.ireturn, 1) := by decide +kernel
theorem dX10_ranked_98 : decode cX10_ranked 98 = .ok (.iinc 2 1, 3) := by decide +kernel
theorem dX10_ranked_101 : decode cX10_ranked 101 = .ok (.goto (-84), 3) := by decide +kernel
theorem dX10_ranked_104 : decode cX10_ranked 104 = .ok (.bipush (-9), 2) := by decide +kernel
theorem dX10_ranked_106 : decode cX10_ranked 106 = .ok (.ireturn, 1) := by decide +kernel
theorem dX10_triesNought_0 : decode cX10_triesNought 0 = .ok (.iconst 0, 1) := by decide +kernel
theorem dX10_triesNought_1 : decode cX10_triesNought 1 = .ok (.istore_n 1, 1) := by decide +kernel
theorem dX10_triesNought_2 : decode cX10_triesNought 2 = .ok (.iload_n 1, 1) := by decide +kernel
theorem dX10_triesNought_3 : decode cX10_triesNought 3 = .ok (.bipush 8, 2) := by decide +kernel
theorem dX10_triesNought_5 : decode cX10_triesNought 5 = .ok (.if_icmp .ge 16, 3) := by decide +kernel
theorem dX10_triesNought_8 : decode cX10_triesNought 8 = .ok (.aload_n 0, 1) := by decide +kernel
theorem dX10_triesNought_9 : decode cX10_triesNought 9 = .ok (.getfield 50, 3) := by decide +kernel
theorem dX10_triesNought_12 : decode cX10_triesNought 12 = .ok (.iload_n 1, 1) := by decide +kernel
theorem dX10_triesNought_13 : decode cX10_triesNought 13 = .ok (.iconst 0, 1) := by decide +kernel
theorem dX10_triesNought_14 : decode cX10_triesNought 14 = .ok (.iastore, 1) := by decide +kernel
theorem dX10_triesNought_15 : decode cX10_triesNought 15 = .ok (.iinc 1 1, 3) := by decide +kernel
theorem dX10_triesNought_18 : decode cX10_triesNought 18 = .ok (.goto (-16), 3) := by decide +kernel
theorem dX10_triesNought_21 : decode cX10_triesNought 21 = .ok (.aload_n 0, 1) := by decide +kernel
theorem dX10_triesNought_22 : decode cX10_triesNought 22 = .ok (.invokevirtual 141, 3) := by decide +kernel
theorem dX10_triesNought_25 : decode cX10_triesNought 25 = .ok (.aload_n 0, 1) := by decide +kernel
theorem dX10_triesNought_26 : decode cX10_triesNought 26 = .ok (.invokevirtual 144, 3) := by decide +kernel
theorem dX10_triesNought_29 : decode cX10_triesNought 29 = .ok (.return_, 1) := by decide +kernel
theorem dX10_goesOn_0 : decode cX10_goesOn 0 = .ok (.aload_n 0, 1) := by decide +kernel
theorem dX10_goesOn_1 : decode cX10_goesOn 1 = .ok (.getfield 82, 3) := by decide +kernel
theorem dX10_goesOn_4 : decode cX10_goesOn 4 = .ok (.iconst 1, 1) := by decide +kernel
theorem dX10_goesOn_5 : decode cX10_goesOn 5 = .ok (.isub, 1) := by decide +kernel
theorem dX10_goesOn_6 : decode cX10_goesOn 6 = .ok (.istore_n 2, 1) := by decide +kernel
theorem dX10_goesOn_7 : decode cX10_goesOn 7 = .ok (.iload_n 2, 1) := by decide +kernel
theorem dX10_goesOn_8 : decode cX10_goesOn 8 = .ok (.ifCond .lt 26, 3) := by decide +kernel
theorem dX10_goesOn_11 : decode cX10_goesOn 11 = .ok (.aload_n 0, 1) := by decide +kernel
theorem dX10_goesOn_12 : decode cX10_goesOn 12 = .ok (.getfield 50, 3) := by decide +kernel
theorem dX10_goesOn_15 : decode cX10_goesOn 15 = .ok (.iload_n 2, 1) := by decide +kernel
theorem dX10_goesOn_16 : decode cX10_goesOn 16 = .ok (.iaload, 1) := by decide +kernel
theorem dX10_goesOn_17 : decode cX10_goesOn 17 = .ok (.iload_n 1, 1) := by decide +kernel
theorem dX10_goesOn_18 : decode cX10_goesOn 18 = .ok (.if_icmp .ne 16, 3) := by decide +kernel
theorem dX10_goesOn_21 : decode cX10_goesOn 21 = .ok (.aload_n 0, 1) := by decide +kernel
theorem dX10_goesOn_22 : decode cX10_goesOn 22 = .ok (.getfield 50, 3) := by decide +kernel
theorem dX10_goesOn_25 : decode cX10_goesOn 25 = .ok (.iload_n 2, 1) := by decide +kernel
theorem dX10_goesOn_26 : decode cX10_goesOn 26 = .ok (.iconst 0, 1) := by decide +kernel
theorem dX10_goesOn_27 : decode cX10_goesOn 27 = .ok (.iastore, 1) := by decide +kernel
theorem dX10_goesOn_28 : decode cX10_goesOn 28 = .ok (.iinc 2 (-1), 3) := by decide +kernel
theorem dX10_goesOn_31 : decode cX10_goesOn 31 = .ok (.goto (-24), 3) := by decide +kernel
theorem dX10_goesOn_34 : decode cX10_goesOn 34 = .ok (.iload_n 2, 1) := by decide +kernel
theorem dX10_goesOn_35 : decode cX10_goesOn 35 = .ok (.ifCond .ge 5, 3) := by decide +kernel
theorem dX10_goesOn_38 : decode cX10_goesOn 38 = .ok (.iconst 0, 1) := by decide +kernel
theorem dX10_goesOn_39 : decode cX10_goesOn 39 = .ok (.ireturn, 1) := by decide +kernel
theorem dX10_goesOn_40 : decode cX10_goesOn 40 = .ok (.aload_n 0, 1) := by decide +kernel
theorem dX10_goesOn_41 : decode cX10_goesOn 41 = .ok (.getfield 50, 3) := by decide +kernel
theorem dX10_goesOn_44 : decode cX10_goesOn 44 = .ok (.iload_n 2, 1) := by decide +kernel
theorem dX10_goesOn_45 : decode cX10_goesOn 45 = .ok (.dup2, 1) := by decide +kernel
theorem dX10_goesOn_46 : decode cX10_goesOn 46 = .ok (.iaload, 1) := by decide +kernel
theorem dX10_goesOn_47 : decode cX10_goesOn 47 = .ok (.iconst 1, 1) := by decide +kernel
theorem dX10_goesOn_48 : decode cX10_goesOn 48 = .ok (.iadd, 1) := by decide +kernel
theorem dX10_goesOn_49 : decode cX10_goesOn 49 = .ok (.iastore, 1) := by decide +kernel
theorem dX10_goesOn_50 : decode cX10_goesOn 50 = .ok (.aload_n 0, 1) := by decide +kernel
theorem dX10_goesOn_51 : decode cX10_goesOn 51 = .ok (.invokevirtual 144, 3) := by decide +kernel
theorem dX10_goesOn_54 : decode cX10_goesOn 54 = .ok (.iconst 1, 1) := by decide +kernel
theorem dX10_goesOn_55 : decode cX10_goesOn 55 = .ok (.ireturn, 1) := by decide +kernel
theorem dX10_waysTo_0 : decode cX10_waysTo 0 = .ok (.aload_n 0, 1) := by decide +kernel
theorem dX10_waysTo_1 : decode cX10_waysTo 1 = .ok (.invokevirtual 168, 3) := by decide +kernel
theorem dX10_waysTo_4 : decode cX10_waysTo 4 = .ok (.iconst 0, 1) := by decide +kernel
theorem dX10_waysTo_5 : decode cX10_waysTo 5 = .ok (.istore 4, 2) := by decide +kernel
theorem dX10_waysTo_7 : decode cX10_waysTo 7 = .ok (.iconst 1, 1) := by decide +kernel
theorem dX10_waysTo_8 : decode cX10_waysTo 8 = .ok (.istore 5, 2) := by decide +kernel
theorem dX10_waysTo_10 : decode cX10_waysTo 10 = .ok (.iload 5, 2) := by decide +kernel
theorem dX10_waysTo_12 : decode cX10_waysTo 12 = .ok (.ifCond .eq 56, 3) := by decide +kernel
theorem dX10_waysTo_15 : decode cX10_waysTo 15 = .ok (.iload_n 1, 1) := by decide +kernel
theorem dX10_waysTo_16 : decode cX10_waysTo 16 = .ok (.aload_n 0, 1) := by decide +kernel
theorem dX10_waysTo_17 : decode cX10_waysTo 17 = .ok (.getfield 53, 3) := by decide +kernel
theorem dX10_waysTo_20 : decode cX10_waysTo 20 = .ok (.aload_n 0, 1) := by decide +kernel
theorem dX10_waysTo_21 : decode cX10_waysTo 21 = .ok (.getfield 7, 3) := by decide +kernel
theorem dX10_waysTo_24 : decode cX10_waysTo 24 = .ok (.invokestatic 164, 3) := by decide +kernel
theorem dX10_waysTo_27 : decode cX10_waysTo 27 = .ok (.istore 6, 2) := by decide +kernel
theorem dX10_waysTo_29 : decode cX10_waysTo 29 = .ok (.iload 6, 2) := by decide +kernel
theorem dX10_waysTo_31 : decode cX10_waysTo 31 = .ok (.ifCond .eq 12, 3) := by decide +kernel
theorem dX10_waysTo_34 : decode cX10_waysTo 34 = .ok (.iload 4, 2) := by decide +kernel
theorem dX10_waysTo_36 : decode cX10_waysTo 36 = .ok (.iload_n 3, 1) := by decide +kernel
theorem dX10_waysTo_37 : decode cX10_waysTo 37 = .ok (.if_icmp .ne 6, 3) := by decide +kernel
theorem dX10_waysTo_40 : decode cX10_waysTo 40 = .ok (.iload 4, 2) := by decide +kernel
theorem dX10_waysTo_42 : decode cX10_waysTo 42 = .ok (.ireturn, 1) := by decide +kernel
theorem dX10_waysTo_43 : decode cX10_waysTo 43 = .ok (.iload 4, 2) := by decide +kernel
theorem dX10_waysTo_45 : decode cX10_waysTo 45 = .ok (.iload 6, 2) := by decide +kernel
theorem dX10_waysTo_47 : decode cX10_waysTo 47 = .ok (.ifCond .eq 7, 3) := by decide +kernel
theorem dX10_waysTo_50 : decode cX10_waysTo 50 = .ok (.iconst 1, 1) := by decide +kernel
theorem dX10_waysTo_51 : decode cX10_waysTo 51 = .ok (.goto 4, 3) := by decide +kernel
theorem dX10_waysTo_54 : decode cX10_waysTo 54 = .ok (.iconst 0, 1) := by decide +kernel
theorem dX10_waysTo_55 : decode cX10_waysTo 55 = .ok (.iadd, 1) := by decide +kernel
theorem dX10_waysTo_56 : decode cX10_waysTo 56 = .ok (.istore 4, 2) := by decide +kernel
theorem dX10_waysTo_58 : decode cX10_waysTo 58 = .ok (.aload_n 0, 1) := by decide +kernel
theorem dX10_waysTo_59 : decode cX10_waysTo 59 = .ok (.iload_n 2, 1) := by decide +kernel
theorem dX10_waysTo_60 : decode cX10_waysTo 60 = .ok (.invokevirtual 171, 3) := by decide +kernel
theorem dX10_waysTo_63 : decode cX10_waysTo 63 = .ok (.istore 5, 2) := by decide +kernel
theorem dX10_waysTo_65 : decode cX10_waysTo 65 = .ok (.goto (-55), 3) := by decide +kernel
theorem dX10_waysTo_68 : decode cX10_waysTo 68 = .ok (.iload 4, 2) := by decide +kernel
theorem dX10_waysTo_70 : decode cX10_waysTo 70 = .ok (.ireturn, 1) := by decide +kernel
theorem dX10_ways_0 : decode cX10_ways 0 = .ok (.iload_n 1, 1) := by decide +kernel
theorem dX10_ways_1 : decode cX10_ways 1 = .ok (.iconst 0, 1) := by decide +kernel
theorem dX10_ways_2 : decode cX10_ways 2 = .ok (.iconst 5, 1) := by decide +kernel
theorem dX10_ways_3 : decode cX10_ways 3 = .ok (.invokestatic 78, 3) := by decide +kernel
theorem dX10_ways_6 : decode cX10_ways 6 = .ok (.ifCond .ne 10, 3) := by decide +kernel
theorem dX10_ways_9 : decode cX10_ways 9 = .ok (.aload_n 0, 1) := by decide +kernel
theorem dX10_ways_10 : decode cX10_ways 10 = .ok (.bipush (-2), 2) := by decide +kernel
theorem dX10_ways_12 : decode cX10_ways 12 = .ok (.invokevirtual 87, 3) := by decide +kernel
theorem dX10_ways_15 : decode cX10_ways 15 = .ok (.ireturn, 1) := by decide +kernel
theorem dX10_ways_16 : decode cX10_ways 16 = .ok (.iload_n 2, 1) := by decide +kernel
theorem dX10_ways_17 : decode cX10_ways 17 = .ok (.ifCond .lt 8, 3) := by decide +kernel
theorem dX10_ways_20 : decode cX10_ways 20 = .ok (.iload_n 3, 1) := by decide +kernel
theorem dX10_ways_21 : decode cX10_ways 21 = .ok (.iconst (-1), 1) := by decide +kernel
theorem dX10_ways_22 : decode cX10_ways 22 = .ok (.if_icmp .ge 10, 3) := by decide +kernel
theorem dX10_ways_25 : decode cX10_ways 25 = .ok (.aload_n 0, 1) := by decide +kernel
theorem dX10_ways_26 : decode cX10_ways 26 = .ok (.bipush (-4), 2) := by decide +kernel
theorem dX10_ways_28 : decode cX10_ways 28 = .ok (.invokevirtual 87, 3) := by decide +kernel
theorem dX10_ways_31 : decode cX10_ways 31 = .ok (.ireturn, 1) := by decide +kernel
theorem dX10_ways_32 : decode cX10_ways 32 = .ok (.iload_n 2, 1) := by decide +kernel
theorem dX10_ways_33 : decode cX10_ways 33 = .ok (.iconst 3, 1) := by decide +kernel
theorem dX10_ways_34 : decode cX10_ways 34 = .ok (.if_icmp .le 10, 3) := by decide +kernel
theorem dX10_ways_37 : decode cX10_ways 37 = .ok (.aload_n 0, 1) := by decide +kernel
theorem dX10_ways_38 : decode cX10_ways 38 = .ok (.bipush (-6), 2) := by decide +kernel
theorem dX10_ways_40 : decode cX10_ways 40 = .ok (.invokevirtual 87, 3) := by decide +kernel
theorem dX10_ways_43 : decode cX10_ways 43 = .ok (.ireturn, 1) := by decide +kernel
theorem dX10_ways_44 : decode cX10_ways 44 = .ok (.iload_n 3, 1) := by decide +kernel
theorem dX10_ways_45 : decode cX10_ways 45 = .ok (.ifCond .lt 18, 3) := by decide +kernel
theorem dX10_ways_48 : decode cX10_ways 48 = .ok (.aload_n 0, 1) := by decide +kernel
theorem dX10_ways_49 : decode cX10_ways 49 = .ok (.iload 4, 2) := by decide +kernel
theorem dX10_ways_51 : decode cX10_ways 51 = .ok (.invokevirtual 108, 3) := by decide +kernel
theorem dX10_ways_54 : decode cX10_ways 54 = .ok (.ifCond .ne 9, 3) := by decide +kernel
theorem dX10_ways_57 : decode cX10_ways 57 = .ok (.aload_n 0, 1) := by decide +kernel
theorem dX10_ways_58 : decode cX10_ways 58 = .ok (.iconst (-1), 1) := by decide +kernel
theorem dX10_ways_59 : decode cX10_ways 59 = .ok (.invokevirtual 87, 3) := by decide +kernel
theorem dX10_ways_62 : decode cX10_ways 62 = .ok (.ireturn, 1) := by decide +kernel
theorem dX10_ways_63 : decode cX10_ways 63 = .ok (.iload_n 3, 1) := by decide +kernel
theorem dX10_ways_64 : decode cX10_ways 64 = .ok (.ifCond .ge 11, 3) := by decide +kernel
theorem dX10_ways_67 : decode cX10_ways 67 = .ok (.aload_n 0, 1) := by decide +kernel
theorem dX10_ways_68 : decode cX10_ways 68 = .ok (.iload_n 1, 1) := by decide +kernel
theorem dX10_ways_69 : decode cX10_ways 69 = .ok (.iload_n 2, 1) := by decide +kernel
theorem dX10_ways_70 : decode cX10_ways 70 = .ok (.iconst (-1), 1) := by decide +kernel
theorem dX10_ways_71 : decode cX10_ways 71 = .ok (.invokevirtual 174, 3) := by decide +kernel
theorem dX10_ways_74 : decode cX10_ways 74 = .ok (.ireturn, 1) := by decide +kernel
theorem dX10_ways_75 : decode cX10_ways 75 = .ok (.aload_n 0, 1) := by decide +kernel
theorem dX10_ways_76 : decode cX10_ways 76 = .ok (.iload_n 1, 1) := by decide +kernel
theorem dX10_ways_77 : decode cX10_ways 77 = .ok (.iload_n 2, 1) := by decide +kernel
theorem dX10_ways_78 : decode cX10_ways 78 = .ok (.iconst (-1), 1) := by decide +kernel
theorem dX10_ways_79 : decode cX10_ways 79 = .ok (.invokevirtual 174, 3) := by decide +kernel
theorem dX10_ways_82 : decode cX10_ways 82 = .ok (.iload_n 3, 1) := by decide +kernel
theorem dX10_ways_83 : decode cX10_ways 83 = .ok (.if_icmp .gt 6, 3) := by decide +kernel
theorem dX10_ways_86 : decode cX10_ways 86 = .ok (.bipush (-9), 2) := by decide +kernel
theorem dX10_ways_88 : decode cX10_ways 88 = .ok (.ireturn, 1) := by decide +kernel
theorem dX10_ways_89 : decode cX10_ways 89 = .ok (.aload_n 0, 1) := by decide +kernel
theorem dX10_ways_90 : decode cX10_ways 90 = .ok (.iload_n 1, 1) := by decide +kernel
theorem dX10_ways_91 : decode cX10_ways 91 = .ok (.iload_n 2, 1) := by decide +kernel
theorem dX10_ways_92 : decode cX10_ways 92 = .ok (.iload_n 3, 1) := by decide +kernel
theorem dX10_ways_93 : decode cX10_ways 93 = .ok (.invokevirtual 174, 3) := by decide +kernel
theorem dX10_ways_96 : decode cX10_ways 96 = .ok (.istore 5, 2) := by decide +kernel
theorem dX10_ways_98 : decode cX10_ways 98 = .ok (.aload_n 0, 1) := by decide +kernel
theorem dX10_ways_99 : decode cX10_ways 99 = .ok (.getfield 50, 3) := by decide +kernel
theorem dX10_ways_102 : decode cX10_ways 102 = .ok (.iload 4, 2) := by decide +kernel
theorem dX10_ways_104 : decode cX10_ways 104 = .ok (.iaload, 1) := by decide +kernel
theorem dX10_ways_105 : decode cX10_ways 105 = .ok (.ireturn, 1) := by decide +kernel
theorem dX10_isAbove_0 : decode cX10_isAbove 0 = .ok (.iconst 0, 1) := by decide +kernel
theorem dX10_isAbove_1 : decode cX10_isAbove 1 = .ok (.istore_n 2, 1) := by decide +kernel
theorem dX10_isAbove_2 : decode cX10_isAbove 2 = .ok (.iload_n 2, 1) := by decide +kernel
theorem dX10_isAbove_3 : decode cX10_isAbove 3 = .ok (.aload_n 0, 1) := by decide +kernel
theorem dX10_isAbove_4 : decode cX10_isAbove 4 = .ok (.getfield 7, 3) := by decide +kernel
theorem dX10_isAbove_7 : decode cX10_isAbove 7 = .ok (.if_icmp .ge 21, 3) := by decide +kernel
theorem dX10_isAbove_10 : decode cX10_isAbove 10 = .ok (.aload_n 0, 1) := by decide +kernel
theorem dX10_isAbove_11 : decode cX10_isAbove 11 = .ok (.getfield 53, 3) := by decide +kernel
theorem dX10_isAbove_14 : decode cX10_isAbove 14 = .ok (.iload_n 2, 1) := by decide +kernel
theorem dX10_isAbove_15 : decode cX10_isAbove 15 = .ok (.iaload, 1) := by decide +kernel
theorem dX10_isAbove_16 : decode cX10_isAbove 16 = .ok (.iload_n 1, 1) := by decide +kernel
theorem dX10_isAbove_17 : decode cX10_isAbove 17 = .ok (.if_icmp .le 5, 3) := by decide +kernel
theorem dX10_isAbove_20 : decode cX10_isAbove 20 = .ok (.iconst 1, 1) := by decide +kernel
theorem dX10_isAbove_21 : decode cX10_isAbove 21 = .ok (.ireturn, 1) := by decide +kernel
theorem dX10_isAbove_22 : decode cX10_isAbove 22 = .ok (.iinc 2 1, 3) := by decide +kernel
theorem dX10_isAbove_25 : decode cX10_isAbove 25 = .ok (.goto (-23), 3) := by decide +kernel
theorem dX10_isAbove_28 : decode cX10_isAbove 28 = .ok (.iconst 0, 1) := by decide +kernel
theorem dX10_isAbove_29 : decode cX10_isAbove 29 = .ok (.ireturn, 1) := by decide +kernel
theorem dX10_isAll_0 : decode cX10_isAll 0 = .ok (.iconst 0, 1) := by decide +kernel
theorem dX10_isAll_1 : decode cX10_isAll 1 = .ok (.istore_n 2, 1) := by decide +kernel
theorem dX10_isAll_2 : decode cX10_isAll 2 = .ok (.iload_n 2, 1) := by decide +kernel
theorem dX10_isAll_3 : decode cX10_isAll 3 = .ok (.aload_n 0, 1) := by decide +kernel
theorem dX10_isAll_4 : decode cX10_isAll 4 = .ok (.getfield 7, 3) := by decide +kernel
theorem dX10_isAll_7 : decode cX10_isAll 7 = .ok (.if_icmp .ge 21, 3) := by decide +kernel
theorem dX10_isAll_10 : decode cX10_isAll 10 = .ok (.aload_n 0, 1) := by decide +kernel
theorem dX10_isAll_11 : decode cX10_isAll 11 = .ok (.getfield 53, 3) := by decide +kernel
theorem dX10_isAll_14 : decode cX10_isAll 14 = .ok (.iload_n 2, 1) := by decide +kernel
theorem dX10_isAll_15 : decode cX10_isAll 15 = .ok (.iaload, 1) := by decide +kernel
theorem dX10_isAll_16 : decode cX10_isAll 16 = .ok (.iload_n 1, 1) := by decide +kernel
theorem dX10_isAll_17 : decode cX10_isAll 17 = .ok (.if_icmp .eq 5, 3) := by decide +kernel
theorem dX10_isAll_20 : decode cX10_isAll 20 = .ok (.iconst 0, 1) := by decide +kernel
theorem dX10_isAll_21 : decode cX10_isAll 21 = .ok (.ireturn, 1) := by decide +kernel
theorem dX10_isAll_22 : decode cX10_isAll 22 = .ok (.iinc 2 1, 3) := by decide +kernel
theorem dX10_isAll_25 : decode cX10_isAll 25 = .ok (.goto (-23), 3) := by decide +kernel
theorem dX10_isAll_28 : decode cX10_isAll 28 = .ok (.iconst 1, 1) := by decide +kernel
theorem dX10_isAll_29 : decode cX10_isAll 29 = .ok (.ireturn, 1) := by decide +kernel
theorem dX10_goesPast_0 : decode cX10_goesPast 0 = .ok (.aload_n 0, 1) := by decide +kernel
theorem dX10_goesPast_1 : decode cX10_goesPast 1 = .ok (.getfield 82, 3) := by decide +kernel
theorem dX10_goesPast_4 : decode cX10_goesPast 4 = .ok (.iconst 1, 1) := by decide +kernel
theorem dX10_goesPast_5 : decode cX10_goesPast 5 = .ok (.isub, 1) := by decide +kernel
theorem dX10_goesPast_6 : decode cX10_goesPast 6 = .ok (.istore_n 1, 1) := by decide +kernel
theorem dX10_goesPast_7 : decode cX10_goesPast 7 = .ok (.iload_n 1, 1) := by decide +kernel
theorem dX10_goesPast_8 : decode cX10_goesPast 8 = .ok (.ifCond .lt 18, 3) := by decide +kernel
theorem dX10_goesPast_11 : decode cX10_goesPast 11 = .ok (.aload_n 0, 1) := by decide +kernel
theorem dX10_goesPast_12 : decode cX10_goesPast 12 = .ok (.getfield 50, 3) := by decide +kernel
theorem dX10_goesPast_15 : decode cX10_goesPast 15 = .ok (.iload_n 1, 1) := by decide +kernel
theorem dX10_goesPast_16 : decode cX10_goesPast 16 = .ok (.iaload, 1) := by decide +kernel
theorem dX10_goesPast_17 : decode cX10_goesPast 17 = .ok (.ifCond .ne 9, 3) := by decide +kernel
theorem dX10_goesPast_20 : decode cX10_goesPast 20 = .ok (.iinc 1 (-1), 3) := by decide +kernel
theorem dX10_goesPast_23 : decode cX10_goesPast 23 = .ok (.goto (-16), 3) := by decide +kernel
theorem dX10_goesPast_26 : decode cX10_goesPast 26 = .ok (.iload_n 1, 1) := by decide +kernel
theorem dX10_goesPast_27 : decode cX10_goesPast 27 = .ok (.ifCond .ge 5, 3) := by decide +kernel
theorem dX10_goesPast_30 : decode cX10_goesPast 30 = .ok (.iconst 0, 1) := by decide +kernel
theorem dX10_goesPast_31 : decode cX10_goesPast 31 = .ok (.ireturn, 1) := by decide +kernel
theorem dX10_goesPast_32 : decode cX10_goesPast 32 = .ok (.aload_n 0, 1) := by decide +kernel
theorem dX10_goesPast_33 : decode cX10_goesPast 33 = .ok (.getfield 50, 3) := by decide +kernel
theorem dX10_goesPast_36 : decode cX10_goesPast 36 = .ok (.iload_n 1, 1) := by decide +kernel
theorem dX10_goesPast_37 : decode cX10_goesPast 37 = .ok (.iconst 0, 1) := by decide +kernel
theorem dX10_goesPast_38 : decode cX10_goesPast 38 = .ok (.iastore, 1) := by decide +kernel
theorem dX10_goesPast_39 : decode cX10_goesPast 39 = .ok (.iload_n 1, 1) := by decide +kernel
theorem dX10_goesPast_40 : decode cX10_goesPast 40 = .ok (.ifCond .ne 5, 3) := by decide +kernel
theorem dX10_goesPast_43 : decode cX10_goesPast 43 = .ok (.iconst 0, 1) := by decide +kernel
theorem dX10_goesPast_44 : decode cX10_goesPast 44 = .ok (.ireturn, 1) := by decide +kernel
theorem dX10_goesPast_45 : decode cX10_goesPast 45 = .ok (.aload_n 0, 1) := by decide +kernel
theorem dX10_goesPast_46 : decode cX10_goesPast 46 = .ok (.getfield 50, 3) := by decide +kernel
theorem dX10_goesPast_49 : decode cX10_goesPast 49 = .ok (.iload_n 1, 1) := by decide +kernel
theorem dX10_goesPast_50 : decode cX10_goesPast 50 = .ok (.iconst 1, 1) := by decide +kernel
theorem dX10_goesPast_51 : decode cX10_goesPast 51 = .ok (.isub, 1) := by decide +kernel
theorem dX10_goesPast_52 : decode cX10_goesPast 52 = .ok (.dup2, 1) := by decide +kernel
theorem dX10_goesPast_53 : decode cX10_goesPast 53 = .ok (.iaload, 1) := by decide +kernel
theorem dX10_goesPast_54 : decode cX10_goesPast 54 = .ok (.iconst 1, 1) := by decide +kernel
theorem dX10_goesPast_55 : decode cX10_goesPast 55 = .ok (.iadd, 1) := by decide +kernel
theorem dX10_goesPast_56 : decode cX10_goesPast 56 = .ok (.iastore, 1) := by decide +kernel
theorem dX10_goesPast_57 : decode cX10_goesPast 57 = .ok (.aload_n 0, 1) := by decide +kernel
theorem dX10_goesPast_58 : decode cX10_goesPast 58 = .ok (.invokevirtual 144, 3) := by decide +kernel
theorem dX10_goesPast_61 : decode cX10_goesPast 61 = .ok (.iconst 1, 1) := by decide +kernel
theorem dX10_goesPast_62 : decode cX10_goesPast 62 = .ok (.ireturn, 1) := by decide +kernel
theorem dX10_goesUp_0 : decode cX10_goesUp 0 = .ok (.aload_n 0, 1) := by decide +kernel
theorem dX10_goesUp_1 : decode cX10_goesUp 1 = .ok (.getfield 82, 3) := by decide +kernel
theorem dX10_goesUp_4 : decode cX10_goesUp 4 = .ok (.ifCond .ne 5, 3) := by decide +kernel
theorem dX10_goesUp_7 : decode cX10_goesUp 7 = .ok (.iconst 0, 1) := by decide +kernel
theorem dX10_goesUp_8 : decode cX10_goesUp 8 = .ok (.ireturn, 1) := by decide +kernel
theorem dX10_goesUp_9 : decode cX10_goesUp 9 = .ok (.aload_n 0, 1) := by decide +kernel
theorem dX10_goesUp_10 : decode cX10_goesUp 10 = .ok (.getfield 50, 3) := by decide +kernel
theorem dX10_goesUp_13 : decode cX10_goesUp 13 = .ok (.aload_n 0, 1) := by decide +kernel
theorem dX10_goesUp_14 : decode cX10_goesUp 14 = .ok (.getfield 82, 3) := by decide +kernel
theorem dX10_goesUp_17 : decode cX10_goesUp 17 = .ok (.iconst 1, 1) := by decide +kernel
theorem dX10_goesUp_18 : decode cX10_goesUp 18 = .ok (.isub, 1) := by decide +kernel
theorem dX10_goesUp_19 : decode cX10_goesUp 19 = .ok (.dup2, 1) := by decide +kernel
theorem dX10_goesUp_20 : decode cX10_goesUp 20 = .ok (.iaload, 1) := by decide +kernel
theorem dX10_goesUp_21 : decode cX10_goesUp 21 = .ok (.iconst 1, 1) := by decide +kernel
theorem dX10_goesUp_22 : decode cX10_goesUp 22 = .ok (.iadd, 1) := by decide +kernel
theorem dX10_goesUp_23 : decode cX10_goesUp 23 = .ok (.iastore, 1) := by decide +kernel
theorem dX10_goesUp_24 : decode cX10_goesUp 24 = .ok (.aload_n 0, 1) := by decide +kernel
theorem dX10_goesUp_25 : decode cX10_goesUp 25 = .ok (.invokevirtual 144, 3) := by decide +kernel
theorem dX10_goesUp_28 : decode cX10_goesUp 28 = .ok (.iconst 1, 1) := by decide +kernel
theorem dX10_goesUp_29 : decode cX10_goesUp 29 = .ok (.ireturn, 1) := by decide +kernel
theorem dX10_magicTo_0 : decode cX10_magicTo 0 = .ok (.aload_n 0, 1) := by decide +kernel
theorem dX10_magicTo_1 : decode cX10_magicTo 1 = .ok (.invokevirtual 168, 3) := by decide +kernel
theorem dX10_magicTo_4 : decode cX10_magicTo 4 = .ok (.iconst 0, 1) := by decide +kernel
theorem dX10_magicTo_5 : decode cX10_magicTo 5 = .ok (.istore_n 3, 1) := by decide +kernel
theorem dX10_magicTo_6 : decode cX10_magicTo 6 = .ok (.iconst 1, 1) := by decide +kernel
theorem dX10_magicTo_7 : decode cX10_magicTo 7 = .ok (.istore 4, 2) := by decide +kernel
theorem dX10_magicTo_9 : decode cX10_magicTo 9 = .ok (.iload 4, 2) := by decide +kernel
theorem dX10_magicTo_11 : decode cX10_magicTo 11 = .ok (.ifCond .eq 47, 3) := by decide +kernel
theorem dX10_magicTo_14 : decode cX10_magicTo 14 = .ok (.aload_n 0, 1) := by decide +kernel
theorem dX10_magicTo_15 : decode cX10_magicTo 15 = .ok (.iload_n 1, 1) := by decide +kernel
theorem dX10_magicTo_16 : decode cX10_magicTo 16 = .ok (.invokevirtual 178, 3) := by decide +kernel
theorem dX10_magicTo_19 : decode cX10_magicTo 19 = .ok (.ifCond .eq 12, 3) := by decide +kernel
theorem dX10_magicTo_22 : decode cX10_magicTo 22 = .ok (.aload_n 0, 1) := by decide +kernel
theorem dX10_magicTo_23 : decode cX10_magicTo 23 = .ok (.invokevirtual 181, 3) := by decide +kernel
theorem dX10_magicTo_26 : decode cX10_magicTo 26 = .ok (.istore 4, 2) := by decide +kernel
theorem dX10_magicTo_28 : decode cX10_magicTo 28 = .ok (.goto (-19), 3) := by decide +kernel
theorem dX10_magicTo_31 : decode cX10_magicTo 31 = .ok (.aload_n 0, 1) := by decide +kernel
theorem dX10_magicTo_32 : decode cX10_magicTo 32 = .ok (.iload_n 1, 1) := by decide +kernel
theorem dX10_magicTo_33 : decode cX10_magicTo 33 = .ok (.invokevirtual 185, 3) := by decide +kernel
theorem dX10_magicTo_36 : decode cX10_magicTo 36 = .ok (.ifCond .eq 13, 3) := by decide +kernel
theorem dX10_magicTo_39 : decode cX10_magicTo 39 = .ok (.iload_n 3, 1) := by decide +kernel
theorem dX10_magicTo_40 : decode cX10_magicTo 40 = .ok (.iload_n 2, 1) := by decide +kernel
theorem dX10_magicTo_41 : decode cX10_magicTo 41 = .ok (.if_icmp .ne 5, 3) := by decide +kernel
theorem dX10_magicTo_44 : decode cX10_magicTo 44 = .ok (.iload_n 3, 1) := by decide +kernel
theorem dX10_magicTo_45 : decode cX10_magicTo 45 = .ok (.ireturn, 1) := by decide +kernel
theorem dX10_magicTo_46 : decode cX10_magicTo 46 = .ok (.iinc 3 1, 3) := by decide +kernel
theorem dX10_magicTo_49 : decode cX10_magicTo 49 = .ok (.aload_n 0, 1) := by decide +kernel
theorem dX10_magicTo_50 : decode cX10_magicTo 50 = .ok (.invokevirtual 188, 3) := by decide +kernel
theorem dX10_magicTo_53 : decode cX10_magicTo 53 = .ok (.istore 4, 2) := by decide +kernel
theorem dX10_magicTo_55 : decode cX10_magicTo 55 = .ok (.goto (-46), 3) := by decide +kernel
theorem dX10_magicTo_58 : decode cX10_magicTo 58 = .ok (.iload_n 3, 1) := by decide +kernel
theorem dX10_magicTo_59 : decode cX10_magicTo 59 = .ok (.ireturn, 1) := by decide +kernel
theorem dX10_magic_0 : decode cX10_magic 0 = .ok (.iload_n 1, 1) := by decide +kernel
theorem dX10_magic_1 : decode cX10_magic 1 = .ok (.ifCond .lt 8, 3) := by decide +kernel
theorem dX10_magic_4 : decode cX10_magic 4 = .ok (.iload_n 2, 1) := by decide +kernel
theorem dX10_magic_5 : decode cX10_magic 5 = .ok (.iconst (-1), 1) := by decide +kernel
theorem dX10_magic_6 : decode cX10_magic 6 = .ok (.if_icmp .ge 10, 3) := by decide +kernel
theorem dX10_magic_9 : decode cX10_magic 9 = .ok (.aload_n 0, 1) := by decide +kernel
theorem dX10_magic_10 : decode cX10_magic 10 = .ok (.bipush (-4), 2) := by decide +kernel
theorem dX10_magic_12 : decode cX10_magic 12 = .ok (.invokevirtual 87, 3) := by decide +kernel
theorem dX10_magic_15 : decode cX10_magic 15 = .ok (.ireturn, 1) := by decide +kernel
theorem dX10_magic_16 : decode cX10_magic 16 = .ok (.iload_n 1, 1) := by decide +kernel
theorem dX10_magic_17 : decode cX10_magic 17 = .ok (.bipush 6, 2) := by decide +kernel
theorem dX10_magic_19 : decode cX10_magic 19 = .ok (.if_icmp .le 10, 3) := by decide +kernel
theorem dX10_magic_22 : decode cX10_magic 22 = .ok (.aload_n 0, 1) := by decide +kernel
theorem dX10_magic_23 : decode cX10_magic 23 = .ok (.bipush (-6), 2) := by decide +kernel
theorem dX10_magic_25 : decode cX10_magic 25 = .ok (.invokevirtual 87, 3) := by decide +kernel
theorem dX10_magic_28 : decode cX10_magic 28 = .ok (.ireturn, 1) := by decide +kernel
theorem dX10_magic_29 : decode cX10_magic 29 = .ok (.iload_n 2, 1) := by decide +kernel
theorem dX10_magic_30 : decode cX10_magic 30 = .ok (.ifCond .lt 17, 3) := by decide +kernel
theorem dX10_magic_33 : decode cX10_magic 33 = .ok (.aload_n 0, 1) := by decide +kernel
theorem dX10_magic_34 : decode cX10_magic 34 = .ok (.iload_n 3, 1) := by decide +kernel
theorem dX10_magic_35 : decode cX10_magic 35 = .ok (.invokevirtual 108, 3) := by decide +kernel
theorem dX10_magic_38 : decode cX10_magic 38 = .ok (.ifCond .ne 9, 3) := by decide +kernel
theorem dX10_magic_41 : decode cX10_magic 41 = .ok (.aload_n 0, 1) := by decide +kernel
theorem dX10_magic_42 : decode cX10_magic 42 = .ok (.iconst (-1), 1) := by decide +kernel
theorem dX10_magic_43 : decode cX10_magic 43 = .ok (.invokevirtual 87, 3) := by decide +kernel
theorem dX10_magic_46 : decode cX10_magic 46 = .ok (.ireturn, 1) := by decide +kernel
theorem dX10_magic_47 : decode cX10_magic 47 = .ok (.iload_n 2, 1) := by decide +kernel
theorem dX10_magic_48 : decode cX10_magic 48 = .ok (.ifCond .ge 10, 3) := by decide +kernel
theorem dX10_magic_51 : decode cX10_magic 51 = .ok (.aload_n 0, 1) := by decide +kernel
theorem dX10_magic_52 : decode cX10_magic 52 = .ok (.iload_n 1, 1) := by decide +kernel
theorem dX10_magic_53 : decode cX10_magic 53 = .ok (.iconst (-1), 1) := by decide +kernel
theorem dX10_magic_54 : decode cX10_magic 54 = .ok (.invokevirtual 191, 3) := by decide +kernel
theorem dX10_magic_57 : decode cX10_magic 57 = .ok (.ireturn, 1) := by decide +kernel
theorem dX10_magic_58 : decode cX10_magic 58 = .ok (.aload_n 0, 1) := by decide +kernel
theorem dX10_magic_59 : decode cX10_magic 59 = .ok (.iload_n 1, 1) := by decide +kernel
theorem dX10_magic_60 : decode cX10_magic 60 = .ok (.iconst (-1), 1) := by decide +kernel
theorem dX10_magic_61 : decode cX10_magic 61 = .ok (.invokevirtual 191, 3) := by decide +kernel
theorem dX10_magic_64 : decode cX10_magic 64 = .ok (.iload_n 2, 1) := by decide +kernel
theorem dX10_magic_65 : decode cX10_magic 65 = .ok (.if_icmp .gt 6, 3) := by decide +kernel
theorem dX10_magic_68 : decode cX10_magic 68 = .ok (.bipush (-9), 2) := by decide +kernel
theorem dX10_magic_70 : decode cX10_magic 70 = .ok (.ireturn, 1) := by decide +kernel
theorem dX10_magic_71 : decode cX10_magic 71 = .ok (.aload_n 0, 1) := by decide +kernel
theorem dX10_magic_72 : decode cX10_magic 72 = .ok (.iload_n 1, 1) := by decide +kernel
theorem dX10_magic_73 : decode cX10_magic 73 = .ok (.iload_n 2, 1) := by decide +kernel
theorem dX10_magic_74 : decode cX10_magic 74 = .ok (.invokevirtual 191, 3) := by decide +kernel
theorem dX10_magic_77 : decode cX10_magic 77 = .ok (.istore 4, 2) := by decide +kernel
theorem dX10_magic_79 : decode cX10_magic 79 = .ok (.aload_n 0, 1) := by decide +kernel
theorem dX10_magic_80 : decode cX10_magic 80 = .ok (.getfield 50, 3) := by decide +kernel
theorem dX10_magic_83 : decode cX10_magic 83 = .ok (.iload_n 3, 1) := by decide +kernel
theorem dX10_magic_84 : decode cX10_magic 84 = .ok (.iaload, 1) := by decide +kernel
theorem dX10_magic_85 : decode cX10_magic 85 = .ok (.ireturn, 1) := by decide +kernel
theorem dX10_layMagic_0 : decode cX10_layMagic 0 = .ok (.iconst 0, 1) := by decide +kernel
theorem dX10_layMagic_1 : decode cX10_layMagic 1 = .ok (.istore_n 1, 1) := by decide +kernel
theorem dX10_layMagic_2 : decode cX10_layMagic 2 = .ok (.iload_n 1, 1) := by decide +kernel
theorem dX10_layMagic_3 : decode cX10_layMagic 3 = .ok (.bipush 6, 2) := by decide +kernel
theorem dX10_layMagic_5 : decode cX10_layMagic 5 = .ok (.if_icmp .gt 21, 3) := by decide +kernel
theorem dX10_layMagic_8 : decode cX10_layMagic 8 = .ok (.aload_n 0, 1) := by decide +kernel
theorem dX10_layMagic_9 : decode cX10_layMagic 9 = .ok (.getfield 59, 3) := by decide +kernel
theorem dX10_layMagic_12 : decode cX10_layMagic 12 = .ok (.iload_n 1, 1) := by decide +kernel
theorem dX10_layMagic_13 : decode cX10_layMagic 13 = .ok (.aload_n 0, 1) := by decide +kernel
theorem dX10_layMagic_14 : decode cX10_layMagic 14 = .ok (.iload_n 1, 1) := by decide +kernel
theorem dX10_layMagic_15 : decode cX10_layMagic 15 = .ok (.iconst (-1), 1) := by decide +kernel
theorem dX10_layMagic_16 : decode cX10_layMagic 16 = .ok (.invokevirtual 191, 3) := by decide +kernel
theorem dX10_layMagic_19 : decode cX10_layMagic 19 = .ok (.iastore, 1) := by decide +kernel
theorem dX10_layMagic_20 : decode cX10_layMagic 20 = .ok (.iinc 1 1, 3) := by decide +kernel
theorem dX10_layMagic_23 : decode cX10_layMagic 23 = .ok (.goto (-21), 3) := by decide +kernel
theorem dX10_layMagic_26 : decode cX10_layMagic 26 = .ok (.return_, 1) := by decide +kernel
theorem dX10_differ_0 : decode cX10_differ 0 = .ok (.iconst 0, 1) := by decide +kernel
theorem dX10_differ_1 : decode cX10_differ 1 = .ok (.istore_n 2, 1) := by decide +kernel
theorem dX10_differ_2 : decode cX10_differ 2 = .ok (.iload_n 2, 1) := by decide +kernel
theorem dX10_differ_3 : decode cX10_differ 3 = .ok (.bipush 6, 2) := by decide +kernel
theorem dX10_differ_5 : decode cX10_differ 5 = .ok (.iload_n 1, 1) := by decide +kernel
theorem dX10_differ_6 : decode cX10_differ 6 = .ok (.isub, 1) := by decide +kernel
theorem dX10_differ_7 : decode cX10_differ 7 = .ok (.if_icmp .ge 30, 3) := by decide +kernel
theorem dX10_differ_10 : decode cX10_differ 10 = .ok (.aload_n 0, 1) := by decide +kernel
theorem dX10_differ_11 : decode cX10_differ 11 = .ok (.getfield 59, 3) := by decide +kernel
theorem dX10_differ_14 : decode cX10_differ 14 = .ok (.iload_n 2, 1) := by decide +kernel
theorem dX10_differ_15 : decode cX10_differ 15 = .ok (.aload_n 0, 1) := by decide +kernel
theorem dX10_differ_16 : decode cX10_differ 16 = .ok (.getfield 59, 3) := by decide +kernel
theorem dX10_differ_19 : decode cX10_differ 19 = .ok (.iload_n 2, 1) := by decide +kernel
theorem dX10_differ_20 : decode cX10_differ 20 = .ok (.iconst 1, 1) := by decide +kernel
theorem dX10_differ_21 : decode cX10_differ 21 = .ok (.iadd, 1) := by decide +kernel
theorem dX10_differ_22 : decode cX10_differ 22 = .ok (.iaload, 1) := by decide +kernel
theorem dX10_differ_23 : decode cX10_differ 23 = .ok (.aload_n 0, 1) := by decide +kernel
theorem dX10_differ_24 : decode cX10_differ 24 = .ok (.getfield 59, 3) := by decide +kernel
theorem dX10_differ_27 : decode cX10_differ 27 = .ok (.iload_n 2, 1) := by decide +kernel
theorem dX10_differ_28 : decode cX10_differ 28 = .ok (.iaload, 1) := by decide +kernel
theorem dX10_differ_29 : decode cX10_differ 29 = .ok (.isub, 1) := by decide +kernel
theorem dX10_differ_30 : decode cX10_differ 30 = .ok (.iastore, 1) := by decide +kernel
theorem dX10_differ_31 : decode cX10_differ 31 = .ok (.iinc 2 1, 3) := by decide +kernel
theorem dX10_differ_34 : decode cX10_differ 34 = .ok (.goto (-32), 3) := by decide +kernel
theorem dX10_differ_37 : decode cX10_differ 37 = .ok (.return_, 1) := by decide +kernel
theorem dX10_difference_0 : decode cX10_difference 0 = .ok (.iload_n 1, 1) := by decide +kernel
theorem dX10_difference_1 : decode cX10_difference 1 = .ok (.ifCond .lt 7, 3) := by decide +kernel
theorem dX10_difference_4 : decode cX10_difference 4 = .ok (.iload_n 2, 1) := by decide +kernel
theorem dX10_difference_5 : decode cX10_difference 5 = .ok (.ifCond .ge 13, 3) := by decide +kernel
theorem dX10_difference_8 : decode cX10_difference 8 = .ok (.ldc 194, 2) := by decide +kernel
theorem dX10_difference_10 : decode cX10_difference 10 = .ok (.aload_n 0, 1) := by decide +kernel
theorem dX10_difference_11 : decode cX10_difference 11 = .ok (.bipush (-4), 2) := by decide +kernel
theorem dX10_difference_13 : decode cX10_difference 13 = .ok (.invokevirtual 87, 3) := by decide +kernel
theorem dX10_difference_16 : decode cX10_difference 16 = .ok (.isub, 1) := by decide +kernel
theorem dX10_difference_17 : decode cX10_difference 17 = .ok (.ireturn, 1) := by decide +kernel
theorem dX10_difference_18 : decode cX10_difference 18 = .ok (.iload_n 1, 1) := by decide +kernel
theorem dX10_difference_19 : decode cX10_difference 19 = .ok (.bipush 6, 2) := by decide +kernel
theorem dX10_difference_21 : decode cX10_difference 21 = .ok (.if_icmp .gt 11, 3) := by decide +kernel
theorem dX10_difference_24 : decode cX10_difference 24 = .ok (.iload_n 2, 1) := by decide +kernel
theorem dX10_difference_25 : decode cX10_difference 25 = .ok (.bipush 6, 2) := by decide +kernel
theorem dX10_difference_27 : decode cX10_difference 27 = .ok (.iload_n 1, 1) := by decide +kernel
theorem dX10_difference_28 : decode cX10_difference 28 = .ok (.isub, 1) := by decide +kernel
theorem dX10_difference_29 : decode cX10_difference 29 = .ok (.if_icmp .le 13, 3) := by decide +kernel
theorem dX10_difference_32 : decode cX10_difference 32 = .ok (.ldc 194, 2) := by decide +kernel
theorem dX10_difference_34 : decode cX10_difference 34 = .ok (.aload_n 0, 1) := by decide +kernel
theorem dX10_difference_35 : decode cX10_difference 35 = .ok (.bipush (-6), 2) := by decide +kernel
theorem dX10_difference_37 : decode cX10_difference 37 = .ok (.invokevirtual 87, 3) := by decide +kernel
theorem dX10_difference_40 : decode cX10_difference 40 = .ok (.isub, 1) := by decide +kernel
theorem dX10_difference_41 : decode cX10_difference 41 = .ok (.ireturn, 1) := by decide +kernel
theorem dX10_difference_42 : decode cX10_difference 42 = .ok (.aload_n 0, 1) := by decide +kernel
theorem dX10_difference_43 : decode cX10_difference 43 = .ok (.invokevirtual 195, 3) := by decide +kernel
theorem dX10_difference_46 : decode cX10_difference 46 = .ok (.iconst 0, 1) := by decide +kernel
theorem dX10_difference_47 : decode cX10_difference 47 = .ok (.istore_n 3, 1) := by decide +kernel
theorem dX10_difference_48 : decode cX10_difference 48 = .ok (.iload_n 3, 1) := by decide +kernel
theorem dX10_difference_49 : decode cX10_difference 49 = .ok (.iload_n 1, 1) := by decide +kernel
theorem dX10_difference_50 : decode cX10_difference 50 = .ok (.if_icmp .ge 14, 3) := by decide +kernel
theorem dX10_difference_53 : decode cX10_difference 53 = .ok (.aload_n 0, 1) := by decide +kernel
theorem dX10_difference_54 : decode cX10_difference 54 = .ok (.iload_n 3, 1) := by decide +kernel
theorem dX10_difference_55 : decode cX10_difference 55 = .ok (.invokevirtual 198, 3) := by decide +kernel
theorem dX10_difference_58 : decode cX10_difference 58 = .ok (.iinc 3 1, 3) := by decide +kernel
theorem dX10_difference_61 : decode cX10_difference 61 = .ok (.goto (-13), 3) := by decide +kernel
theorem dX10_difference_64 : decode cX10_difference 64 = .ok (.aload_n 0, 1) := by decide +kernel
theorem dX10_difference_65 : decode cX10_difference 65 = .ok (.getfield 59, 3) := by decide +kernel
theorem dX10_difference_68 : decode cX10_difference 68 = .ok (.iload_n 2, 1) := by decide +kernel
theorem dX10_difference_69 : decode cX10_difference 69 = .ok (.iaload, 1) := by decide +kernel
theorem dX10_difference_70 : decode cX10_difference 70 = .ok (.ireturn, 1) := by decide +kernel
theorem dX10_settled_0 : decode cX10_settled 0 = .ok (.aload_n 0, 1) := by decide +kernel
theorem dX10_settled_1 : decode cX10_settled 1 = .ok (.invokevirtual 195, 3) := by decide +kernel
theorem dX10_settled_4 : decode cX10_settled 4 = .ok (.iconst 0, 1) := by decide +kernel
theorem dX10_settled_5 : decode cX10_settled 5 = .ok (.istore_n 1, 1) := by decide +kernel
theorem dX10_settled_6 : decode cX10_settled 6 = .ok (.aload_n 0, 1) := by decide +kernel
theorem dX10_settled_7 : decode cX10_settled 7 = .ok (.getfield 59, 3) := by decide +kernel
theorem dX10_settled_10 : decode cX10_settled 10 = .ok (.bipush 7, 2) := by decide +kernel
theorem dX10_settled_12 : decode cX10_settled 12 = .ok (.iload_n 1, 1) := by decide +kernel
theorem dX10_settled_13 : decode cX10_settled 13 = .ok (.isub, 1) := by decide +kernel
theorem dX10_settled_14 : decode cX10_settled 14 = .ok (.aload_n 0, 1) := by decide +kernel
theorem dX10_settled_15 : decode cX10_settled 15 = .ok (.getfield 59, 3) := by decide +kernel
theorem dX10_settled_18 : decode cX10_settled 18 = .ok (.iconst 0, 1) := by decide +kernel
theorem dX10_settled_19 : decode cX10_settled 19 = .ok (.iaload, 1) := by decide +kernel
theorem dX10_settled_20 : decode cX10_settled 20 = .ok (.invokestatic 147, 3) := by decide +kernel
theorem dX10_settled_23 : decode cX10_settled 23 = .ok (.bipush 7, 2) := by decide +kernel
theorem dX10_settled_25 : decode cX10_settled 25 = .ok (.iload_n 1, 1) := by decide +kernel
theorem dX10_settled_26 : decode cX10_settled 26 = .ok (.isub, 1) := by decide +kernel
theorem dX10_settled_27 : decode cX10_settled 27 = .ok (.if_icmp .ge 14, 3) := by decide +kernel
theorem dX10_settled_30 : decode cX10_settled 30 = .ok (.aload_n 0, 1) := by decide +kernel
theorem dX10_settled_31 : decode cX10_settled 31 = .ok (.iload_n 1, 1) := by decide +kernel
theorem dX10_settled_32 : decode cX10_settled 32 = .ok (.invokevirtual 198, 3) := by decide +kernel
theorem dX10_settled_35 : decode cX10_settled 35 = .ok (.iinc 1 1, 3) := by decide +kernel
theorem dX10_settled_38 : decode cX10_settled 38 = .ok (.goto (-32), 3) := by decide +kernel
theorem dX10_settled_41 : decode cX10_settled 41 = .ok (.iload_n 1, 1) := by decide +kernel
theorem dX10_settled_42 : decode cX10_settled 42 = .ok (.ireturn, 1) := by decide +kernel
theorem dX10_nextOrder_0 : decode cX10_nextOrder 0 = .ok (.aload_n 0, 1) := by decide +kernel
theorem dX10_nextOrder_1 : decode cX10_nextOrder 1 = .ok (.getfield 82, 3) := by decide +kernel
theorem dX10_nextOrder_4 : decode cX10_nextOrder 4 = .ok (.iconst 2, 1) := by decide +kernel
theorem dX10_nextOrder_5 : decode cX10_nextOrder 5 = .ok (.isub, 1) := by decide +kernel
theorem dX10_nextOrder_6 : decode cX10_nextOrder 6 = .ok (.istore_n 1, 1) := by decide +kernel
theorem dX10_nextOrder_7 : decode cX10_nextOrder 7 = .ok (.iload_n 1, 1) := by decide +kernel
theorem dX10_nextOrder_8 : decode cX10_nextOrder 8 = .ok (.ifCond .lt 26, 3) := by decide +kernel
theorem dX10_nextOrder_11 : decode cX10_nextOrder 11 = .ok (.aload_n 0, 1) := by decide +kernel
theorem dX10_nextOrder_12 : decode cX10_nextOrder 12 = .ok (.getfield 50, 3) := by decide +kernel
theorem dX10_nextOrder_15 : decode cX10_nextOrder 15 = .ok (.iload_n 1, 1) := by decide +kernel
theorem dX10_nextOrder_16 : decode cX10_nextOrder 16 = .ok (.iaload, 1) := by decide +kernel
theorem dX10_nextOrder_17 : decode cX10_nextOrder 17 = .ok (.aload_n 0, 1) := by decide +kernel
theorem dX10_nextOrder_18 : decode cX10_nextOrder 18 = .ok (.getfield 50, 3) := by decide +kernel
theorem dX10_nextOrder_21 : decode cX10_nextOrder 21 = .ok (.iload_n 1, 1) := by decide +kernel
theorem dX10_nextOrder_22 : decode cX10_nextOrder 22 = .ok (.iconst 1, 1) := by decide +kernel
theorem dX10_nextOrder_23 : decode cX10_nextOrder 23 = .ok (.iadd, 1) := by decide +kernel
theorem dX10_nextOrder_24 : decode cX10_nextOrder 24 = .ok (.iaload, 1) := by decide +kernel
theorem dX10_nextOrder_25 : decode cX10_nextOrder 25 = .ok (.if_icmp .le 9, 3) := by decide +kernel
theorem dX10_nextOrder_28 : decode cX10_nextOrder 28 = .ok (.iinc 1 (-1), 3) := by decide +kernel
theorem dX10_nextOrder_31 : decode cX10_nextOrder 31 = .ok (.goto (-24), 3) := by decide +kernel
theorem dX10_nextOrder_34 : decode cX10_nextOrder 34 = .ok (.iload_n 1, 1) := by decide +kernel
theorem dX10_nextOrder_35 : decode cX10_nextOrder 35 = .ok (.ifCond .ge 5, 3) := by decide +kernel
theorem dX10_nextOrder_38 : decode cX10_nextOrder 38 = .ok (.iconst 0, 1) := by decide +kernel
theorem dX10_nextOrder_39 : decode cX10_nextOrder 39 = .ok (.ireturn, 1) := by decide +kernel
theorem dX10_nextOrder_40 : decode cX10_nextOrder 40 = .ok (.aload_n 0, 1) := by decide +kernel
theorem dX10_nextOrder_41 : decode cX10_nextOrder 41 = .ok (.getfield 82, 3) := by decide +kernel
theorem dX10_nextOrder_44 : decode cX10_nextOrder 44 = .ok (.iconst 1, 1) := by decide +kernel
theorem dX10_nextOrder_45 : decode cX10_nextOrder 45 = .ok (.isub, 1) := by decide +kernel
theorem dX10_nextOrder_46 : decode cX10_nextOrder 46 = .ok (.istore_n 2, 1) := by decide +kernel
theorem dX10_nextOrder_47 : decode cX10_nextOrder 47 = .ok (.aload_n 0, 1) := by decide +kernel
theorem dX10_nextOrder_48 : decode cX10_nextOrder 48 = .ok (.getfield 50, 3) := by decide +kernel
theorem dX10_nextOrder_51 : decode cX10_nextOrder 51 = .ok (.iload_n 2, 1) := by decide +kernel
theorem dX10_nextOrder_52 : decode cX10_nextOrder 52 = .ok (.iaload, 1) := by decide +kernel
theorem dX10_nextOrder_53 : decode cX10_nextOrder 53 = .ok (.aload_n 0, 1) := by decide +kernel
theorem dX10_nextOrder_54 : decode cX10_nextOrder 54 = .ok (.getfield 50, 3) := by decide +kernel
theorem dX10_nextOrder_57 : decode cX10_nextOrder 57 = .ok (.iload_n 1, 1) := by decide +kernel
theorem dX10_nextOrder_58 : decode cX10_nextOrder 58 = .ok (.iaload, 1) := by decide +kernel
theorem dX10_nextOrder_59 : decode cX10_nextOrder 59 = .ok (.if_icmp .ge 9, 3) := by decide +kernel
theorem dX10_nextOrder_62 : decode cX10_nextOrder 62 = .ok (.iinc 2 (-1), 3) := by decide +kernel
theorem dX10_nextOrder_65 : decode cX10_nextOrder 65 = .ok (.goto (-18), 3) := by decide +kernel
theorem dX10_nextOrder_68 : decode cX10_nextOrder 68 = .ok (.aload_n 0, 1) := by decide +kernel
theorem dX10_nextOrder_69 : decode cX10_nextOrder 69 = .ok (.getfield 50, 3) := by decide +kernel
theorem dX10_nextOrder_72 : decode cX10_nextOrder 72 = .ok (.iload_n 1, 1) := by decide +kernel
theorem dX10_nextOrder_73 : decode cX10_nextOrder 73 = .ok (.iaload, 1) := by decide +kernel
theorem dX10_nextOrder_74 : decode cX10_nextOrder 74 = .ok (.istore_n 3, 1) := by decide +kernel
theorem dX10_nextOrder_75 : decode cX10_nextOrder 75 = .ok (.aload_n 0, 1) := by decide +kernel
theorem dX10_nextOrder_76 : decode cX10_nextOrder 76 = .ok (.getfield 50, 3) := by decide +kernel
theorem dX10_nextOrder_79 : decode cX10_nextOrder 79 = .ok (.iload_n 1, 1) := by decide +kernel
theorem dX10_nextOrder_80 : decode cX10_nextOrder 80 = .ok (.aload_n 0, 1) := by decide +kernel
theorem dX10_nextOrder_81 : decode cX10_nextOrder 81 = .ok (.getfield 50, 3) := by decide +kernel
theorem dX10_nextOrder_84 : decode cX10_nextOrder 84 = .ok (.iload_n 2, 1) := by decide +kernel
theorem dX10_nextOrder_85 : decode cX10_nextOrder 85 = .ok (.iaload, 1) := by decide +kernel
theorem dX10_nextOrder_86 : decode cX10_nextOrder 86 = .ok (.iastore, 1) := by decide +kernel
theorem dX10_nextOrder_87 : decode cX10_nextOrder 87 = .ok (.aload_n 0, 1) := by decide +kernel
theorem dX10_nextOrder_88 : decode cX10_nextOrder 88 = .ok (.getfield 50, 3) := by decide +kernel
theorem dX10_nextOrder_91 : decode cX10_nextOrder 91 = .ok (.iload_n 2, 1) := by decide +kernel
theorem dX10_nextOrder_92 : decode cX10_nextOrder 92 = .ok (.iload_n 3, 1) := by decide +kernel
theorem dX10_nextOrder_93 : decode cX10_nextOrder 93 = .ok (.iastore, 1) := by decide +kernel
theorem dX10_nextOrder_94 : decode cX10_nextOrder 94 = .ok (.iload_n 1, 1) := by decide +kernel
theorem dX10_nextOrder_95 : decode cX10_nextOrder 95 = .ok (.iconst 1, 1) := by decide +kernel
theorem dX10_nextOrder_96 : decode cX10_nextOrder 96 = .ok (.iadd, 1) := by decide +kernel
theorem dX10_nextOrder_97 : decode cX10_nextOrder 97 = .ok (.istore 4, 2) := by decide +kernel
theorem dX10_nextOrder_99 : decode cX10_nextOrder 99 = .ok (.aload_n 0, 1) := by decide +kernel
theorem dX10_nextOrder_100 : decode cX10_nextOrder 100 = .ok (.getfield 82, 3) := by decide +kernel
theorem dX10_nextOrder_103 : decode cX10_nextOrder 103 = .ok (.iconst 1, 1) := by decide +kernel
theorem dX10_nextOrder_104 : decode cX10_nextOrder 104 = .ok (.isub, 1) := by decide +kernel
theorem dX10_nextOrder_105 : decode cX10_nextOrder 105 = .ok (.istore 5, 2) := by decide +kernel
theorem dX10_nextOrder_107 : decode cX10_nextOrder 107 = .ok (.iload 4, 2) := by decide +kernel
theorem dX10_nextOrder_109 : decode cX10_nextOrder 109 = .ok (.iload 5, 2) := by decide +kernel
theorem dX10_nextOrder_111 : decode cX10_nextOrder 111 = .ok (.if_icmp .ge 42, 3) := by decide +kernel
theorem dX10_nextOrder_114 : decode cX10_nextOrder 114 = .ok (.aload_n 0, 1) := by decide +kernel
theorem dX10_nextOrder_115 : decode cX10_nextOrder 115 = .ok (.getfield 50, 3) := by decide +kernel
theorem dX10_nextOrder_118 : decode cX10_nextOrder 118 = .ok (.iload 4, 2) := by decide +kernel
theorem dX10_nextOrder_120 : decode cX10_nextOrder 120 = .ok (.iaload, 1) := by decide +kernel
theorem dX10_nextOrder_121 : decode cX10_nextOrder 121 = .ok (.istore_n 3, 1) := by decide +kernel
theorem dX10_nextOrder_122 : decode cX10_nextOrder 122 = .ok (.aload_n 0, 1) := by decide +kernel
theorem dX10_nextOrder_123 : decode cX10_nextOrder 123 = .ok (.getfield 50, 3) := by decide +kernel
theorem dX10_nextOrder_126 : decode cX10_nextOrder 126 = .ok (.iload 4, 2) := by decide +kernel
theorem dX10_nextOrder_128 : decode cX10_nextOrder 128 = .ok (.aload_n 0, 1) := by decide +kernel
theorem dX10_nextOrder_129 : decode cX10_nextOrder 129 = .ok (.getfield 50, 3) := by decide +kernel
theorem dX10_nextOrder_132 : decode cX10_nextOrder 132 = .ok (.iload 5, 2) := by decide +kernel
theorem dX10_nextOrder_134 : decode cX10_nextOrder 134 = .ok (.iaload, 1) := by decide +kernel
theorem dX10_nextOrder_135 : decode cX10_nextOrder 135 = .ok (.iastore, 1) := by decide +kernel
theorem dX10_nextOrder_136 : decode cX10_nextOrder 136 = .ok (.aload_n 0, 1) := by decide +kernel
theorem dX10_nextOrder_137 : decode cX10_nextOrder 137 = .ok (.getfield 50, 3) := by decide +kernel
theorem dX10_nextOrder_140 : decode cX10_nextOrder 140 = .ok (.iload 5, 2) := by decide +kernel
theorem dX10_nextOrder_142 : decode cX10_nextOrder 142 = .ok (.iload_n 3, 1) := by decide +kernel
theorem dX10_nextOrder_143 : decode cX10_nextOrder 143 = .ok (.iastore, 1) := by decide +kernel
theorem dX10_nextOrder_144 : decode cX10_nextOrder 144 = .ok (.iinc 4 1, 3) := by decide +kernel
theorem dX10_nextOrder_147 : decode cX10_nextOrder 147 = .ok (.iinc 5 (-1), 3) := by decide +kernel
theorem dX10_nextOrder_150 : decode cX10_nextOrder 150 = .ok (.goto (-43), 3) := by decide +kernel
theorem dX10_nextOrder_153 : decode cX10_nextOrder 153 = .ok (.aload_n 0, 1) := by decide +kernel
theorem dX10_nextOrder_154 : decode cX10_nextOrder 154 = .ok (.invokevirtual 144, 3) := by decide +kernel
theorem dX10_nextOrder_157 : decode cX10_nextOrder 157 = .ok (.iconst 1, 1) := by decide +kernel
theorem dX10_nextOrder_158 : decode cX10_nextOrder 158 = .ok (.ireturn, 1) := by decide +kernel
theorem dX10_ordersTo_0 : decode cX10_ordersTo 0 = .ok (.iconst 0, 1) := by decide +kernel
theorem dX10_ordersTo_1 : decode cX10_ordersTo 1 = .ok (.istore_n 2, 1) := by decide +kernel
theorem dX10_ordersTo_2 : decode cX10_ordersTo 2 = .ok (.iload_n 2, 1) := by decide +kernel
theorem dX10_ordersTo_3 : decode cX10_ordersTo 3 = .ok (.aload_n 0, 1) := by decide +kernel
theorem dX10_ordersTo_4 : decode cX10_ordersTo 4 = .ok (.getfield 82, 3) := by decide +kernel
theorem dX10_ordersTo_7 : decode cX10_ordersTo 7 = .ok (.if_icmp .ge 18, 3) := by decide +kernel
theorem dX10_ordersTo_10 : decode cX10_ordersTo 10 = .ok (.aload_n 0, 1) := by decide +kernel
theorem dX10_ordersTo_11 : decode cX10_ordersTo 11 = .ok (.getfield 50, 3) := by decide +kernel
theorem dX10_ordersTo_14 : decode cX10_ordersTo 14 = .ok (.iload_n 2, 1) := by decide +kernel
theorem dX10_ordersTo_15 : decode cX10_ordersTo 15 = .ok (.iload_n 2, 1) := by decide +kernel
theorem dX10_ordersTo_16 : decode cX10_ordersTo 16 = .ok (.iconst 1, 1) := by decide +kernel
theorem dX10_ordersTo_17 : decode cX10_ordersTo 17 = .ok (.iadd, 1) := by decide +kernel
theorem dX10_ordersTo_18 : decode cX10_ordersTo 18 = .ok (.iastore, 1) := by decide +kernel
theorem dX10_ordersTo_19 : decode cX10_ordersTo 19 = .ok (.iinc 2 1, 3) := by decide +kernel
theorem dX10_ordersTo_22 : decode cX10_ordersTo 22 = .ok (.goto (-20), 3) := by decide +kernel
theorem dX10_ordersTo_25 : decode cX10_ordersTo 25 = .ok (.aload_n 0, 1) := by decide +kernel
theorem dX10_ordersTo_26 : decode cX10_ordersTo 26 = .ok (.invokevirtual 141, 3) := by decide +kernel
theorem dX10_ordersTo_29 : decode cX10_ordersTo 29 = .ok (.aload_n 0, 1) := by decide +kernel
theorem dX10_ordersTo_30 : decode cX10_ordersTo 30 = .ok (.invokevirtual 144, 3) := by decide +kernel
theorem dX10_ordersTo_33 : decode cX10_ordersTo 33 = .ok (.aload_n 0, 1) := by decide +kernel
theorem dX10_ordersTo_34 : decode cX10_ordersTo 34 = .ok (.bipush (-9), 2) := by decide +kernel
theorem dX10_ordersTo_36 : decode cX10_ordersTo 36 = .ok (.putfield 202, 3) := by decide +kernel
theorem dX10_ordersTo_39 : decode cX10_ordersTo 39 = .ok (.iconst 0, 1) := by decide +kernel
theorem dX10_ordersTo_40 : decode cX10_ordersTo 40 = .ok (.istore_n 2, 1) := by decide +kernel
theorem dX10_ordersTo_41 : decode cX10_ordersTo 41 = .ok (.iconst 1, 1) := by decide +kernel
theorem dX10_ordersTo_42 : decode cX10_ordersTo 42 = .ok (.istore_n 3, 1) := by decide +kernel
theorem dX10_ordersTo_43 : decode cX10_ordersTo 43 = .ok (.iload_n 3, 1) := by decide +kernel
theorem dX10_ordersTo_44 : decode cX10_ordersTo 44 = .ok (.ifCond .eq 127, 3) := by decide +kernel
theorem dX10_ordersTo_47 : decode cX10_ordersTo 47 = .ok (.aload_n 0, 1) := by decide +kernel
theorem dX10_ordersTo_48 : decode cX10_ordersTo 48 = .ok (.getfield 53, 3) := by decide +kernel
theorem dX10_ordersTo_51 : decode cX10_ordersTo 51 = .ok (.aload_n 0, 1) := by decide +kernel
theorem dX10_ordersTo_52 : decode cX10_ordersTo 52 = .ok (.getfield 7, 3) := by decide +kernel
theorem dX10_ordersTo_55 : decode cX10_ordersTo 55 = .ok (.invokestatic 155, 3) := by decide +kernel
theorem dX10_ordersTo_58 : decode cX10_ordersTo 58 = .ok (.ifCond .eq 105, 3) := by decide +kernel
theorem dX10_ordersTo_61 : decode cX10_ordersTo 61 = .ok (.iload_n 2, 1) := by decide +kernel
theorem dX10_ordersTo_62 : decode cX10_ordersTo 62 = .ok (.iload_n 1, 1) := by decide +kernel
theorem dX10_ordersTo_63 : decode cX10_ordersTo 63 = .ok (.if_icmp .ne 5, 3) := by decide +kernel
theorem dX10_ordersTo_66 : decode cX10_ordersTo 66 = .ok (.iload_n 2, 1) := by decide +kernel
theorem dX10_ordersTo_67 : decode cX10_ordersTo 67 = .ok (.ireturn, 1) := by decide +kernel
theorem dX10_ordersTo_68 : decode cX10_ordersTo 68 = .ok (.iinc 2 1, 3) := by decide +kernel
theorem dX10_ordersTo_71 : decode cX10_ordersTo 71 = .ok (.iconst 0, 1) := by decide +kernel
theorem dX10_ordersTo_72 : decode cX10_ordersTo 72 = .ok (.istore 4, 2) := by decide +kernel
theorem dX10_ordersTo_74 : decode cX10_ordersTo 74 = .ok (.aload_n 0, 1) := by decide +kernel
theorem dX10_ordersTo_75 : decode cX10_ordersTo 75 = .ok (.getfield 53, 3) := by decide +kernel
theorem dX10_ordersTo_78 : decode cX10_ordersTo 78 = .ok (.iconst 0, 1) := by decide +kernel
theorem dX10_ordersTo_79 : decode cX10_ordersTo 79 = .ok (.iaload, 1) := by decide +kernel
theorem dX10_ordersTo_80 : decode cX10_ordersTo 80 = .ok (.istore 5, 2) := by decide +kernel
theorem dX10_ordersTo_82 : decode cX10_ordersTo 82 = .ok (.iconst 0, 1) := by decide +kernel
theorem dX10_ordersTo_83 : decode cX10_ordersTo 83 = .ok (.istore 6, 2) := by decide +kernel
theorem dX10_ordersTo_85 : decode cX10_ordersTo 85 = .ok (.iload 6, 2) := by decide +kernel
theorem dX10_ordersTo_87 : decode cX10_ordersTo 87 = .ok (.aload_n 0, 1) := by decide +kernel
theorem dX10_ordersTo_88 : decode cX10_ordersTo 88 = .ok (.getfield 7, 3) := by decide +kernel
theorem dX10_ordersTo_91 : decode cX10_ordersTo 91 = .ok (.if_icmp .ge 37, 3) := by decide +kernel
theorem dX10_ordersTo_94 : decode cX10_ordersTo 94 = .ok (.iload 4, 2) := by decide +kernel
theorem dX10_ordersTo_96 : decode cX10_ordersTo 96 = .ok (.aload_n 0, 1) := by decide +kernel
theorem dX10_ordersTo_97 : decode cX10_ordersTo 97 = .ok (.getfield 53, 3) := by decide +kernel
theorem dX10_ordersTo_100 : decode cX10_ordersTo 100 = .ok (.iload 6, 2) := by decide +kernel
theorem dX10_ordersTo_102 : decode cX10_ordersTo 102 = .ok (.iaload, 1) := by decide +kernel
theorem dX10_ordersTo_103 : decode cX10_ordersTo 103 = .ok (.invokestatic 205, 3) := by decide +kernel
theorem dX10_ordersTo_106 : decode cX10_ordersTo 106 = .ok (.istore 4, 2) := by decide +kernel
theorem dX10_ordersTo_108 : decode cX10_ordersTo 108 = .ok (.iload 5, 2) := by decide +kernel
theorem dX10_ordersTo_110 : decode cX10_ordersTo 110 = .ok (.aload_n 0, 1) := by decide +kernel
theorem dX10_ordersTo_111 : decode cX10_ordersTo 111 = .ok (.getfield 53, 3) := by decide +kernel
theorem dX10_ordersTo_114 : decode cX10_ordersTo 114 = .ok (.iload 6, 2) := by decide +kernel
theorem dX10_ordersTo_116 : decode cX10_ordersTo 116 = .ok (.iaload, 1) := by decide +kernel
theorem dX10_ordersTo_117 : decode cX10_ordersTo 117 = .ok (.invokestatic 210, 3) := by decide +kernel
theorem dX10_ordersTo_120 : decode cX10_ordersTo 120 = .ok (.istore 5, 2) := by decide +kernel
theorem dX10_ordersTo_122 : decode cX10_ordersTo 122 = .ok (.iinc 6 1, 3) := by decide +kernel
theorem dX10_ordersTo_125 : decode cX10_ordersTo 125 = .ok (.goto (-40), 3) := by decide +kernel
theorem dX10_ordersTo_128 : decode cX10_ordersTo 128 = .ok (.aload_n 0, 1) := by decide +kernel
theorem dX10_ordersTo_129 : decode cX10_ordersTo 129 = .ok (.aload_n 0, 1) := by decide +kernel
theorem dX10_ordersTo_130 : decode cX10_ordersTo 130 = .ok (.getfield 202, 3) := by decide +kernel
theorem dX10_ordersTo_133 : decode cX10_ordersTo 133 = .ok (.ifCond .lt 15, 3) := by decide +kernel
theorem dX10_ordersTo_136 : decode cX10_ordersTo 136 = .ok (.iload 4, 2) := by decide +kernel
theorem dX10_ordersTo_138 : decode cX10_ordersTo 138 = .ok (.iload 5, 2) := by decide +kernel
theorem dX10_ordersTo_140 : decode cX10_ordersTo 140 = .ok (.isub, 1) := by decide +kernel
theorem dX10_ordersTo_141 : decode cX10_ordersTo 141 = .ok (.aload_n 0, 1) := by decide +kernel
theorem dX10_ordersTo_142 : decode cX10_ordersTo 142 = .ok (.getfield 202, 3) := by decide +kernel
theorem dX10_ordersTo_145 : decode cX10_ordersTo 145 = .ok (.if_icmp .ge 11, 3) := by decide +kernel
theorem dX10_ordersTo_148 : decode cX10_ordersTo 148 = .ok (.iload 4, 2) := by decide +kernel
theorem dX10_ordersTo_150 : decode cX10_ordersTo 150 = .ok (.iload 5, 2) := by decide +kernel
theorem dX10_ordersTo_152 : decode cX10_ordersTo 152 = .ok (.isub, 1) := by decide +kernel
theorem dX10_ordersTo_153 : decode cX10_ordersTo 153 = .ok (.goto 7, 3) := by decide +kernel
theorem dX10_ordersTo_156 : decode cX10_ordersTo 156 = .ok (.aload_n 0, 1) := by decide +kernel
theorem dX10_ordersTo_157 : decode cX10_ordersTo 157 = .ok (.getfield 202, 3) := by decide +kernel
theorem dX10_ordersTo_160 : decode cX10_ordersTo 160 = .ok (.putfield 202, 3) := by decide +kernel
theorem dX10_ordersTo_163 : decode cX10_ordersTo 163 = .ok (.aload_n 0, 1) := by decide +kernel
theorem dX10_ordersTo_164 : decode cX10_ordersTo 164 = .ok (.invokevirtual 213, 3) := by decide +kernel
theorem dX10_ordersTo_167 : decode cX10_ordersTo 167 = .ok (.istore_n 3, 1) := by decide +kernel
theorem dX10_ordersTo_168 : decode cX10_ordersTo 168 = .ok (.goto (-125), 3) := by decide +kernel
theorem dX10_ordersTo_171 : decode cX10_ordersTo 171 = .ok (.iload_n 2, 1) := by decide +kernel
theorem dX10_ordersTo_172 : decode cX10_ordersTo 172 = .ok (.ireturn, 1) := by decide +kernel
theorem dX10_orders_0 : decode cX10_orders 0 = .ok (.iload_n 1, 1) := by decide +kernel
theorem dX10_orders_1 : decode cX10_orders 1 = .ok (.iconst (-1), 1) := by decide +kernel
theorem dX10_orders_2 : decode cX10_orders 2 = .ok (.if_icmp .ge 10, 3) := by decide +kernel
theorem dX10_orders_5 : decode cX10_orders 5 = .ok (.aload_n 0, 1) := by decide +kernel
theorem dX10_orders_6 : decode cX10_orders 6 = .ok (.bipush (-4), 2) := by decide +kernel
theorem dX10_orders_8 : decode cX10_orders 8 = .ok (.invokevirtual 87, 3) := by decide +kernel
theorem dX10_orders_11 : decode cX10_orders 11 = .ok (.ireturn, 1) := by decide +kernel
theorem dX10_orders_12 : decode cX10_orders 12 = .ok (.iload_n 1, 1) := by decide +kernel
theorem dX10_orders_13 : decode cX10_orders 13 = .ok (.ifCond .lt 17, 3) := by decide +kernel
theorem dX10_orders_16 : decode cX10_orders 16 = .ok (.aload_n 0, 1) := by decide +kernel
theorem dX10_orders_17 : decode cX10_orders 17 = .ok (.iload_n 2, 1) := by decide +kernel
theorem dX10_orders_18 : decode cX10_orders 18 = .ok (.invokevirtual 108, 3) := by decide +kernel
theorem dX10_orders_21 : decode cX10_orders 21 = .ok (.ifCond .ne 9, 3) := by decide +kernel
theorem dX10_orders_24 : decode cX10_orders 24 = .ok (.aload_n 0, 1) := by decide +kernel
theorem dX10_orders_25 : decode cX10_orders 25 = .ok (.iconst (-1), 1) := by decide +kernel
theorem dX10_orders_26 : decode cX10_orders 26 = .ok (.invokevirtual 87, 3) := by decide +kernel
theorem dX10_orders_29 : decode cX10_orders 29 = .ok (.ireturn, 1) := by decide +kernel
theorem dX10_orders_30 : decode cX10_orders 30 = .ok (.iload_n 1, 1) := by decide +kernel
theorem dX10_orders_31 : decode cX10_orders 31 = .ok (.ifCond .ge 9, 3) := by decide +kernel
theorem dX10_orders_34 : decode cX10_orders 34 = .ok (.aload_n 0, 1) := by decide +kernel
theorem dX10_orders_35 : decode cX10_orders 35 = .ok (.iconst (-1), 1) := by decide +kernel
theorem dX10_orders_36 : decode cX10_orders 36 = .ok (.invokevirtual 216, 3) := by decide +kernel
theorem dX10_orders_39 : decode cX10_orders 39 = .ok (.ireturn, 1) := by decide +kernel
theorem dX10_orders_40 : decode cX10_orders 40 = .ok (.aload_n 0, 1) := by decide +kernel
theorem dX10_orders_41 : decode cX10_orders 41 = .ok (.iconst (-1), 1) := by decide +kernel
theorem dX10_orders_42 : decode cX10_orders 42 = .ok (.invokevirtual 216, 3) := by decide +kernel
theorem dX10_orders_45 : decode cX10_orders 45 = .ok (.iload_n 1, 1) := by decide +kernel
theorem dX10_orders_46 : decode cX10_orders 46 = .ok (.if_icmp .gt 6, 3) := by decide +kernel
theorem dX10_orders_49 : decode cX10_orders 49 = .ok (.bipush (-9), 2) := by decide +kernel
theorem dX10_orders_51 : decode cX10_orders 51 = .ok (.ireturn, 1) := by decide +kernel
theorem dX10_orders_52 : decode cX10_orders 52 = .ok (.aload_n 0, 1) := by decide +kernel
theorem dX10_orders_53 : decode cX10_orders 53 = .ok (.iload_n 1, 1) := by decide +kernel
theorem dX10_orders_54 : decode cX10_orders 54 = .ok (.invokevirtual 216, 3) := by decide +kernel
theorem dX10_orders_57 : decode cX10_orders 57 = .ok (.istore_n 3, 1) := by decide +kernel
theorem dX10_orders_58 : decode cX10_orders 58 = .ok (.aload_n 0, 1) := by decide +kernel
theorem dX10_orders_59 : decode cX10_orders 59 = .ok (.getfield 50, 3) := by decide +kernel
theorem dX10_orders_62 : decode cX10_orders 62 = .ok (.iload_n 2, 1) := by decide +kernel
theorem dX10_orders_63 : decode cX10_orders 63 = .ok (.iaload, 1) := by decide +kernel
theorem dX10_orders_64 : decode cX10_orders 64 = .ok (.ireturn, 1) := by decide +kernel
theorem dX10_spread_0 : decode cX10_spread 0 = .ok (.aload_n 0, 1) := by decide +kernel
theorem dX10_spread_1 : decode cX10_spread 1 = .ok (.iconst (-1), 1) := by decide +kernel
theorem dX10_spread_2 : decode cX10_spread 2 = .ok (.invokevirtual 216, 3) := by decide +kernel
theorem dX10_spread_5 : decode cX10_spread 5 = .ok (.istore_n 1, 1) := by decide +kernel
theorem dX10_spread_6 : decode cX10_spread 6 = .ok (.aload_n 0, 1) := by decide +kernel
theorem dX10_spread_7 : decode cX10_spread 7 = .ok (.getfield 202, 3) := by decide +kernel
theorem dX10_spread_10 : decode cX10_spread 10 = .ok (.ireturn, 1) := by decide +kernel
theorem dX10_asPart_0 : decode cX10_asPart 0 = .ok (.lload_n 0, 1) := by decide +kernel
theorem dX10_asPart_1 : decode cX10_asPart 1 = .ok (.lstore 5, 2) := by decide +kernel
theorem dX10_asPart_3 : decode cX10_asPart 3 = .ok (.lload_n 2, 1) := by decide +kernel
theorem dX10_asPart_4 : decode cX10_asPart 4 = .ok (.lstore 7, 2) := by decide +kernel
theorem dX10_asPart_6 : decode cX10_asPart 6 = .ok (.lload 7, 2) := by decide +kernel
theorem dX10_asPart_8 : decode cX10_asPart 8 = .ok (.lconst 0, 1) := by decide +kernel
theorem dX10_asPart_9 : decode cX10_asPart 9 = .ok (.lcmp, 1) := by decide +kernel
theorem dX10_asPart_10 : decode cX10_asPart 10 = .ok (.ifCond .eq 21, 3) := by decide +kernel
theorem dX10_asPart_13 : decode cX10_asPart 13 = .ok (.lload 5, 2) := by decide +kernel
theorem dX10_asPart_15 : decode cX10_asPart 15 = .ok (.lload 7, 2) := by decide +kernel
theorem dX10_asPart_17 : decode cX10_asPart 17 = .ok (.lrem, 1) := by decide +kernel
theorem dX10_asPart_18 : decode cX10_asPart 18 = .ok (.lstore 9, 2) := by decide +kernel
theorem dX10_asPart_20 : decode cX10_asPart 20 = .ok (.lload 7, 2) := by decide +kernel
theorem dX10_asPart_22 : decode cX10_asPart 22 = .ok (.lstore 5, 2) := by decide +kernel
theorem dX10_asPart_24 : decode cX10_asPart 24 = .ok (.lload 9, 2) := by decide +kernel
theorem dX10_asPart_26 : decode cX10_asPart 26 = .ok (.lstore 7, 2) := by decide +kernel
theorem dX10_asPart_28 : decode cX10_asPart 28 = .ok (.goto (-22), 3) := by decide +kernel
theorem dX10_asPart_31 : decode cX10_asPart 31 = .ok (.iload 4, 2) := by decide +kernel
theorem dX10_asPart_33 : decode cX10_asPart 33 = .ok (.ifCond .ne 10, 3) := by decide +kernel
theorem dX10_asPart_36 : decode cX10_asPart 36 = .ok (.lload_n 0, 1) := by decide +kernel
theorem dX10_asPart_37 : decode cX10_asPart 37 = .ok (.lload 5, 2) := by decide +kernel
theorem dX10_asPart_39 : decode cX10_asPart 39 = .ok (.ldiv, 1) := by decide +kernel
theorem dX10_asPart_40 : decode cX10_asPart 40 = .ok (.goto 7, 3) := by decide +kernel
theorem dX10_asPart_43 : decode cX10_asPart 43 = .ok (.lload_n 2, 1) := by decide +kernel
theorem dX10_asPart_44 : decode cX10_asPart 44 = .ok (.lload 5, 2) := by decide +kernel
theorem dX10_asPart_46 : decode cX10_asPart 46 = .ok (.ldiv, 1) := by decide +kernel
theorem dX10_asPart_47 : decode cX10_asPart 47 = .ok (.lreturn, 1) := by decide +kernel
theorem dX10_odds_0 : decode cX10_odds 0 = .ok (.iload_n 1, 1) := by decide +kernel
theorem dX10_odds_1 : decode cX10_odds 1 = .ok (.iconst 0, 1) := by decide +kernel
theorem dX10_odds_2 : decode cX10_odds 2 = .ok (.iconst 5, 1) := by decide +kernel
theorem dX10_odds_3 : decode cX10_odds 3 = .ok (.invokestatic 78, 3) := by decide +kernel
theorem dX10_odds_6 : decode cX10_odds 6 = .ok (.ifCond .ne 10, 3) := by decide +kernel
theorem dX10_odds_9 : decode cX10_odds 9 = .ok (.aload_n 0, 1) := by decide +kernel
theorem dX10_odds_10 : decode cX10_odds 10 = .ok (.bipush (-2), 2) := by decide +kernel
theorem dX10_odds_12 : decode cX10_odds 12 = .ok (.invokevirtual 219, 3) := by decide +kernel
theorem dX10_odds_15 : decode cX10_odds 15 = .ok (.lreturn, 1) := by decide +kernel
theorem dX10_odds_16 : decode cX10_odds 16 = .ok (.iload_n 2, 1) := by decide +kernel
theorem dX10_odds_17 : decode cX10_odds 17 = .ok (.ifCond .ge 10, 3) := by decide +kernel
theorem dX10_odds_20 : decode cX10_odds 20 = .ok (.aload_n 0, 1) := by decide +kernel
theorem dX10_odds_21 : decode cX10_odds 21 = .ok (.bipush (-4), 2) := by decide +kernel
theorem dX10_odds_23 : decode cX10_odds 23 = .ok (.invokevirtual 219, 3) := by decide +kernel
theorem dX10_odds_26 : decode cX10_odds 26 = .ok (.lreturn, 1) := by decide +kernel
theorem dX10_odds_27 : decode cX10_odds 27 = .ok (.iload_n 2, 1) := by decide +kernel
theorem dX10_odds_28 : decode cX10_odds 28 = .ok (.iconst 3, 1) := by decide +kernel
theorem dX10_odds_29 : decode cX10_odds 29 = .ok (.if_icmp .le 10, 3) := by decide +kernel
theorem dX10_odds_32 : decode cX10_odds 32 = .ok (.aload_n 0, 1) := by decide +kernel
theorem dX10_odds_33 : decode cX10_odds 33 = .ok (.bipush (-6), 2) := by decide +kernel
theorem dX10_odds_35 : decode cX10_odds 35 = .ok (.invokevirtual 219, 3) := by decide +kernel
theorem dX10_odds_38 : decode cX10_odds 38 = .ok (.lreturn, 1) := by decide +kernel
theorem dX10_odds_39 : decode cX10_odds 39 = .ok (.iload_n 3, 1) := by decide +kernel
theorem dX10_odds_40 : decode cX10_odds 40 = .ok (.iconst 0, 1) := by decide +kernel
theorem dX10_odds_41 : decode cX10_odds 41 = .ok (.iconst 1, 1) := by decide +kernel
theorem dX10_odds_42 : decode cX10_odds 42 = .ok (.invokestatic 78, 3) := by decide +kernel
theorem dX10_odds_45 : decode cX10_odds 45 = .ok (.ifCond .ne 10, 3) := by decide +kernel
theorem dX10_odds_48 : decode cX10_odds 48 = .ok (.aload_n 0, 1) := by decide +kernel
theorem dX10_odds_49 : decode cX10_odds 49 = .ok (.bipush (-2), 2) := by decide +kernel
theorem dX10_odds_51 : decode cX10_odds 51 = .ok (.invokevirtual 219, 3) := by decide +kernel
theorem dX10_odds_54 : decode cX10_odds 54 = .ok (.lreturn, 1) := by decide +kernel
theorem dX10_odds_55 : decode cX10_odds 55 = .ok (.lconst 1, 1) := by decide +kernel
theorem dX10_odds_56 : decode cX10_odds 56 = .ok (.lstore 4, 2) := by decide +kernel
theorem dX10_odds_58 : decode cX10_odds 58 = .ok (.iconst 0, 1) := by decide +kernel
theorem dX10_odds_59 : decode cX10_odds 59 = .ok (.istore 6, 2) := by decide +kernel
theorem dX10_odds_61 : decode cX10_odds 61 = .ok (.iload 6, 2) := by decide +kernel
theorem dX10_odds_63 : decode cX10_odds 63 = .ok (.aload_n 0, 1) := by decide +kernel
theorem dX10_odds_64 : decode cX10_odds 64 = .ok (.getfield 82, 3) := by decide +kernel
theorem dX10_odds_67 : decode cX10_odds 67 = .ok (.if_icmp .ge 18, 3) := by decide +kernel
theorem dX10_odds_70 : decode cX10_odds 70 = .ok (.lload 4, 2) := by decide +kernel
theorem dX10_odds_72 : decode cX10_odds 72 = .ok (.iload_n 2, 1) := by decide +kernel
theorem dX10_odds_73 : decode cX10_odds 73 = .ok (.i2l, 1) := by decide +kernel
theorem dX10_odds_74 : decode cX10_odds 74 = .ok (.lconst 1, 1) := by decide +kernel
theorem dX10_odds_75 : decode cX10_odds 75 = .ok (.ladd, 1) := by decide +kernel
theorem dX10_odds_76 : decode cX10_odds 76 = .ok (.lmul, 1) := by decide +kernel
theorem dX10_odds_77 : decode cX10_odds 77 = .ok (.lstore 4, 2) := by decide +kernel
theorem dX10_odds_79 : decode cX10_odds 79 = .ok (.iinc 6 1, 3) := by decide +kernel
theorem dX10_odds_82 : decode cX10_odds 82 = .ok (.goto (-21), 3) := by decide +kernel
theorem dX10_odds_85 : decode cX10_odds 85 = .ok (.aload_n 0, 1) := by decide +kernel
theorem dX10_odds_86 : decode cX10_odds 86 = .ok (.iload_n 1, 1) := by decide +kernel
theorem dX10_odds_87 : decode cX10_odds 87 = .ok (.iload_n 2, 1) := by decide +kernel
theorem dX10_odds_88 : decode cX10_odds 88 = .ok (.iconst (-1), 1) := by decide +kernel
theorem dX10_odds_89 : decode cX10_odds 89 = .ok (.invokevirtual 174, 3) := by decide +kernel
theorem dX10_odds_92 : decode cX10_odds 92 = .ok (.i2l, 1) := by decide +kernel
theorem dX10_odds_93 : decode cX10_odds 93 = .ok (.lload 4, 2) := by decide +kernel
theorem dX10_odds_95 : decode cX10_odds 95 = .ok (.iload_n 3, 1) := by decide +kernel
theorem dX10_odds_96 : decode cX10_odds 96 = .ok (.invokestatic 223, 3) := by decide +kernel
theorem dX10_odds_99 : decode cX10_odds 99 = .ok (.lreturn, 1) := by decide +kernel
theorem dX10_lots_0 : decode cX10_lots 0 = .ok (.iload_n 1, 1) := by decide +kernel
theorem dX10_lots_1 : decode cX10_lots 1 = .ok (.iconst 0, 1) := by decide +kernel
theorem dX10_lots_2 : decode cX10_lots 2 = .ok (.iconst 5, 1) := by decide +kernel
theorem dX10_lots_3 : decode cX10_lots 3 = .ok (.invokestatic 78, 3) := by decide +kernel
theorem dX10_lots_6 : decode cX10_lots 6 = .ok (.ifCond .ne 10, 3) := by decide +kernel
theorem dX10_lots_9 : decode cX10_lots 9 = .ok (.aload_n 0, 1) := by decide +kernel
theorem dX10_lots_10 : decode cX10_lots 10 = .ok (.bipush (-2), 2) := by decide +kernel
theorem dX10_lots_12 : decode cX10_lots 12 = .ok (.invokevirtual 87, 3) := by decide +kernel
theorem dX10_lots_15 : decode cX10_lots 15 = .ok (.ireturn, 1) := by decide +kernel
theorem dX10_lots_16 : decode cX10_lots 16 = .ok (.iload_n 2, 1) := by decide +kernel
theorem dX10_lots_17 : decode cX10_lots 17 = .ok (.iconst 1, 1) := by decide +kernel
theorem dX10_lots_18 : decode cX10_lots 18 = .ok (.if_icmp .ge 10, 3) := by decide +kernel
theorem dX10_lots_21 : decode cX10_lots 21 = .ok (.aload_n 0, 1) := by decide +kernel
theorem dX10_lots_22 : decode cX10_lots 22 = .ok (.bipush (-4), 2) := by decide +kernel
theorem dX10_lots_24 : decode cX10_lots 24 = .ok (.invokevirtual 87, 3) := by decide +kernel
theorem dX10_lots_27 : decode cX10_lots 27 = .ok (.ireturn, 1) := by decide +kernel
theorem dX10_lots_28 : decode cX10_lots 28 = .ok (.iload_n 2, 1) := by decide +kernel
theorem dX10_lots_29 : decode cX10_lots 29 = .ok (.bipush 50, 2) := by decide +kernel
theorem dX10_lots_31 : decode cX10_lots 31 = .ok (.if_icmp .le 10, 3) := by decide +kernel
theorem dX10_lots_34 : decode cX10_lots 34 = .ok (.aload_n 0, 1) := by decide +kernel
theorem dX10_lots_35 : decode cX10_lots 35 = .ok (.bipush (-6), 2) := by decide +kernel
theorem dX10_lots_37 : decode cX10_lots 37 = .ok (.invokevirtual 87, 3) := by decide +kernel
theorem dX10_lots_40 : decode cX10_lots 40 = .ok (.ireturn, 1) := by decide +kernel
theorem dX10_lots_41 : decode cX10_lots 41 = .ok (.iload 4, 2) := by decide +kernel
theorem dX10_lots_43 : decode cX10_lots 43 = .ok (.iconst 0, 1) := by decide +kernel
theorem dX10_lots_44 : decode cX10_lots 44 = .ok (.iconst 1, 1) := by decide +kernel
theorem dX10_lots_45 : decode cX10_lots 45 = .ok (.invokestatic 78, 3) := by decide +kernel
theorem dX10_lots_48 : decode cX10_lots 48 = .ok (.ifCond .ne 10, 3) := by decide +kernel
theorem dX10_lots_51 : decode cX10_lots 51 = .ok (.aload_n 0, 1) := by decide +kernel
theorem dX10_lots_52 : decode cX10_lots 52 = .ok (.bipush (-2), 2) := by decide +kernel
theorem dX10_lots_54 : decode cX10_lots 54 = .ok (.invokevirtual 87, 3) := by decide +kernel
theorem dX10_lots_57 : decode cX10_lots 57 = .ok (.ireturn, 1) := by decide +kernel
theorem dX10_lots_58 : decode cX10_lots 58 = .ok (.iload_n 3, 1) := by decide +kernel
theorem dX10_lots_59 : decode cX10_lots 59 = .ok (.istore 5, 2) := by decide +kernel
theorem dX10_lots_61 : decode cX10_lots 61 = .ok (.iconst 0, 1) := by decide +kernel
theorem dX10_lots_62 : decode cX10_lots 62 = .ok (.istore 6, 2) := by decide +kernel
theorem dX10_lots_64 : decode cX10_lots 64 = .ok (.iconst 0, 1) := by decide +kernel
theorem dX10_lots_65 : decode cX10_lots 65 = .ok (.istore 7, 2) := by decide +kernel
theorem dX10_lots_67 : decode cX10_lots 67 = .ok (.aload_n 0, 1) := by decide +kernel
theorem dX10_lots_68 : decode cX10_lots 68 = .ok (.invokevirtual 141, 3) := by decide +kernel
theorem dX10_lots_71 : decode cX10_lots 71 = .ok (.iconst 0, 1) := by decide +kernel
theorem dX10_lots_72 : decode cX10_lots 72 = .ok (.istore 8, 2) := by decide +kernel
theorem dX10_lots_74 : decode cX10_lots 74 = .ok (.iload 8, 2) := by decide +kernel
theorem dX10_lots_76 : decode cX10_lots 76 = .ok (.iload_n 2, 1) := by decide +kernel
theorem dX10_lots_77 : decode cX10_lots 77 = .ok (.if_icmp .ge 94, 3) := by decide +kernel
theorem dX10_lots_80 : decode cX10_lots 80 = .ok (.iconst 0, 1) := by decide +kernel
theorem dX10_lots_81 : decode cX10_lots 81 = .ok (.istore 9, 2) := by decide +kernel
theorem dX10_lots_83 : decode cX10_lots 83 = .ok (.iload 9, 2) := by decide +kernel
theorem dX10_lots_85 : decode cX10_lots 85 = .ok (.aload_n 0, 1) := by decide +kernel
theorem dX10_lots_86 : decode cX10_lots 86 = .ok (.getfield 82, 3) := by decide +kernel
theorem dX10_lots_89 : decode cX10_lots 89 = .ok (.if_icmp .ge 38, 3) := by decide +kernel
theorem dX10_lots_92 : decode cX10_lots 92 = .ok (.iload 5, 2) := by decide +kernel
theorem dX10_lots_94 : decode cX10_lots 94 = .ok (.ldc 227, 2) := by decide +kernel
theorem dX10_lots_96 : decode cX10_lots 96 = .ok (.imul, 1) := by decide +kernel
theorem dX10_lots_97 : decode cX10_lots 97 = .ok (.ldc 228, 2) := by decide +kernel
theorem dX10_lots_99 : decode cX10_lots 99 = .ok (.iadd, 1) := by decide +kernel
theorem dX10_lots_100 : decode cX10_lots 100 = .ok (.istore 5, 2) := by decide +kernel
theorem dX10_lots_102 : decode cX10_lots 102 = .ok (.aload_n 0, 1) := by decide +kernel
theorem dX10_lots_103 : decode cX10_lots 103 = .ok (.getfield 50, 3) := by decide +kernel
theorem dX10_lots_106 : decode cX10_lots 106 = .ok (.iload 9, 2) := by decide +kernel
theorem dX10_lots_108 : decode cX10_lots 108 = .ok (.iload 5, 2) := by decide +kernel
theorem dX10_lots_110 : decode cX10_lots 110 = .ok (.ldc 229, 2) := by decide +kernel
theorem dX10_lots_112 : decode cX10_lots 112 = .ok (.iand, 1) := by decide +kernel
theorem dX10_lots_113 : decode cX10_lots 113 = .ok (.sipush 256, 3) := by decide +kernel
theorem dX10_lots_116 : decode cX10_lots 116 = .ok (.idiv, 1) := by decide +kernel
theorem dX10_lots_117 : decode cX10_lots 117 = .ok (.bipush 10, 2) := by decide +kernel
theorem dX10_lots_119 : decode cX10_lots 119 = .ok (.irem, 1) := by decide +kernel
theorem dX10_lots_120 : decode cX10_lots 120 = .ok (.iastore, 1) := by decide +kernel
theorem dX10_lots_121 : decode cX10_lots 121 = .ok (.iinc 9 1, 3) := by decide +kernel
theorem dX10_lots_124 : decode cX10_lots 124 = .ok (.goto (-41), 3) := by decide +kernel
theorem dX10_lots_127 : decode cX10_lots 127 = .ok (.aload_n 0, 1) := by decide +kernel
theorem dX10_lots_128 : decode cX10_lots 128 = .ok (.invokevirtual 144, 3) := by decide +kernel
theorem dX10_lots_131 : decode cX10_lots 131 = .ok (.iload 6, 2) := by decide +kernel
theorem dX10_lots_133 : decode cX10_lots 133 = .ok (.iload_n 1, 1) := by decide +kernel
theorem dX10_lots_134 : decode cX10_lots 134 = .ok (.aload_n 0, 1) := by decide +kernel
theorem dX10_lots_135 : decode cX10_lots 135 = .ok (.getfield 53, 3) := by decide +kernel
theorem dX10_lots_138 : decode cX10_lots 138 = .ok (.aload_n 0, 1) := by decide +kernel
theorem dX10_lots_139 : decode cX10_lots 139 = .ok (.getfield 7, 3) := by decide +kernel
theorem dX10_lots_142 : decode cX10_lots 142 = .ok (.invokestatic 164, 3) := by decide +kernel
theorem dX10_lots_145 : decode cX10_lots 145 = .ok (.ifCond .eq 7, 3) := by decide +kernel
theorem dX10_lots_148 : decode cX10_lots 148 = .ok (.iconst 1, 1) := by decide +kernel
theorem dX10_lots_149 : decode cX10_lots 149 = .ok (.goto 4, 3) := by decide +kernel
theorem dX10_lots_152 : decode cX10_lots 152 = .ok (.iconst 0, 1) := by decide +kernel
theorem dX10_lots_153 : decode cX10_lots 153 = .ok (.iadd, 1) := by decide +kernel
theorem dX10_lots_154 : decode cX10_lots 154 = .ok (.istore 6, 2) := by decide +kernel
theorem dX10_lots_156 : decode cX10_lots 156 = .ok (.iload 7, 2) := by decide +kernel
theorem dX10_lots_158 : decode cX10_lots 158 = .ok (.aload_n 0, 1) := by decide +kernel
theorem dX10_lots_159 : decode cX10_lots 159 = .ok (.invokevirtual 161, 3) := by decide +kernel
theorem dX10_lots_162 : decode cX10_lots 162 = .ok (.iadd, 1) := by decide +kernel
theorem dX10_lots_163 : decode cX10_lots 163 = .ok (.istore 7, 2) := by decide +kernel
theorem dX10_lots_165 : decode cX10_lots 165 = .ok (.iinc 8 1, 3) := by decide +kernel
theorem dX10_lots_168 : decode cX10_lots 168 = .ok (.goto (-94), 3) := by decide +kernel
theorem dX10_lots_171 : decode cX10_lots 171 = .ok (.iload 4, 2) := by decide +kernel
theorem dX10_lots_173 : decode cX10_lots 173 = .ok (.ifCond .ne 8, 3) := by decide +kernel
theorem dX10_lots_176 : decode cX10_lots 176 = .ok (.iload 6, 2) := by decide +kernel
theorem dX10_lots_178 : decode cX10_lots 178 = .ok (.goto 5, 3) := by decide +kernel
theorem dX10_lots_181 : decode cX10_lots 181 = .ok (.iload 7, 2) := by decide +kernel
theorem dX10_lots_183 : decode cX10_lots 183 = .ok (.ireturn, 1) := by decide +kernel
theorem dX10_rankNow_0 : decode cX10_rankNow 0 = .ok (.iconst 0, 1) := by decide +kernel
theorem dX10_rankNow_1 : decode cX10_rankNow 1 = .ok (.istore_n 1, 1) := by decide +kernel
theorem dX10_rankNow_2 : decode cX10_rankNow 2 = .ok (.iload_n 1, 1) := by decide +kernel
theorem dX10_rankNow_3 : decode cX10_rankNow 3 = .ok (.aload_n 0, 1) := by decide +kernel
theorem dX10_rankNow_4 : decode cX10_rankNow 4 = .ok (.getfield 7, 3) := by decide +kernel
theorem dX10_rankNow_7 : decode cX10_rankNow 7 = .ok (.if_icmp .ge 43, 3) := by decide +kernel
theorem dX10_rankNow_10 : decode cX10_rankNow 10 = .ok (.iconst 0, 1) := by decide +kernel
theorem dX10_rankNow_11 : decode cX10_rankNow 11 = .ok (.istore_n 2, 1) := by decide +kernel
theorem dX10_rankNow_12 : decode cX10_rankNow 12 = .ok (.iload_n 2, 1) := by decide +kernel
theorem dX10_rankNow_13 : decode cX10_rankNow 13 = .ok (.aload_n 0, 1) := by decide +kernel
theorem dX10_rankNow_14 : decode cX10_rankNow 14 = .ok (.getfield 82, 3) := by decide +kernel
theorem dX10_rankNow_17 : decode cX10_rankNow 17 = .ok (.if_icmp .ge 27, 3) := by decide +kernel
theorem dX10_rankNow_20 : decode cX10_rankNow 20 = .ok (.aload_n 0, 1) := by decide +kernel
theorem dX10_rankNow_21 : decode cX10_rankNow 21 = .ok (.getfield 62, 3) := by decide +kernel
theorem dX10_rankNow_24 : decode cX10_rankNow 24 = .ok (.bipush 8, 2) := by decide +kernel
theorem dX10_rankNow_26 : decode cX10_rankNow 26 = .ok (.iload_n 1, 1) := by decide +kernel
theorem dX10_rankNow_27 : decode cX10_rankNow 27 = .ok (.imul, 1) := by decide +kernel
theorem dX10_rankNow_28 : decode cX10_rankNow 28 = .ok (.iload_n 2, 1) := by decide +kernel
theorem dX10_rankNow_29 : decode cX10_rankNow 29 = .ok (.iadd, 1) := by decide +kernel
theorem dX10_rankNow_30 : decode cX10_rankNow 30 = .ok (.aload_n 0, 1) := by decide +kernel
theorem dX10_rankNow_31 : decode cX10_rankNow 31 = .ok (.iload_n 1, 1) := by decide +kernel
theorem dX10_rankNow_32 : decode cX10_rankNow 32 = .ok (.iload_n 2, 1) := by decide +kernel
theorem dX10_rankNow_33 : decode cX10_rankNow 33 = .ok (.invokevirtual 137, 3) := by decide +kernel
theorem dX10_rankNow_36 : decode cX10_rankNow 36 = .ok (.i2l, 1) := by decide +kernel
theorem dX10_rankNow_37 : decode cX10_rankNow 37 = .ok (.lastore, 1) := by decide +kernel
theorem dX10_rankNow_38 : decode cX10_rankNow 38 = .ok (.iinc 2 1, 3) := by decide +kernel
theorem dX10_rankNow_41 : decode cX10_rankNow 41 = .ok (.goto (-29), 3) := by decide +kernel
theorem dX10_rankNow_44 : decode cX10_rankNow 44 = .ok (.iinc 1 1, 3) := by decide +kernel
theorem dX10_rankNow_47 : decode cX10_rankNow 47 = .ok (.goto (-45), 3) := by decide +kernel
theorem dX10_rankNow_50 : decode cX10_rankNow 50 = .ok (.iconst 0, 1) := by decide +kernel
theorem dX10_rankNow_51 : decode cX10_rankNow 51 = .ok (.istore_n 1, 1) := by decide +kernel
theorem dX10_rankNow_52 : decode cX10_rankNow 52 = .ok (.lconst 1, 1) := by decide +kernel
theorem dX10_rankNow_53 : decode cX10_rankNow 53 = .ok (.lstore_n 2, 1) := by decide +kernel
theorem dX10_rankNow_54 : decode cX10_rankNow 54 = .ok (.iconst 0, 1) := by decide +kernel
theorem dX10_rankNow_55 : decode cX10_rankNow 55 = .ok (.istore 4, 2) := by decide +kernel
theorem dX10_rankNow_57 : decode cX10_rankNow 57 = .ok (.iload 4, 2) := by decide +kernel
theorem dX10_rankNow_59 : decode cX10_rankNow 59 = .ok (.aload_n 0, 1) := by decide +kernel
theorem dX10_rankNow_60 : decode cX10_rankNow 60 = .ok (.getfield 82, 3) := by decide +kernel
theorem dX10_rankNow_63 : decode cX10_rankNow 63 = .ok (.if_icmp .ge 257, 3) := by decide +kernel
theorem dX10_rankNow_66 : decode cX10_rankNow 66 = .ok (.iload_n 1, 1) := by decide +kernel
theorem dX10_rankNow_67 : decode cX10_rankNow 67 = .ok (.aload_n 0, 1) := by decide +kernel
theorem dX10_rankNow_68 : decode cX10_rankNow 68 = .ok (.getfield 7, 3) := by decide +kernel
theorem dX10_rankNow_71 : decode cX10_rankNow 71 = .ok (.if_icmp .ge 249, 3) := by decide +kernel
theorem dX10_rankNow_74 : decode cX10_rankNow 74 = .ok (.iload_n 1, 1) := by decide +kernel
theorem dX10_rankNow_75 : decode cX10_rankNow 75 = .ok (.istore 5, 2) := by decide +kernel
theorem dX10_rankNow_77 : decode cX10_rankNow 77 = .ok (.iload 5, 2) := by decide +kernel
theorem dX10_rankNow_79 : decode cX10_rankNow 79 = .ok (.aload_n 0, 1) := by decide +kernel
theorem dX10_rankNow_80 : decode cX10_rankNow 80 = .ok (.getfield 7, 3) := by decide +kernel
theorem dX10_rankNow_83 : decode cX10_rankNow 83 = .ok (.if_icmp .ge 27, 3) := by decide +kernel
theorem dX10_rankNow_86 : decode cX10_rankNow 86 = .ok (.aload_n 0, 1) := by decide +kernel
theorem dX10_rankNow_87 : decode cX10_rankNow 87 = .ok (.getfield 62, 3) := by decide +kernel
theorem dX10_rankNow_90 : decode cX10_rankNow 90 = .ok (.bipush 8, 2) := by decide +kernel
theorem dX10_rankNow_92 : decode cX10_rankNow 92 = .ok (.iload 5, 2) := by decide +kernel
theorem dX10_rankNow_94 : decode cX10_rankNow 94 = .ok (.imul, 1) := by decide +kernel
theorem dX10_rankNow_95 : decode cX10_rankNow 95 = .ok (.iload 4, 2) := by decide +kernel
theorem dX10_rankNow_97 : decode cX10_rankNow 97 = .ok (.iadd, 1) := by decide +kernel
theorem dX10_rankNow_98 : decode cX10_rankNow 98 = .ok (.laload, 1) := by decide +kernel
theorem dX10_rankNow_99 : decode cX10_rankNow 99 = .ok (.lconst 0, 1) := by decide +kernel
theorem dX10_rankNow_100 : decode cX10_rankNow 100 = .ok (.lcmp, 1) := by decide +kernel
theorem dX10_rankNow_101 : decode cX10_rankNow 101 = .ok (.ifCond .ne 9, 3) := by decide +kernel
theorem dX10_rankNow_104 : decode cX10_rankNow 104 = .ok (.iinc 5 1, 3) := by decide +kernel
theorem dX10_rankNow_107 : decode cX10_rankNow 107 = .ok (.goto (-30), 3) := by decide +kernel
theorem dX10_rankNow_110 : decode cX10_rankNow 110 = .ok (.iload 5, 2) := by decide +kernel
theorem dX10_rankNow_112 : decode cX10_rankNow 112 = .ok (.aload_n 0, 1) := by decide +kernel
theorem dX10_rankNow_113 : decode cX10_rankNow 113 = .ok (.getfield 7, 3) := by decide +kernel
theorem dX10_rankNow_116 : decode cX10_rankNow 116 = .ok (.if_icmp .ne 6, 3) := by decide +kernel
theorem dX10_rankNow_119 : decode cX10_rankNow 119 = .ok (.goto 195, 3) := by decide +kernel
theorem dX10_rankNow_122 : decode cX10_rankNow 122 = .ok (.iconst 0, 1) := by decide +kernel
theorem dX10_rankNow_123 : decode cX10_rankNow 123 = .ok (.istore 6, 2) := by decide +kernel
theorem dX10_rankNow_125 : decode cX10_rankNow 125 = .ok (.iload 6, 2) := by decide +kernel
theorem dX10_rankNow_127 : decode cX10_rankNow 127 = .ok (.aload_n 0, 1) := by decide +kernel
theorem dX10_rankNow_128 : decode cX10_rankNow 128 = .ok (.getfield 82, 3) := by decide +kernel
theorem dX10_rankNow_131 : decode cX10_rankNow 131 = .ok (.if_icmp .ge 63, 3) := by decide +kernel
theorem dX10_rankNow_134 : decode cX10_rankNow 134 = .ok (.aload_n 0, 1) := by decide +kernel
theorem dX10_rankNow_135 : decode cX10_rankNow 135 = .ok (.getfield 62, 3) := by decide +kernel
theorem dX10_rankNow_138 : decode cX10_rankNow 138 = .ok (.bipush 8, 2) := by decide +kernel
theorem dX10_rankNow_140 : decode cX10_rankNow 140 = .ok (.iload 5, 2) := by decide +kernel
theorem dX10_rankNow_142 : decode cX10_rankNow 142 = .ok (.imul, 1) := by decide +kernel
theorem dX10_rankNow_143 : decode cX10_rankNow 143 = .ok (.iload 6, 2) := by decide +kernel
theorem dX10_rankNow_145 : decode cX10_rankNow 145 = .ok (.iadd, 1) := by decide +kernel
theorem dX10_rankNow_146 : decode cX10_rankNow 146 = .ok (.laload, 1) := by decide +kernel
theorem dX10_rankNow_147 : decode cX10_rankNow 147 = .ok (.lstore 7, 2) := by decide +kernel
theorem dX10_rankNow_149 : decode cX10_rankNow 149 = .ok (.aload_n 0, 1) := by decide +kernel
theorem dX10_rankNow_150 : decode cX10_rankNow 150 = .ok (.getfield 62, 3) := by decide +kernel
theorem dX10_rankNow_153 : decode cX10_rankNow 153 = .ok (.bipush 8, 2) := by decide +kernel
theorem dX10_rankNow_155 : decode cX10_rankNow 155 = .ok (.iload 5, 2) := by decide +kernel
theorem dX10_rankNow_157 : decode cX10_rankNow 157 = .ok (.imul, 1) := by decide +kernel
theorem dX10_rankNow_158 : decode cX10_rankNow 158 = .ok (.iload 6, 2) := by decide +kernel
theorem dX10_rankNow_160 : decode cX10_rankNow 160 = .ok (.iadd, 1) := by decide +kernel
theorem dX10_rankNow_161 : decode cX10_rankNow 161 = .ok (.aload_n 0, 1) := by decide +kernel
theorem dX10_rankNow_162 : decode cX10_rankNow 162 = .ok (.getfield 62, 3) := by decide +kernel
theorem dX10_rankNow_165 : decode cX10_rankNow 165 = .ok (.bipush 8, 2) := by decide +kernel
theorem dX10_rankNow_167 : decode cX10_rankNow 167 = .ok (.iload_n 1, 1) := by decide +kernel
theorem dX10_rankNow_168 : decode cX10_rankNow 168 = .ok (.imul, 1) := by decide +kernel
theorem dX10_rankNow_169 : decode cX10_rankNow 169 = .ok (.iload 6, 2) := by decide +kernel
theorem dX10_rankNow_171 : decode cX10_rankNow 171 = .ok (.iadd, 1) := by decide +kernel
theorem dX10_rankNow_172 : decode cX10_rankNow 172 = .ok (.laload, 1) := by decide +kernel
theorem dX10_rankNow_173 : decode cX10_rankNow 173 = .ok (.lastore, 1) := by decide +kernel
theorem dX10_rankNow_174 : decode cX10_rankNow 174 = .ok (.aload_n 0, 1) := by decide +kernel
theorem dX10_rankNow_175 : decode cX10_rankNow 175 = .ok (.getfield 62, 3) := by decide +kernel
theorem dX10_rankNow_178 : decode cX10_rankNow 178 = .ok (.bipush 8, 2) := by decide +kernel
theorem dX10_rankNow_180 : decode cX10_rankNow 180 = .ok (.iload_n 1, 1) := by decide +kernel
theorem dX10_rankNow_181 : decode cX10_rankNow 181 = .ok (.imul, 1) := by decide +kernel
theorem dX10_rankNow_182 : decode cX10_rankNow 182 = .ok (.iload 6, 2) := by decide +kernel
theorem dX10_rankNow_184 : decode cX10_rankNow 184 = .ok (.iadd, 1) := by decide +kernel
theorem dX10_rankNow_185 : decode cX10_rankNow 185 = .ok (.lload 7, 2) := by decide +kernel
theorem dX10_rankNow_187 : decode cX10_rankNow 187 = .ok (.lastore, 1) := by decide +kernel
theorem dX10_rankNow_188 : decode cX10_rankNow 188 = .ok (.iinc 6 1, 3) := by decide +kernel
theorem dX10_rankNow_191 : decode cX10_rankNow 191 = .ok (.goto (-66), 3) := by decide +kernel
theorem dX10_rankNow_194 : decode cX10_rankNow 194 = .ok (.aload_n 0, 1) := by decide +kernel
theorem dX10_rankNow_195 : decode cX10_rankNow 195 = .ok (.getfield 62, 3) := by decide +kernel
theorem dX10_rankNow_198 : decode cX10_rankNow 198 = .ok (.bipush 8, 2) := by decide +kernel
theorem dX10_rankNow_200 : decode cX10_rankNow 200 = .ok (.iload_n 1, 1) := by decide +kernel
theorem dX10_rankNow_201 : decode cX10_rankNow 201 = .ok (.imul, 1) := by decide +kernel
theorem dX10_rankNow_202 : decode cX10_rankNow 202 = .ok (.iload 4, 2) := by decide +kernel
theorem dX10_rankNow_204 : decode cX10_rankNow 204 = .ok (.iadd, 1) := by decide +kernel
theorem dX10_rankNow_205 : decode cX10_rankNow 205 = .ok (.laload, 1) := by decide +kernel
theorem dX10_rankNow_206 : decode cX10_rankNow 206 = .ok (.lstore 6, 2) := by decide +kernel
theorem dX10_rankNow_208 : decode cX10_rankNow 208 = .ok (.iload_n 1, 1) := by decide +kernel
theorem dX10_rankNow_209 : decode cX10_rankNow 209 = .ok (.iconst 1, 1) := by decide +kernel
theorem dX10_rankNow_210 : decode cX10_rankNow 210 = .ok (.iadd, 1) := by decide +kernel
theorem dX10_rankNow_211 : decode cX10_rankNow 211 = .ok (.istore 8, 2) := by decide +kernel
theorem dX10_rankNow_213 : decode cX10_rankNow 213 = .ok (.iload 8, 2) := by decide +kernel
theorem dX10_rankNow_215 : decode cX10_rankNow 215 = .ok (.aload_n 0, 1) := by decide +kernel
theorem dX10_rankNow_216 : decode cX10_rankNow 216 = .ok (.getfield 7, 3) := by decide +kernel
theorem dX10_rankNow_219 : decode cX10_rankNow 219 = .ok (.if_icmp .ge 89, 3) := by decide +kernel
theorem dX10_rankNow_222 : decode cX10_rankNow 222 = .ok (.aload_n 0, 1) := by decide +kernel
theorem dX10_rankNow_223 : decode cX10_rankNow 223 = .ok (.getfield 62, 3) := by decide +kernel
theorem dX10_rankNow_226 : decode cX10_rankNow 226 = .ok (.bipush 8, 2) := by decide +kernel
theorem dX10_rankNow_228 : decode cX10_rankNow 228 = .ok (.iload 8, 2) := by decide +kernel
theorem dX10_rankNow_230 : decode cX10_rankNow 230 = .ok (.imul, 1) := by decide +kernel
theorem dX10_rankNow_231 : decode cX10_rankNow 231 = .ok (.iload 4, 2) := by decide +kernel
theorem dX10_rankNow_233 : decode cX10_rankNow 233 = .ok (.iadd, 1) := by decide +kernel
theorem dX10_rankNow_234 : decode cX10_rankNow 234 = .ok (.laload, 1) := by decide +kernel
theorem dX10_rankNow_235 : decode cX10_rankNow 235 = .ok (.lstore 9, 2) := by decide +kernel
theorem dX10_rankNow_237 : decode cX10_rankNow 237 = .ok (.iconst 0, 1) := by decide +kernel
theorem dX10_rankNow_238 : decode cX10_rankNow 238 = .ok (.istore 11, 2) := by decide +kernel
theorem dX10_rankNow_240 : decode cX10_rankNow 240 = .ok (.iload 11, 2) := by decide +kernel
theorem dX10_rankNow_242 : decode cX10_rankNow 242 = .ok (.aload_n 0, 1) := by decide +kernel
theorem dX10_rankNow_243 : decode cX10_rankNow 243 = .ok (.getfield 82, 3) := by decide +kernel
theorem dX10_rankNow_246 : decode cX10_rankNow 246 = .ok (.if_icmp .ge 56, 3) := by decide +kernel
theorem dX10_rankNow_249 : decode cX10_rankNow 249 = .ok (.aload_n 0, 1) := by decide +kernel
theorem dX10_rankNow_250 : decode cX10_rankNow 250 = .ok (.getfield 62, 3) := by decide +kernel
theorem dX10_rankNow_253 : decode cX10_rankNow 253 = .ok (.bipush 8, 2) := by decide +kernel
theorem dX10_rankNow_255 : decode cX10_rankNow 255 = .ok (.iload 8, 2) := by decide +kernel
theorem dX10_rankNow_257 : decode cX10_rankNow 257 = .ok (.imul, 1) := by decide +kernel
theorem dX10_rankNow_258 : decode cX10_rankNow 258 = .ok (.iload 11, 2) := by decide +kernel
theorem dX10_rankNow_260 : decode cX10_rankNow 260 = .ok (.iadd, 1) := by decide +kernel
theorem dX10_rankNow_261 : decode cX10_rankNow 261 = .ok (.aload_n 0, 1) := by decide +kernel
theorem dX10_rankNow_262 : decode cX10_rankNow 262 = .ok (.getfield 62, 3) := by decide +kernel
theorem dX10_rankNow_265 : decode cX10_rankNow 265 = .ok (.bipush 8, 2) := by decide +kernel
theorem dX10_rankNow_267 : decode cX10_rankNow 267 = .ok (.iload 8, 2) := by decide +kernel
theorem dX10_rankNow_269 : decode cX10_rankNow 269 = .ok (.imul, 1) := by decide +kernel
theorem dX10_rankNow_270 : decode cX10_rankNow 270 = .ok (.iload 11, 2) := by decide +kernel
theorem dX10_rankNow_272 : decode cX10_rankNow 272 = .ok (.iadd, 1) := by decide +kernel
theorem dX10_rankNow_273 : decode cX10_rankNow 273 = .ok (.laload, 1) := by decide +kernel
theorem dX10_rankNow_274 : decode cX10_rankNow 274 = .ok (.lload 6, 2) := by decide +kernel
theorem dX10_rankNow_276 : decode cX10_rankNow 276 = .ok (.lmul, 1) := by decide +kernel
theorem dX10_rankNow_277 : decode cX10_rankNow 277 = .ok (.aload_n 0, 1) := by decide +kernel
theorem dX10_rankNow_278 : decode cX10_rankNow 278 = .ok (.getfield 62, 3) := by decide +kernel
theorem dX10_rankNow_281 : decode cX10_rankNow 281 = .ok (.bipush 8, 2) := by decide +kernel
theorem dX10_rankNow_283 : decode cX10_rankNow 283 = .ok (.iload_n 1, 1) := by decide +kernel
theorem dX10_rankNow_284 : decode cX10_rankNow 284 = .ok (.imul, 1) := by decide +kernel
theorem dX10_rankNow_285 : decode cX10_rankNow 285 = .ok (.iload 11, 2) := by decide +kernel
theorem dX10_rankNow_287 : decode cX10_rankNow 287 = .ok (.iadd, 1) := by decide +kernel
theorem dX10_rankNow_288 : decode cX10_rankNow 288 = .ok (.laload, 1) := by decide +kernel
theorem dX10_rankNow_289 : decode cX10_rankNow 289 = .ok (.lload 9, 2) := by decide +kernel
theorem dX10_rankNow_291 : decode cX10_rankNow 291 = .ok (.lmul, 1) := by decide +kernel
theorem dX10_rankNow_292 : decode cX10_rankNow 292 = .ok (.lsub, 1) := by decide +kernel
theorem dX10_rankNow_293 : decode cX10_rankNow 293 = .ok (.lload_n 2, 1) := by decide +kernel
theorem dX10_rankNow_294 : decode cX10_rankNow 294 = .ok (.ldiv, 1) := by decide +kernel
theorem dX10_rankNow_295 : decode cX10_rankNow 295 = .ok (.lastore, 1) := by decide +kernel
theorem dX10_rankNow_296 : decode cX10_rankNow 296 = .ok (.iinc 11 1, 3) := by decide +kernel
theorem dX10_rankNow_299 : decode cX10_rankNow 299 = .ok (.goto (-59), 3) := by decide +kernel
theorem dX10_rankNow_302 : decode cX10_rankNow 302 = .ok (.iinc 8 1, 3) := by decide +kernel
theorem dX10_rankNow_305 : decode cX10_rankNow 305 = .ok (.goto (-92), 3) := by decide +kernel
theorem dX10_rankNow_308 : decode cX10_rankNow 308 = .ok (.lload 6, 2) := by decide +kernel
theorem dX10_rankNow_310 : decode cX10_rankNow 310 = .ok (.lstore_n 2, 1) := by decide +kernel
theorem dX10_rankNow_311 : decode cX10_rankNow 311 = .ok (.iinc 1 1, 3) := by decide +kernel
theorem dX10_rankNow_314 : decode cX10_rankNow 314 = .ok (.iinc 4 1, 3) := by decide +kernel
theorem dX10_rankNow_317 : decode cX10_rankNow 317 = .ok (.goto (-260), 3) := by decide +kernel
theorem dX10_rankNow_320 : decode cX10_rankNow 320 = .ok (.iload_n 1, 1) := by decide +kernel
theorem dX10_rankNow_321 : decode cX10_rankNow 321 = .ok (.ireturn, 1) := by decide +kernel
theorem dX10_rank_0 : decode cX10_rank 0 = .ok (.iload_n 1, 1) := by decide +kernel
theorem dX10_rank_1 : decode cX10_rank 1 = .ok (.iconst 0, 1) := by decide +kernel
theorem dX10_rank_2 : decode cX10_rank 2 = .ok (.iconst 1, 1) := by decide +kernel
theorem dX10_rank_3 : decode cX10_rank 3 = .ok (.invokestatic 78, 3) := by decide +kernel
theorem dX10_rank_6 : decode cX10_rank 6 = .ok (.ifCond .ne 12, 3) := by decide +kernel
theorem dX10_rank_9 : decode cX10_rank 9 = .ok (.aload_n 0, 1) := by decide +kernel
theorem dX10_rank_10 : decode cX10_rank 10 = .ok (.bipush (-2), 2) := by decide +kernel
theorem dX10_rank_12 : decode cX10_rank 12 = .ok (.invokevirtual 87, 3) := by decide +kernel
theorem dX10_rank_15 : decode cX10_rank 15 = .ok (.goto 23, 3) := by decide +kernel
theorem dX10_rank_18 : decode cX10_rank 18 = .ok (.iload_n 1, 1) := by decide +kernel
theorem dX10_rank_19 : decode cX10_rank 19 = .ok (.ifCond .ne 10, 3) := by decide +kernel
theorem dX10_rank_22 : decode cX10_rank 22 = .ok (.aload_n 0, 1) := by decide +kernel
theorem dX10_rank_23 : decode cX10_rank 23 = .ok (.invokevirtual 230, 3) := by decide +kernel
theorem dX10_rank_26 : decode cX10_rank 26 = .ok (.goto 12, 3) := by decide +kernel
theorem dX10_rank_29 : decode cX10_rank 29 = .ok (.aload_n 0, 1) := by decide +kernel
theorem dX10_rank_30 : decode cX10_rank 30 = .ok (.getfield 82, 3) := by decide +kernel
theorem dX10_rank_33 : decode cX10_rank 33 = .ok (.aload_n 0, 1) := by decide +kernel
theorem dX10_rank_34 : decode cX10_rank 34 = .ok (.invokevirtual 230, 3) := by decide +kernel
theorem dX10_rank_37 : decode cX10_rank 37 = .ok (.isub, 1) := by decide +kernel
theorem dX10_rank_38 : decode cX10_rank 38 = .ok (.ireturn, 1) := by decide +kernel
theorem dX10_partOf_0 : decode cX10_partOf 0 = .ok (.iconst 1, 1) := by decide +kernel
theorem dX10_partOf_1 : decode cX10_partOf 1 = .ok (.iload_n 1, 1) := by decide +kernel
theorem dX10_partOf_2 : decode cX10_partOf 2 = .ok (.ishl, 1) := by decide +kernel
theorem dX10_partOf_3 : decode cX10_partOf 3 = .ok (.istore_n 2, 1) := by decide +kernel
theorem dX10_partOf_4 : decode cX10_partOf 4 = .ok (.iconst 0, 1) := by decide +kernel
theorem dX10_partOf_5 : decode cX10_partOf 5 = .ok (.istore_n 3, 1) := by decide +kernel
theorem dX10_partOf_6 : decode cX10_partOf 6 = .ok (.iload_n 2, 1) := by decide +kernel
theorem dX10_partOf_7 : decode cX10_partOf 7 = .ok (.iload_n 3, 1) := by decide +kernel
theorem dX10_partOf_8 : decode cX10_partOf 8 = .ok (.if_icmp .eq 63, 3) := by decide +kernel
theorem dX10_partOf_11 : decode cX10_partOf 11 = .ok (.iload_n 2, 1) := by decide +kernel
theorem dX10_partOf_12 : decode cX10_partOf 12 = .ok (.istore_n 3, 1) := by decide +kernel
theorem dX10_partOf_13 : decode cX10_partOf 13 = .ok (.iconst 0, 1) := by decide +kernel
theorem dX10_partOf_14 : decode cX10_partOf 14 = .ok (.istore 4, 2) := by decide +kernel
theorem dX10_partOf_16 : decode cX10_partOf 16 = .ok (.iload 4, 2) := by decide +kernel
theorem dX10_partOf_18 : decode cX10_partOf 18 = .ok (.aload_n 0, 1) := by decide +kernel
theorem dX10_partOf_19 : decode cX10_partOf 19 = .ok (.getfield 82, 3) := by decide +kernel
theorem dX10_partOf_22 : decode cX10_partOf 22 = .ok (.if_icmp .ge 46, 3) := by decide +kernel
theorem dX10_partOf_25 : decode cX10_partOf 25 = .ok (.iconst 1, 1) := by decide +kernel
theorem dX10_partOf_26 : decode cX10_partOf 26 = .ok (.aload_n 0, 1) := by decide +kernel
theorem dX10_partOf_27 : decode cX10_partOf 27 = .ok (.getfield 20, 3) := by decide +kernel
theorem dX10_partOf_30 : decode cX10_partOf 30 = .ok (.iload 4, 2) := by decide +kernel
theorem dX10_partOf_32 : decode cX10_partOf 32 = .ok (.iaload, 1) := by decide +kernel
theorem dX10_partOf_33 : decode cX10_partOf 33 = .ok (.ishl, 1) := by decide +kernel
theorem dX10_partOf_34 : decode cX10_partOf 34 = .ok (.iconst 1, 1) := by decide +kernel
theorem dX10_partOf_35 : decode cX10_partOf 35 = .ok (.aload_n 0, 1) := by decide +kernel
theorem dX10_partOf_36 : decode cX10_partOf 36 = .ok (.getfield 23, 3) := by decide +kernel
theorem dX10_partOf_39 : decode cX10_partOf 39 = .ok (.iload 4, 2) := by decide +kernel
theorem dX10_partOf_41 : decode cX10_partOf 41 = .ok (.iaload, 1) := by decide +kernel
theorem dX10_partOf_42 : decode cX10_partOf 42 = .ok (.ishl, 1) := by decide +kernel
theorem dX10_partOf_43 : decode cX10_partOf 43 = .ok (.ior, 1) := by decide +kernel
theorem dX10_partOf_44 : decode cX10_partOf 44 = .ok (.istore 5, 2) := by decide +kernel
theorem dX10_partOf_46 : decode cX10_partOf 46 = .ok (.iload_n 2, 1) := by decide +kernel
theorem dX10_partOf_47 : decode cX10_partOf 47 = .ok (.iload_n 2, 1) := by decide +kernel
theorem dX10_partOf_48 : decode cX10_partOf 48 = .ok (.iload 5, 2) := by decide +kernel
theorem dX10_partOf_50 : decode cX10_partOf 50 = .ok (.iand, 1) := by decide +kernel
theorem dX10_partOf_51 : decode cX10_partOf 51 = .ok (.ifCond .eq 8, 3) := by decide +kernel
theorem dX10_partOf_54 : decode cX10_partOf 54 = .ok (.iload 5, 2) := by decide +kernel
theorem dX10_partOf_56 : decode cX10_partOf 56 = .ok (.goto 4, 3) := by decide +kernel
theorem dX10_partOf_59 : decode cX10_partOf 59 = .ok (.iconst 0, 1) := by decide +kernel
theorem dX10_partOf_60 : decode cX10_partOf 60 = .ok (.ior, 1) := by decide +kernel
theorem dX10_partOf_61 : decode cX10_partOf 61 = .ok (.istore_n 2, 1) := by decide +kernel
theorem dX10_partOf_62 : decode cX10_partOf 62 = .ok (.iinc 4 1, 3) := by decide +kernel
theorem dX10_partOf_65 : decode cX10_partOf 65 = .ok (.goto (-49), 3) := by decide +kernel
theorem dX10_partOf_68 : decode cX10_partOf 68 = .ok (.goto (-62), 3) := by decide +kernel
theorem dX10_partOf_71 : decode cX10_partOf 71 = .ok (.iload_n 2, 1) := by decide +kernel
theorem dX10_partOf_72 : decode cX10_partOf 72 = .ok (.ireturn, 1) := by decide +kernel
theorem dX10_parts_0 : decode cX10_parts 0 = .ok (.iload_n 1, 1) := by decide +kernel
theorem dX10_parts_1 : decode cX10_parts 1 = .ok (.iconst (-1), 1) := by decide +kernel
theorem dX10_parts_2 : decode cX10_parts 2 = .ok (.if_icmp .eq 17, 3) := by decide +kernel
theorem dX10_parts_5 : decode cX10_parts 5 = .ok (.aload_n 0, 1) := by decide +kernel
theorem dX10_parts_6 : decode cX10_parts 6 = .ok (.iload_n 1, 1) := by decide +kernel
theorem dX10_parts_7 : decode cX10_parts 7 = .ok (.invokevirtual 100, 3) := by decide +kernel
theorem dX10_parts_10 : decode cX10_parts 10 = .ok (.ifCond .ne 9, 3) := by decide +kernel
theorem dX10_parts_13 : decode cX10_parts 13 = .ok (.aload_n 0, 1) := by decide +kernel
theorem dX10_parts_14 : decode cX10_parts 14 = .ok (.iconst (-1), 1) := by decide +kernel
theorem dX10_parts_15 : decode cX10_parts 15 = .ok (.invokevirtual 87, 3) := by decide +kernel
theorem dX10_parts_18 : decode cX10_parts 18 = .ok (.ireturn, 1) := by decide +kernel
theorem dX10_parts_19 : decode cX10_parts 19 = .ok (.iload_n 1, 1) := by decide +kernel
theorem dX10_parts_20 : decode cX10_parts 20 = .ok (.ifCond .lt 9, 3) := by decide +kernel
theorem dX10_parts_23 : decode cX10_parts 23 = .ok (.aload_n 0, 1) := by decide +kernel
theorem dX10_parts_24 : decode cX10_parts 24 = .ok (.iload_n 1, 1) := by decide +kernel
theorem dX10_parts_25 : decode cX10_parts 25 = .ok (.invokevirtual 233, 3) := by decide +kernel
theorem dX10_parts_28 : decode cX10_parts 28 = .ok (.ireturn, 1) := by decide +kernel
theorem dX10_parts_29 : decode cX10_parts 29 = .ok (.iconst 0, 1) := by decide +kernel
theorem dX10_parts_30 : decode cX10_parts 30 = .ok (.istore_n 2, 1) := by decide +kernel
theorem dX10_parts_31 : decode cX10_parts 31 = .ok (.iconst 0, 1) := by decide +kernel
theorem dX10_parts_32 : decode cX10_parts 32 = .ok (.istore_n 3, 1) := by decide +kernel
theorem dX10_parts_33 : decode cX10_parts 33 = .ok (.iload_n 3, 1) := by decide +kernel
theorem dX10_parts_34 : decode cX10_parts 34 = .ok (.aload_n 0, 1) := by decide +kernel
theorem dX10_parts_35 : decode cX10_parts 35 = .ok (.getfield 7, 3) := by decide +kernel
theorem dX10_parts_38 : decode cX10_parts 38 = .ok (.if_icmp .ge 29, 3) := by decide +kernel
theorem dX10_parts_41 : decode cX10_parts 41 = .ok (.iload_n 2, 1) := by decide +kernel
theorem dX10_parts_42 : decode cX10_parts 42 = .ok (.aload_n 0, 1) := by decide +kernel
theorem dX10_parts_43 : decode cX10_parts 43 = .ok (.iload_n 3, 1) := by decide +kernel
theorem dX10_parts_44 : decode cX10_parts 44 = .ok (.invokevirtual 233, 3) := by decide +kernel
theorem dX10_parts_47 : decode cX10_parts 47 = .ok (.iconst 1, 1) := by decide +kernel
theorem dX10_parts_48 : decode cX10_parts 48 = .ok (.iload_n 3, 1) := by decide +kernel
theorem dX10_parts_49 : decode cX10_parts 49 = .ok (.ishl, 1) := by decide +kernel
theorem dX10_parts_50 : decode cX10_parts 50 = .ok (.irem, 1) := by decide +kernel
theorem dX10_parts_51 : decode cX10_parts 51 = .ok (.ifCond .ne 7, 3) := by decide +kernel
theorem dX10_parts_54 : decode cX10_parts 54 = .ok (.iconst 1, 1) := by decide +kernel
theorem dX10_parts_55 : decode cX10_parts 55 = .ok (.goto 4, 3) := by decide +kernel
theorem dX10_parts_58 : decode cX10_parts 58 = .ok (.iconst 0, 1) := by decide +kernel
theorem dX10_parts_59 : decode cX10_parts 59 = .ok (.iadd, 1) := by decide +kernel
theorem dX10_parts_60 : decode cX10_parts 60 = .ok (.istore_n 2, 1) := by decide +kernel
theorem dX10_parts_61 : decode cX10_parts 61 = .ok (.iinc 3 1, 3) := by decide +kernel
theorem dX10_parts_64 : decode cX10_parts 64 = .ok (.goto (-31), 3) := by decide +kernel
theorem dX10_parts_67 : decode cX10_parts 67 = .ok (.iload_n 2, 1) := by decide +kernel
theorem dX10_parts_68 : decode cX10_parts 68 = .ok (.ireturn, 1) := by decide +kernel
theorem dX10_haveSides_0 : decode cX10_haveSides 0 = .ok (.aload_n 0, 1) := by decide +kernel
theorem dX10_haveSides_1 : decode cX10_haveSides 1 = .ok (.iconst 0, 1) := by decide +kernel
theorem dX10_haveSides_2 : decode cX10_haveSides 2 = .ok (.putfield 236, 3) := by decide +kernel
theorem dX10_haveSides_5 : decode cX10_haveSides 5 = .ok (.iconst 0, 1) := by decide +kernel
theorem dX10_haveSides_6 : decode cX10_haveSides 6 = .ok (.istore_n 1, 1) := by decide +kernel
theorem dX10_haveSides_7 : decode cX10_haveSides 7 = .ok (.iconst 0, 1) := by decide +kernel
theorem dX10_haveSides_8 : decode cX10_haveSides 8 = .ok (.istore_n 2, 1) := by decide +kernel
theorem dX10_haveSides_9 : decode cX10_haveSides 9 = .ok (.iload_n 2, 1) := by decide +kernel
theorem dX10_haveSides_10 : decode cX10_haveSides 10 = .ok (.aload_n 0, 1) := by decide +kernel
theorem dX10_haveSides_11 : decode cX10_haveSides 11 = .ok (.getfield 7, 3) := by decide +kernel
theorem dX10_haveSides_14 : decode cX10_haveSides 14 = .ok (.if_icmp .ge 31, 3) := by decide +kernel
theorem dX10_haveSides_17 : decode cX10_haveSides 17 = .ok (.iload_n 1, 1) := by decide +kernel
theorem dX10_haveSides_18 : decode cX10_haveSides 18 = .ok (.aload_n 0, 1) := by decide +kernel
theorem dX10_haveSides_19 : decode cX10_haveSides 19 = .ok (.iload_n 2, 1) := by decide +kernel
theorem dX10_haveSides_20 : decode cX10_haveSides 20 = .ok (.invokevirtual 233, 3) := by decide +kernel
theorem dX10_haveSides_23 : decode cX10_haveSides 23 = .ok (.iconst 1, 1) := by decide +kernel
theorem dX10_haveSides_24 : decode cX10_haveSides 24 = .ok (.iload_n 2, 1) := by decide +kernel
theorem dX10_haveSides_25 : decode cX10_haveSides 25 = .ok (.ishl, 1) := by decide +kernel
theorem dX10_haveSides_26 : decode cX10_haveSides 26 = .ok (.irem, 1) := by decide +kernel
theorem dX10_haveSides_27 : decode cX10_haveSides 27 = .ok (.ifCond .ne 9, 3) := by decide +kernel
theorem dX10_haveSides_30 : decode cX10_haveSides 30 = .ok (.iconst 1, 1) := by decide +kernel
theorem dX10_haveSides_31 : decode cX10_haveSides 31 = .ok (.iload_n 2, 1) := by decide +kernel
theorem dX10_haveSides_32 : decode cX10_haveSides 32 = .ok (.ishl, 1) := by decide +kernel
theorem dX10_haveSides_33 : decode cX10_haveSides 33 = .ok (.goto 4, 3) := by decide +kernel
theorem dX10_haveSides_36 : decode cX10_haveSides 36 = .ok (.iconst 0, 1) := by decide +kernel
theorem dX10_haveSides_37 : decode cX10_haveSides 37 = .ok (.ior, 1) := by decide +kernel
theorem dX10_haveSides_38 : decode cX10_haveSides 38 = .ok (.istore_n 1, 1) := by decide +kernel
theorem dX10_haveSides_39 : decode cX10_haveSides 39 = .ok (.iinc 2 1, 3) := by decide +kernel
theorem dX10_haveSides_42 : decode cX10_haveSides 42 = .ok (.goto (-33), 3) := by decide +kernel
theorem dX10_haveSides_45 : decode cX10_haveSides 45 = .ok (.iconst 0, 1) := by decide +kernel
theorem dX10_haveSides_46 : decode cX10_haveSides 46 = .ok (.istore_n 2, 1) := by decide +kernel
theorem dX10_haveSides_47 : decode cX10_haveSides 47 = .ok (.iload_n 2, 1) := by decide +kernel
theorem dX10_haveSides_48 : decode cX10_haveSides 48 = .ok (.aload_n 0, 1) := by decide +kernel
theorem dX10_haveSides_49 : decode cX10_haveSides 49 = .ok (.getfield 7, 3) := by decide +kernel
theorem dX10_haveSides_52 : decode cX10_haveSides 52 = .ok (.if_icmp .ge 186, 3) := by decide +kernel
theorem dX10_haveSides_55 : decode cX10_haveSides 55 = .ok (.iconst 0, 1) := by decide +kernel
theorem dX10_haveSides_56 : decode cX10_haveSides 56 = .ok (.istore_n 3, 1) := by decide +kernel
theorem dX10_haveSides_57 : decode cX10_haveSides 57 = .ok (.iload_n 3, 1) := by decide +kernel
theorem dX10_haveSides_58 : decode cX10_haveSides 58 = .ok (.aload_n 0, 1) := by decide +kernel
theorem dX10_haveSides_59 : decode cX10_haveSides 59 = .ok (.getfield 82, 3) := by decide +kernel
theorem dX10_haveSides_62 : decode cX10_haveSides 62 = .ok (.if_icmp .ge 170, 3) := by decide +kernel
theorem dX10_haveSides_65 : decode cX10_haveSides 65 = .ok (.iload_n 1, 1) := by decide +kernel
theorem dX10_haveSides_66 : decode cX10_haveSides 66 = .ok (.aload_n 0, 1) := by decide +kernel
theorem dX10_haveSides_67 : decode cX10_haveSides 67 = .ok (.getfield 20, 3) := by decide +kernel
theorem dX10_haveSides_70 : decode cX10_haveSides 70 = .ok (.iload_n 3, 1) := by decide +kernel
theorem dX10_haveSides_71 : decode cX10_haveSides 71 = .ok (.iaload, 1) := by decide +kernel
theorem dX10_haveSides_72 : decode cX10_haveSides 72 = .ok (.ishr, 1) := by decide +kernel
theorem dX10_haveSides_73 : decode cX10_haveSides 73 = .ok (.iconst 1, 1) := by decide +kernel
theorem dX10_haveSides_74 : decode cX10_haveSides 74 = .ok (.iand, 1) := by decide +kernel
theorem dX10_haveSides_75 : decode cX10_haveSides 75 = .ok (.iconst 1, 1) := by decide +kernel
theorem dX10_haveSides_76 : decode cX10_haveSides 76 = .ok (.if_icmp .ne 7, 3) := by decide +kernel
theorem dX10_haveSides_79 : decode cX10_haveSides 79 = .ok (.iconst 1, 1) := by decide +kernel
theorem dX10_haveSides_80 : decode cX10_haveSides 80 = .ok (.goto 4, 3) := by decide +kernel
theorem dX10_haveSides_83 : decode cX10_haveSides 83 = .ok (.iconst 0, 1) := by decide +kernel
theorem dX10_haveSides_84 : decode cX10_haveSides 84 = .ok (.istore 4, 2) := by decide +kernel
theorem dX10_haveSides_86 : decode cX10_haveSides 86 = .ok (.iload_n 1, 1) := by decide +kernel
theorem dX10_haveSides_87 : decode cX10_haveSides 87 = .ok (.aload_n 0, 1) := by decide +kernel
theorem dX10_haveSides_88 : decode cX10_haveSides 88 = .ok (.getfield 23, 3) := by decide +kernel
theorem dX10_haveSides_91 : decode cX10_haveSides 91 = .ok (.iload_n 3, 1) := by decide +kernel
theorem dX10_haveSides_92 : decode cX10_haveSides 92 = .ok (.iaload, 1) := by decide +kernel
theorem dX10_haveSides_93 : decode cX10_haveSides 93 = .ok (.ishr, 1) := by decide +kernel
theorem dX10_haveSides_94 : decode cX10_haveSides 94 = .ok (.iconst 1, 1) := by decide +kernel
theorem dX10_haveSides_95 : decode cX10_haveSides 95 = .ok (.iand, 1) := by decide +kernel
theorem dX10_haveSides_96 : decode cX10_haveSides 96 = .ok (.iconst 1, 1) := by decide +kernel
theorem dX10_haveSides_97 : decode cX10_haveSides 97 = .ok (.if_icmp .ne 7, 3) := by decide +kernel
theorem dX10_haveSides_100 : decode cX10_haveSides 100 = .ok (.iconst 1, 1) := by decide +kernel
theorem dX10_haveSides_101 : decode cX10_haveSides 101 = .ok (.goto 4, 3) := by decide +kernel
theorem dX10_haveSides_104 : decode cX10_haveSides 104 = .ok (.iconst 0, 1) := by decide +kernel
theorem dX10_haveSides_105 : decode cX10_haveSides 105 = .ok (.istore 5, 2) := by decide +kernel
theorem dX10_haveSides_107 : decode cX10_haveSides 107 = .ok (.iload 4, 2) := by decide +kernel
theorem dX10_haveSides_109 : decode cX10_haveSides 109 = .ok (.ifCond .eq 59, 3) := by decide +kernel
theorem dX10_haveSides_112 : decode cX10_haveSides 112 = .ok (.iload 5, 2) := by decide +kernel
theorem dX10_haveSides_114 : decode cX10_haveSides 114 = .ok (.ifCond .ne 54, 3) := by decide +kernel
theorem dX10_haveSides_117 : decode cX10_haveSides 117 = .ok (.aload_n 0, 1) := by decide +kernel
theorem dX10_haveSides_118 : decode cX10_haveSides 118 = .ok (.dup, 1) := by decide +kernel
theorem dX10_haveSides_119 : decode cX10_haveSides 119 = .ok (.getfield 236, 3) := by decide +kernel
theorem dX10_haveSides_122 : decode cX10_haveSides 122 = .ok (.aload_n 0, 1) := by decide +kernel
theorem dX10_haveSides_123 : decode cX10_haveSides 123 = .ok (.getfield 236, 3) := by decide +kernel
theorem dX10_haveSides_126 : decode cX10_haveSides 126 = .ok (.aload_n 0, 1) := by decide +kernel
theorem dX10_haveSides_127 : decode cX10_haveSides 127 = .ok (.getfield 20, 3) := by decide +kernel
theorem dX10_haveSides_130 : decode cX10_haveSides 130 = .ok (.iload_n 3, 1) := by decide +kernel
theorem dX10_haveSides_131 : decode cX10_haveSides 131 = .ok (.iaload, 1) := by decide +kernel
theorem dX10_haveSides_132 : decode cX10_haveSides 132 = .ok (.ishr, 1) := by decide +kernel
theorem dX10_haveSides_133 : decode cX10_haveSides 133 = .ok (.iconst 1, 1) := by decide +kernel
theorem dX10_haveSides_134 : decode cX10_haveSides 134 = .ok (.iand, 1) := by decide +kernel
theorem dX10_haveSides_135 : decode cX10_haveSides 135 = .ok (.ifCond .ne 14, 3) := by decide +kernel
theorem dX10_haveSides_138 : decode cX10_haveSides 138 = .ok (.iconst 1, 1) := by decide +kernel
theorem dX10_haveSides_139 : decode cX10_haveSides 139 = .ok (.aload_n 0, 1) := by decide +kernel
theorem dX10_haveSides_140 : decode cX10_haveSides 140 = .ok (.getfield 23, 3) := by decide +kernel
theorem dX10_haveSides_143 : decode cX10_haveSides 143 = .ok (.iload_n 3, 1) := by decide +kernel
theorem dX10_haveSides_144 : decode cX10_haveSides 144 = .ok (.iaload, 1) := by decide +kernel
theorem dX10_haveSides_145 : decode cX10_haveSides 145 = .ok (.ishl, 1) := by decide +kernel
theorem dX10_haveSides_146 : decode cX10_haveSides 146 = .ok (.goto 4, 3) := by decide +kernel
theorem dX10_haveSides_149 : decode cX10_haveSides 149 = .ok (.iconst 0, 1) := by decide +kernel
theorem dX10_haveSides_150 : decode cX10_haveSides 150 = .ok (.ior, 1) := by decide +kernel
theorem dX10_haveSides_151 : decode cX10_haveSides 151 = .ok (.putfield 236, 3) := by decide +kernel
theorem dX10_haveSides_154 : decode cX10_haveSides 154 = .ok (.iload_n 1, 1) := by decide +kernel
theorem dX10_haveSides_155 : decode cX10_haveSides 155 = .ok (.iconst 1, 1) := by decide +kernel
theorem dX10_haveSides_156 : decode cX10_haveSides 156 = .ok (.aload_n 0, 1) := by decide +kernel
theorem dX10_haveSides_157 : decode cX10_haveSides 157 = .ok (.getfield 23, 3) := by decide +kernel
theorem dX10_haveSides_160 : decode cX10_haveSides 160 = .ok (.iload_n 3, 1) := by decide +kernel
theorem dX10_haveSides_161 : decode cX10_haveSides 161 = .ok (.iaload, 1) := by decide +kernel
theorem dX10_haveSides_162 : decode cX10_haveSides 162 = .ok (.ishl, 1) := by decide +kernel
theorem dX10_haveSides_163 : decode cX10_haveSides 163 = .ok (.ior, 1) := by decide +kernel
theorem dX10_haveSides_164 : decode cX10_haveSides 164 = .ok (.istore_n 1, 1) := by decide +kernel
theorem dX10_haveSides_165 : decode cX10_haveSides 165 = .ok (.goto 61, 3) := by decide +kernel
theorem dX10_haveSides_168 : decode cX10_haveSides 168 = .ok (.iload 5, 2) := by decide +kernel
theorem dX10_haveSides_170 : decode cX10_haveSides 170 = .ok (.ifCond .eq 56, 3) := by decide +kernel
theorem dX10_haveSides_173 : decode cX10_haveSides 173 = .ok (.iload 4, 2) := by decide +kernel
theorem dX10_haveSides_175 : decode cX10_haveSides 175 = .ok (.ifCond .ne 51, 3) := by decide +kernel
theorem dX10_haveSides_178 : decode cX10_haveSides 178 = .ok (.aload_n 0, 1) := by decide +kernel
theorem dX10_haveSides_179 : decode cX10_haveSides 179 = .ok (.dup, 1) := by decide +kernel
theorem dX10_haveSides_180 : decode cX10_haveSides 180 = .ok (.getfield 236, 3) := by decide +kernel
theorem dX10_haveSides_183 : decode cX10_haveSides 183 = .ok (.aload_n 0, 1) := by decide +kernel
theorem dX10_haveSides_184 : decode cX10_haveSides 184 = .ok (.getfield 236, 3) := by decide +kernel
theorem dX10_haveSides_187 : decode cX10_haveSides 187 = .ok (.aload_n 0, 1) := by decide +kernel
theorem dX10_haveSides_188 : decode cX10_haveSides 188 = .ok (.getfield 23, 3) := by decide +kernel
theorem dX10_haveSides_191 : decode cX10_haveSides 191 = .ok (.iload_n 3, 1) := by decide +kernel
theorem dX10_haveSides_192 : decode cX10_haveSides 192 = .ok (.iaload, 1) := by decide +kernel
theorem dX10_haveSides_193 : decode cX10_haveSides 193 = .ok (.ishr, 1) := by decide +kernel
theorem dX10_haveSides_194 : decode cX10_haveSides 194 = .ok (.iconst 1, 1) := by decide +kernel
theorem dX10_haveSides_195 : decode cX10_haveSides 195 = .ok (.iand, 1) := by decide +kernel
theorem dX10_haveSides_196 : decode cX10_haveSides 196 = .ok (.ifCond .ne 14, 3) := by decide +kernel
theorem dX10_haveSides_199 : decode cX10_haveSides 199 = .ok (.iconst 1, 1) := by decide +kernel
theorem dX10_haveSides_200 : decode cX10_haveSides 200 = .ok (.aload_n 0, 1) := by decide +kernel
theorem dX10_haveSides_201 : decode cX10_haveSides 201 = .ok (.getfield 20, 3) := by decide +kernel
theorem dX10_haveSides_204 : decode cX10_haveSides 204 = .ok (.iload_n 3, 1) := by decide +kernel
theorem dX10_haveSides_205 : decode cX10_haveSides 205 = .ok (.iaload, 1) := by decide +kernel
theorem dX10_haveSides_206 : decode cX10_haveSides 206 = .ok (.ishl, 1) := by decide +kernel
theorem dX10_haveSides_207 : decode cX10_haveSides 207 = .ok (.goto 4, 3) := by decide +kernel
theorem dX10_haveSides_210 : decode cX10_haveSides 210 = .ok (.iconst 0, 1) := by decide +kernel
theorem dX10_haveSides_211 : decode cX10_haveSides 211 = .ok (.ior, 1) := by decide +kernel
theorem dX10_haveSides_212 : decode cX10_haveSides 212 = .ok (.putfield 236, 3) := by decide +kernel
theorem dX10_haveSides_215 : decode cX10_haveSides 215 = .ok (.iload_n 1, 1) := by decide +kernel
theorem dX10_haveSides_216 : decode cX10_haveSides 216 = .ok (.iconst 1, 1) := by decide +kernel
theorem dX10_haveSides_217 : decode cX10_haveSides 217 = .ok (.aload_n 0, 1) := by decide +kernel
theorem dX10_haveSides_218 : decode cX10_haveSides 218 = .ok (.getfield 20, 3) := by decide +kernel
theorem dX10_haveSides_221 : decode cX10_haveSides 221 = .ok (.iload_n 3, 1) := by decide +kernel
theorem dX10_haveSides_222 : decode cX10_haveSides 222 = .ok (.iaload, 1) := by decide +kernel
theorem dX10_haveSides_223 : decode cX10_haveSides 223 = .ok (.ishl, 1) := by decide +kernel
theorem dX10_haveSides_224 : decode cX10_haveSides 224 = .ok (.ior, 1) := by decide +kernel
theorem dX10_haveSides_225 : decode cX10_haveSides 225 = .ok (.istore_n 1, 1) := by decide +kernel
theorem dX10_haveSides_226 : decode cX10_haveSides 226 = .ok (.iinc 3 1, 3) := by decide +kernel
theorem dX10_haveSides_229 : decode cX10_haveSides 229 = .ok (.goto (-172), 3) := by decide +kernel
theorem dX10_haveSides_232 : decode cX10_haveSides 232 = .ok (.iinc 2 1, 3) := by decide +kernel
theorem dX10_haveSides_235 : decode cX10_haveSides 235 = .ok (.goto (-188), 3) := by decide +kernel
theorem dX10_haveSides_238 : decode cX10_haveSides 238 = .ok (.iconst 0, 1) := by decide +kernel
theorem dX10_haveSides_239 : decode cX10_haveSides 239 = .ok (.istore_n 2, 1) := by decide +kernel
theorem dX10_haveSides_240 : decode cX10_haveSides 240 = .ok (.iload_n 2, 1) := by decide +kernel
theorem dX10_haveSides_241 : decode cX10_haveSides 241 = .ok (.aload_n 0, 1) := by decide +kernel
theorem dX10_haveSides_242 : decode cX10_haveSides 242 = .ok (.getfield 82, 3) := by decide +kernel
theorem dX10_haveSides_245 : decode cX10_haveSides 245 = .ok (.if_icmp .ge 40, 3) := by decide +kernel
theorem dX10_haveSides_248 : decode cX10_haveSides 248 = .ok (.aload_n 0, 1) := by decide +kernel
theorem dX10_haveSides_249 : decode cX10_haveSides 249 = .ok (.getfield 236, 3) := by decide +kernel
theorem dX10_haveSides_252 : decode cX10_haveSides 252 = .ok (.aload_n 0, 1) := by decide +kernel
theorem dX10_haveSides_253 : decode cX10_haveSides 253 = .ok (.getfield 20, 3) := by decide +kernel
theorem dX10_haveSides_256 : decode cX10_haveSides 256 = .ok (.iload_n 2, 1) := by decide +kernel
theorem dX10_haveSides_257 : decode cX10_haveSides 257 = .ok (.iaload, 1) := by decide +kernel
theorem dX10_haveSides_258 : decode cX10_haveSides 258 = .ok (.ishr, 1) := by decide +kernel
theorem dX10_haveSides_259 : decode cX10_haveSides 259 = .ok (.iconst 1, 1) := by decide +kernel
theorem dX10_haveSides_260 : decode cX10_haveSides 260 = .ok (.iand, 1) := by decide +kernel
theorem dX10_haveSides_261 : decode cX10_haveSides 261 = .ok (.aload_n 0, 1) := by decide +kernel
theorem dX10_haveSides_262 : decode cX10_haveSides 262 = .ok (.getfield 236, 3) := by decide +kernel
theorem dX10_haveSides_265 : decode cX10_haveSides 265 = .ok (.aload_n 0, 1) := by decide +kernel
theorem dX10_haveSides_266 : decode cX10_haveSides 266 = .ok (.getfield 23, 3) := by decide +kernel
theorem dX10_haveSides_269 : decode cX10_haveSides 269 = .ok (.iload_n 2, 1) := by decide +kernel
theorem dX10_haveSides_270 : decode cX10_haveSides 270 = .ok (.iaload, 1) := by decide +kernel
theorem dX10_haveSides_271 : decode cX10_haveSides 271 = .ok (.ishr, 1) := by decide +kernel
theorem dX10_haveSides_272 : decode cX10_haveSides 272 = .ok (.iconst 1, 1) := by decide +kernel
theorem dX10_haveSides_273 : decode cX10_haveSides 273 = .ok (.iand, 1) := by decide +kernel
theorem dX10_haveSides_274 : decode cX10_haveSides 274 = .ok (.if_icmp .ne 5, 3) := by decide +kernel
theorem dX10_haveSides_277 : decode cX10_haveSides 277 = .ok (.iconst 0, 1) := by decide +kernel
theorem dX10_haveSides_278 : decode cX10_haveSides 278 = .ok (.ireturn, 1) := by decide +kernel
theorem dX10_haveSides_279 : decode cX10_haveSides 279 = .ok (.iinc 2 1, 3) := by decide +kernel
theorem dX10_haveSides_282 : decode cX10_haveSides 282 = .ok (.goto (-42), 3) := by decide +kernel
theorem dX10_haveSides_285 : decode cX10_haveSides 285 = .ok (.iconst 1, 1) := by decide +kernel
theorem dX10_haveSides_286 : decode cX10_haveSides 286 = .ok (.ireturn, 1) := by decide +kernel
theorem dX10_sides_0 : decode cX10_sides 0 = .ok (.iload_n 1, 1) := by decide +kernel
theorem dX10_sides_1 : decode cX10_sides 1 = .ok (.iconst (-1), 1) := by decide +kernel
theorem dX10_sides_2 : decode cX10_sides 2 = .ok (.if_icmp .eq 17, 3) := by decide +kernel
theorem dX10_sides_5 : decode cX10_sides 5 = .ok (.aload_n 0, 1) := by decide +kernel
theorem dX10_sides_6 : decode cX10_sides 6 = .ok (.iload_n 1, 1) := by decide +kernel
theorem dX10_sides_7 : decode cX10_sides 7 = .ok (.invokevirtual 100, 3) := by decide +kernel
theorem dX10_sides_10 : decode cX10_sides 10 = .ok (.ifCond .ne 9, 3) := by decide +kernel
theorem dX10_sides_13 : decode cX10_sides 13 = .ok (.aload_n 0, 1) := by decide +kernel
theorem dX10_sides_14 : decode cX10_sides 14 = .ok (.iconst (-1), 1) := by decide +kernel
theorem dX10_sides_15 : decode cX10_sides 15 = .ok (.invokevirtual 87, 3) := by decide +kernel
theorem dX10_sides_18 : decode cX10_sides 18 = .ok (.ireturn, 1) := by decide +kernel
theorem dX10_sides_19 : decode cX10_sides 19 = .ok (.aload_n 0, 1) := by decide +kernel
theorem dX10_sides_20 : decode cX10_sides 20 = .ok (.invokevirtual 239, 3) := by decide +kernel
theorem dX10_sides_23 : decode cX10_sides 23 = .ok (.istore_n 2, 1) := by decide +kernel
theorem dX10_sides_24 : decode cX10_sides 24 = .ok (.iload_n 1, 1) := by decide +kernel
theorem dX10_sides_25 : decode cX10_sides 25 = .ok (.iconst (-1), 1) := by decide +kernel
theorem dX10_sides_26 : decode cX10_sides 26 = .ok (.if_icmp .ne 13, 3) := by decide +kernel
theorem dX10_sides_29 : decode cX10_sides 29 = .ok (.iload_n 2, 1) := by decide +kernel
theorem dX10_sides_30 : decode cX10_sides 30 = .ok (.ifCond .eq 7, 3) := by decide +kernel
theorem dX10_sides_33 : decode cX10_sides 33 = .ok (.iconst 1, 1) := by decide +kernel
theorem dX10_sides_34 : decode cX10_sides 34 = .ok (.goto 4, 3) := by decide +kernel
theorem dX10_sides_37 : decode cX10_sides 37 = .ok (.iconst 0, 1) := by decide +kernel
theorem dX10_sides_38 : decode cX10_sides 38 = .ok (.ireturn, 1) := by decide +kernel
theorem dX10_sides_39 : decode cX10_sides 39 = .ok (.iload_n 2, 1) := by decide +kernel
theorem dX10_sides_40 : decode cX10_sides 40 = .ok (.ifCond .eq 14, 3) := by decide +kernel
theorem dX10_sides_43 : decode cX10_sides 43 = .ok (.aload_n 0, 1) := by decide +kernel
theorem dX10_sides_44 : decode cX10_sides 44 = .ok (.getfield 236, 3) := by decide +kernel
theorem dX10_sides_47 : decode cX10_sides 47 = .ok (.iload_n 1, 1) := by decide +kernel
theorem dX10_sides_48 : decode cX10_sides 48 = .ok (.ishr, 1) := by decide +kernel
theorem dX10_sides_49 : decode cX10_sides 49 = .ok (.iconst 1, 1) := by decide +kernel
theorem dX10_sides_50 : decode cX10_sides 50 = .ok (.iand, 1) := by decide +kernel
theorem dX10_sides_51 : decode cX10_sides 51 = .ok (.goto 5, 3) := by decide +kernel
theorem dX10_sides_54 : decode cX10_sides 54 = .ok (.bipush (-9), 2) := by decide +kernel
theorem dX10_sides_56 : decode cX10_sides 56 = .ok (.ireturn, 1) := by decide +kernel
theorem dX10_writes_0 : decode cX10_writes 0 = .ok (.aload_n 0, 1) := by decide +kernel
theorem dX10_writes_1 : decode cX10_writes 1 = .ok (.getfield 66, 3) := by decide +kernel
theorem dX10_writes_4 : decode cX10_writes 4 = .ok (.aload_n 0, 1) := by decide +kernel
theorem dX10_writes_5 : decode cX10_writes 5 = .ok (.getfield 242, 3) := by decide +kernel
theorem dX10_writes_8 : decode cX10_writes 8 = .ok (.iload_n 1, 1) := by decide +kernel
theorem dX10_writes_9 : decode cX10_writes 9 = .ok (.iastore, 1) := by decide +kernel
theorem dX10_writes_10 : decode cX10_writes 10 = .ok (.aload_n 0, 1) := by decide +kernel
theorem dX10_writes_11 : decode cX10_writes 11 = .ok (.dup, 1) := by decide +kernel
theorem dX10_writes_12 : decode cX10_writes 12 = .ok (.getfield 242, 3) := by decide +kernel
theorem dX10_writes_15 : decode cX10_writes 15 = .ok (.iconst 1, 1) := by decide +kernel
theorem dX10_writes_16 : decode cX10_writes 16 = .ok (.iadd, 1) := by decide +kernel
theorem dX10_writes_17 : decode cX10_writes 17 = .ok (.putfield 242, 3) := by decide +kernel
theorem dX10_writes_20 : decode cX10_writes 20 = .ok (.return_, 1) := by decide +kernel
theorem dX10_writesAll_0 : decode cX10_writesAll 0 = .ok (.aload_n 0, 1) := by decide +kernel
theorem dX10_writesAll_1 : decode cX10_writesAll 1 = .ok (.iconst 0, 1) := by decide +kernel
theorem dX10_writesAll_2 : decode cX10_writesAll 2 = .ok (.putfield 242, 3) := by decide +kernel
theorem dX10_writesAll_5 : decode cX10_writesAll 5 = .ok (.aload_n 0, 1) := by decide +kernel
theorem dX10_writesAll_6 : decode cX10_writesAll 6 = .ok (.bipush 110, 2) := by decide +kernel
theorem dX10_writesAll_8 : decode cX10_writesAll 8 = .ok (.invokevirtual 245, 3) := by decide +kernel
theorem dX10_writesAll_11 : decode cX10_writesAll 11 = .ok (.aload_n 0, 1) := by decide +kernel
theorem dX10_writesAll_12 : decode cX10_writesAll 12 = .ok (.bipush 48, 2) := by decide +kernel
theorem dX10_writesAll_14 : decode cX10_writesAll 14 = .ok (.aload_n 0, 1) := by decide +kernel
theorem dX10_writesAll_15 : decode cX10_writesAll 15 = .ok (.getfield 7, 3) := by decide +kernel
theorem dX10_writesAll_18 : decode cX10_writesAll 18 = .ok (.iadd, 1) := by decide +kernel
theorem dX10_writesAll_19 : decode cX10_writesAll 19 = .ok (.invokevirtual 245, 3) := by decide +kernel
theorem dX10_writesAll_22 : decode cX10_writesAll 22 = .ok (.aload_n 0, 1) := by decide +kernel
theorem dX10_writesAll_23 : decode cX10_writesAll 23 = .ok (.bipush 59, 2) := by decide +kernel
theorem dX10_writesAll_25 : decode cX10_writesAll 25 = .ok (.invokevirtual 245, 3) := by decide +kernel
theorem dX10_writesAll_28 : decode cX10_writesAll 28 = .ok (.iconst 0, 1) := by decide +kernel
theorem dX10_writesAll_29 : decode cX10_writesAll 29 = .ok (.istore_n 1, 1) := by decide +kernel
theorem dX10_writesAll_30 : decode cX10_writesAll 30 = .ok (.iload_n 1, 1) := by decide +kernel
theorem dX10_writesAll_31 : decode cX10_writesAll 31 = .ok (.aload_n 0, 1) := by decide +kernel
theorem dX10_writesAll_32 : decode cX10_writesAll 32 = .ok (.getfield 82, 3) := by decide +kernel
theorem dX10_writesAll_35 : decode cX10_writesAll 35 = .ok (.if_icmp .ge 163, 3) := by decide +kernel
theorem dX10_writesAll_38 : decode cX10_writesAll 38 = .ok (.aload_n 0, 1) := by decide +kernel
theorem dX10_writesAll_39 : decode cX10_writesAll 39 = .ok (.bipush 108, 2) := by decide +kernel
theorem dX10_writesAll_41 : decode cX10_writesAll 41 = .ok (.invokevirtual 245, 3) := by decide +kernel
theorem dX10_writesAll_44 : decode cX10_writesAll 44 = .ok (.aload_n 0, 1) := by decide +kernel
theorem dX10_writesAll_45 : decode cX10_writesAll 45 = .ok (.bipush 48, 2) := by decide +kernel
theorem dX10_writesAll_47 : decode cX10_writesAll 47 = .ok (.aload_n 0, 1) := by decide +kernel
theorem dX10_writesAll_48 : decode cX10_writesAll 48 = .ok (.getfield 13, 3) := by decide +kernel
theorem dX10_writesAll_51 : decode cX10_writesAll 51 = .ok (.iload_n 1, 1) := by decide +kernel
theorem dX10_writesAll_52 : decode cX10_writesAll 52 = .ok (.iaload, 1) := by decide +kernel
theorem dX10_writesAll_53 : decode cX10_writesAll 53 = .ok (.iadd, 1) := by decide +kernel
theorem dX10_writesAll_54 : decode cX10_writesAll 54 = .ok (.invokevirtual 245, 3) := by decide +kernel
theorem dX10_writesAll_57 : decode cX10_writesAll 57 = .ok (.aload_n 0, 1) := by decide +kernel
theorem dX10_writesAll_58 : decode cX10_writesAll 58 = .ok (.bipush 48, 2) := by decide +kernel
theorem dX10_writesAll_60 : decode cX10_writesAll 60 = .ok (.aload_n 0, 1) := by decide +kernel
theorem dX10_writesAll_61 : decode cX10_writesAll 61 = .ok (.getfield 20, 3) := by decide +kernel
theorem dX10_writesAll_64 : decode cX10_writesAll 64 = .ok (.iload_n 1, 1) := by decide +kernel
theorem dX10_writesAll_65 : decode cX10_writesAll 65 = .ok (.iaload, 1) := by decide +kernel
theorem dX10_writesAll_66 : decode cX10_writesAll 66 = .ok (.iadd, 1) := by decide +kernel
theorem dX10_writesAll_67 : decode cX10_writesAll 67 = .ok (.invokevirtual 245, 3) := by decide +kernel
theorem dX10_writesAll_70 : decode cX10_writesAll 70 = .ok (.aload_n 0, 1) := by decide +kernel
theorem dX10_writesAll_71 : decode cX10_writesAll 71 = .ok (.bipush 48, 2) := by decide +kernel
theorem dX10_writesAll_73 : decode cX10_writesAll 73 = .ok (.aload_n 0, 1) := by decide +kernel
theorem dX10_writesAll_74 : decode cX10_writesAll 74 = .ok (.getfield 23, 3) := by decide +kernel
theorem dX10_writesAll_77 : decode cX10_writesAll 77 = .ok (.iload_n 1, 1) := by decide +kernel
theorem dX10_writesAll_78 : decode cX10_writesAll 78 = .ok (.iaload, 1) := by decide +kernel
theorem dX10_writesAll_79 : decode cX10_writesAll 79 = .ok (.iadd, 1) := by decide +kernel
theorem dX10_writesAll_80 : decode cX10_writesAll 80 = .ok (.invokevirtual 245, 3) := by decide +kernel
theorem dX10_writesAll_83 : decode cX10_writesAll 83 = .ok (.aload_n 0, 1) := by decide +kernel
theorem dX10_writesAll_84 : decode cX10_writesAll 84 = .ok (.bipush 59, 2) := by decide +kernel
theorem dX10_writesAll_86 : decode cX10_writesAll 86 = .ok (.invokevirtual 245, 3) := by decide +kernel
theorem dX10_writesAll_89 : decode cX10_writesAll 89 = .ok (.aload_n 0, 1) := by decide +kernel
theorem dX10_writesAll_90 : decode cX10_writesAll 90 = .ok (.getfield 17, 3) := by decide +kernel
theorem dX10_writesAll_93 : decode cX10_writesAll 93 = .ok (.iload_n 1, 1) := by decide +kernel
theorem dX10_writesAll_94 : decode cX10_writesAll 94 = .ok (.iaload, 1) := by decide +kernel
theorem dX10_writesAll_95 : decode cX10_writesAll 95 = .ok (.ifCond .eq 36, 3) := by decide +kernel
theorem dX10_writesAll_98 : decode cX10_writesAll 98 = .ok (.aload_n 0, 1) := by decide +kernel
theorem dX10_writesAll_99 : decode cX10_writesAll 99 = .ok (.bipush 102, 2) := by decide +kernel
theorem dX10_writesAll_101 : decode cX10_writesAll 101 = .ok (.invokevirtual 245, 3) := by decide +kernel
theorem dX10_writesAll_104 : decode cX10_writesAll 104 = .ok (.aload_n 0, 1) := by decide +kernel
theorem dX10_writesAll_105 : decode cX10_writesAll 105 = .ok (.bipush 48, 2) := by decide +kernel
theorem dX10_writesAll_107 : decode cX10_writesAll 107 = .ok (.iload_n 1, 1) := by decide +kernel
theorem dX10_writesAll_108 : decode cX10_writesAll 108 = .ok (.iadd, 1) := by decide +kernel
theorem dX10_writesAll_109 : decode cX10_writesAll 109 = .ok (.invokevirtual 245, 3) := by decide +kernel
theorem dX10_writesAll_112 : decode cX10_writesAll 112 = .ok (.aload_n 0, 1) := by decide +kernel
theorem dX10_writesAll_113 : decode cX10_writesAll 113 = .ok (.bipush 48, 2) := by decide +kernel
theorem dX10_writesAll_115 : decode cX10_writesAll 115 = .ok (.aload_n 0, 1) := by decide +kernel
theorem dX10_writesAll_116 : decode cX10_writesAll 116 = .ok (.getfield 17, 3) := by decide +kernel
theorem dX10_writesAll_119 : decode cX10_writesAll 119 = .ok (.iload_n 1, 1) := by decide +kernel
theorem dX10_writesAll_120 : decode cX10_writesAll 120 = .ok (.iaload, 1) := by decide +kernel
theorem dX10_writesAll_121 : decode cX10_writesAll 121 = .ok (.iadd, 1) := by decide +kernel
theorem dX10_writesAll_122 : decode cX10_writesAll 122 = .ok (.invokevirtual 245, 3) := by decide +kernel
theorem dX10_writesAll_125 : decode cX10_writesAll 125 = .ok (.aload_n 0, 1) := by decide +kernel
theorem dX10_writesAll_126 : decode cX10_writesAll 126 = .ok (.bipush 59, 2) := by decide +kernel
theorem dX10_writesAll_128 : decode cX10_writesAll 128 = .ok (.invokevirtual 245, 3) := by decide +kernel
theorem dX10_writesAll_131 : decode cX10_writesAll 131 = .ok (.aload_n 0, 1) := by decide +kernel
theorem dX10_writesAll_132 : decode cX10_writesAll 132 = .ok (.getfield 26, 3) := by decide +kernel
theorem dX10_writesAll_135 : decode cX10_writesAll 135 = .ok (.iload_n 1, 1) := by decide +kernel
theorem dX10_writesAll_136 : decode cX10_writesAll 136 = .ok (.iaload, 1) := by decide +kernel
theorem dX10_writesAll_137 : decode cX10_writesAll 137 = .ok (.ifCond .eq 55, 3) := by decide +kernel
theorem dX10_writesAll_140 : decode cX10_writesAll 140 = .ok (.aload_n 0, 1) := by decide +kernel
theorem dX10_writesAll_141 : decode cX10_writesAll 141 = .ok (.bipush 118, 2) := by decide +kernel
theorem dX10_writesAll_143 : decode cX10_writesAll 143 = .ok (.invokevirtual 245, 3) := by decide +kernel
theorem dX10_writesAll_146 : decode cX10_writesAll 146 = .ok (.aload_n 0, 1) := by decide +kernel
theorem dX10_writesAll_147 : decode cX10_writesAll 147 = .ok (.bipush 48, 2) := by decide +kernel
theorem dX10_writesAll_149 : decode cX10_writesAll 149 = .ok (.iload_n 1, 1) := by decide +kernel
theorem dX10_writesAll_150 : decode cX10_writesAll 150 = .ok (.iadd, 1) := by decide +kernel
theorem dX10_writesAll_151 : decode cX10_writesAll 151 = .ok (.invokevirtual 245, 3) := by decide +kernel
theorem dX10_writesAll_154 : decode cX10_writesAll 154 = .ok (.aload_n 0, 1) := by decide +kernel
theorem dX10_writesAll_155 : decode cX10_writesAll 155 = .ok (.bipush 48, 2) := by decide +kernel
theorem dX10_writesAll_157 : decode cX10_writesAll 157 = .ok (.aload_n 0, 1) := by decide +kernel
theorem dX10_writesAll_158 : decode cX10_writesAll 158 = .ok (.getfield 26, 3) := by decide +kernel
theorem dX10_writesAll_161 : decode cX10_writesAll 161 = .ok (.iload_n 1, 1) := by decide +kernel
theorem dX10_writesAll_162 : decode cX10_writesAll 162 = .ok (.iaload, 1) := by decide +kernel
theorem dX10_writesAll_163 : decode cX10_writesAll 163 = .ok (.bipush 10, 2) := by decide +kernel
theorem dX10_writesAll_165 : decode cX10_writesAll 165 = .ok (.idiv, 1) := by decide +kernel
theorem dX10_writesAll_166 : decode cX10_writesAll 166 = .ok (.iadd, 1) := by decide +kernel
theorem dX10_writesAll_167 : decode cX10_writesAll 167 = .ok (.invokevirtual 245, 3) := by decide +kernel
theorem dX10_writesAll_170 : decode cX10_writesAll 170 = .ok (.aload_n 0, 1) := by decide +kernel
theorem dX10_writesAll_171 : decode cX10_writesAll 171 = .ok (.bipush 48, 2) := by decide +kernel
theorem dX10_writesAll_173 : decode cX10_writesAll 173 = .ok (.aload_n 0, 1) := by decide +kernel
theorem dX10_writesAll_174 : decode cX10_writesAll 174 = .ok (.getfield 26, 3) := by decide +kernel
theorem dX10_writesAll_177 : decode cX10_writesAll 177 = .ok (.iload_n 1, 1) := by decide +kernel
theorem dX10_writesAll_178 : decode cX10_writesAll 178 = .ok (.iaload, 1) := by decide +kernel
theorem dX10_writesAll_179 : decode cX10_writesAll 179 = .ok (.bipush 10, 2) := by decide +kernel
theorem dX10_writesAll_181 : decode cX10_writesAll 181 = .ok (.irem, 1) := by decide +kernel
theorem dX10_writesAll_182 : decode cX10_writesAll 182 = .ok (.iadd, 1) := by decide +kernel
theorem dX10_writesAll_183 : decode cX10_writesAll 183 = .ok (.invokevirtual 245, 3) := by decide +kernel
theorem dX10_writesAll_186 : decode cX10_writesAll 186 = .ok (.aload_n 0, 1) := by decide +kernel
theorem dX10_writesAll_187 : decode cX10_writesAll 187 = .ok (.bipush 59, 2) := by decide +kernel
theorem dX10_writesAll_189 : decode cX10_writesAll 189 = .ok (.invokevirtual 245, 3) := by decide +kernel
theorem dX10_writesAll_192 : decode cX10_writesAll 192 = .ok (.iinc 1 1, 3) := by decide +kernel
theorem dX10_writesAll_195 : decode cX10_writesAll 195 = .ok (.goto (-165), 3) := by decide +kernel
theorem dX10_writesAll_198 : decode cX10_writesAll 198 = .ok (.return_, 1) := by decide +kernel
theorem dX10_written_0 : decode cX10_written 0 = .ok (.iload_n 1, 1) := by decide +kernel
theorem dX10_written_1 : decode cX10_written 1 = .ok (.iconst (-1), 1) := by decide +kernel
theorem dX10_written_2 : decode cX10_written 2 = .ok (.if_icmp .ge 10, 3) := by decide +kernel
theorem dX10_written_5 : decode cX10_written 5 = .ok (.aload_n 0, 1) := by decide +kernel
theorem dX10_written_6 : decode cX10_written 6 = .ok (.bipush (-4), 2) := by decide +kernel
theorem dX10_written_8 : decode cX10_written 8 = .ok (.invokevirtual 87, 3) := by decide +kernel
theorem dX10_written_11 : decode cX10_written 11 = .ok (.ireturn, 1) := by decide +kernel
theorem dX10_written_12 : decode cX10_written 12 = .ok (.aload_n 0, 1) := by decide +kernel
theorem dX10_written_13 : decode cX10_written 13 = .ok (.invokevirtual 248, 3) := by decide +kernel
theorem dX10_written_16 : decode cX10_written 16 = .ok (.iload_n 1, 1) := by decide +kernel
theorem dX10_written_17 : decode cX10_written 17 = .ok (.ifCond .ge 10, 3) := by decide +kernel
theorem dX10_written_20 : decode cX10_written 20 = .ok (.aload_n 0, 1) := by decide +kernel
theorem dX10_written_21 : decode cX10_written 21 = .ok (.getfield 242, 3) := by decide +kernel
theorem dX10_written_24 : decode cX10_written 24 = .ok (.goto 22, 3) := by decide +kernel
theorem dX10_written_27 : decode cX10_written 27 = .ok (.iload_n 1, 1) := by decide +kernel
theorem dX10_written_28 : decode cX10_written 28 = .ok (.aload_n 0, 1) := by decide +kernel
theorem dX10_written_29 : decode cX10_written 29 = .ok (.getfield 242, 3) := by decide +kernel
theorem dX10_written_32 : decode cX10_written 32 = .ok (.if_icmp .ge 12, 3) := by decide +kernel
theorem dX10_written_35 : decode cX10_written 35 = .ok (.aload_n 0, 1) := by decide +kernel
theorem dX10_written_36 : decode cX10_written 36 = .ok (.getfield 66, 3) := by decide +kernel
theorem dX10_written_39 : decode cX10_written 39 = .ok (.iload_n 1, 1) := by decide +kernel
theorem dX10_written_40 : decode cX10_written 40 = .ok (.iaload, 1) := by decide +kernel
theorem dX10_written_41 : decode cX10_written 41 = .ok (.goto 5, 3) := by decide +kernel
theorem dX10_written_44 : decode cX10_written 44 = .ok (.bipush (-9), 2) := by decide +kernel
theorem dX10_written_46 : decode cX10_written 46 = .ok (.ireturn, 1) := by decide +kernel
theorem dX10_isList_0 : decode cX10_isList 0 = .ok (.iload_n 0, 1) := by decide +kernel
theorem dX10_isList_1 : decode cX10_isList 1 = .ok (.iconst 0, 1) := by decide +kernel
theorem dX10_isList_2 : decode cX10_isList 2 = .ok (.iconst 2, 1) := by decide +kernel
theorem dX10_isList_3 : decode cX10_isList 3 = .ok (.invokestatic 78, 3) := by decide +kernel
theorem dX10_isList_6 : decode cX10_isList 6 = .ok (.ireturn, 1) := by decide +kernel
theorem dX10_list_0 : decode cX10_list 0 = .ok (.iload_n 1, 1) := by decide +kernel
theorem dX10_list_1 : decode cX10_list 1 = .ok (.invokestatic 251, 3) := by decide +kernel
theorem dX10_list_4 : decode cX10_list 4 = .ok (.ifCond .ne 9, 3) := by decide +kernel
theorem dX10_list_7 : decode cX10_list 7 = .ok (.aload_n 0, 1) := by decide +kernel
theorem dX10_list_8 : decode cX10_list 8 = .ok (.iconst (-1), 1) := by decide +kernel
theorem dX10_list_9 : decode cX10_list 9 = .ok (.invokevirtual 87, 3) := by decide +kernel
theorem dX10_list_12 : decode cX10_list 12 = .ok (.ireturn, 1) := by decide +kernel
theorem dX10_list_13 : decode cX10_list 13 = .ok (.iload_n 2, 1) := by decide +kernel
theorem dX10_list_14 : decode cX10_list 14 = .ok (.bipush 40, 2) := by decide +kernel
theorem dX10_list_16 : decode cX10_list 16 = .ok (.if_icmp .le 10, 3) := by decide +kernel
theorem dX10_list_19 : decode cX10_list 19 = .ok (.aload_n 0, 1) := by decide +kernel
theorem dX10_list_20 : decode cX10_list 20 = .ok (.bipush (-6), 2) := by decide +kernel
theorem dX10_list_22 : decode cX10_list 22 = .ok (.invokevirtual 87, 3) := by decide +kernel
theorem dX10_list_25 : decode cX10_list 25 = .ok (.ireturn, 1) := by decide +kernel
theorem dX10_list_26 : decode cX10_list 26 = .ok (.iload_n 2, 1) := by decide +kernel
theorem dX10_list_27 : decode cX10_list 27 = .ok (.ifCond .ge 6, 3) := by decide +kernel
theorem dX10_list_30 : decode cX10_list 30 = .ok (.bipush (-14), 2) := by decide +kernel
theorem dX10_list_32 : decode cX10_list 32 = .ok (.ireturn, 1) := by decide +kernel
theorem dX10_list_33 : decode cX10_list 33 = .ok (.aload_n 0, 1) := by decide +kernel
theorem dX10_list_34 : decode cX10_list 34 = .ok (.getfield 41, 3) := by decide +kernel
theorem dX10_list_37 : decode cX10_list 37 = .ok (.iload_n 1, 1) := by decide +kernel
theorem dX10_list_38 : decode cX10_list 38 = .ok (.iload_n 2, 1) := by decide +kernel
theorem dX10_list_39 : decode cX10_list 39 = .ok (.iastore, 1) := by decide +kernel
theorem dX10_list_40 : decode cX10_list 40 = .ok (.iconst 0, 1) := by decide +kernel
theorem dX10_list_41 : decode cX10_list 41 = .ok (.istore_n 3, 1) := by decide +kernel
theorem dX10_list_42 : decode cX10_list 42 = .ok (.iload_n 3, 1) := by decide +kernel
theorem dX10_list_43 : decode cX10_list 43 = .ok (.iload_n 2, 1) := by decide +kernel
theorem dX10_list_44 : decode cX10_list 44 = .ok (.if_icmp .ge 21, 3) := by decide +kernel
theorem dX10_list_47 : decode cX10_list 47 = .ok (.aload_n 0, 1) := by decide +kernel
theorem dX10_list_48 : decode cX10_list 48 = .ok (.getfield 44, 3) := by decide +kernel
theorem dX10_list_51 : decode cX10_list 51 = .ok (.bipush 40, 2) := by decide +kernel
theorem dX10_list_53 : decode cX10_list 53 = .ok (.iload_n 1, 1) := by decide +kernel
theorem dX10_list_54 : decode cX10_list 54 = .ok (.imul, 1) := by decide +kernel
theorem dX10_list_55 : decode cX10_list 55 = .ok (.iload_n 3, 1) := by decide +kernel
theorem dX10_list_56 : decode cX10_list 56 = .ok (.iadd, 1) := by decide +kernel
theorem dX10_list_57 : decode cX10_list 57 = .ok (.iconst 0, 1) := by decide +kernel
theorem dX10_list_58 : decode cX10_list 58 = .ok (.iastore, 1) := by decide +kernel
theorem dX10_list_59 : decode cX10_list 59 = .ok (.iinc 3 1, 3) := by decide +kernel
theorem dX10_list_62 : decode cX10_list 62 = .ok (.goto (-20), 3) := by decide +kernel
theorem dX10_list_65 : decode cX10_list 65 = .ok (.iconst 1, 1) := by decide +kernel
theorem dX10_list_66 : decode cX10_list 66 = .ok (.ireturn, 1) := by decide +kernel
theorem dX10_put_0 : decode cX10_put 0 = .ok (.iload_n 1, 1) := by decide +kernel
theorem dX10_put_1 : decode cX10_put 1 = .ok (.invokestatic 251, 3) := by decide +kernel
theorem dX10_put_4 : decode cX10_put 4 = .ok (.ifCond .ne 9, 3) := by decide +kernel
theorem dX10_put_7 : decode cX10_put 7 = .ok (.aload_n 0, 1) := by decide +kernel
theorem dX10_put_8 : decode cX10_put 8 = .ok (.iconst (-1), 1) := by decide +kernel
theorem dX10_put_9 : decode cX10_put 9 = .ok (.invokevirtual 87, 3) := by decide +kernel
theorem dX10_put_12 : decode cX10_put 12 = .ok (.ireturn, 1) := by decide +kernel
theorem dX10_put_13 : decode cX10_put 13 = .ok (.aload_n 0, 1) := by decide +kernel
theorem dX10_put_14 : decode cX10_put 14 = .ok (.getfield 41, 3) := by decide +kernel
theorem dX10_put_17 : decode cX10_put 17 = .ok (.iload_n 1, 1) := by decide +kernel
theorem dX10_put_18 : decode cX10_put 18 = .ok (.iaload, 1) := by decide +kernel
theorem dX10_put_19 : decode cX10_put 19 = .ok (.ifCond .ge 6, 3) := by decide +kernel
theorem dX10_put_22 : decode cX10_put 22 = .ok (.bipush (-11), 2) := by decide +kernel
theorem dX10_put_24 : decode cX10_put 24 = .ok (.ireturn, 1) := by decide +kernel
theorem dX10_put_25 : decode cX10_put 25 = .ok (.iload_n 2, 1) := by decide +kernel
theorem dX10_put_26 : decode cX10_put 26 = .ok (.iconst 0, 1) := by decide +kernel
theorem dX10_put_27 : decode cX10_put 27 = .ok (.aload_n 0, 1) := by decide +kernel
theorem dX10_put_28 : decode cX10_put 28 = .ok (.getfield 41, 3) := by decide +kernel
theorem dX10_put_31 : decode cX10_put 31 = .ok (.iload_n 1, 1) := by decide +kernel
theorem dX10_put_32 : decode cX10_put 32 = .ok (.iaload, 1) := by decide +kernel
theorem dX10_put_33 : decode cX10_put 33 = .ok (.iconst 1, 1) := by decide +kernel
theorem dX10_put_34 : decode cX10_put 34 = .ok (.isub, 1) := by decide +kernel
theorem dX10_put_35 : decode cX10_put 35 = .ok (.invokestatic 78, 3) := by decide +kernel
theorem dX10_put_38 : decode cX10_put 38 = .ok (.ifCond .ne 6, 3) := by decide +kernel
theorem dX10_put_41 : decode cX10_put 41 = .ok (.bipush (-13), 2) := by decide +kernel
theorem dX10_put_43 : decode cX10_put 43 = .ok (.ireturn, 1) := by decide +kernel
theorem dX10_put_44 : decode cX10_put 44 = .ok (.aload_n 0, 1) := by decide +kernel
theorem dX10_put_45 : decode cX10_put 45 = .ok (.getfield 44, 3) := by decide +kernel
theorem dX10_put_48 : decode cX10_put 48 = .ok (.bipush 40, 2) := by decide +kernel
theorem dX10_put_50 : decode cX10_put 50 = .ok (.iload_n 1, 1) := by decide +kernel
theorem dX10_put_51 : decode cX10_put 51 = .ok (.imul, 1) := by decide +kernel
theorem dX10_put_52 : decode cX10_put 52 = .ok (.iload_n 2, 1) := by decide +kernel
theorem dX10_put_53 : decode cX10_put 53 = .ok (.iadd, 1) := by decide +kernel
theorem dX10_put_54 : decode cX10_put 54 = .ok (.iload_n 3, 1) := by decide +kernel
theorem dX10_put_55 : decode cX10_put 55 = .ok (.iastore, 1) := by decide +kernel
theorem dX10_put_56 : decode cX10_put 56 = .ok (.iconst 1, 1) := by decide +kernel
theorem dX10_put_57 : decode cX10_put 57 = .ok (.ireturn, 1) := by decide +kernel
theorem dX10_look_0 : decode cX10_look 0 = .ok (.iload_n 1, 1) := by decide +kernel
theorem dX10_look_1 : decode cX10_look 1 = .ok (.invokestatic 251, 3) := by decide +kernel
theorem dX10_look_4 : decode cX10_look 4 = .ok (.ifCond .ne 9, 3) := by decide +kernel
theorem dX10_look_7 : decode cX10_look 7 = .ok (.aload_n 0, 1) := by decide +kernel
theorem dX10_look_8 : decode cX10_look 8 = .ok (.iconst (-1), 1) := by decide +kernel
theorem dX10_look_9 : decode cX10_look 9 = .ok (.invokevirtual 219, 3) := by decide +kernel
theorem dX10_look_12 : decode cX10_look 12 = .ok (.lreturn, 1) := by decide +kernel
theorem dX10_look_13 : decode cX10_look 13 = .ok (.aload_n 0, 1) := by decide +kernel
theorem dX10_look_14 : decode cX10_look 14 = .ok (.getfield 41, 3) := by decide +kernel
theorem dX10_look_17 : decode cX10_look 17 = .ok (.iload_n 1, 1) := by decide +kernel
theorem dX10_look_18 : decode cX10_look 18 = .ok (.iaload, 1) := by decide +kernel
theorem dX10_look_19 : decode cX10_look 19 = .ok (.ifCond .ge 7, 3) := by decide +kernel
theorem dX10_look_22 : decode cX10_look 22 = .ok (.ldc2_w 254, 3) := by decide +kernel
theorem dX10_look_25 : decode cX10_look 25 = .ok (.lreturn, 1) := by decide +kernel
theorem dX10_look_26 : decode cX10_look 26 = .ok (.iload_n 2, 1) := by decide +kernel
theorem dX10_look_27 : decode cX10_look 27 = .ok (.iconst 0, 1) := by decide +kernel
theorem dX10_look_28 : decode cX10_look 28 = .ok (.aload_n 0, 1) := by decide +kernel
theorem dX10_look_29 : decode cX10_look 29 = .ok (.getfield 41, 3) := by decide +kernel
theorem dX10_look_32 : decode cX10_look 32 = .ok (.iload_n 1, 1) := by decide +kernel
theorem dX10_look_33 : decode cX10_look 33 = .ok (.iaload, 1) := by decide +kernel
theorem dX10_look_34 : decode cX10_look 34 = .ok (.iconst 1, 1) := by decide +kernel
theorem dX10_look_35 : decode cX10_look 35 = .ok (.isub, 1) := by decide +kernel
theorem dX10_look_36 : decode cX10_look 36 = .ok (.invokestatic 78, 3) := by decide +kernel
theorem dX10_look_39 : decode cX10_look 39 = .ok (.ifCond .eq 18, 3) := by decide +kernel
theorem dX10_look_42 : decode cX10_look 42 = .ok (.aload_n 0, 1) := by decide +kernel
theorem dX10_look_43 : decode cX10_look 43 = .ok (.getfield 44, 3) := by decide +kernel
theorem dX10_look_46 : decode cX10_look 46 = .ok (.bipush 40, 2) := by decide +kernel
theorem dX10_look_48 : decode cX10_look 48 = .ok (.iload_n 1, 1) := by decide +kernel
theorem dX10_look_49 : decode cX10_look 49 = .ok (.imul, 1) := by decide +kernel
theorem dX10_look_50 : decode cX10_look 50 = .ok (.iload_n 2, 1) := by decide +kernel
theorem dX10_look_51 : decode cX10_look 51 = .ok (.iadd, 1) := by decide +kernel
theorem dX10_look_52 : decode cX10_look 52 = .ok (.iaload, 1) := by decide +kernel
theorem dX10_look_53 : decode cX10_look 53 = .ok (.i2l, 1) := by decide +kernel
theorem dX10_look_54 : decode cX10_look 54 = .ok (.goto 6, 3) := by decide +kernel
theorem dX10_look_57 : decode cX10_look 57 = .ok (.ldc2_w 256, 3) := by decide +kernel
theorem dX10_look_60 : decode cX10_look 60 = .ok (.lreturn, 1) := by decide +kernel
theorem dX10_lays_0 : decode cX10_lays 0 = .ok (.iload_n 1, 1) := by decide +kernel
theorem dX10_lays_1 : decode cX10_lays 1 = .ok (.invokestatic 251, 3) := by decide +kernel
theorem dX10_lays_4 : decode cX10_lays 4 = .ok (.ifCond .ne 9, 3) := by decide +kernel
theorem dX10_lays_7 : decode cX10_lays 7 = .ok (.aload_n 0, 1) := by decide +kernel
theorem dX10_lays_8 : decode cX10_lays 8 = .ok (.iconst (-1), 1) := by decide +kernel
theorem dX10_lays_9 : decode cX10_lays 9 = .ok (.invokevirtual 87, 3) := by decide +kernel
theorem dX10_lays_12 : decode cX10_lays 12 = .ok (.ireturn, 1) := by decide +kernel
theorem dX10_lays_13 : decode cX10_lays 13 = .ok (.aload_n 0, 1) := by decide +kernel
theorem dX10_lays_14 : decode cX10_lays 14 = .ok (.getfield 41, 3) := by decide +kernel
theorem dX10_lays_17 : decode cX10_lays 17 = .ok (.iload_n 1, 1) := by decide +kernel
theorem dX10_lays_18 : decode cX10_lays 18 = .ok (.iaload, 1) := by decide +kernel
theorem dX10_lays_19 : decode cX10_lays 19 = .ok (.ifCond .ge 6, 3) := by decide +kernel
theorem dX10_lays_22 : decode cX10_lays 22 = .ok (.bipush (-11), 2) := by decide +kernel
theorem dX10_lays_24 : decode cX10_lays 24 = .ok (.ireturn, 1) := by decide +kernel
theorem dX10_lays_25 : decode cX10_lays 25 = .ok (.iload_n 2, 1) := by decide +kernel
theorem dX10_lays_26 : decode cX10_lays 26 = .ok (.ifCond .lt 18, 3) := by decide +kernel
theorem dX10_lays_29 : decode cX10_lays 29 = .ok (.iload_n 2, 1) := by decide +kernel
theorem dX10_lays_30 : decode cX10_lays 30 = .ok (.aload_n 0, 1) := by decide +kernel
theorem dX10_lays_31 : decode cX10_lays 31 = .ok (.getfield 41, 3) := by decide +kernel
theorem dX10_lays_34 : decode cX10_lays 34 = .ok (.iload_n 1, 1) := by decide +kernel
theorem dX10_lays_35 : decode cX10_lays 35 = .ok (.iaload, 1) := by decide +kernel
theorem dX10_lays_36 : decode cX10_lays 36 = .ok (.aload_n 0, 1) := by decide +kernel
theorem dX10_lays_37 : decode cX10_lays 37 = .ok (.getfield 7, 3) := by decide +kernel
theorem dX10_lays_40 : decode cX10_lays 40 = .ok (.isub, 1) := by decide +kernel
theorem dX10_lays_41 : decode cX10_lays 41 = .ok (.if_icmp .le 6, 3) := by decide +kernel
theorem dX10_lays_44 : decode cX10_lays 44 = .ok (.bipush (-13), 2) := by decide +kernel
theorem dX10_lays_46 : decode cX10_lays 46 = .ok (.ireturn, 1) := by decide +kernel
theorem dX10_lays_47 : decode cX10_lays 47 = .ok (.aload_n 0, 1) := by decide +kernel
theorem dX10_lays_48 : decode cX10_lays 48 = .ok (.invokevirtual 158, 3) := by decide +kernel
theorem dX10_lays_51 : decode cX10_lays 51 = .ok (.iconst 0, 1) := by decide +kernel
theorem dX10_lays_52 : decode cX10_lays 52 = .ok (.istore_n 3, 1) := by decide +kernel
theorem dX10_lays_53 : decode cX10_lays 53 = .ok (.iload_n 3, 1) := by decide +kernel
theorem dX10_lays_54 : decode cX10_lays 54 = .ok (.aload_n 0, 1) := by decide +kernel
theorem dX10_lays_55 : decode cX10_lays 55 = .ok (.getfield 7, 3) := by decide +kernel
theorem dX10_lays_58 : decode cX10_lays 58 = .ok (.if_icmp .ge 28, 3) := by decide +kernel
theorem dX10_lays_61 : decode cX10_lays 61 = .ok (.aload_n 0, 1) := by decide +kernel
theorem dX10_lays_62 : decode cX10_lays 62 = .ok (.getfield 44, 3) := by decide +kernel
theorem dX10_lays_65 : decode cX10_lays 65 = .ok (.bipush 40, 2) := by decide +kernel
theorem dX10_lays_67 : decode cX10_lays 67 = .ok (.iload_n 1, 1) := by decide +kernel
theorem dX10_lays_68 : decode cX10_lays 68 = .ok (.imul, 1) := by decide +kernel
theorem dX10_lays_69 : decode cX10_lays 69 = .ok (.iload_n 2, 1) := by decide +kernel
theorem dX10_lays_70 : decode cX10_lays 70 = .ok (.iadd, 1) := by decide +kernel
theorem dX10_lays_71 : decode cX10_lays 71 = .ok (.iload_n 3, 1) := by decide +kernel
theorem dX10_lays_72 : decode cX10_lays 72 = .ok (.iadd, 1) := by decide +kernel
theorem dX10_lays_73 : decode cX10_lays 73 = .ok (.aload_n 0, 1) := by decide +kernel
theorem dX10_lays_74 : decode cX10_lays 74 = .ok (.getfield 53, 3) := by decide +kernel
theorem dX10_lays_77 : decode cX10_lays 77 = .ok (.iload_n 3, 1) := by decide +kernel
theorem dX10_lays_78 : decode cX10_lays 78 = .ok (.iaload, 1) := by decide +kernel
theorem dX10_lays_79 : decode cX10_lays 79 = .ok (.iastore, 1) := by decide +kernel
theorem dX10_lays_80 : decode cX10_lays 80 = .ok (.iinc 3 1, 3) := by decide +kernel
theorem dX10_lays_83 : decode cX10_lays 83 = .ok (.goto (-30), 3) := by decide +kernel
theorem dX10_lays_86 : decode cX10_lays 86 = .ok (.aload_n 0, 1) := by decide +kernel
theorem dX10_lays_87 : decode cX10_lays 87 = .ok (.getfield 7, 3) := by decide +kernel
theorem dX10_lays_90 : decode cX10_lays 90 = .ok (.ireturn, 1) := by decide +kernel
theorem dX10_judge_0 : decode cX10_judge 0 = .ok (.iload_n 1, 1) := by decide +kernel
theorem dX10_judge_1 : decode cX10_judge 1 = .ok (.invokestatic 251, 3) := by decide +kernel
theorem dX10_judge_4 : decode cX10_judge 4 = .ok (.ifCond .ne 9, 3) := by decide +kernel
theorem dX10_judge_7 : decode cX10_judge 7 = .ok (.aload_n 0, 1) := by decide +kernel
theorem dX10_judge_8 : decode cX10_judge 8 = .ok (.iconst (-1), 1) := by decide +kernel
theorem dX10_judge_9 : decode cX10_judge 9 = .ok (.invokevirtual 87, 3) := by decide +kernel
theorem dX10_judge_12 : decode cX10_judge 12 = .ok (.ireturn, 1) := by decide +kernel
theorem dX10_judge_13 : decode cX10_judge 13 = .ok (.aload_n 0, 1) := by decide +kernel
theorem dX10_judge_14 : decode cX10_judge 14 = .ok (.getfield 41, 3) := by decide +kernel
theorem dX10_judge_17 : decode cX10_judge 17 = .ok (.iload_n 1, 1) := by decide +kernel
theorem dX10_judge_18 : decode cX10_judge 18 = .ok (.iaload, 1) := by decide +kernel
theorem dX10_judge_19 : decode cX10_judge 19 = .ok (.ifCond .ge 6, 3) := by decide +kernel
theorem dX10_judge_22 : decode cX10_judge 22 = .ok (.bipush (-11), 2) := by decide +kernel
theorem dX10_judge_24 : decode cX10_judge 24 = .ok (.ireturn, 1) := by decide +kernel
theorem dX10_judge_25 : decode cX10_judge 25 = .ok (.aload_n 0, 1) := by decide +kernel
theorem dX10_judge_26 : decode cX10_judge 26 = .ok (.invokevirtual 158, 3) := by decide +kernel
theorem dX10_judge_29 : decode cX10_judge 29 = .ok (.iconst 0, 1) := by decide +kernel
theorem dX10_judge_30 : decode cX10_judge 30 = .ok (.istore_n 2, 1) := by decide +kernel
theorem dX10_judge_31 : decode cX10_judge 31 = .ok (.iload_n 2, 1) := by decide +kernel
theorem dX10_judge_32 : decode cX10_judge 32 = .ok (.aload_n 0, 1) := by decide +kernel
theorem dX10_judge_33 : decode cX10_judge 33 = .ok (.getfield 41, 3) := by decide +kernel
theorem dX10_judge_36 : decode cX10_judge 36 = .ok (.iload_n 1, 1) := by decide +kernel
theorem dX10_judge_37 : decode cX10_judge 37 = .ok (.iaload, 1) := by decide +kernel
theorem dX10_judge_38 : decode cX10_judge 38 = .ok (.if_icmp .ge 39, 3) := by decide +kernel
theorem dX10_judge_41 : decode cX10_judge 41 = .ok (.iload_n 2, 1) := by decide +kernel
theorem dX10_judge_42 : decode cX10_judge 42 = .ok (.aload_n 0, 1) := by decide +kernel
theorem dX10_judge_43 : decode cX10_judge 43 = .ok (.getfield 7, 3) := by decide +kernel
theorem dX10_judge_46 : decode cX10_judge 46 = .ok (.if_icmp .eq 23, 3) := by decide +kernel
theorem dX10_judge_49 : decode cX10_judge 49 = .ok (.aload_n 0, 1) := by decide +kernel
theorem dX10_judge_50 : decode cX10_judge 50 = .ok (.getfield 44, 3) := by decide +kernel
theorem dX10_judge_53 : decode cX10_judge 53 = .ok (.bipush 40, 2) := by decide +kernel
theorem dX10_judge_55 : decode cX10_judge 55 = .ok (.iload_n 1, 1) := by decide +kernel
theorem dX10_judge_56 : decode cX10_judge 56 = .ok (.imul, 1) := by decide +kernel
theorem dX10_judge_57 : decode cX10_judge 57 = .ok (.iload_n 2, 1) := by decide +kernel
theorem dX10_judge_58 : decode cX10_judge 58 = .ok (.iadd, 1) := by decide +kernel
theorem dX10_judge_59 : decode cX10_judge 59 = .ok (.iaload, 1) := by decide +kernel
theorem dX10_judge_60 : decode cX10_judge 60 = .ok (.aload_n 0, 1) := by decide +kernel
theorem dX10_judge_61 : decode cX10_judge 61 = .ok (.getfield 53, 3) := by decide +kernel
theorem dX10_judge_64 : decode cX10_judge 64 = .ok (.iload_n 2, 1) := by decide +kernel
theorem dX10_judge_65 : decode cX10_judge 65 = .ok (.iaload, 1) := by decide +kernel
theorem dX10_judge_66 : decode cX10_judge 66 = .ok (.if_icmp .eq 5, 3) := by decide +kernel
theorem dX10_judge_69 : decode cX10_judge 69 = .ok (.iload_n 2, 1) := by decide +kernel
theorem dX10_judge_70 : decode cX10_judge 70 = .ok (.ireturn, 1) := by decide +kernel
theorem dX10_judge_71 : decode cX10_judge 71 = .ok (.iinc 2 1, 3) := by decide +kernel
theorem dX10_judge_74 : decode cX10_judge 74 = .ok (.goto (-43), 3) := by decide +kernel
theorem dX10_judge_77 : decode cX10_judge 77 = .ok (.bipush (-9), 2) := by decide +kernel
theorem dX10_judge_79 : decode cX10_judge 79 = .ok (.ireturn, 1) := by decide +kernel
theorem dX10_gives_0 : decode cX10_gives 0 = .ok (.iload_n 1, 1) := by decide +kernel
theorem dX10_gives_1 : decode cX10_gives 1 = .ok (.invokestatic 251, 3) := by decide +kernel
theorem dX10_gives_4 : decode cX10_gives 4 = .ok (.ifCond .ne 9, 3) := by decide +kernel
theorem dX10_gives_7 : decode cX10_gives 7 = .ok (.aload_n 0, 1) := by decide +kernel
theorem dX10_gives_8 : decode cX10_gives 8 = .ok (.iconst (-1), 1) := by decide +kernel
theorem dX10_gives_9 : decode cX10_gives 9 = .ok (.invokevirtual 87, 3) := by decide +kernel
theorem dX10_gives_12 : decode cX10_gives 12 = .ok (.ireturn, 1) := by decide +kernel
theorem dX10_gives_13 : decode cX10_gives 13 = .ok (.aload_n 0, 1) := by decide +kernel
theorem dX10_gives_14 : decode cX10_gives 14 = .ok (.getfield 41, 3) := by decide +kernel
theorem dX10_gives_17 : decode cX10_gives 17 = .ok (.iload_n 1, 1) := by decide +kernel
theorem dX10_gives_18 : decode cX10_gives 18 = .ok (.iaload, 1) := by decide +kernel
theorem dX10_gives_19 : decode cX10_gives 19 = .ok (.ifCond .ge 6, 3) := by decide +kernel
theorem dX10_gives_22 : decode cX10_gives 22 = .ok (.bipush (-11), 2) := by decide +kernel
theorem dX10_gives_24 : decode cX10_gives 24 = .ok (.ireturn, 1) := by decide +kernel
theorem dX10_gives_25 : decode cX10_gives 25 = .ok (.aload_n 0, 1) := by decide +kernel
theorem dX10_gives_26 : decode cX10_gives 26 = .ok (.getfield 41, 3) := by decide +kernel
theorem dX10_gives_29 : decode cX10_gives 29 = .ok (.iload_n 1, 1) := by decide +kernel
theorem dX10_gives_30 : decode cX10_gives 30 = .ok (.iaload, 1) := by decide +kernel
theorem dX10_gives_31 : decode cX10_gives 31 = .ok (.aload_n 0, 1) := by decide +kernel
theorem dX10_gives_32 : decode cX10_gives 32 = .ok (.getfield 82, 3) := by decide +kernel
theorem dX10_gives_35 : decode cX10_gives 35 = .ok (.if_icmp .ne 7, 3) := by decide +kernel
theorem dX10_gives_38 : decode cX10_gives 38 = .ok (.iconst 1, 1) := by decide +kernel
theorem dX10_gives_39 : decode cX10_gives 39 = .ok (.goto 4, 3) := by decide +kernel
theorem dX10_gives_42 : decode cX10_gives 42 = .ok (.iconst 0, 1) := by decide +kernel
theorem dX10_gives_43 : decode cX10_gives 43 = .ok (.istore_n 2, 1) := by decide +kernel
theorem dX10_gives_44 : decode cX10_gives 44 = .ok (.iconst 0, 1) := by decide +kernel
theorem dX10_gives_45 : decode cX10_gives 45 = .ok (.istore_n 3, 1) := by decide +kernel
theorem dX10_gives_46 : decode cX10_gives 46 = .ok (.iload_n 3, 1) := by decide +kernel
theorem dX10_gives_47 : decode cX10_gives 47 = .ok (.aload_n 0, 1) := by decide +kernel
theorem dX10_gives_48 : decode cX10_gives 48 = .ok (.getfield 82, 3) := by decide +kernel
theorem dX10_gives_51 : decode cX10_gives 51 = .ok (.if_icmp .ge 31, 3) := by decide +kernel
theorem dX10_gives_54 : decode cX10_gives 54 = .ok (.iload_n 2, 1) := by decide +kernel
theorem dX10_gives_55 : decode cX10_gives 55 = .ok (.ifCond .eq 27, 3) := by decide +kernel
theorem dX10_gives_58 : decode cX10_gives 58 = .ok (.aload_n 0, 1) := by decide +kernel
theorem dX10_gives_59 : decode cX10_gives 59 = .ok (.getfield 44, 3) := by decide +kernel
theorem dX10_gives_62 : decode cX10_gives 62 = .ok (.bipush 40, 2) := by decide +kernel
theorem dX10_gives_64 : decode cX10_gives 64 = .ok (.iload_n 1, 1) := by decide +kernel
theorem dX10_gives_65 : decode cX10_gives 65 = .ok (.imul, 1) := by decide +kernel
theorem dX10_gives_66 : decode cX10_gives 66 = .ok (.iload_n 3, 1) := by decide +kernel
theorem dX10_gives_67 : decode cX10_gives 67 = .ok (.iadd, 1) := by decide +kernel
theorem dX10_gives_68 : decode cX10_gives 68 = .ok (.iaload, 1) := by decide +kernel
theorem dX10_gives_69 : decode cX10_gives 69 = .ok (.iconst 0, 1) := by decide +kernel
theorem dX10_gives_70 : decode cX10_gives 70 = .ok (.bipush 99, 2) := by decide +kernel
theorem dX10_gives_72 : decode cX10_gives 72 = .ok (.invokestatic 78, 3) := by decide +kernel
theorem dX10_gives_75 : decode cX10_gives 75 = .ok (.istore_n 2, 1) := by decide +kernel
theorem dX10_gives_76 : decode cX10_gives 76 = .ok (.iinc 3 1, 3) := by decide +kernel
theorem dX10_gives_79 : decode cX10_gives 79 = .ok (.goto (-33), 3) := by decide +kernel
theorem dX10_gives_82 : decode cX10_gives 82 = .ok (.iload_n 2, 1) := by decide +kernel
theorem dX10_gives_83 : decode cX10_gives 83 = .ok (.ifCond .ne 10, 3) := by decide +kernel
theorem dX10_gives_86 : decode cX10_gives 86 = .ok (.aload_n 0, 1) := by decide +kernel
theorem dX10_gives_87 : decode cX10_gives 87 = .ok (.bipush (-3), 2) := by decide +kernel
theorem dX10_gives_89 : decode cX10_gives 89 = .ok (.invokevirtual 87, 3) := by decide +kernel
theorem dX10_gives_92 : decode cX10_gives 92 = .ok (.ireturn, 1) := by decide +kernel
theorem dX10_gives_93 : decode cX10_gives 93 = .ok (.aload_n 0, 1) := by decide +kernel
theorem dX10_gives_94 : decode cX10_gives 94 = .ok (.invokevirtual 128, 3) := by decide +kernel
theorem dX10_gives_97 : decode cX10_gives 97 = .ok (.iconst 0, 1) := by decide +kernel
theorem dX10_gives_98 : decode cX10_gives 98 = .ok (.istore_n 3, 1) := by decide +kernel
theorem dX10_gives_99 : decode cX10_gives 99 = .ok (.iload_n 3, 1) := by decide +kernel
theorem dX10_gives_100 : decode cX10_gives 100 = .ok (.aload_n 0, 1) := by decide +kernel
theorem dX10_gives_101 : decode cX10_gives 101 = .ok (.getfield 82, 3) := by decide +kernel
theorem dX10_gives_104 : decode cX10_gives 104 = .ok (.if_icmp .ge 26, 3) := by decide +kernel
theorem dX10_gives_107 : decode cX10_gives 107 = .ok (.aload_n 0, 1) := by decide +kernel
theorem dX10_gives_108 : decode cX10_gives 108 = .ok (.getfield 26, 3) := by decide +kernel
theorem dX10_gives_111 : decode cX10_gives 111 = .ok (.iload_n 3, 1) := by decide +kernel
theorem dX10_gives_112 : decode cX10_gives 112 = .ok (.aload_n 0, 1) := by decide +kernel
theorem dX10_gives_113 : decode cX10_gives 113 = .ok (.getfield 44, 3) := by decide +kernel
theorem dX10_gives_116 : decode cX10_gives 116 = .ok (.bipush 40, 2) := by decide +kernel
theorem dX10_gives_118 : decode cX10_gives 118 = .ok (.iload_n 1, 1) := by decide +kernel
theorem dX10_gives_119 : decode cX10_gives 119 = .ok (.imul, 1) := by decide +kernel
theorem dX10_gives_120 : decode cX10_gives 120 = .ok (.iload_n 3, 1) := by decide +kernel
theorem dX10_gives_121 : decode cX10_gives 121 = .ok (.iadd, 1) := by decide +kernel
theorem dX10_gives_122 : decode cX10_gives 122 = .ok (.iaload, 1) := by decide +kernel
theorem dX10_gives_123 : decode cX10_gives 123 = .ok (.iastore, 1) := by decide +kernel
theorem dX10_gives_124 : decode cX10_gives 124 = .ok (.iinc 3 1, 3) := by decide +kernel
theorem dX10_gives_127 : decode cX10_gives 127 = .ok (.goto (-28), 3) := by decide +kernel
theorem dX10_gives_130 : decode cX10_gives 130 = .ok (.aload_n 0, 1) := by decide +kernel
theorem dX10_gives_131 : decode cX10_gives 131 = .ok (.getfield 82, 3) := by decide +kernel
theorem dX10_gives_134 : decode cX10_gives 134 = .ok (.ireturn, 1) := by decide +kernel
theorem dX10_rules_0 : decode cX10_rules 0 = .ok (.iload_n 1, 1) := by decide +kernel
theorem dX10_rules_1 : decode cX10_rules 1 = .ok (.invokestatic 251, 3) := by decide +kernel
theorem dX10_rules_4 : decode cX10_rules 4 = .ok (.ifCond .ne 9, 3) := by decide +kernel
theorem dX10_rules_7 : decode cX10_rules 7 = .ok (.aload_n 0, 1) := by decide +kernel
theorem dX10_rules_8 : decode cX10_rules 8 = .ok (.iconst (-1), 1) := by decide +kernel
theorem dX10_rules_9 : decode cX10_rules 9 = .ok (.invokevirtual 87, 3) := by decide +kernel
theorem dX10_rules_12 : decode cX10_rules 12 = .ok (.ireturn, 1) := by decide +kernel
theorem dX10_rules_13 : decode cX10_rules 13 = .ok (.aload_n 0, 1) := by decide +kernel
theorem dX10_rules_14 : decode cX10_rules 14 = .ok (.getfield 41, 3) := by decide +kernel
theorem dX10_rules_17 : decode cX10_rules 17 = .ok (.iload_n 1, 1) := by decide +kernel
theorem dX10_rules_18 : decode cX10_rules 18 = .ok (.iaload, 1) := by decide +kernel
theorem dX10_rules_19 : decode cX10_rules 19 = .ok (.ifCond .ge 6, 3) := by decide +kernel
theorem dX10_rules_22 : decode cX10_rules 22 = .ok (.bipush (-11), 2) := by decide +kernel
theorem dX10_rules_24 : decode cX10_rules 24 = .ok (.ireturn, 1) := by decide +kernel
theorem dX10_rules_25 : decode cX10_rules 25 = .ok (.aload_n 0, 1) := by decide +kernel
theorem dX10_rules_26 : decode cX10_rules 26 = .ok (.getfield 41, 3) := by decide +kernel
theorem dX10_rules_29 : decode cX10_rules 29 = .ok (.iload_n 1, 1) := by decide +kernel
theorem dX10_rules_30 : decode cX10_rules 30 = .ok (.iaload, 1) := by decide +kernel
theorem dX10_rules_31 : decode cX10_rules 31 = .ok (.iconst 1, 1) := by decide +kernel
theorem dX10_rules_32 : decode cX10_rules 32 = .ok (.bipush 7, 2) := by decide +kernel
theorem dX10_rules_34 : decode cX10_rules 34 = .ok (.invokestatic 78, 3) := by decide +kernel
theorem dX10_rules_37 : decode cX10_rules 37 = .ok (.ifCond .ne 10, 3) := by decide +kernel
theorem dX10_rules_40 : decode cX10_rules 40 = .ok (.aload_n 0, 1) := by decide +kernel
theorem dX10_rules_41 : decode cX10_rules 41 = .ok (.bipush (-3), 2) := by decide +kernel
theorem dX10_rules_43 : decode cX10_rules 43 = .ok (.invokevirtual 87, 3) := by decide +kernel
theorem dX10_rules_46 : decode cX10_rules 46 = .ok (.ireturn, 1) := by decide +kernel
theorem dX10_rules_47 : decode cX10_rules 47 = .ok (.iconst 0, 1) := by decide +kernel
theorem dX10_rules_48 : decode cX10_rules 48 = .ok (.istore_n 2, 1) := by decide +kernel
theorem dX10_rules_49 : decode cX10_rules 49 = .ok (.iload_n 2, 1) := by decide +kernel
theorem dX10_rules_50 : decode cX10_rules 50 = .ok (.aload_n 0, 1) := by decide +kernel
theorem dX10_rules_51 : decode cX10_rules 51 = .ok (.getfield 41, 3) := by decide +kernel
theorem dX10_rules_54 : decode cX10_rules 54 = .ok (.iload_n 1, 1) := by decide +kernel
theorem dX10_rules_55 : decode cX10_rules 55 = .ok (.iaload, 1) := by decide +kernel
theorem dX10_rules_56 : decode cX10_rules 56 = .ok (.if_icmp .ge 26, 3) := by decide +kernel
theorem dX10_rules_59 : decode cX10_rules 59 = .ok (.aload_n 0, 1) := by decide +kernel
theorem dX10_rules_60 : decode cX10_rules 60 = .ok (.getfield 69, 3) := by decide +kernel
theorem dX10_rules_63 : decode cX10_rules 63 = .ok (.iload_n 2, 1) := by decide +kernel
theorem dX10_rules_64 : decode cX10_rules 64 = .ok (.aload_n 0, 1) := by decide +kernel
theorem dX10_rules_65 : decode cX10_rules 65 = .ok (.getfield 44, 3) := by decide +kernel
theorem dX10_rules_68 : decode cX10_rules 68 = .ok (.bipush 40, 2) := by decide +kernel
theorem dX10_rules_70 : decode cX10_rules 70 = .ok (.iload_n 1, 1) := by decide +kernel
theorem dX10_rules_71 : decode cX10_rules 71 = .ok (.imul, 1) := by decide +kernel
theorem dX10_rules_72 : decode cX10_rules 72 = .ok (.iload_n 2, 1) := by decide +kernel
theorem dX10_rules_73 : decode cX10_rules 73 = .ok (.iadd, 1) := by decide +kernel
theorem dX10_rules_74 : decode cX10_rules 74 = .ok (.iaload, 1) := by decide +kernel
theorem dX10_rules_75 : decode cX10_rules 75 = .ok (.iastore, 1) := by decide +kernel
theorem dX10_rules_76 : decode cX10_rules 76 = .ok (.iinc 2 1, 3) := by decide +kernel
theorem dX10_rules_79 : decode cX10_rules 79 = .ok (.goto (-30), 3) := by decide +kernel
theorem dX10_rules_82 : decode cX10_rules 82 = .ok (.iconst 0, 1) := by decide +kernel
theorem dX10_rules_83 : decode cX10_rules 83 = .ok (.istore_n 2, 1) := by decide +kernel
theorem dX10_rules_84 : decode cX10_rules 84 = .ok (.iconst 0, 1) := by decide +kernel
theorem dX10_rules_85 : decode cX10_rules 85 = .ok (.istore_n 3, 1) := by decide +kernel
theorem dX10_rules_86 : decode cX10_rules 86 = .ok (.iload_n 3, 1) := by decide +kernel
theorem dX10_rules_87 : decode cX10_rules 87 = .ok (.bipush 6, 2) := by decide +kernel
theorem dX10_rules_89 : decode cX10_rules 89 = .ok (.if_icmp .ge 36, 3) := by decide +kernel
theorem dX10_rules_92 : decode cX10_rules 92 = .ok (.iload_n 2, 1) := by decide +kernel
theorem dX10_rules_93 : decode cX10_rules 93 = .ok (.iload_n 3, 1) := by decide +kernel
theorem dX10_rules_94 : decode cX10_rules 94 = .ok (.aload_n 0, 1) := by decide +kernel
theorem dX10_rules_95 : decode cX10_rules 95 = .ok (.getfield 69, 3) := by decide +kernel
theorem dX10_rules_98 : decode cX10_rules 98 = .ok (.aload_n 0, 1) := by decide +kernel
theorem dX10_rules_99 : decode cX10_rules 99 = .ok (.getfield 41, 3) := by decide +kernel
theorem dX10_rules_102 : decode cX10_rules 102 = .ok (.iload_n 1, 1) := by decide +kernel
theorem dX10_rules_103 : decode cX10_rules 103 = .ok (.iaload, 1) := by decide +kernel
theorem dX10_rules_104 : decode cX10_rules 104 = .ok (.invokestatic 164, 3) := by decide +kernel
theorem dX10_rules_107 : decode cX10_rules 107 = .ok (.ifCond .eq 9, 3) := by decide +kernel
theorem dX10_rules_110 : decode cX10_rules 110 = .ok (.iconst 1, 1) := by decide +kernel
theorem dX10_rules_111 : decode cX10_rules 111 = .ok (.iload_n 3, 1) := by decide +kernel
theorem dX10_rules_112 : decode cX10_rules 112 = .ok (.ishl, 1) := by decide +kernel
theorem dX10_rules_113 : decode cX10_rules 113 = .ok (.goto 4, 3) := by decide +kernel
theorem dX10_rules_116 : decode cX10_rules 116 = .ok (.iconst 0, 1) := by decide +kernel
theorem dX10_rules_117 : decode cX10_rules 117 = .ok (.ior, 1) := by decide +kernel
theorem dX10_rules_118 : decode cX10_rules 118 = .ok (.istore_n 2, 1) := by decide +kernel
theorem dX10_rules_119 : decode cX10_rules 119 = .ok (.iinc 3 1, 3) := by decide +kernel
theorem dX10_rules_122 : decode cX10_rules 122 = .ok (.goto (-36), 3) := by decide +kernel
theorem dX10_rules_125 : decode cX10_rules 125 = .ok (.iload_n 2, 1) := by decide +kernel
theorem dX10_rules_126 : decode cX10_rules 126 = .ok (.ireturn, 1) := by decide +kernel
theorem dX10_undo_0 : decode cX10_undo 0 = .ok (.aload_n 0, 1) := by decide +kernel
theorem dX10_undo_1 : decode cX10_undo 1 = .ok (.getfield 125, 3) := by decide +kernel
theorem dX10_undo_4 : decode cX10_undo 4 = .ok (.ifCond .ne 10, 3) := by decide +kernel
theorem dX10_undo_7 : decode cX10_undo 7 = .ok (.aload_n 0, 1) := by decide +kernel
theorem dX10_undo_8 : decode cX10_undo 8 = .ok (.bipush (-3), 2) := by decide +kernel
theorem dX10_undo_10 : decode cX10_undo 10 = .ok (.invokevirtual 87, 3) := by decide +kernel
theorem dX10_undo_13 : decode cX10_undo 13 = .ok (.ireturn, 1) := by decide +kernel
theorem dX10_undo_14 : decode cX10_undo 14 = .ok (.aload_n 0, 1) := by decide +kernel
theorem dX10_undo_15 : decode cX10_undo 15 = .ok (.dup, 1) := by decide +kernel
theorem dX10_undo_16 : decode cX10_undo 16 = .ok (.getfield 125, 3) := by decide +kernel
theorem dX10_undo_19 : decode cX10_undo 19 = .ok (.iconst 1, 1) := by decide +kernel
theorem dX10_undo_20 : decode cX10_undo 20 = .ok (.isub, 1) := by decide +kernel
theorem dX10_undo_21 : decode cX10_undo 21 = .ok (.putfield 125, 3) := by decide +kernel
theorem dX10_undo_24 : decode cX10_undo 24 = .ok (.iconst 0, 1) := by decide +kernel
theorem dX10_undo_25 : decode cX10_undo 25 = .ok (.istore_n 1, 1) := by decide +kernel
theorem dX10_undo_26 : decode cX10_undo 26 = .ok (.iload_n 1, 1) := by decide +kernel
theorem dX10_undo_27 : decode cX10_undo 27 = .ok (.bipush 8, 2) := by decide +kernel
theorem dX10_undo_29 : decode cX10_undo 29 = .ok (.if_icmp .ge 69, 3) := by decide +kernel
theorem dX10_undo_32 : decode cX10_undo 32 = .ok (.aload_n 0, 1) := by decide +kernel
theorem dX10_undo_33 : decode cX10_undo 33 = .ok (.getfield 13, 3) := by decide +kernel
theorem dX10_undo_36 : decode cX10_undo 36 = .ok (.iload_n 1, 1) := by decide +kernel
theorem dX10_undo_37 : decode cX10_undo 37 = .ok (.aload_n 0, 1) := by decide +kernel
theorem dX10_undo_38 : decode cX10_undo 38 = .ok (.getfield 29, 3) := by decide +kernel
theorem dX10_undo_41 : decode cX10_undo 41 = .ok (.bipush 8, 2) := by decide +kernel
theorem dX10_undo_43 : decode cX10_undo 43 = .ok (.aload_n 0, 1) := by decide +kernel
theorem dX10_undo_44 : decode cX10_undo 44 = .ok (.getfield 125, 3) := by decide +kernel
theorem dX10_undo_47 : decode cX10_undo 47 = .ok (.imul, 1) := by decide +kernel
theorem dX10_undo_48 : decode cX10_undo 48 = .ok (.iload_n 1, 1) := by decide +kernel
theorem dX10_undo_49 : decode cX10_undo 49 = .ok (.iadd, 1) := by decide +kernel
theorem dX10_undo_50 : decode cX10_undo 50 = .ok (.iaload, 1) := by decide +kernel
theorem dX10_undo_51 : decode cX10_undo 51 = .ok (.iastore, 1) := by decide +kernel
theorem dX10_undo_52 : decode cX10_undo 52 = .ok (.aload_n 0, 1) := by decide +kernel
theorem dX10_undo_53 : decode cX10_undo 53 = .ok (.getfield 17, 3) := by decide +kernel
theorem dX10_undo_56 : decode cX10_undo 56 = .ok (.iload_n 1, 1) := by decide +kernel
theorem dX10_undo_57 : decode cX10_undo 57 = .ok (.aload_n 0, 1) := by decide +kernel
theorem dX10_undo_58 : decode cX10_undo 58 = .ok (.getfield 32, 3) := by decide +kernel
theorem dX10_undo_61 : decode cX10_undo 61 = .ok (.bipush 8, 2) := by decide +kernel
theorem dX10_undo_63 : decode cX10_undo 63 = .ok (.aload_n 0, 1) := by decide +kernel
theorem dX10_undo_64 : decode cX10_undo 64 = .ok (.getfield 125, 3) := by decide +kernel
theorem dX10_undo_67 : decode cX10_undo 67 = .ok (.imul, 1) := by decide +kernel
theorem dX10_undo_68 : decode cX10_undo 68 = .ok (.iload_n 1, 1) := by decide +kernel
theorem dX10_undo_69 : decode cX10_undo 69 = .ok (.iadd, 1) := by decide +kernel
theorem dX10_undo_70 : decode cX10_undo 70 = .ok (.iaload, 1) := by decide +kernel
theorem dX10_undo_71 : decode cX10_undo 71 = .ok (.iastore, 1) := by decide +kernel
theorem dX10_undo_72 : decode cX10_undo 72 = .ok (.aload_n 0, 1) := by decide +kernel
theorem dX10_undo_73 : decode cX10_undo 73 = .ok (.getfield 26, 3) := by decide +kernel
theorem dX10_undo_76 : decode cX10_undo 76 = .ok (.iload_n 1, 1) := by decide +kernel
theorem dX10_undo_77 : decode cX10_undo 77 = .ok (.aload_n 0, 1) := by decide +kernel
theorem dX10_undo_78 : decode cX10_undo 78 = .ok (.getfield 35, 3) := by decide +kernel
theorem dX10_undo_81 : decode cX10_undo 81 = .ok (.bipush 8, 2) := by decide +kernel
theorem dX10_undo_83 : decode cX10_undo 83 = .ok (.aload_n 0, 1) := by decide +kernel
theorem dX10_undo_84 : decode cX10_undo 84 = .ok (.getfield 125, 3) := by decide +kernel
theorem dX10_undo_87 : decode cX10_undo 87 = .ok (.imul, 1) := by decide +kernel
theorem dX10_undo_88 : decode cX10_undo 88 = .ok (.iload_n 1, 1) := by decide +kernel
theorem dX10_undo_89 : decode cX10_undo 89 = .ok (.iadd, 1) := by decide +kernel
theorem dX10_undo_90 : decode cX10_undo 90 = .ok (.iaload, 1) := by decide +kernel
theorem dX10_undo_91 : decode cX10_undo 91 = .ok (.iastore, 1) := by decide +kernel
theorem dX10_undo_92 : decode cX10_undo 92 = .ok (.iinc 1 1, 3) := by decide +kernel
theorem dX10_undo_95 : decode cX10_undo 95 = .ok (.goto (-69), 3) := by decide +kernel
theorem dX10_undo_98 : decode cX10_undo 98 = .ok (.aload_n 0, 1) := by decide +kernel
theorem dX10_undo_99 : decode cX10_undo 99 = .ok (.getfield 125, 3) := by decide +kernel
theorem dX10_undo_102 : decode cX10_undo 102 = .ok (.ireturn, 1) := by decide +kernel
theorem dX10_keeps_0 : decode cX10_keeps 0 = .ok (.iconst 0, 1) := by decide +kernel
theorem dX10_keeps_1 : decode cX10_keeps 1 = .ok (.istore_n 2, 1) := by decide +kernel
theorem dX10_keeps_2 : decode cX10_keeps 2 = .ok (.iload_n 2, 1) := by decide +kernel
theorem dX10_keeps_3 : decode cX10_keeps 3 = .ok (.bipush 8, 2) := by decide +kernel
theorem dX10_keeps_5 : decode cX10_keeps 5 = .ok (.if_icmp .ge 66, 3) := by decide +kernel
theorem dX10_keeps_8 : decode cX10_keeps 8 = .ok (.aload_n 1, 1) := by decide +kernel
theorem dX10_keeps_9 : decode cX10_keeps 9 = .ok (.iload_n 2, 1) := by decide +kernel
theorem dX10_keeps_10 : decode cX10_keeps 10 = .ok (.aload_n 0, 1) := by decide +kernel
theorem dX10_keeps_11 : decode cX10_keeps 11 = .ok (.getfield 13, 3) := by decide +kernel
theorem dX10_keeps_14 : decode cX10_keeps 14 = .ok (.iload_n 2, 1) := by decide +kernel
theorem dX10_keeps_15 : decode cX10_keeps 15 = .ok (.iaload, 1) := by decide +kernel
theorem dX10_keeps_16 : decode cX10_keeps 16 = .ok (.iastore, 1) := by decide +kernel
theorem dX10_keeps_17 : decode cX10_keeps 17 = .ok (.aload_n 1, 1) := by decide +kernel
theorem dX10_keeps_18 : decode cX10_keeps 18 = .ok (.bipush 8, 2) := by decide +kernel
theorem dX10_keeps_20 : decode cX10_keeps 20 = .ok (.iload_n 2, 1) := by decide +kernel
theorem dX10_keeps_21 : decode cX10_keeps 21 = .ok (.iadd, 1) := by decide +kernel
theorem dX10_keeps_22 : decode cX10_keeps 22 = .ok (.aload_n 0, 1) := by decide +kernel
theorem dX10_keeps_23 : decode cX10_keeps 23 = .ok (.getfield 17, 3) := by decide +kernel
theorem dX10_keeps_26 : decode cX10_keeps 26 = .ok (.iload_n 2, 1) := by decide +kernel
theorem dX10_keeps_27 : decode cX10_keeps 27 = .ok (.iaload, 1) := by decide +kernel
theorem dX10_keeps_28 : decode cX10_keeps 28 = .ok (.iastore, 1) := by decide +kernel
theorem dX10_keeps_29 : decode cX10_keeps 29 = .ok (.aload_n 1, 1) := by decide +kernel
theorem dX10_keeps_30 : decode cX10_keeps 30 = .ok (.bipush 16, 2) := by decide +kernel
theorem dX10_keeps_32 : decode cX10_keeps 32 = .ok (.iload_n 2, 1) := by decide +kernel
theorem dX10_keeps_33 : decode cX10_keeps 33 = .ok (.iadd, 1) := by decide +kernel
theorem dX10_keeps_34 : decode cX10_keeps 34 = .ok (.aload_n 0, 1) := by decide +kernel
theorem dX10_keeps_35 : decode cX10_keeps 35 = .ok (.getfield 20, 3) := by decide +kernel
theorem dX10_keeps_38 : decode cX10_keeps 38 = .ok (.iload_n 2, 1) := by decide +kernel
theorem dX10_keeps_39 : decode cX10_keeps 39 = .ok (.iaload, 1) := by decide +kernel
theorem dX10_keeps_40 : decode cX10_keeps 40 = .ok (.iastore, 1) := by decide +kernel
theorem dX10_keeps_41 : decode cX10_keeps 41 = .ok (.aload_n 1, 1) := by decide +kernel
theorem dX10_keeps_42 : decode cX10_keeps 42 = .ok (.bipush 24, 2) := by decide +kernel
theorem dX10_keeps_44 : decode cX10_keeps 44 = .ok (.iload_n 2, 1) := by decide +kernel
theorem dX10_keeps_45 : decode cX10_keeps 45 = .ok (.iadd, 1) := by decide +kernel
theorem dX10_keeps_46 : decode cX10_keeps 46 = .ok (.aload_n 0, 1) := by decide +kernel
theorem dX10_keeps_47 : decode cX10_keeps 47 = .ok (.getfield 23, 3) := by decide +kernel
theorem dX10_keeps_50 : decode cX10_keeps 50 = .ok (.iload_n 2, 1) := by decide +kernel
theorem dX10_keeps_51 : decode cX10_keeps 51 = .ok (.iaload, 1) := by decide +kernel
theorem dX10_keeps_52 : decode cX10_keeps 52 = .ok (.iastore, 1) := by decide +kernel
theorem dX10_keeps_53 : decode cX10_keeps 53 = .ok (.aload_n 1, 1) := by decide +kernel
theorem dX10_keeps_54 : decode cX10_keeps 54 = .ok (.bipush 32, 2) := by decide +kernel
theorem dX10_keeps_56 : decode cX10_keeps 56 = .ok (.iload_n 2, 1) := by decide +kernel
theorem dX10_keeps_57 : decode cX10_keeps 57 = .ok (.iadd, 1) := by decide +kernel
theorem dX10_keeps_58 : decode cX10_keeps 58 = .ok (.aload_n 0, 1) := by decide +kernel
theorem dX10_keeps_59 : decode cX10_keeps 59 = .ok (.getfield 26, 3) := by decide +kernel
theorem dX10_keeps_62 : decode cX10_keeps 62 = .ok (.iload_n 2, 1) := by decide +kernel
theorem dX10_keeps_63 : decode cX10_keeps 63 = .ok (.iaload, 1) := by decide +kernel
theorem dX10_keeps_64 : decode cX10_keeps 64 = .ok (.iastore, 1) := by decide +kernel
theorem dX10_keeps_65 : decode cX10_keeps 65 = .ok (.iinc 2 1, 3) := by decide +kernel
theorem dX10_keeps_68 : decode cX10_keeps 68 = .ok (.goto (-66), 3) := by decide +kernel
theorem dX10_keeps_71 : decode cX10_keeps 71 = .ok (.aload_n 1, 1) := by decide +kernel
theorem dX10_keeps_72 : decode cX10_keeps 72 = .ok (.bipush 40, 2) := by decide +kernel
theorem dX10_keeps_74 : decode cX10_keeps 74 = .ok (.aload_n 0, 1) := by decide +kernel
theorem dX10_keeps_75 : decode cX10_keeps 75 = .ok (.getfield 7, 3) := by decide +kernel
theorem dX10_keeps_78 : decode cX10_keeps 78 = .ok (.iastore, 1) := by decide +kernel
theorem dX10_keeps_79 : decode cX10_keeps 79 = .ok (.aload_n 1, 1) := by decide +kernel
theorem dX10_keeps_80 : decode cX10_keeps 80 = .ok (.bipush 41, 2) := by decide +kernel
theorem dX10_keeps_82 : decode cX10_keeps 82 = .ok (.aload_n 0, 1) := by decide +kernel
theorem dX10_keeps_83 : decode cX10_keeps 83 = .ok (.getfield 82, 3) := by decide +kernel
theorem dX10_keeps_86 : decode cX10_keeps 86 = .ok (.iastore, 1) := by decide +kernel
theorem dX10_keeps_87 : decode cX10_keeps 87 = .ok (.return_, 1) := by decide +kernel
theorem dX10_laysBack_0 : decode cX10_laysBack 0 = .ok (.iconst 0, 1) := by decide +kernel
theorem dX10_laysBack_1 : decode cX10_laysBack 1 = .ok (.istore_n 2, 1) := by decide +kernel
theorem dX10_laysBack_2 : decode cX10_laysBack 2 = .ok (.iload_n 2, 1) := by decide +kernel
theorem dX10_laysBack_3 : decode cX10_laysBack 3 = .ok (.bipush 8, 2) := by decide +kernel
theorem dX10_laysBack_5 : decode cX10_laysBack 5 = .ok (.if_icmp .ge 66, 3) := by decide +kernel
theorem dX10_laysBack_8 : decode cX10_laysBack 8 = .ok (.aload_n 0, 1) := by decide +kernel
theorem dX10_laysBack_9 : decode cX10_laysBack 9 = .ok (.getfield 13, 3) := by decide +kernel
theorem dX10_laysBack_12 : decode cX10_laysBack 12 = .ok (.iload_n 2, 1) := by decide +kernel
theorem dX10_laysBack_13 : decode cX10_laysBack 13 = .ok (.aload_n 1, 1) := by decide +kernel
theorem dX10_laysBack_14 : decode cX10_laysBack 14 = .ok (.iload_n 2, 1) := by decide +kernel
theorem dX10_laysBack_15 : decode cX10_laysBack 15 = .ok (.iaload, 1) := by decide +kernel
theorem dX10_laysBack_16 : decode cX10_laysBack 16 = .ok (.iastore, 1) := by decide +kernel
theorem dX10_laysBack_17 : decode cX10_laysBack 17 = .ok (.aload_n 0, 1) := by decide +kernel
theorem dX10_laysBack_18 : decode cX10_laysBack 18 = .ok (.getfield 17, 3) := by decide +kernel
theorem dX10_laysBack_21 : decode cX10_laysBack 21 = .ok (.iload_n 2, 1) := by decide +kernel
theorem dX10_laysBack_22 : decode cX10_laysBack 22 = .ok (.aload_n 1, 1) := by decide +kernel
theorem dX10_laysBack_23 : decode cX10_laysBack 23 = .ok (.bipush 8, 2) := by decide +kernel
theorem dX10_laysBack_25 : decode cX10_laysBack 25 = .ok (.iload_n 2, 1) := by decide +kernel
theorem dX10_laysBack_26 : decode cX10_laysBack 26 = .ok (.iadd, 1) := by decide +kernel
theorem dX10_laysBack_27 : decode cX10_laysBack 27 = .ok (.iaload, 1) := by decide +kernel
theorem dX10_laysBack_28 : decode cX10_laysBack 28 = .ok (.iastore, 1) := by decide +kernel
theorem dX10_laysBack_29 : decode cX10_laysBack 29 = .ok (.aload_n 0, 1) := by decide +kernel
theorem dX10_laysBack_30 : decode cX10_laysBack 30 = .ok (.getfield 20, 3) := by decide +kernel
theorem dX10_laysBack_33 : decode cX10_laysBack 33 = .ok (.iload_n 2, 1) := by decide +kernel
theorem dX10_laysBack_34 : decode cX10_laysBack 34 = .ok (.aload_n 1, 1) := by decide +kernel
theorem dX10_laysBack_35 : decode cX10_laysBack 35 = .ok (.bipush 16, 2) := by decide +kernel
theorem dX10_laysBack_37 : decode cX10_laysBack 37 = .ok (.iload_n 2, 1) := by decide +kernel
theorem dX10_laysBack_38 : decode cX10_laysBack 38 = .ok (.iadd, 1) := by decide +kernel
theorem dX10_laysBack_39 : decode cX10_laysBack 39 = .ok (.iaload, 1) := by decide +kernel
theorem dX10_laysBack_40 : decode cX10_laysBack 40 = .ok (.iastore, 1) := by decide +kernel
theorem dX10_laysBack_41 : decode cX10_laysBack 41 = .ok (.aload_n 0, 1) := by decide +kernel
theorem dX10_laysBack_42 : decode cX10_laysBack 42 = .ok (.getfield 23, 3) := by decide +kernel
theorem dX10_laysBack_45 : decode cX10_laysBack 45 = .ok (.iload_n 2, 1) := by decide +kernel
theorem dX10_laysBack_46 : decode cX10_laysBack 46 = .ok (.aload_n 1, 1) := by decide +kernel
theorem dX10_laysBack_47 : decode cX10_laysBack 47 = .ok (.bipush 24, 2) := by decide +kernel
theorem dX10_laysBack_49 : decode cX10_laysBack 49 = .ok (.iload_n 2, 1) := by decide +kernel
theorem dX10_laysBack_50 : decode cX10_laysBack 50 = .ok (.iadd, 1) := by decide +kernel
theorem dX10_laysBack_51 : decode cX10_laysBack 51 = .ok (.iaload, 1) := by decide +kernel
theorem dX10_laysBack_52 : decode cX10_laysBack 52 = .ok (.iastore, 1) := by decide +kernel
theorem dX10_laysBack_53 : decode cX10_laysBack 53 = .ok (.aload_n 0, 1) := by decide +kernel
theorem dX10_laysBack_54 : decode cX10_laysBack 54 = .ok (.getfield 26, 3) := by decide +kernel
theorem dX10_laysBack_57 : decode cX10_laysBack 57 = .ok (.iload_n 2, 1) := by decide +kernel
theorem dX10_laysBack_58 : decode cX10_laysBack 58 = .ok (.aload_n 1, 1) := by decide +kernel
theorem dX10_laysBack_59 : decode cX10_laysBack 59 = .ok (.bipush 32, 2) := by decide +kernel
theorem dX10_laysBack_61 : decode cX10_laysBack 61 = .ok (.iload_n 2, 1) := by decide +kernel
theorem dX10_laysBack_62 : decode cX10_laysBack 62 = .ok (.iadd, 1) := by decide +kernel
theorem dX10_laysBack_63 : decode cX10_laysBack 63 = .ok (.iaload, 1) := by decide +kernel
theorem dX10_laysBack_64 : decode cX10_laysBack 64 = .ok (.iastore, 1) := by decide +kernel
theorem dX10_laysBack_65 : decode cX10_laysBack 65 = .ok (.iinc 2 1, 3) := by decide +kernel
theorem dX10_laysBack_68 : decode cX10_laysBack 68 = .ok (.goto (-66), 3) := by decide +kernel
theorem dX10_laysBack_71 : decode cX10_laysBack 71 = .ok (.aload_n 0, 1) := by decide +kernel
theorem dX10_laysBack_72 : decode cX10_laysBack 72 = .ok (.aload_n 1, 1) := by decide +kernel
theorem dX10_laysBack_73 : decode cX10_laysBack 73 = .ok (.bipush 40, 2) := by decide +kernel
theorem dX10_laysBack_75 : decode cX10_laysBack 75 = .ok (.iaload, 1) := by decide +kernel
theorem dX10_laysBack_76 : decode cX10_laysBack 76 = .ok (.putfield 7, 3) := by decide +kernel
theorem dX10_laysBack_79 : decode cX10_laysBack 79 = .ok (.aload_n 0, 1) := by decide +kernel
theorem dX10_laysBack_80 : decode cX10_laysBack 80 = .ok (.aload_n 1, 1) := by decide +kernel
theorem dX10_laysBack_81 : decode cX10_laysBack 81 = .ok (.bipush 41, 2) := by decide +kernel
theorem dX10_laysBack_83 : decode cX10_laysBack 83 = .ok (.iaload, 1) := by decide +kernel
theorem dX10_laysBack_84 : decode cX10_laysBack 84 = .ok (.putfield 82, 3) := by decide +kernel
theorem dX10_laysBack_87 : decode cX10_laysBack 87 = .ok (.return_, 1) := by decide +kernel
theorem dX10_image_0 : decode cX10_image 0 = .ok (.aload_n 0, 1) := by decide +kernel
theorem dX10_image_1 : decode cX10_image 1 = .ok (.iconst 1, 1) := by decide +kernel
theorem dX10_image_2 : decode cX10_image 2 = .ok (.putfield 258, 3) := by decide +kernel
theorem dX10_image_5 : decode cX10_image 5 = .ok (.aload_n 0, 1) := by decide +kernel
theorem dX10_image_6 : decode cX10_image 6 = .ok (.aload_n 0, 1) := by decide +kernel
theorem dX10_image_7 : decode cX10_image 7 = .ok (.getfield 72, 3) := by decide +kernel
theorem dX10_image_10 : decode cX10_image 10 = .ok (.invokevirtual 115, 3) := by decide +kernel
theorem dX10_image_13 : decode cX10_image 13 = .ok (.aload_n 0, 1) := by decide +kernel
theorem dX10_image_14 : decode cX10_image 14 = .ok (.getfield 82, 3) := by decide +kernel
theorem dX10_image_17 : decode cX10_image 17 = .ok (.ireturn, 1) := by decide +kernel
theorem dX10_on_0 : decode cX10_on 0 = .ok (.aload_n 0, 1) := by decide +kernel
theorem dX10_on_1 : decode cX10_on 1 = .ok (.getfield 258, 3) := by decide +kernel
theorem dX10_on_4 : decode cX10_on 4 = .ok (.ifCond .ne 10, 3) := by decide +kernel
theorem dX10_on_7 : decode cX10_on 7 = .ok (.aload_n 0, 1) := by decide +kernel
theorem dX10_on_8 : decode cX10_on 8 = .ok (.bipush (-3), 2) := by decide +kernel
theorem dX10_on_10 : decode cX10_on 10 = .ok (.invokevirtual 87, 3) := by decide +kernel
theorem dX10_on_13 : decode cX10_on 13 = .ok (.ireturn, 1) := by decide +kernel
theorem dX10_on_14 : decode cX10_on 14 = .ok (.aload_n 0, 1) := by decide +kernel
theorem dX10_on_15 : decode cX10_on 15 = .ok (.aload_n 0, 1) := by decide +kernel
theorem dX10_on_16 : decode cX10_on 16 = .ok (.getfield 72, 3) := by decide +kernel
theorem dX10_on_19 : decode cX10_on 19 = .ok (.invokevirtual 122, 3) := by decide +kernel
theorem dX10_on_22 : decode cX10_on 22 = .ok (.aload_n 0, 1) := by decide +kernel
theorem dX10_on_23 : decode cX10_on 23 = .ok (.iconst 0, 1) := by decide +kernel
theorem dX10_on_24 : decode cX10_on 24 = .ok (.putfield 125, 3) := by decide +kernel
theorem dX10_on_27 : decode cX10_on 27 = .ok (.aload_n 0, 1) := by decide +kernel
theorem dX10_on_28 : decode cX10_on 28 = .ok (.getfield 82, 3) := by decide +kernel
theorem dX10_on_31 : decode cX10_on 31 = .ok (.ireturn, 1) := by decide +kernel
theorem dX10_count_0 : decode cX10_count 0 = .ok (.iload_n 1, 1) := by decide +kernel
theorem dX10_count_1 : decode cX10_count 1 = .ok (.bipush 11, 2) := by decide +kernel
theorem dX10_count_3 : decode cX10_count 3 = .ok (.bipush 16, 2) := by decide +kernel
theorem dX10_count_5 : decode cX10_count 5 = .ok (.invokestatic 78, 3) := by decide +kernel
theorem dX10_count_8 : decode cX10_count 8 = .ok (.ifCond .eq 13, 3) := by decide +kernel
theorem dX10_count_11 : decode cX10_count 11 = .ok (.aload_n 0, 1) := by decide +kernel
theorem dX10_count_12 : decode cX10_count 12 = .ok (.getfield 47, 3) := by decide +kernel
theorem dX10_count_15 : decode cX10_count 15 = .ok (.iload_n 1, 1) := by decide +kernel
theorem dX10_count_16 : decode cX10_count 16 = .ok (.bipush 10, 2) := by decide +kernel
theorem dX10_count_18 : decode cX10_count 18 = .ok (.isub, 1) := by decide +kernel
theorem dX10_count_19 : decode cX10_count 19 = .ok (.iaload, 1) := by decide +kernel
theorem dX10_count_20 : decode cX10_count 20 = .ok (.ireturn, 1) := by decide +kernel
theorem dX10_count_21 : decode cX10_count 21 = .ok (.iconst 0, 1) := by decide +kernel
theorem dX10_count_22 : decode cX10_count 22 = .ok (.istore_n 2, 1) := by decide +kernel
theorem dX10_count_23 : decode cX10_count 23 = .ok (.iload_n 1, 1) := by decide +kernel
theorem dX10_count_24 : decode cX10_count 24 = .ok (.tableswitch 83 0 4 #[36, 41, 46, 51, 56], 36) := by decide +kernel
theorem dX10_count_60 : decode cX10_count 60 = .ok (.aload_n 0, 1) := by decide +kernel
theorem dX10_count_61 : decode cX10_count 61 = .ok (.getfield 7, 3) := by decide +kernel
theorem dX10_count_64 : decode cX10_count 64 = .ok (.ireturn, 1) := by decide +kernel
theorem dX10_count_65 : decode cX10_count 65 = .ok (.aload_n 0, 1) := by decide +kernel
theorem dX10_count_66 : decode cX10_count 66 = .ok (.getfield 82, 3) := by decide +kernel
theorem dX10_count_69 : decode cX10_count 69 = .ok (.ireturn, 1) := by decide +kernel
theorem dX10_count_70 : decode cX10_count 70 = .ok (.aload_n 0, 1) := by decide +kernel
theorem dX10_count_71 : decode cX10_count 71 = .ok (.getfield 91, 3) := by decide +kernel
theorem dX10_count_74 : decode cX10_count 74 = .ok (.ireturn, 1) := by decide +kernel
theorem dX10_count_75 : decode cX10_count 75 = .ok (.aload_n 0, 1) := by decide +kernel
theorem dX10_count_76 : decode cX10_count 76 = .ok (.getfield 125, 3) := by decide +kernel
theorem dX10_count_79 : decode cX10_count 79 = .ok (.ireturn, 1) := by decide +kernel
theorem dX10_count_80 : decode cX10_count 80 = .ok (.iconst 0, 1) := by decide +kernel
theorem dX10_count_81 : decode cX10_count 81 = .ok (.istore_n 3, 1) := by decide +kernel
theorem dX10_count_82 : decode cX10_count 82 = .ok (.iload_n 3, 1) := by decide +kernel
theorem dX10_count_83 : decode cX10_count 83 = .ok (.aload_n 0, 1) := by decide +kernel
theorem dX10_count_84 : decode cX10_count 84 = .ok (.getfield 82, 3) := by decide +kernel
theorem dX10_count_87 : decode cX10_count 87 = .ok (.if_icmp .ge 18, 3) := by decide +kernel
theorem dX10_count_90 : decode cX10_count 90 = .ok (.iload_n 2, 1) := by decide +kernel
theorem dX10_count_91 : decode cX10_count 91 = .ok (.aload_n 0, 1) := by decide +kernel
theorem dX10_count_92 : decode cX10_count 92 = .ok (.getfield 26, 3) := by decide +kernel
theorem dX10_count_95 : decode cX10_count 95 = .ok (.iload_n 3, 1) := by decide +kernel
theorem dX10_count_96 : decode cX10_count 96 = .ok (.iaload, 1) := by decide +kernel
theorem dX10_count_97 : decode cX10_count 97 = .ok (.iadd, 1) := by decide +kernel
theorem dX10_count_98 : decode cX10_count 98 = .ok (.istore_n 2, 1) := by decide +kernel
theorem dX10_count_99 : decode cX10_count 99 = .ok (.iinc 3 1, 3) := by decide +kernel
theorem dX10_count_102 : decode cX10_count 102 = .ok (.goto (-20), 3) := by decide +kernel
theorem dX10_count_105 : decode cX10_count 105 = .ok (.iload_n 2, 1) := by decide +kernel
theorem dX10_count_106 : decode cX10_count 106 = .ok (.ireturn, 1) := by decide +kernel
theorem dX10_count_107 : decode cX10_count 107 = .ok (.bipush (-9), 2) := by decide +kernel
theorem dX10_count_109 : decode cX10_count 109 = .ok (.ireturn, 1) := by decide +kernel
end
section
theorem dL_law_0 : decode cL_law 0 = .ok (.new 7, 3) := by decide +kernel
theorem dL_law_3 : decode cL_law 3 = .ok (.dup, 1) := by decide +kernel
theorem dL_law_4 : decode cL_law 4 = .ok (.invokespecial 9, 3) := by decide +kernel
theorem dL_law_7 : decode cL_law 7 = .ok (.astore_n 1, 1) := by decide +kernel
theorem dL_law_8 : decode cL_law 8 = .ok (.new 10, 3) := by decide +kernel
theorem dL_law_11 : decode cL_law 11 = .ok (.dup, 1) := by decide +kernel
theorem dL_law_12 : decode cL_law 12 = .ok (.invokespecial 12, 3) := by decide +kernel
theorem dL_law_15 : decode cL_law 15 = .ok (.astore_n 2, 1) := by decide +kernel
theorem dL_law_16 : decode cL_law 16 = .ok (.iconst 0, 1) := by decide +kernel
theorem dL_law_17 : decode cL_law 17 = .ok (.istore_n 3, 1) := by decide +kernel
theorem dL_law_18 : decode cL_law 18 = .ok (.iload_n 3, 1) := by decide +kernel
theorem dL_law_19 : decode cL_law 19 = .ok (.aload_n 0, 1) := by decide +kernel
theorem dL_law_20 : decode cL_law 20 = .ok (.arraylength, 1) := by decide +kernel
theorem dL_law_21 : decode cL_law 21 = .ok (.iconst 5, 1) := by decide +kernel
theorem dL_law_22 : decode cL_law 22 = .ok (.isub, 1) := by decide +kernel
theorem dL_law_23 : decode cL_law 23 = .ok (.if_icmp .gt 1202, 3) := by decide +kernel
theorem dL_law_26 : decode cL_law 26 = .ok (.aload_n 0, 1) := by decide +kernel
theorem dL_law_27 : decode cL_law 27 = .ok (.iload_n 3, 1) := by decide +kernel
theorem dL_law_28 : decode cL_law 28 = .ok (.iaload, 1) := by decide +kernel
theorem dL_law_29 : decode cL_law 29 = .ok (.bipush 63, 2) := by decide +kernel
theorem dL_law_31 : decode cL_law 31 = .ok (.iand, 1) := by decide +kernel
theorem dL_law_32 : decode cL_law 32 = .ok (.tableswitch 1187 0 36 #[164, 187, 200, 223, 266, 279, 312, 355, 388, 421, 454, 477, 490, 513, 536, 589, 632, 665, 678, 711, 724, 768, 821, 844, 867, 890, 913, 946, 989, 1023, 1056, 1079, 1102, 1125, 1138, 1151, 1164], 164) := by decide +kernel
theorem dL_law_196 : decode cL_law 196 = .ok (.aload_n 1, 1) := by decide +kernel
theorem dL_law_197 : decode cL_law 197 = .ok (.aload_n 0, 1) := by decide +kernel
theorem dL_law_198 : decode cL_law 198 = .ok (.iload_n 3, 1) := by decide +kernel
theorem dL_law_199 : decode cL_law 199 = .ok (.iconst 1, 1) := by decide +kernel
theorem dL_law_200 : decode cL_law 200 = .ok (.iadd, 1) := by decide +kernel
theorem dL_law_201 : decode cL_law 201 = .ok (.iaload, 1) := by decide +kernel
theorem dL_law_202 : decode cL_law 202 = .ok (.invokevirtual 13, 3) := by decide +kernel
theorem dL_law_205 : decode cL_law 205 = .ok (.aload_n 2, 1) := by decide +kernel
theorem dL_law_206 : decode cL_law 206 = .ok (.aload_n 0, 1) := by decide +kernel
theorem dL_law_207 : decode cL_law 207 = .ok (.iload_n 3, 1) := by decide +kernel
theorem dL_law_208 : decode cL_law 208 = .ok (.iconst 1, 1) := by decide +kernel
theorem dL_law_209 : decode cL_law 209 = .ok (.iadd, 1) := by decide +kernel
theorem dL_law_210 : decode cL_law 210 = .ok (.iaload, 1) := by decide +kernel
theorem dL_law_211 : decode cL_law 211 = .ok (.invokevirtual 17, 3) := by decide +kernel
theorem dL_law_214 : decode cL_law 214 = .ok (.if_icmp .eq 1005, 3) := by decide +kernel
theorem dL_law_217 : decode cL_law 217 = .ok (.iconst 0, 1) := by decide +kernel
theorem dL_law_218 : decode cL_law 218 = .ok (.ireturn, 1) := by decide +kernel
theorem dL_law_219 : decode cL_law 219 = .ok (.aload_n 1, 1) := by decide +kernel
theorem dL_law_220 : decode cL_law 220 = .ok (.invokevirtual 18, 3) := by decide +kernel
theorem dL_law_223 : decode cL_law 223 = .ok (.aload_n 2, 1) := by decide +kernel
theorem dL_law_224 : decode cL_law 224 = .ok (.invokevirtual 22, 3) := by decide +kernel
theorem dL_law_227 : decode cL_law 227 = .ok (.if_icmp .eq 992, 3) := by decide +kernel
theorem dL_law_230 : decode cL_law 230 = .ok (.iconst 0, 1) := by decide +kernel
theorem dL_law_231 : decode cL_law 231 = .ok (.ireturn, 1) := by decide +kernel
theorem dL_law_232 : decode cL_law 232 = .ok (.aload_n 1, 1) := by decide +kernel
theorem dL_law_233 : decode cL_law 233 = .ok (.aload_n 0, 1) := by decide +kernel
theorem dL_law_234 : decode cL_law 234 = .ok (.iload_n 3, 1) := by decide +kernel
theorem dL_law_235 : decode cL_law 235 = .ok (.iconst 1, 1) := by decide +kernel
theorem dL_law_236 : decode cL_law 236 = .ok (.iadd, 1) := by decide +kernel
theorem dL_law_237 : decode cL_law 237 = .ok (.iaload, 1) := by decide +kernel
theorem dL_law_238 : decode cL_law 238 = .ok (.invokevirtual 23, 3) := by decide +kernel
theorem dL_law_241 : decode cL_law 241 = .ok (.aload_n 2, 1) := by decide +kernel
theorem dL_law_242 : decode cL_law 242 = .ok (.aload_n 0, 1) := by decide +kernel
theorem dL_law_243 : decode cL_law 243 = .ok (.iload_n 3, 1) := by decide +kernel
theorem dL_law_244 : decode cL_law 244 = .ok (.iconst 1, 1) := by decide +kernel
theorem dL_law_245 : decode cL_law 245 = .ok (.iadd, 1) := by decide +kernel
theorem dL_law_246 : decode cL_law 246 = .ok (.iaload, 1) := by decide +kernel
theorem dL_law_247 : decode cL_law 247 = .ok (.invokevirtual 26, 3) := by decide +kernel
theorem dL_law_250 : decode cL_law 250 = .ok (.if_icmp .eq 969, 3) := by decide +kernel
theorem dL_law_253 : decode cL_law 253 = .ok (.iconst 0, 1) := by decide +kernel
theorem dL_law_254 : decode cL_law 254 = .ok (.ireturn, 1) := by decide +kernel
theorem dL_law_255 : decode cL_law 255 = .ok (.aload_n 1, 1) := by decide +kernel
theorem dL_law_256 : decode cL_law 256 = .ok (.aload_n 0, 1) := by decide +kernel
theorem dL_law_257 : decode cL_law 257 = .ok (.iload_n 3, 1) := by decide +kernel
theorem dL_law_258 : decode cL_law 258 = .ok (.iconst 1, 1) := by decide +kernel
theorem dL_law_259 : decode cL_law 259 = .ok (.iadd, 1) := by decide +kernel
theorem dL_law_260 : decode cL_law 260 = .ok (.iaload, 1) := by decide +kernel
theorem dL_law_261 : decode cL_law 261 = .ok (.aload_n 0, 1) := by decide +kernel
theorem dL_law_262 : decode cL_law 262 = .ok (.iload_n 3, 1) := by decide +kernel
theorem dL_law_263 : decode cL_law 263 = .ok (.iconst 2, 1) := by decide +kernel
theorem dL_law_264 : decode cL_law 264 = .ok (.iadd, 1) := by decide +kernel
theorem dL_law_265 : decode cL_law 265 = .ok (.iaload, 1) := by decide +kernel
theorem dL_law_266 : decode cL_law 266 = .ok (.aload_n 0, 1) := by decide +kernel
theorem dL_law_267 : decode cL_law 267 = .ok (.iload_n 3, 1) := by decide +kernel
theorem dL_law_268 : decode cL_law 268 = .ok (.iconst 3, 1) := by decide +kernel
theorem dL_law_269 : decode cL_law 269 = .ok (.iadd, 1) := by decide +kernel
theorem dL_law_270 : decode cL_law 270 = .ok (.iaload, 1) := by decide +kernel
theorem dL_law_271 : decode cL_law 271 = .ok (.invokevirtual 27, 3) := by decide +kernel
theorem dL_law_274 : decode cL_law 274 = .ok (.aload_n 2, 1) := by decide +kernel
theorem dL_law_275 : decode cL_law 275 = .ok (.aload_n 0, 1) := by decide +kernel
theorem dL_law_276 : decode cL_law 276 = .ok (.iload_n 3, 1) := by decide +kernel
theorem dL_law_277 : decode cL_law 277 = .ok (.iconst 1, 1) := by decide +kernel
theorem dL_law_278 : decode cL_law 278 = .ok (.iadd, 1) := by decide +kernel
theorem dL_law_279 : decode cL_law 279 = .ok (.iaload, 1) := by decide +kernel
theorem dL_law_280 : decode cL_law 280 = .ok (.aload_n 0, 1) := by decide +kernel
theorem dL_law_281 : decode cL_law 281 = .ok (.iload_n 3, 1) := by decide +kernel
theorem dL_law_282 : decode cL_law 282 = .ok (.iconst 2, 1) := by decide +kernel
theorem dL_law_283 : decode cL_law 283 = .ok (.iadd, 1) := by decide +kernel
theorem dL_law_284 : decode cL_law 284 = .ok (.iaload, 1) := by decide +kernel
theorem dL_law_285 : decode cL_law 285 = .ok (.aload_n 0, 1) := by decide +kernel
theorem dL_law_286 : decode cL_law 286 = .ok (.iload_n 3, 1) := by decide +kernel
theorem dL_law_287 : decode cL_law 287 = .ok (.iconst 3, 1) := by decide +kernel
theorem dL_law_288 : decode cL_law 288 = .ok (.iadd, 1) := by decide +kernel
theorem dL_law_289 : decode cL_law 289 = .ok (.iaload, 1) := by decide +kernel
theorem dL_law_290 : decode cL_law 290 = .ok (.invokevirtual 31, 3) := by decide +kernel
theorem dL_law_293 : decode cL_law 293 = .ok (.if_icmp .eq 926, 3) := by decide +kernel
theorem dL_law_296 : decode cL_law 296 = .ok (.iconst 0, 1) := by decide +kernel
theorem dL_law_297 : decode cL_law 297 = .ok (.ireturn, 1) := by decide +kernel
theorem dL_law_298 : decode cL_law 298 = .ok (.aload_n 1, 1) := by decide +kernel
theorem dL_law_299 : decode cL_law 299 = .ok (.invokevirtual 32, 3) := by decide +kernel
theorem dL_law_302 : decode cL_law 302 = .ok (.aload_n 2, 1) := by decide +kernel
theorem dL_law_303 : decode cL_law 303 = .ok (.invokevirtual 35, 3) := by decide +kernel
theorem dL_law_306 : decode cL_law 306 = .ok (.if_icmp .eq 913, 3) := by decide +kernel
theorem dL_law_309 : decode cL_law 309 = .ok (.iconst 0, 1) := by decide +kernel
theorem dL_law_310 : decode cL_law 310 = .ok (.ireturn, 1) := by decide +kernel
theorem dL_law_311 : decode cL_law 311 = .ok (.aload_n 1, 1) := by decide +kernel
theorem dL_law_312 : decode cL_law 312 = .ok (.aload_n 0, 1) := by decide +kernel
theorem dL_law_313 : decode cL_law 313 = .ok (.iload_n 3, 1) := by decide +kernel
theorem dL_law_314 : decode cL_law 314 = .ok (.iconst 1, 1) := by decide +kernel
theorem dL_law_315 : decode cL_law 315 = .ok (.iadd, 1) := by decide +kernel
theorem dL_law_316 : decode cL_law 316 = .ok (.iaload, 1) := by decide +kernel
theorem dL_law_317 : decode cL_law 317 = .ok (.aload_n 0, 1) := by decide +kernel
theorem dL_law_318 : decode cL_law 318 = .ok (.iload_n 3, 1) := by decide +kernel
theorem dL_law_319 : decode cL_law 319 = .ok (.iconst 2, 1) := by decide +kernel
theorem dL_law_320 : decode cL_law 320 = .ok (.iadd, 1) := by decide +kernel
theorem dL_law_321 : decode cL_law 321 = .ok (.iaload, 1) := by decide +kernel
theorem dL_law_322 : decode cL_law 322 = .ok (.invokevirtual 36, 3) := by decide +kernel
theorem dL_law_325 : decode cL_law 325 = .ok (.aload_n 2, 1) := by decide +kernel
theorem dL_law_326 : decode cL_law 326 = .ok (.aload_n 0, 1) := by decide +kernel
theorem dL_law_327 : decode cL_law 327 = .ok (.iload_n 3, 1) := by decide +kernel
theorem dL_law_328 : decode cL_law 328 = .ok (.iconst 1, 1) := by decide +kernel
theorem dL_law_329 : decode cL_law 329 = .ok (.iadd, 1) := by decide +kernel
theorem dL_law_330 : decode cL_law 330 = .ok (.iaload, 1) := by decide +kernel
theorem dL_law_331 : decode cL_law 331 = .ok (.aload_n 0, 1) := by decide +kernel
theorem dL_law_332 : decode cL_law 332 = .ok (.iload_n 3, 1) := by decide +kernel
theorem dL_law_333 : decode cL_law 333 = .ok (.iconst 2, 1) := by decide +kernel
theorem dL_law_334 : decode cL_law 334 = .ok (.iadd, 1) := by decide +kernel
theorem dL_law_335 : decode cL_law 335 = .ok (.iaload, 1) := by decide +kernel
theorem dL_law_336 : decode cL_law 336 = .ok (.invokevirtual 40, 3) := by decide +kernel
theorem dL_law_339 : decode cL_law 339 = .ok (.if_icmp .eq 880, 3) := by decide +kernel
theorem dL_law_342 : decode cL_law 342 = .ok (.iconst 0, 1) := by decide +kernel
theorem dL_law_343 : decode cL_law 343 = .ok (.ireturn, 1) := by decide +kernel
theorem dL_law_344 : decode cL_law 344 = .ok (.aload_n 1, 1) := by decide +kernel
theorem dL_law_345 : decode cL_law 345 = .ok (.aload_n 0, 1) := by decide +kernel
theorem dL_law_346 : decode cL_law 346 = .ok (.iload_n 3, 1) := by decide +kernel
theorem dL_law_347 : decode cL_law 347 = .ok (.iconst 1, 1) := by decide +kernel
theorem dL_law_348 : decode cL_law 348 = .ok (.iadd, 1) := by decide +kernel
theorem dL_law_349 : decode cL_law 349 = .ok (.iaload, 1) := by decide +kernel
theorem dL_law_350 : decode cL_law 350 = .ok (.aload_n 0, 1) := by decide +kernel
theorem dL_law_351 : decode cL_law 351 = .ok (.iload_n 3, 1) := by decide +kernel
theorem dL_law_352 : decode cL_law 352 = .ok (.iconst 2, 1) := by decide +kernel
theorem dL_law_353 : decode cL_law 353 = .ok (.iadd, 1) := by decide +kernel
theorem dL_law_354 : decode cL_law 354 = .ok (.iaload, 1) := by decide +kernel
theorem dL_law_355 : decode cL_law 355 = .ok (.aload_n 0, 1) := by decide +kernel
theorem dL_law_356 : decode cL_law 356 = .ok (.iload_n 3, 1) := by decide +kernel
theorem dL_law_357 : decode cL_law 357 = .ok (.iconst 3, 1) := by decide +kernel
theorem dL_law_358 : decode cL_law 358 = .ok (.iadd, 1) := by decide +kernel
theorem dL_law_359 : decode cL_law 359 = .ok (.iaload, 1) := by decide +kernel
theorem dL_law_360 : decode cL_law 360 = .ok (.invokevirtual 41, 3) := by decide +kernel
theorem dL_law_363 : decode cL_law 363 = .ok (.aload_n 2, 1) := by decide +kernel
theorem dL_law_364 : decode cL_law 364 = .ok (.aload_n 0, 1) := by decide +kernel
theorem dL_law_365 : decode cL_law 365 = .ok (.iload_n 3, 1) := by decide +kernel
theorem dL_law_366 : decode cL_law 366 = .ok (.iconst 1, 1) := by decide +kernel
theorem dL_law_367 : decode cL_law 367 = .ok (.iadd, 1) := by decide +kernel
theorem dL_law_368 : decode cL_law 368 = .ok (.iaload, 1) := by decide +kernel
theorem dL_law_369 : decode cL_law 369 = .ok (.aload_n 0, 1) := by decide +kernel
theorem dL_law_370 : decode cL_law 370 = .ok (.iload_n 3, 1) := by decide +kernel
theorem dL_law_371 : decode cL_law 371 = .ok (.iconst 2, 1) := by decide +kernel
theorem dL_law_372 : decode cL_law 372 = .ok (.iadd, 1) := by decide +kernel
theorem dL_law_373 : decode cL_law 373 = .ok (.iaload, 1) := by decide +kernel
theorem dL_law_374 : decode cL_law 374 = .ok (.aload_n 0, 1) := by decide +kernel
theorem dL_law_375 : decode cL_law 375 = .ok (.iload_n 3, 1) := by decide +kernel
theorem dL_law_376 : decode cL_law 376 = .ok (.iconst 3, 1) := by decide +kernel
theorem dL_law_377 : decode cL_law 377 = .ok (.iadd, 1) := by decide +kernel
theorem dL_law_378 : decode cL_law 378 = .ok (.iaload, 1) := by decide +kernel
theorem dL_law_379 : decode cL_law 379 = .ok (.invokevirtual 44, 3) := by decide +kernel
theorem dL_law_382 : decode cL_law 382 = .ok (.if_icmp .eq 837, 3) := by decide +kernel
theorem dL_law_385 : decode cL_law 385 = .ok (.iconst 0, 1) := by decide +kernel
theorem dL_law_386 : decode cL_law 386 = .ok (.ireturn, 1) := by decide +kernel
theorem dL_law_387 : decode cL_law 387 = .ok (.aload_n 1, 1) := by decide +kernel
theorem dL_law_388 : decode cL_law 388 = .ok (.aload_n 0, 1) := by decide +kernel
theorem dL_law_389 : decode cL_law 389 = .ok (.iload_n 3, 1) := by decide +kernel
theorem dL_law_390 : decode cL_law 390 = .ok (.iconst 1, 1) := by decide +kernel
theorem dL_law_391 : decode cL_law 391 = .ok (.iadd, 1) := by decide +kernel
theorem dL_law_392 : decode cL_law 392 = .ok (.iaload, 1) := by decide +kernel
theorem dL_law_393 : decode cL_law 393 = .ok (.aload_n 0, 1) := by decide +kernel
theorem dL_law_394 : decode cL_law 394 = .ok (.iload_n 3, 1) := by decide +kernel
theorem dL_law_395 : decode cL_law 395 = .ok (.iconst 2, 1) := by decide +kernel
theorem dL_law_396 : decode cL_law 396 = .ok (.iadd, 1) := by decide +kernel
theorem dL_law_397 : decode cL_law 397 = .ok (.iaload, 1) := by decide +kernel
theorem dL_law_398 : decode cL_law 398 = .ok (.invokevirtual 45, 3) := by decide +kernel
theorem dL_law_401 : decode cL_law 401 = .ok (.aload_n 2, 1) := by decide +kernel
theorem dL_law_402 : decode cL_law 402 = .ok (.aload_n 0, 1) := by decide +kernel
theorem dL_law_403 : decode cL_law 403 = .ok (.iload_n 3, 1) := by decide +kernel
theorem dL_law_404 : decode cL_law 404 = .ok (.iconst 1, 1) := by decide +kernel
theorem dL_law_405 : decode cL_law 405 = .ok (.iadd, 1) := by decide +kernel
theorem dL_law_406 : decode cL_law 406 = .ok (.iaload, 1) := by decide +kernel
theorem dL_law_407 : decode cL_law 407 = .ok (.aload_n 0, 1) := by decide +kernel
theorem dL_law_408 : decode cL_law 408 = .ok (.iload_n 3, 1) := by decide +kernel
theorem dL_law_409 : decode cL_law 409 = .ok (.iconst 2, 1) := by decide +kernel
theorem dL_law_410 : decode cL_law 410 = .ok (.iadd, 1) := by decide +kernel
theorem dL_law_411 : decode cL_law 411 = .ok (.iaload, 1) := by decide +kernel
theorem dL_law_412 : decode cL_law 412 = .ok (.invokevirtual 48, 3) := by decide +kernel
theorem dL_law_415 : decode cL_law 415 = .ok (.if_icmp .eq 804, 3) := by decide +kernel
theorem dL_law_418 : decode cL_law 418 = .ok (.iconst 0, 1) := by decide +kernel
theorem dL_law_419 : decode cL_law 419 = .ok (.ireturn, 1) := by decide +kernel
theorem dL_law_420 : decode cL_law 420 = .ok (.aload_n 1, 1) := by decide +kernel
theorem dL_law_421 : decode cL_law 421 = .ok (.aload_n 0, 1) := by decide +kernel
theorem dL_law_422 : decode cL_law 422 = .ok (.iload_n 3, 1) := by decide +kernel
theorem dL_law_423 : decode cL_law 423 = .ok (.iconst 1, 1) := by decide +kernel
theorem dL_law_424 : decode cL_law 424 = .ok (.iadd, 1) := by decide +kernel
theorem dL_law_425 : decode cL_law 425 = .ok (.iaload, 1) := by decide +kernel
theorem dL_law_426 : decode cL_law 426 = .ok (.aload_n 0, 1) := by decide +kernel
theorem dL_law_427 : decode cL_law 427 = .ok (.iload_n 3, 1) := by decide +kernel
theorem dL_law_428 : decode cL_law 428 = .ok (.iconst 2, 1) := by decide +kernel
theorem dL_law_429 : decode cL_law 429 = .ok (.iadd, 1) := by decide +kernel
theorem dL_law_430 : decode cL_law 430 = .ok (.iaload, 1) := by decide +kernel
theorem dL_law_431 : decode cL_law 431 = .ok (.invokevirtual 49, 3) := by decide +kernel
theorem dL_law_434 : decode cL_law 434 = .ok (.aload_n 2, 1) := by decide +kernel
theorem dL_law_435 : decode cL_law 435 = .ok (.aload_n 0, 1) := by decide +kernel
theorem dL_law_436 : decode cL_law 436 = .ok (.iload_n 3, 1) := by decide +kernel
theorem dL_law_437 : decode cL_law 437 = .ok (.iconst 1, 1) := by decide +kernel
theorem dL_law_438 : decode cL_law 438 = .ok (.iadd, 1) := by decide +kernel
theorem dL_law_439 : decode cL_law 439 = .ok (.iaload, 1) := by decide +kernel
theorem dL_law_440 : decode cL_law 440 = .ok (.aload_n 0, 1) := by decide +kernel
theorem dL_law_441 : decode cL_law 441 = .ok (.iload_n 3, 1) := by decide +kernel
theorem dL_law_442 : decode cL_law 442 = .ok (.iconst 2, 1) := by decide +kernel
theorem dL_law_443 : decode cL_law 443 = .ok (.iadd, 1) := by decide +kernel
theorem dL_law_444 : decode cL_law 444 = .ok (.iaload, 1) := by decide +kernel
theorem dL_law_445 : decode cL_law 445 = .ok (.invokevirtual 52, 3) := by decide +kernel
theorem dL_law_448 : decode cL_law 448 = .ok (.if_icmp .eq 771, 3) := by decide +kernel
theorem dL_law_451 : decode cL_law 451 = .ok (.iconst 0, 1) := by decide +kernel
theorem dL_law_452 : decode cL_law 452 = .ok (.ireturn, 1) := by decide +kernel
theorem dL_law_453 : decode cL_law 453 = .ok (.aload_n 1, 1) := by decide +kernel
theorem dL_law_454 : decode cL_law 454 = .ok (.aload_n 0, 1) := by decide +kernel
theorem dL_law_455 : decode cL_law 455 = .ok (.iload_n 3, 1) := by decide +kernel
theorem dL_law_456 : decode cL_law 456 = .ok (.iconst 1, 1) := by decide +kernel
theorem dL_law_457 : decode cL_law 457 = .ok (.iadd, 1) := by decide +kernel
theorem dL_law_458 : decode cL_law 458 = .ok (.iaload, 1) := by decide +kernel
theorem dL_law_459 : decode cL_law 459 = .ok (.aload_n 0, 1) := by decide +kernel
theorem dL_law_460 : decode cL_law 460 = .ok (.iload_n 3, 1) := by decide +kernel
theorem dL_law_461 : decode cL_law 461 = .ok (.iconst 2, 1) := by decide +kernel
theorem dL_law_462 : decode cL_law 462 = .ok (.iadd, 1) := by decide +kernel
theorem dL_law_463 : decode cL_law 463 = .ok (.iaload, 1) := by decide +kernel
theorem dL_law_464 : decode cL_law 464 = .ok (.invokevirtual 53, 3) := by decide +kernel
theorem dL_law_467 : decode cL_law 467 = .ok (.aload_n 2, 1) := by decide +kernel
theorem dL_law_468 : decode cL_law 468 = .ok (.aload_n 0, 1) := by decide +kernel
theorem dL_law_469 : decode cL_law 469 = .ok (.iload_n 3, 1) := by decide +kernel
theorem dL_law_470 : decode cL_law 470 = .ok (.iconst 1, 1) := by decide +kernel
theorem dL_law_471 : decode cL_law 471 = .ok (.iadd, 1) := by decide +kernel
theorem dL_law_472 : decode cL_law 472 = .ok (.iaload, 1) := by decide +kernel
theorem dL_law_473 : decode cL_law 473 = .ok (.aload_n 0, 1) := by decide +kernel
theorem dL_law_474 : decode cL_law 474 = .ok (.iload_n 3, 1) := by decide +kernel
theorem dL_law_475 : decode cL_law 475 = .ok (.iconst 2, 1) := by decide +kernel
theorem dL_law_476 : decode cL_law 476 = .ok (.iadd, 1) := by decide +kernel
theorem dL_law_477 : decode cL_law 477 = .ok (.iaload, 1) := by decide +kernel
theorem dL_law_478 : decode cL_law 478 = .ok (.invokevirtual 56, 3) := by decide +kernel
theorem dL_law_481 : decode cL_law 481 = .ok (.if_icmp .eq 738, 3) := by decide +kernel
theorem dL_law_484 : decode cL_law 484 = .ok (.iconst 0, 1) := by decide +kernel
theorem dL_law_485 : decode cL_law 485 = .ok (.ireturn, 1) := by decide +kernel
theorem dL_law_486 : decode cL_law 486 = .ok (.aload_n 1, 1) := by decide +kernel
theorem dL_law_487 : decode cL_law 487 = .ok (.aload_n 0, 1) := by decide +kernel
theorem dL_law_488 : decode cL_law 488 = .ok (.iload_n 3, 1) := by decide +kernel
theorem dL_law_489 : decode cL_law 489 = .ok (.iconst 1, 1) := by decide +kernel
theorem dL_law_490 : decode cL_law 490 = .ok (.iadd, 1) := by decide +kernel
theorem dL_law_491 : decode cL_law 491 = .ok (.iaload, 1) := by decide +kernel
theorem dL_law_492 : decode cL_law 492 = .ok (.invokevirtual 57, 3) := by decide +kernel
theorem dL_law_495 : decode cL_law 495 = .ok (.aload_n 2, 1) := by decide +kernel
theorem dL_law_496 : decode cL_law 496 = .ok (.aload_n 0, 1) := by decide +kernel
theorem dL_law_497 : decode cL_law 497 = .ok (.iload_n 3, 1) := by decide +kernel
theorem dL_law_498 : decode cL_law 498 = .ok (.iconst 1, 1) := by decide +kernel
theorem dL_law_499 : decode cL_law 499 = .ok (.iadd, 1) := by decide +kernel
theorem dL_law_500 : decode cL_law 500 = .ok (.iaload, 1) := by decide +kernel
theorem dL_law_501 : decode cL_law 501 = .ok (.invokevirtual 60, 3) := by decide +kernel
theorem dL_law_504 : decode cL_law 504 = .ok (.if_icmp .eq 715, 3) := by decide +kernel
theorem dL_law_507 : decode cL_law 507 = .ok (.iconst 0, 1) := by decide +kernel
theorem dL_law_508 : decode cL_law 508 = .ok (.ireturn, 1) := by decide +kernel
theorem dL_law_509 : decode cL_law 509 = .ok (.aload_n 1, 1) := by decide +kernel
theorem dL_law_510 : decode cL_law 510 = .ok (.invokevirtual 61, 3) := by decide +kernel
theorem dL_law_513 : decode cL_law 513 = .ok (.aload_n 2, 1) := by decide +kernel
theorem dL_law_514 : decode cL_law 514 = .ok (.invokevirtual 64, 3) := by decide +kernel
theorem dL_law_517 : decode cL_law 517 = .ok (.if_icmp .eq 702, 3) := by decide +kernel
theorem dL_law_520 : decode cL_law 520 = .ok (.iconst 0, 1) := by decide +kernel
theorem dL_law_521 : decode cL_law 521 = .ok (.ireturn, 1) := by decide +kernel
theorem dL_law_522 : decode cL_law 522 = .ok (.aload_n 1, 1) := by decide +kernel
theorem dL_law_523 : decode cL_law 523 = .ok (.aload_n 0, 1) := by decide +kernel
theorem dL_law_524 : decode cL_law 524 = .ok (.iload_n 3, 1) := by decide +kernel
theorem dL_law_525 : decode cL_law 525 = .ok (.iconst 1, 1) := by decide +kernel
theorem dL_law_526 : decode cL_law 526 = .ok (.iadd, 1) := by decide +kernel
theorem dL_law_527 : decode cL_law 527 = .ok (.iaload, 1) := by decide +kernel
theorem dL_law_528 : decode cL_law 528 = .ok (.invokevirtual 65, 3) := by decide +kernel
theorem dL_law_531 : decode cL_law 531 = .ok (.aload_n 2, 1) := by decide +kernel
theorem dL_law_532 : decode cL_law 532 = .ok (.aload_n 0, 1) := by decide +kernel
theorem dL_law_533 : decode cL_law 533 = .ok (.iload_n 3, 1) := by decide +kernel
theorem dL_law_534 : decode cL_law 534 = .ok (.iconst 1, 1) := by decide +kernel
theorem dL_law_535 : decode cL_law 535 = .ok (.iadd, 1) := by decide +kernel
theorem dL_law_536 : decode cL_law 536 = .ok (.iaload, 1) := by decide +kernel
theorem dL_law_537 : decode cL_law 537 = .ok (.invokevirtual 68, 3) := by decide +kernel
theorem dL_law_540 : decode cL_law 540 = .ok (.if_icmp .eq 679, 3) := by decide +kernel
theorem dL_law_543 : decode cL_law 543 = .ok (.iconst 0, 1) := by decide +kernel
theorem dL_law_544 : decode cL_law 544 = .ok (.ireturn, 1) := by decide +kernel
theorem dL_law_545 : decode cL_law 545 = .ok (.aload_n 1, 1) := by decide +kernel
theorem dL_law_546 : decode cL_law 546 = .ok (.aload_n 0, 1) := by decide +kernel
theorem dL_law_547 : decode cL_law 547 = .ok (.iload_n 3, 1) := by decide +kernel
theorem dL_law_548 : decode cL_law 548 = .ok (.iconst 1, 1) := by decide +kernel
theorem dL_law_549 : decode cL_law 549 = .ok (.iadd, 1) := by decide +kernel
theorem dL_law_550 : decode cL_law 550 = .ok (.iaload, 1) := by decide +kernel
theorem dL_law_551 : decode cL_law 551 = .ok (.invokevirtual 69, 3) := by decide +kernel
theorem dL_law_554 : decode cL_law 554 = .ok (.aload_n 2, 1) := by decide +kernel
theorem dL_law_555 : decode cL_law 555 = .ok (.aload_n 0, 1) := by decide +kernel
theorem dL_law_556 : decode cL_law 556 = .ok (.iload_n 3, 1) := by decide +kernel
theorem dL_law_557 : decode cL_law 557 = .ok (.iconst 1, 1) := by decide +kernel
theorem dL_law_558 : decode cL_law 558 = .ok (.iadd, 1) := by decide +kernel
theorem dL_law_559 : decode cL_law 559 = .ok (.iaload, 1) := by decide +kernel
theorem dL_law_560 : decode cL_law 560 = .ok (.invokevirtual 72, 3) := by decide +kernel
theorem dL_law_563 : decode cL_law 563 = .ok (.if_icmp .eq 656, 3) := by decide +kernel
theorem dL_law_566 : decode cL_law 566 = .ok (.iconst 0, 1) := by decide +kernel
theorem dL_law_567 : decode cL_law 567 = .ok (.ireturn, 1) := by decide +kernel
theorem dL_law_568 : decode cL_law 568 = .ok (.aload_n 1, 1) := by decide +kernel
theorem dL_law_569 : decode cL_law 569 = .ok (.aload_n 0, 1) := by decide +kernel
theorem dL_law_570 : decode cL_law 570 = .ok (.iload_n 3, 1) := by decide +kernel
theorem dL_law_571 : decode cL_law 571 = .ok (.iconst 1, 1) := by decide +kernel
theorem dL_law_572 : decode cL_law 572 = .ok (.iadd, 1) := by decide +kernel
theorem dL_law_573 : decode cL_law 573 = .ok (.iaload, 1) := by decide +kernel
theorem dL_law_574 : decode cL_law 574 = .ok (.aload_n 0, 1) := by decide +kernel
theorem dL_law_575 : decode cL_law 575 = .ok (.iload_n 3, 1) := by decide +kernel
theorem dL_law_576 : decode cL_law 576 = .ok (.iconst 2, 1) := by decide +kernel
theorem dL_law_577 : decode cL_law 577 = .ok (.iadd, 1) := by decide +kernel
theorem dL_law_578 : decode cL_law 578 = .ok (.iaload, 1) := by decide +kernel
theorem dL_law_579 : decode cL_law 579 = .ok (.aload_n 0, 1) := by decide +kernel
theorem dL_law_580 : decode cL_law 580 = .ok (.iload_n 3, 1) := by decide +kernel
theorem dL_law_581 : decode cL_law 581 = .ok (.iconst 3, 1) := by decide +kernel
theorem dL_law_582 : decode cL_law 582 = .ok (.iadd, 1) := by decide +kernel
theorem dL_law_583 : decode cL_law 583 = .ok (.iaload, 1) := by decide +kernel
theorem dL_law_584 : decode cL_law 584 = .ok (.aload_n 0, 1) := by decide +kernel
theorem dL_law_585 : decode cL_law 585 = .ok (.iload_n 3, 1) := by decide +kernel
theorem dL_law_586 : decode cL_law 586 = .ok (.iconst 4, 1) := by decide +kernel
theorem dL_law_587 : decode cL_law 587 = .ok (.iadd, 1) := by decide +kernel
theorem dL_law_588 : decode cL_law 588 = .ok (.iaload, 1) := by decide +kernel
theorem dL_law_589 : decode cL_law 589 = .ok (.invokevirtual 73, 3) := by decide +kernel
theorem dL_law_592 : decode cL_law 592 = .ok (.aload_n 2, 1) := by decide +kernel
theorem dL_law_593 : decode cL_law 593 = .ok (.aload_n 0, 1) := by decide +kernel
theorem dL_law_594 : decode cL_law 594 = .ok (.iload_n 3, 1) := by decide +kernel
theorem dL_law_595 : decode cL_law 595 = .ok (.iconst 1, 1) := by decide +kernel
theorem dL_law_596 : decode cL_law 596 = .ok (.iadd, 1) := by decide +kernel
theorem dL_law_597 : decode cL_law 597 = .ok (.iaload, 1) := by decide +kernel
theorem dL_law_598 : decode cL_law 598 = .ok (.aload_n 0, 1) := by decide +kernel
theorem dL_law_599 : decode cL_law 599 = .ok (.iload_n 3, 1) := by decide +kernel
theorem dL_law_600 : decode cL_law 600 = .ok (.iconst 2, 1) := by decide +kernel
theorem dL_law_601 : decode cL_law 601 = .ok (.iadd, 1) := by decide +kernel
theorem dL_law_602 : decode cL_law 602 = .ok (.iaload, 1) := by decide +kernel
theorem dL_law_603 : decode cL_law 603 = .ok (.aload_n 0, 1) := by decide +kernel
theorem dL_law_604 : decode cL_law 604 = .ok (.iload_n 3, 1) := by decide +kernel
theorem dL_law_605 : decode cL_law 605 = .ok (.iconst 3, 1) := by decide +kernel
theorem dL_law_606 : decode cL_law 606 = .ok (.iadd, 1) := by decide +kernel
theorem dL_law_607 : decode cL_law 607 = .ok (.iaload, 1) := by decide +kernel
theorem dL_law_608 : decode cL_law 608 = .ok (.aload_n 0, 1) := by decide +kernel
theorem dL_law_609 : decode cL_law 609 = .ok (.iload_n 3, 1) := by decide +kernel
theorem dL_law_610 : decode cL_law 610 = .ok (.iconst 4, 1) := by decide +kernel
theorem dL_law_611 : decode cL_law 611 = .ok (.iadd, 1) := by decide +kernel
theorem dL_law_612 : decode cL_law 612 = .ok (.iaload, 1) := by decide +kernel
theorem dL_law_613 : decode cL_law 613 = .ok (.invokevirtual 77, 3) := by decide +kernel
theorem dL_law_616 : decode cL_law 616 = .ok (.if_icmp .eq 603, 3) := by decide +kernel
theorem dL_law_619 : decode cL_law 619 = .ok (.iconst 0, 1) := by decide +kernel
theorem dL_law_620 : decode cL_law 620 = .ok (.ireturn, 1) := by decide +kernel
theorem dL_law_621 : decode cL_law 621 = .ok (.aload_n 1, 1) := by decide +kernel
theorem dL_law_622 : decode cL_law 622 = .ok (.aload_n 0, 1) := by decide +kernel
theorem dL_law_623 : decode cL_law 623 = .ok (.iload_n 3, 1) := by decide +kernel
theorem dL_law_624 : decode cL_law 624 = .ok (.iconst 1, 1) := by decide +kernel
theorem dL_law_625 : decode cL_law 625 = .ok (.iadd, 1) := by decide +kernel
theorem dL_law_626 : decode cL_law 626 = .ok (.iaload, 1) := by decide +kernel
theorem dL_law_627 : decode cL_law 627 = .ok (.aload_n 0, 1) := by decide +kernel
theorem dL_law_628 : decode cL_law 628 = .ok (.iload_n 3, 1) := by decide +kernel
theorem dL_law_629 : decode cL_law 629 = .ok (.iconst 2, 1) := by decide +kernel
theorem dL_law_630 : decode cL_law 630 = .ok (.iadd, 1) := by decide +kernel
theorem dL_law_631 : decode cL_law 631 = .ok (.iaload, 1) := by decide +kernel
theorem dL_law_632 : decode cL_law 632 = .ok (.aload_n 0, 1) := by decide +kernel
theorem dL_law_633 : decode cL_law 633 = .ok (.iload_n 3, 1) := by decide +kernel
theorem dL_law_634 : decode cL_law 634 = .ok (.iconst 3, 1) := by decide +kernel
theorem dL_law_635 : decode cL_law 635 = .ok (.iadd, 1) := by decide +kernel
theorem dL_law_636 : decode cL_law 636 = .ok (.iaload, 1) := by decide +kernel
theorem dL_law_637 : decode cL_law 637 = .ok (.invokevirtual 78, 3) := by decide +kernel
theorem dL_law_640 : decode cL_law 640 = .ok (.aload_n 2, 1) := by decide +kernel
theorem dL_law_641 : decode cL_law 641 = .ok (.aload_n 0, 1) := by decide +kernel
theorem dL_law_642 : decode cL_law 642 = .ok (.iload_n 3, 1) := by decide +kernel
theorem dL_law_643 : decode cL_law 643 = .ok (.iconst 1, 1) := by decide +kernel
theorem dL_law_644 : decode cL_law 644 = .ok (.iadd, 1) := by decide +kernel
theorem dL_law_645 : decode cL_law 645 = .ok (.iaload, 1) := by decide +kernel
theorem dL_law_646 : decode cL_law 646 = .ok (.aload_n 0, 1) := by decide +kernel
theorem dL_law_647 : decode cL_law 647 = .ok (.iload_n 3, 1) := by decide +kernel
theorem dL_law_648 : decode cL_law 648 = .ok (.iconst 2, 1) := by decide +kernel
theorem dL_law_649 : decode cL_law 649 = .ok (.iadd, 1) := by decide +kernel
theorem dL_law_650 : decode cL_law 650 = .ok (.iaload, 1) := by decide +kernel
theorem dL_law_651 : decode cL_law 651 = .ok (.aload_n 0, 1) := by decide +kernel
theorem dL_law_652 : decode cL_law 652 = .ok (.iload_n 3, 1) := by decide +kernel
theorem dL_law_653 : decode cL_law 653 = .ok (.iconst 3, 1) := by decide +kernel
theorem dL_law_654 : decode cL_law 654 = .ok (.iadd, 1) := by decide +kernel
theorem dL_law_655 : decode cL_law 655 = .ok (.iaload, 1) := by decide +kernel
theorem dL_law_656 : decode cL_law 656 = .ok (.invokevirtual 81, 3) := by decide +kernel
theorem dL_law_659 : decode cL_law 659 = .ok (.if_icmp .eq 560, 3) := by decide +kernel
theorem dL_law_662 : decode cL_law 662 = .ok (.iconst 0, 1) := by decide +kernel
theorem dL_law_663 : decode cL_law 663 = .ok (.ireturn, 1) := by decide +kernel
theorem dL_law_664 : decode cL_law 664 = .ok (.aload_n 1, 1) := by decide +kernel
theorem dL_law_665 : decode cL_law 665 = .ok (.aload_n 0, 1) := by decide +kernel
theorem dL_law_666 : decode cL_law 666 = .ok (.iload_n 3, 1) := by decide +kernel
theorem dL_law_667 : decode cL_law 667 = .ok (.iconst 1, 1) := by decide +kernel
theorem dL_law_668 : decode cL_law 668 = .ok (.iadd, 1) := by decide +kernel
theorem dL_law_669 : decode cL_law 669 = .ok (.iaload, 1) := by decide +kernel
theorem dL_law_670 : decode cL_law 670 = .ok (.aload_n 0, 1) := by decide +kernel
theorem dL_law_671 : decode cL_law 671 = .ok (.iload_n 3, 1) := by decide +kernel
theorem dL_law_672 : decode cL_law 672 = .ok (.iconst 2, 1) := by decide +kernel
theorem dL_law_673 : decode cL_law 673 = .ok (.iadd, 1) := by decide +kernel
theorem dL_law_674 : decode cL_law 674 = .ok (.iaload, 1) := by decide +kernel
theorem dL_law_675 : decode cL_law 675 = .ok (.invokevirtual 82, 3) := by decide +kernel
theorem dL_law_678 : decode cL_law 678 = .ok (.aload_n 2, 1) := by decide +kernel
theorem dL_law_679 : decode cL_law 679 = .ok (.aload_n 0, 1) := by decide +kernel
theorem dL_law_680 : decode cL_law 680 = .ok (.iload_n 3, 1) := by decide +kernel
theorem dL_law_681 : decode cL_law 681 = .ok (.iconst 1, 1) := by decide +kernel
theorem dL_law_682 : decode cL_law 682 = .ok (.iadd, 1) := by decide +kernel
theorem dL_law_683 : decode cL_law 683 = .ok (.iaload, 1) := by decide +kernel
theorem dL_law_684 : decode cL_law 684 = .ok (.aload_n 0, 1) := by decide +kernel
theorem dL_law_685 : decode cL_law 685 = .ok (.iload_n 3, 1) := by decide +kernel
theorem dL_law_686 : decode cL_law 686 = .ok (.iconst 2, 1) := by decide +kernel
theorem dL_law_687 : decode cL_law 687 = .ok (.iadd, 1) := by decide +kernel
theorem dL_law_688 : decode cL_law 688 = .ok (.iaload, 1) := by decide +kernel
theorem dL_law_689 : decode cL_law 689 = .ok (.invokevirtual 85, 3) := by decide +kernel
theorem dL_law_692 : decode cL_law 692 = .ok (.if_icmp .eq 527, 3) := by decide +kernel
theorem dL_law_695 : decode cL_law 695 = .ok (.iconst 0, 1) := by decide +kernel
theorem dL_law_696 : decode cL_law 696 = .ok (.ireturn, 1) := by decide +kernel
theorem dL_law_697 : decode cL_law 697 = .ok (.aload_n 1, 1) := by decide +kernel
theorem dL_law_698 : decode cL_law 698 = .ok (.invokevirtual 86, 3) := by decide +kernel
theorem dL_law_701 : decode cL_law 701 = .ok (.aload_n 2, 1) := by decide +kernel
theorem dL_law_702 : decode cL_law 702 = .ok (.invokevirtual 89, 3) := by decide +kernel
theorem dL_law_705 : decode cL_law 705 = .ok (.if_icmp .eq 514, 3) := by decide +kernel
theorem dL_law_708 : decode cL_law 708 = .ok (.iconst 0, 1) := by decide +kernel
theorem dL_law_709 : decode cL_law 709 = .ok (.ireturn, 1) := by decide +kernel
theorem dL_law_710 : decode cL_law 710 = .ok (.aload_n 1, 1) := by decide +kernel
theorem dL_law_711 : decode cL_law 711 = .ok (.aload_n 0, 1) := by decide +kernel
theorem dL_law_712 : decode cL_law 712 = .ok (.iload_n 3, 1) := by decide +kernel
theorem dL_law_713 : decode cL_law 713 = .ok (.iconst 1, 1) := by decide +kernel
theorem dL_law_714 : decode cL_law 714 = .ok (.iadd, 1) := by decide +kernel
theorem dL_law_715 : decode cL_law 715 = .ok (.iaload, 1) := by decide +kernel
theorem dL_law_716 : decode cL_law 716 = .ok (.aload_n 0, 1) := by decide +kernel
theorem dL_law_717 : decode cL_law 717 = .ok (.iload_n 3, 1) := by decide +kernel
theorem dL_law_718 : decode cL_law 718 = .ok (.iconst 2, 1) := by decide +kernel
theorem dL_law_719 : decode cL_law 719 = .ok (.iadd, 1) := by decide +kernel
theorem dL_law_720 : decode cL_law 720 = .ok (.iaload, 1) := by decide +kernel
theorem dL_law_721 : decode cL_law 721 = .ok (.invokevirtual 90, 3) := by decide +kernel
theorem dL_law_724 : decode cL_law 724 = .ok (.aload_n 2, 1) := by decide +kernel
theorem dL_law_725 : decode cL_law 725 = .ok (.aload_n 0, 1) := by decide +kernel
theorem dL_law_726 : decode cL_law 726 = .ok (.iload_n 3, 1) := by decide +kernel
theorem dL_law_727 : decode cL_law 727 = .ok (.iconst 1, 1) := by decide +kernel
theorem dL_law_728 : decode cL_law 728 = .ok (.iadd, 1) := by decide +kernel
theorem dL_law_729 : decode cL_law 729 = .ok (.iaload, 1) := by decide +kernel
theorem dL_law_730 : decode cL_law 730 = .ok (.aload_n 0, 1) := by decide +kernel
theorem dL_law_731 : decode cL_law 731 = .ok (.iload_n 3, 1) := by decide +kernel
theorem dL_law_732 : decode cL_law 732 = .ok (.iconst 2, 1) := by decide +kernel
theorem dL_law_733 : decode cL_law 733 = .ok (.iadd, 1) := by decide +kernel
theorem dL_law_734 : decode cL_law 734 = .ok (.iaload, 1) := by decide +kernel
theorem dL_law_735 : decode cL_law 735 = .ok (.invokevirtual 93, 3) := by decide +kernel
theorem dL_law_738 : decode cL_law 738 = .ok (.if_icmp .eq 481, 3) := by decide +kernel
theorem dL_law_741 : decode cL_law 741 = .ok (.iconst 0, 1) := by decide +kernel
theorem dL_law_742 : decode cL_law 742 = .ok (.ireturn, 1) := by decide +kernel
theorem dL_law_743 : decode cL_law 743 = .ok (.aload_n 1, 1) := by decide +kernel
theorem dL_law_744 : decode cL_law 744 = .ok (.invokevirtual 94, 3) := by decide +kernel
theorem dL_law_747 : decode cL_law 747 = .ok (.aload_n 2, 1) := by decide +kernel
theorem dL_law_748 : decode cL_law 748 = .ok (.invokevirtual 97, 3) := by decide +kernel
theorem dL_law_751 : decode cL_law 751 = .ok (.if_icmp .eq 468, 3) := by decide +kernel
theorem dL_law_754 : decode cL_law 754 = .ok (.iconst 0, 1) := by decide +kernel
theorem dL_law_755 : decode cL_law 755 = .ok (.ireturn, 1) := by decide +kernel
theorem dL_law_756 : decode cL_law 756 = .ok (.aload_n 1, 1) := by decide +kernel
theorem dL_law_757 : decode cL_law 757 = .ok (.aload_n 0, 1) := by decide +kernel
theorem dL_law_758 : decode cL_law 758 = .ok (.iload_n 3, 1) := by decide +kernel
theorem dL_law_759 : decode cL_law 759 = .ok (.iconst 1, 1) := by decide +kernel
theorem dL_law_760 : decode cL_law 760 = .ok (.iadd, 1) := by decide +kernel
theorem dL_law_761 : decode cL_law 761 = .ok (.iaload, 1) := by decide +kernel
theorem dL_law_762 : decode cL_law 762 = .ok (.aload_n 0, 1) := by decide +kernel
theorem dL_law_763 : decode cL_law 763 = .ok (.iload_n 3, 1) := by decide +kernel
theorem dL_law_764 : decode cL_law 764 = .ok (.iconst 2, 1) := by decide +kernel
theorem dL_law_765 : decode cL_law 765 = .ok (.iadd, 1) := by decide +kernel
theorem dL_law_766 : decode cL_law 766 = .ok (.iaload, 1) := by decide +kernel
theorem dL_law_767 : decode cL_law 767 = .ok (.aload_n 0, 1) := by decide +kernel
theorem dL_law_768 : decode cL_law 768 = .ok (.iload_n 3, 1) := by decide +kernel
theorem dL_law_769 : decode cL_law 769 = .ok (.iconst 3, 1) := by decide +kernel
theorem dL_law_770 : decode cL_law 770 = .ok (.iadd, 1) := by decide +kernel
theorem dL_law_771 : decode cL_law 771 = .ok (.iaload, 1) := by decide +kernel
theorem dL_law_772 : decode cL_law 772 = .ok (.invokevirtual 98, 3) := by decide +kernel
theorem dL_law_775 : decode cL_law 775 = .ok (.aload_n 2, 1) := by decide +kernel
theorem dL_law_776 : decode cL_law 776 = .ok (.aload_n 0, 1) := by decide +kernel
theorem dL_law_777 : decode cL_law 777 = .ok (.iload_n 3, 1) := by decide +kernel
theorem dL_law_778 : decode cL_law 778 = .ok (.iconst 1, 1) := by decide +kernel
theorem dL_law_779 : decode cL_law 779 = .ok (.iadd, 1) := by decide +kernel
theorem dL_law_780 : decode cL_law 780 = .ok (.iaload, 1) := by decide +kernel
theorem dL_law_781 : decode cL_law 781 = .ok (.aload_n 0, 1) := by decide +kernel
theorem dL_law_782 : decode cL_law 782 = .ok (.iload_n 3, 1) := by decide +kernel
theorem dL_law_783 : decode cL_law 783 = .ok (.iconst 2, 1) := by decide +kernel
theorem dL_law_784 : decode cL_law 784 = .ok (.iadd, 1) := by decide +kernel
theorem dL_law_785 : decode cL_law 785 = .ok (.iaload, 1) := by decide +kernel
theorem dL_law_786 : decode cL_law 786 = .ok (.aload_n 0, 1) := by decide +kernel
theorem dL_law_787 : decode cL_law 787 = .ok (.iload_n 3, 1) := by decide +kernel
theorem dL_law_788 : decode cL_law 788 = .ok (.iconst 3, 1) := by decide +kernel
theorem dL_law_789 : decode cL_law 789 = .ok (.iadd, 1) := by decide +kernel
theorem dL_law_790 : decode cL_law 790 = .ok (.iaload, 1) := by decide +kernel
theorem dL_law_791 : decode cL_law 791 = .ok (.invokevirtual 102, 3) := by decide +kernel
theorem dL_law_794 : decode cL_law 794 = .ok (.lcmp, 1) := by decide +kernel
theorem dL_law_795 : decode cL_law 795 = .ok (.ifCond .eq 424, 3) := by decide +kernel
theorem dL_law_798 : decode cL_law 798 = .ok (.iconst 0, 1) := by decide +kernel
theorem dL_law_799 : decode cL_law 799 = .ok (.ireturn, 1) := by decide +kernel
theorem dL_law_800 : decode cL_law 800 = .ok (.aload_n 1, 1) := by decide +kernel
theorem dL_law_801 : decode cL_law 801 = .ok (.aload_n 0, 1) := by decide +kernel
theorem dL_law_802 : decode cL_law 802 = .ok (.iload_n 3, 1) := by decide +kernel
theorem dL_law_803 : decode cL_law 803 = .ok (.iconst 1, 1) := by decide +kernel
theorem dL_law_804 : decode cL_law 804 = .ok (.iadd, 1) := by decide +kernel
theorem dL_law_805 : decode cL_law 805 = .ok (.iaload, 1) := by decide +kernel
theorem dL_law_806 : decode cL_law 806 = .ok (.aload_n 0, 1) := by decide +kernel
theorem dL_law_807 : decode cL_law 807 = .ok (.iload_n 3, 1) := by decide +kernel
theorem dL_law_808 : decode cL_law 808 = .ok (.iconst 2, 1) := by decide +kernel
theorem dL_law_809 : decode cL_law 809 = .ok (.iadd, 1) := by decide +kernel
theorem dL_law_810 : decode cL_law 810 = .ok (.iaload, 1) := by decide +kernel
theorem dL_law_811 : decode cL_law 811 = .ok (.aload_n 0, 1) := by decide +kernel
theorem dL_law_812 : decode cL_law 812 = .ok (.iload_n 3, 1) := by decide +kernel
theorem dL_law_813 : decode cL_law 813 = .ok (.iconst 3, 1) := by decide +kernel
theorem dL_law_814 : decode cL_law 814 = .ok (.iadd, 1) := by decide +kernel
theorem dL_law_815 : decode cL_law 815 = .ok (.iaload, 1) := by decide +kernel
theorem dL_law_816 : decode cL_law 816 = .ok (.aload_n 0, 1) := by decide +kernel
theorem dL_law_817 : decode cL_law 817 = .ok (.iload_n 3, 1) := by decide +kernel
theorem dL_law_818 : decode cL_law 818 = .ok (.iconst 4, 1) := by decide +kernel
theorem dL_law_819 : decode cL_law 819 = .ok (.iadd, 1) := by decide +kernel
theorem dL_law_820 : decode cL_law 820 = .ok (.iaload, 1) := by decide +kernel
theorem dL_law_821 : decode cL_law 821 = .ok (.invokevirtual 103, 3) := by decide +kernel
theorem dL_law_824 : decode cL_law 824 = .ok (.aload_n 2, 1) := by decide +kernel
theorem dL_law_825 : decode cL_law 825 = .ok (.aload_n 0, 1) := by decide +kernel
theorem dL_law_826 : decode cL_law 826 = .ok (.iload_n 3, 1) := by decide +kernel
theorem dL_law_827 : decode cL_law 827 = .ok (.iconst 1, 1) := by decide +kernel
theorem dL_law_828 : decode cL_law 828 = .ok (.iadd, 1) := by decide +kernel
theorem dL_law_829 : decode cL_law 829 = .ok (.iaload, 1) := by decide +kernel
theorem dL_law_830 : decode cL_law 830 = .ok (.aload_n 0, 1) := by decide +kernel
theorem dL_law_831 : decode cL_law 831 = .ok (.iload_n 3, 1) := by decide +kernel
theorem dL_law_832 : decode cL_law 832 = .ok (.iconst 2, 1) := by decide +kernel
theorem dL_law_833 : decode cL_law 833 = .ok (.iadd, 1) := by decide +kernel
theorem dL_law_834 : decode cL_law 834 = .ok (.iaload, 1) := by decide +kernel
theorem dL_law_835 : decode cL_law 835 = .ok (.aload_n 0, 1) := by decide +kernel
theorem dL_law_836 : decode cL_law 836 = .ok (.iload_n 3, 1) := by decide +kernel
theorem dL_law_837 : decode cL_law 837 = .ok (.iconst 3, 1) := by decide +kernel
theorem dL_law_838 : decode cL_law 838 = .ok (.iadd, 1) := by decide +kernel
theorem dL_law_839 : decode cL_law 839 = .ok (.iaload, 1) := by decide +kernel
theorem dL_law_840 : decode cL_law 840 = .ok (.aload_n 0, 1) := by decide +kernel
theorem dL_law_841 : decode cL_law 841 = .ok (.iload_n 3, 1) := by decide +kernel
theorem dL_law_842 : decode cL_law 842 = .ok (.iconst 4, 1) := by decide +kernel
theorem dL_law_843 : decode cL_law 843 = .ok (.iadd, 1) := by decide +kernel
theorem dL_law_844 : decode cL_law 844 = .ok (.iaload, 1) := by decide +kernel
theorem dL_law_845 : decode cL_law 845 = .ok (.invokevirtual 106, 3) := by decide +kernel
theorem dL_law_848 : decode cL_law 848 = .ok (.if_icmp .eq 371, 3) := by decide +kernel
theorem dL_law_851 : decode cL_law 851 = .ok (.iconst 0, 1) := by decide +kernel
theorem dL_law_852 : decode cL_law 852 = .ok (.ireturn, 1) := by decide +kernel
theorem dL_law_853 : decode cL_law 853 = .ok (.aload_n 1, 1) := by decide +kernel
theorem dL_law_854 : decode cL_law 854 = .ok (.aload_n 0, 1) := by decide +kernel
theorem dL_law_855 : decode cL_law 855 = .ok (.iload_n 3, 1) := by decide +kernel
theorem dL_law_856 : decode cL_law 856 = .ok (.iconst 1, 1) := by decide +kernel
theorem dL_law_857 : decode cL_law 857 = .ok (.iadd, 1) := by decide +kernel
theorem dL_law_858 : decode cL_law 858 = .ok (.iaload, 1) := by decide +kernel
theorem dL_law_859 : decode cL_law 859 = .ok (.invokevirtual 107, 3) := by decide +kernel
theorem dL_law_862 : decode cL_law 862 = .ok (.aload_n 2, 1) := by decide +kernel
theorem dL_law_863 : decode cL_law 863 = .ok (.aload_n 0, 1) := by decide +kernel
theorem dL_law_864 : decode cL_law 864 = .ok (.iload_n 3, 1) := by decide +kernel
theorem dL_law_865 : decode cL_law 865 = .ok (.iconst 1, 1) := by decide +kernel
theorem dL_law_866 : decode cL_law 866 = .ok (.iadd, 1) := by decide +kernel
theorem dL_law_867 : decode cL_law 867 = .ok (.iaload, 1) := by decide +kernel
theorem dL_law_868 : decode cL_law 868 = .ok (.invokevirtual 110, 3) := by decide +kernel
theorem dL_law_871 : decode cL_law 871 = .ok (.if_icmp .eq 348, 3) := by decide +kernel
theorem dL_law_874 : decode cL_law 874 = .ok (.iconst 0, 1) := by decide +kernel
theorem dL_law_875 : decode cL_law 875 = .ok (.ireturn, 1) := by decide +kernel
theorem dL_law_876 : decode cL_law 876 = .ok (.aload_n 1, 1) := by decide +kernel
theorem dL_law_877 : decode cL_law 877 = .ok (.aload_n 0, 1) := by decide +kernel
theorem dL_law_878 : decode cL_law 878 = .ok (.iload_n 3, 1) := by decide +kernel
theorem dL_law_879 : decode cL_law 879 = .ok (.iconst 1, 1) := by decide +kernel
theorem dL_law_880 : decode cL_law 880 = .ok (.iadd, 1) := by decide +kernel
theorem dL_law_881 : decode cL_law 881 = .ok (.iaload, 1) := by decide +kernel
theorem dL_law_882 : decode cL_law 882 = .ok (.invokevirtual 111, 3) := by decide +kernel
theorem dL_law_885 : decode cL_law 885 = .ok (.aload_n 2, 1) := by decide +kernel
theorem dL_law_886 : decode cL_law 886 = .ok (.aload_n 0, 1) := by decide +kernel
theorem dL_law_887 : decode cL_law 887 = .ok (.iload_n 3, 1) := by decide +kernel
theorem dL_law_888 : decode cL_law 888 = .ok (.iconst 1, 1) := by decide +kernel
theorem dL_law_889 : decode cL_law 889 = .ok (.iadd, 1) := by decide +kernel
theorem dL_law_890 : decode cL_law 890 = .ok (.iaload, 1) := by decide +kernel
theorem dL_law_891 : decode cL_law 891 = .ok (.invokevirtual 114, 3) := by decide +kernel
theorem dL_law_894 : decode cL_law 894 = .ok (.if_icmp .eq 325, 3) := by decide +kernel
theorem dL_law_897 : decode cL_law 897 = .ok (.iconst 0, 1) := by decide +kernel
theorem dL_law_898 : decode cL_law 898 = .ok (.ireturn, 1) := by decide +kernel
theorem dL_law_899 : decode cL_law 899 = .ok (.aload_n 1, 1) := by decide +kernel
theorem dL_law_900 : decode cL_law 900 = .ok (.aload_n 0, 1) := by decide +kernel
theorem dL_law_901 : decode cL_law 901 = .ok (.iload_n 3, 1) := by decide +kernel
theorem dL_law_902 : decode cL_law 902 = .ok (.iconst 1, 1) := by decide +kernel
theorem dL_law_903 : decode cL_law 903 = .ok (.iadd, 1) := by decide +kernel
theorem dL_law_904 : decode cL_law 904 = .ok (.iaload, 1) := by decide +kernel
theorem dL_law_905 : decode cL_law 905 = .ok (.invokevirtual 115, 3) := by decide +kernel
theorem dL_law_908 : decode cL_law 908 = .ok (.aload_n 2, 1) := by decide +kernel
theorem dL_law_909 : decode cL_law 909 = .ok (.aload_n 0, 1) := by decide +kernel
theorem dL_law_910 : decode cL_law 910 = .ok (.iload_n 3, 1) := by decide +kernel
theorem dL_law_911 : decode cL_law 911 = .ok (.iconst 1, 1) := by decide +kernel
theorem dL_law_912 : decode cL_law 912 = .ok (.iadd, 1) := by decide +kernel
theorem dL_law_913 : decode cL_law 913 = .ok (.iaload, 1) := by decide +kernel
theorem dL_law_914 : decode cL_law 914 = .ok (.invokevirtual 118, 3) := by decide +kernel
theorem dL_law_917 : decode cL_law 917 = .ok (.if_icmp .eq 302, 3) := by decide +kernel
theorem dL_law_920 : decode cL_law 920 = .ok (.iconst 0, 1) := by decide +kernel
theorem dL_law_921 : decode cL_law 921 = .ok (.ireturn, 1) := by decide +kernel
theorem dL_law_922 : decode cL_law 922 = .ok (.aload_n 1, 1) := by decide +kernel
theorem dL_law_923 : decode cL_law 923 = .ok (.aload_n 0, 1) := by decide +kernel
theorem dL_law_924 : decode cL_law 924 = .ok (.iload_n 3, 1) := by decide +kernel
theorem dL_law_925 : decode cL_law 925 = .ok (.iconst 1, 1) := by decide +kernel
theorem dL_law_926 : decode cL_law 926 = .ok (.iadd, 1) := by decide +kernel
theorem dL_law_927 : decode cL_law 927 = .ok (.iaload, 1) := by decide +kernel
theorem dL_law_928 : decode cL_law 928 = .ok (.invokevirtual 119, 3) := by decide +kernel
theorem dL_law_931 : decode cL_law 931 = .ok (.aload_n 2, 1) := by decide +kernel
theorem dL_law_932 : decode cL_law 932 = .ok (.aload_n 0, 1) := by decide +kernel
theorem dL_law_933 : decode cL_law 933 = .ok (.iload_n 3, 1) := by decide +kernel
theorem dL_law_934 : decode cL_law 934 = .ok (.iconst 1, 1) := by decide +kernel
theorem dL_law_935 : decode cL_law 935 = .ok (.iadd, 1) := by decide +kernel
theorem dL_law_936 : decode cL_law 936 = .ok (.iaload, 1) := by decide +kernel
theorem dL_law_937 : decode cL_law 937 = .ok (.invokevirtual 122, 3) := by decide +kernel
theorem dL_law_940 : decode cL_law 940 = .ok (.if_icmp .eq 279, 3) := by decide +kernel
theorem dL_law_943 : decode cL_law 943 = .ok (.iconst 0, 1) := by decide +kernel
theorem dL_law_944 : decode cL_law 944 = .ok (.ireturn, 1) := by decide +kernel
theorem dL_law_945 : decode cL_law 945 = .ok (.aload_n 1, 1) := by decide +kernel
theorem dL_law_946 : decode cL_law 946 = .ok (.aload_n 0, 1) := by decide +kernel
theorem dL_law_947 : decode cL_law 947 = .ok (.iload_n 3, 1) := by decide +kernel
theorem dL_law_948 : decode cL_law 948 = .ok (.iconst 1, 1) := by decide +kernel
theorem dL_law_949 : decode cL_law 949 = .ok (.iadd, 1) := by decide +kernel
theorem dL_law_950 : decode cL_law 950 = .ok (.iaload, 1) := by decide +kernel
theorem dL_law_951 : decode cL_law 951 = .ok (.aload_n 0, 1) := by decide +kernel
theorem dL_law_952 : decode cL_law 952 = .ok (.iload_n 3, 1) := by decide +kernel
theorem dL_law_953 : decode cL_law 953 = .ok (.iconst 2, 1) := by decide +kernel
theorem dL_law_954 : decode cL_law 954 = .ok (.iadd, 1) := by decide +kernel
theorem dL_law_955 : decode cL_law 955 = .ok (.iaload, 1) := by decide +kernel
theorem dL_law_956 : decode cL_law 956 = .ok (.invokevirtual 123, 3) := by decide +kernel
theorem dL_law_959 : decode cL_law 959 = .ok (.aload_n 2, 1) := by decide +kernel
theorem dL_law_960 : decode cL_law 960 = .ok (.aload_n 0, 1) := by decide +kernel
theorem dL_law_961 : decode cL_law 961 = .ok (.iload_n 3, 1) := by decide +kernel
theorem dL_law_962 : decode cL_law 962 = .ok (.iconst 1, 1) := by decide +kernel
theorem dL_law_963 : decode cL_law 963 = .ok (.iadd, 1) := by decide +kernel
theorem dL_law_964 : decode cL_law 964 = .ok (.iaload, 1) := by decide +kernel
theorem dL_law_965 : decode cL_law 965 = .ok (.aload_n 0, 1) := by decide +kernel
theorem dL_law_966 : decode cL_law 966 = .ok (.iload_n 3, 1) := by decide +kernel
theorem dL_law_967 : decode cL_law 967 = .ok (.iconst 2, 1) := by decide +kernel
theorem dL_law_968 : decode cL_law 968 = .ok (.iadd, 1) := by decide +kernel
theorem dL_law_969 : decode cL_law 969 = .ok (.iaload, 1) := by decide +kernel
theorem dL_law_970 : decode cL_law 970 = .ok (.invokevirtual 126, 3) := by decide +kernel
theorem dL_law_973 : decode cL_law 973 = .ok (.if_icmp .eq 246, 3) := by decide +kernel
theorem dL_law_976 : decode cL_law 976 = .ok (.iconst 0, 1) := by decide +kernel
theorem dL_law_977 : decode cL_law 977 = .ok (.ireturn, 1) := by decide +kernel
theorem dL_law_978 : decode cL_law 978 = .ok (.aload_n 1, 1) := by decide +kernel
theorem dL_law_979 : decode cL_law 979 = .ok (.aload_n 0, 1) := by decide +kernel
theorem dL_law_980 : decode cL_law 980 = .ok (.iload_n 3, 1) := by decide +kernel
theorem dL_law_981 : decode cL_law 981 = .ok (.iconst 1, 1) := by decide +kernel
theorem dL_law_982 : decode cL_law 982 = .ok (.iadd, 1) := by decide +kernel
theorem dL_law_983 : decode cL_law 983 = .ok (.iaload, 1) := by decide +kernel
theorem dL_law_984 : decode cL_law 984 = .ok (.aload_n 0, 1) := by decide +kernel
theorem dL_law_985 : decode cL_law 985 = .ok (.iload_n 3, 1) := by decide +kernel
theorem dL_law_986 : decode cL_law 986 = .ok (.iconst 2, 1) := by decide +kernel
theorem dL_law_987 : decode cL_law 987 = .ok (.iadd, 1) := by decide +kernel
theorem dL_law_988 : decode cL_law 988 = .ok (.iaload, 1) := by decide +kernel
theorem dL_law_989 : decode cL_law 989 = .ok (.aload_n 0, 1) := by decide +kernel
theorem dL_law_990 : decode cL_law 990 = .ok (.iload_n 3, 1) := by decide +kernel
theorem dL_law_991 : decode cL_law 991 = .ok (.iconst 3, 1) := by decide +kernel
theorem dL_law_992 : decode cL_law 992 = .ok (.iadd, 1) := by decide +kernel
theorem dL_law_993 : decode cL_law 993 = .ok (.iaload, 1) := by decide +kernel
theorem dL_law_994 : decode cL_law 994 = .ok (.invokevirtual 127, 3) := by decide +kernel
theorem dL_law_997 : decode cL_law 997 = .ok (.aload_n 2, 1) := by decide +kernel
theorem dL_law_998 : decode cL_law 998 = .ok (.aload_n 0, 1) := by decide +kernel
theorem dL_law_999 : decode cL_law 999 = .ok (.iload_n 3, 1) := by decide +kernel
theorem dL_law_1000 : decode cL_law 1000 = .ok (.iconst 1, 1) := by decide +kernel
theorem dL_law_1001 : decode cL_law 1001 = .ok (.iadd, 1) := by decide +kernel
theorem dL_law_1002 : decode cL_law 1002 = .ok (.iaload, 1) := by decide +kernel
theorem dL_law_1003 : decode cL_law 1003 = .ok (.aload_n 0, 1) := by decide +kernel
theorem dL_law_1004 : decode cL_law 1004 = .ok (.iload_n 3, 1) := by decide +kernel
theorem dL_law_1005 : decode cL_law 1005 = .ok (.iconst 2, 1) := by decide +kernel
theorem dL_law_1006 : decode cL_law 1006 = .ok (.iadd, 1) := by decide +kernel
theorem dL_law_1007 : decode cL_law 1007 = .ok (.iaload, 1) := by decide +kernel
theorem dL_law_1008 : decode cL_law 1008 = .ok (.aload_n 0, 1) := by decide +kernel
theorem dL_law_1009 : decode cL_law 1009 = .ok (.iload_n 3, 1) := by decide +kernel
theorem dL_law_1010 : decode cL_law 1010 = .ok (.iconst 3, 1) := by decide +kernel
theorem dL_law_1011 : decode cL_law 1011 = .ok (.iadd, 1) := by decide +kernel
theorem dL_law_1012 : decode cL_law 1012 = .ok (.iaload, 1) := by decide +kernel
theorem dL_law_1013 : decode cL_law 1013 = .ok (.invokevirtual 130, 3) := by decide +kernel
theorem dL_law_1016 : decode cL_law 1016 = .ok (.if_icmp .eq 203, 3) := by decide +kernel
theorem dL_law_1019 : decode cL_law 1019 = .ok (.iconst 0, 1) := by decide +kernel
theorem dL_law_1020 : decode cL_law 1020 = .ok (.ireturn, 1) := by decide +kernel
theorem dL_law_1021 : decode cL_law 1021 = .ok (.aload_n 1, 1) := by decide +kernel
theorem dL_law_1022 : decode cL_law 1022 = .ok (.aload_n 0, 1) := by decide +kernel
theorem dL_law_1023 : decode cL_law 1023 = .ok (.iload_n 3, 1) := by decide +kernel
theorem dL_law_1024 : decode cL_law 1024 = .ok (.iconst 1, 1) := by decide +kernel
theorem dL_law_1025 : decode cL_law 1025 = .ok (.iadd, 1) := by decide +kernel
theorem dL_law_1026 : decode cL_law 1026 = .ok (.iaload, 1) := by decide +kernel
theorem dL_law_1027 : decode cL_law 1027 = .ok (.aload_n 0, 1) := by decide +kernel
theorem dL_law_1028 : decode cL_law 1028 = .ok (.iload_n 3, 1) := by decide +kernel
theorem dL_law_1029 : decode cL_law 1029 = .ok (.iconst 2, 1) := by decide +kernel
theorem dL_law_1030 : decode cL_law 1030 = .ok (.iadd, 1) := by decide +kernel
theorem dL_law_1031 : decode cL_law 1031 = .ok (.iaload, 1) := by decide +kernel
theorem dL_law_1032 : decode cL_law 1032 = .ok (.invokevirtual 131, 3) := by decide +kernel
theorem dL_law_1035 : decode cL_law 1035 = .ok (.aload_n 2, 1) := by decide +kernel
theorem dL_law_1036 : decode cL_law 1036 = .ok (.aload_n 0, 1) := by decide +kernel
theorem dL_law_1037 : decode cL_law 1037 = .ok (.iload_n 3, 1) := by decide +kernel
theorem dL_law_1038 : decode cL_law 1038 = .ok (.iconst 1, 1) := by decide +kernel
theorem dL_law_1039 : decode cL_law 1039 = .ok (.iadd, 1) := by decide +kernel
theorem dL_law_1040 : decode cL_law 1040 = .ok (.iaload, 1) := by decide +kernel
theorem dL_law_1041 : decode cL_law 1041 = .ok (.aload_n 0, 1) := by decide +kernel
theorem dL_law_1042 : decode cL_law 1042 = .ok (.iload_n 3, 1) := by decide +kernel
theorem dL_law_1043 : decode cL_law 1043 = .ok (.iconst 2, 1) := by decide +kernel
theorem dL_law_1044 : decode cL_law 1044 = .ok (.iadd, 1) := by decide +kernel
theorem dL_law_1045 : decode cL_law 1045 = .ok (.iaload, 1) := by decide +kernel
theorem dL_law_1046 : decode cL_law 1046 = .ok (.invokevirtual 135, 3) := by decide +kernel
theorem dL_law_1049 : decode cL_law 1049 = .ok (.lcmp, 1) := by decide +kernel
theorem dL_law_1050 : decode cL_law 1050 = .ok (.ifCond .eq 169, 3) := by decide +kernel
theorem dL_law_1053 : decode cL_law 1053 = .ok (.iconst 0, 1) := by decide +kernel
theorem dL_law_1054 : decode cL_law 1054 = .ok (.ireturn, 1) := by decide +kernel
theorem dL_law_1055 : decode cL_law 1055 = .ok (.aload_n 1, 1) := by decide +kernel
theorem dL_law_1056 : decode cL_law 1056 = .ok (.aload_n 0, 1) := by decide +kernel
theorem dL_law_1057 : decode cL_law 1057 = .ok (.iload_n 3, 1) := by decide +kernel
theorem dL_law_1058 : decode cL_law 1058 = .ok (.iconst 1, 1) := by decide +kernel
theorem dL_law_1059 : decode cL_law 1059 = .ok (.iadd, 1) := by decide +kernel
theorem dL_law_1060 : decode cL_law 1060 = .ok (.iaload, 1) := by decide +kernel
theorem dL_law_1061 : decode cL_law 1061 = .ok (.aload_n 0, 1) := by decide +kernel
theorem dL_law_1062 : decode cL_law 1062 = .ok (.iload_n 3, 1) := by decide +kernel
theorem dL_law_1063 : decode cL_law 1063 = .ok (.iconst 2, 1) := by decide +kernel
theorem dL_law_1064 : decode cL_law 1064 = .ok (.iadd, 1) := by decide +kernel
theorem dL_law_1065 : decode cL_law 1065 = .ok (.iaload, 1) := by decide +kernel
theorem dL_law_1066 : decode cL_law 1066 = .ok (.invokevirtual 136, 3) := by decide +kernel
theorem dL_law_1069 : decode cL_law 1069 = .ok (.aload_n 2, 1) := by decide +kernel
theorem dL_law_1070 : decode cL_law 1070 = .ok (.aload_n 0, 1) := by decide +kernel
theorem dL_law_1071 : decode cL_law 1071 = .ok (.iload_n 3, 1) := by decide +kernel
theorem dL_law_1072 : decode cL_law 1072 = .ok (.iconst 1, 1) := by decide +kernel
theorem dL_law_1073 : decode cL_law 1073 = .ok (.iadd, 1) := by decide +kernel
theorem dL_law_1074 : decode cL_law 1074 = .ok (.iaload, 1) := by decide +kernel
theorem dL_law_1075 : decode cL_law 1075 = .ok (.aload_n 0, 1) := by decide +kernel
theorem dL_law_1076 : decode cL_law 1076 = .ok (.iload_n 3, 1) := by decide +kernel
theorem dL_law_1077 : decode cL_law 1077 = .ok (.iconst 2, 1) := by decide +kernel
theorem dL_law_1078 : decode cL_law 1078 = .ok (.iadd, 1) := by decide +kernel
theorem dL_law_1079 : decode cL_law 1079 = .ok (.iaload, 1) := by decide +kernel
theorem dL_law_1080 : decode cL_law 1080 = .ok (.invokevirtual 139, 3) := by decide +kernel
theorem dL_law_1083 : decode cL_law 1083 = .ok (.if_icmp .eq 136, 3) := by decide +kernel
theorem dL_law_1086 : decode cL_law 1086 = .ok (.iconst 0, 1) := by decide +kernel
theorem dL_law_1087 : decode cL_law 1087 = .ok (.ireturn, 1) := by decide +kernel
theorem dL_law_1088 : decode cL_law 1088 = .ok (.aload_n 1, 1) := by decide +kernel
theorem dL_law_1089 : decode cL_law 1089 = .ok (.aload_n 0, 1) := by decide +kernel
theorem dL_law_1090 : decode cL_law 1090 = .ok (.iload_n 3, 1) := by decide +kernel
theorem dL_law_1091 : decode cL_law 1091 = .ok (.iconst 1, 1) := by decide +kernel
theorem dL_law_1092 : decode cL_law 1092 = .ok (.iadd, 1) := by decide +kernel
theorem dL_law_1093 : decode cL_law 1093 = .ok (.iaload, 1) := by decide +kernel
theorem dL_law_1094 : decode cL_law 1094 = .ok (.invokevirtual 140, 3) := by decide +kernel
theorem dL_law_1097 : decode cL_law 1097 = .ok (.aload_n 2, 1) := by decide +kernel
theorem dL_law_1098 : decode cL_law 1098 = .ok (.aload_n 0, 1) := by decide +kernel
theorem dL_law_1099 : decode cL_law 1099 = .ok (.iload_n 3, 1) := by decide +kernel
theorem dL_law_1100 : decode cL_law 1100 = .ok (.iconst 1, 1) := by decide +kernel
theorem dL_law_1101 : decode cL_law 1101 = .ok (.iadd, 1) := by decide +kernel
theorem dL_law_1102 : decode cL_law 1102 = .ok (.iaload, 1) := by decide +kernel
theorem dL_law_1103 : decode cL_law 1103 = .ok (.invokevirtual 143, 3) := by decide +kernel
theorem dL_law_1106 : decode cL_law 1106 = .ok (.if_icmp .eq 113, 3) := by decide +kernel
theorem dL_law_1109 : decode cL_law 1109 = .ok (.iconst 0, 1) := by decide +kernel
theorem dL_law_1110 : decode cL_law 1110 = .ok (.ireturn, 1) := by decide +kernel
theorem dL_law_1111 : decode cL_law 1111 = .ok (.aload_n 1, 1) := by decide +kernel
theorem dL_law_1112 : decode cL_law 1112 = .ok (.aload_n 0, 1) := by decide +kernel
theorem dL_law_1113 : decode cL_law 1113 = .ok (.iload_n 3, 1) := by decide +kernel
theorem dL_law_1114 : decode cL_law 1114 = .ok (.iconst 1, 1) := by decide +kernel
theorem dL_law_1115 : decode cL_law 1115 = .ok (.iadd, 1) := by decide +kernel
theorem dL_law_1116 : decode cL_law 1116 = .ok (.iaload, 1) := by decide +kernel
theorem dL_law_1117 : decode cL_law 1117 = .ok (.invokevirtual 144, 3) := by decide +kernel
theorem dL_law_1120 : decode cL_law 1120 = .ok (.aload_n 2, 1) := by decide +kernel
theorem dL_law_1121 : decode cL_law 1121 = .ok (.aload_n 0, 1) := by decide +kernel
theorem dL_law_1122 : decode cL_law 1122 = .ok (.iload_n 3, 1) := by decide +kernel
theorem dL_law_1123 : decode cL_law 1123 = .ok (.iconst 1, 1) := by decide +kernel
theorem dL_law_1124 : decode cL_law 1124 = .ok (.iadd, 1) := by decide +kernel
theorem dL_law_1125 : decode cL_law 1125 = .ok (.iaload, 1) := by decide +kernel
theorem dL_law_1126 : decode cL_law 1126 = .ok (.invokevirtual 147, 3) := by decide +kernel
theorem dL_law_1129 : decode cL_law 1129 = .ok (.if_icmp .eq 90, 3) := by decide +kernel
theorem dL_law_1132 : decode cL_law 1132 = .ok (.iconst 0, 1) := by decide +kernel
theorem dL_law_1133 : decode cL_law 1133 = .ok (.ireturn, 1) := by decide +kernel
theorem dL_law_1134 : decode cL_law 1134 = .ok (.aload_n 1, 1) := by decide +kernel
theorem dL_law_1135 : decode cL_law 1135 = .ok (.aload_n 0, 1) := by decide +kernel
theorem dL_law_1136 : decode cL_law 1136 = .ok (.iload_n 3, 1) := by decide +kernel
theorem dL_law_1137 : decode cL_law 1137 = .ok (.iconst 1, 1) := by decide +kernel
theorem dL_law_1138 : decode cL_law 1138 = .ok (.iadd, 1) := by decide +kernel
theorem dL_law_1139 : decode cL_law 1139 = .ok (.iaload, 1) := by decide +kernel
theorem dL_law_1140 : decode cL_law 1140 = .ok (.invokevirtual 148, 3) := by decide +kernel
theorem dL_law_1143 : decode cL_law 1143 = .ok (.aload_n 2, 1) := by decide +kernel
theorem dL_law_1144 : decode cL_law 1144 = .ok (.aload_n 0, 1) := by decide +kernel
theorem dL_law_1145 : decode cL_law 1145 = .ok (.iload_n 3, 1) := by decide +kernel
theorem dL_law_1146 : decode cL_law 1146 = .ok (.iconst 1, 1) := by decide +kernel
theorem dL_law_1147 : decode cL_law 1147 = .ok (.iadd, 1) := by decide +kernel
theorem dL_law_1148 : decode cL_law 1148 = .ok (.iaload, 1) := by decide +kernel
theorem dL_law_1149 : decode cL_law 1149 = .ok (.invokevirtual 151, 3) := by decide +kernel
theorem dL_law_1152 : decode cL_law 1152 = .ok (.if_icmp .eq 67, 3) := by decide +kernel
theorem dL_law_1155 : decode cL_law 1155 = .ok (.iconst 0, 1) := by decide +kernel
theorem dL_law_1156 : decode cL_law 1156 = .ok (.ireturn, 1) := by decide +kernel
theorem dL_law_1157 : decode cL_law 1157 = .ok (.aload_n 1, 1) := by decide +kernel
theorem dL_law_1158 : decode cL_law 1158 = .ok (.invokevirtual 152, 3) := by decide +kernel
theorem dL_law_1161 : decode cL_law 1161 = .ok (.aload_n 2, 1) := by decide +kernel
theorem dL_law_1162 : decode cL_law 1162 = .ok (.invokevirtual 155, 3) := by decide +kernel
theorem dL_law_1165 : decode cL_law 1165 = .ok (.if_icmp .eq 54, 3) := by decide +kernel
theorem dL_law_1168 : decode cL_law 1168 = .ok (.iconst 0, 1) := by decide +kernel
theorem dL_law_1169 : decode cL_law 1169 = .ok (.ireturn, 1) := by decide +kernel
theorem dL_law_1170 : decode cL_law 1170 = .ok (.aload_n 1, 1) := by decide +kernel
theorem dL_law_1171 : decode cL_law 1171 = .ok (.invokevirtual 156, 3) := by decide +kernel
theorem dL_law_1174 : decode cL_law 1174 = .ok (.aload_n 2, 1) := by decide +kernel
theorem dL_law_1175 : decode cL_law 1175 = .ok (.invokevirtual 159, 3) := by decide +kernel
theorem dL_law_1178 : decode cL_law 1178 = .ok (.if_icmp .eq 41, 3) := by decide +kernel
theorem dL_law_1181 : decode cL_law 1181 = .ok (.iconst 0, 1) := by decide +kernel
theorem dL_law_1182 : decode cL_law 1182 = .ok (.ireturn, 1) := by decide +kernel
theorem dL_law_1183 : decode cL_law 1183 = .ok (.aload_n 1, 1) := by decide +kernel
theorem dL_law_1184 : decode cL_law 1184 = .ok (.invokevirtual 160, 3) := by decide +kernel
theorem dL_law_1187 : decode cL_law 1187 = .ok (.aload_n 2, 1) := by decide +kernel
theorem dL_law_1188 : decode cL_law 1188 = .ok (.invokevirtual 163, 3) := by decide +kernel
theorem dL_law_1191 : decode cL_law 1191 = .ok (.if_icmp .eq 28, 3) := by decide +kernel
theorem dL_law_1194 : decode cL_law 1194 = .ok (.iconst 0, 1) := by decide +kernel
theorem dL_law_1195 : decode cL_law 1195 = .ok (.ireturn, 1) := by decide +kernel
theorem dL_law_1196 : decode cL_law 1196 = .ok (.aload_n 1, 1) := by decide +kernel
theorem dL_law_1197 : decode cL_law 1197 = .ok (.aload_n 0, 1) := by decide +kernel
theorem dL_law_1198 : decode cL_law 1198 = .ok (.iload_n 3, 1) := by decide +kernel
theorem dL_law_1199 : decode cL_law 1199 = .ok (.iconst 1, 1) := by decide +kernel
theorem dL_law_1200 : decode cL_law 1200 = .ok (.iadd, 1) := by decide +kernel
theorem dL_law_1201 : decode cL_law 1201 = .ok (.iaload, 1) := by decide +kernel
theorem dL_law_1202 : decode cL_law 1202 = .ok (.invokevirtual 164, 3) := by decide +kernel
theorem dL_law_1205 : decode cL_law 1205 = .ok (.aload_n 2, 1) := by decide +kernel
theorem dL_law_1206 : decode cL_law 1206 = .ok (.aload_n 0, 1) := by decide +kernel
theorem dL_law_1207 : decode cL_law 1207 = .ok (.iload_n 3, 1) := by decide +kernel
theorem dL_law_1208 : decode cL_law 1208 = .ok (.iconst 1, 1) := by decide +kernel
theorem dL_law_1209 : decode cL_law 1209 = .ok (.iadd, 1) := by decide +kernel
theorem dL_law_1210 : decode cL_law 1210 = .ok (.iaload, 1) := by decide +kernel
theorem dL_law_1211 : decode cL_law 1211 = .ok (.invokevirtual 167, 3) := by decide +kernel
theorem dL_law_1214 : decode cL_law 1214 = .ok (.if_icmp .eq 5, 3) := by decide +kernel
theorem dL_law_1217 : decode cL_law 1217 = .ok (.iconst 0, 1) := by decide +kernel
theorem dL_law_1218 : decode cL_law 1218 = .ok (.ireturn, 1) := by decide +kernel
theorem dL_law_1219 : decode cL_law 1219 = .ok (.iinc 3 5, 3) := by decide +kernel
theorem dL_law_1222 : decode cL_law 1222 = .ok (.goto (-1204), 3) := by decide +kernel
theorem dL_law_1225 : decode cL_law 1225 = .ok (.iconst 1, 1) := by decide +kernel
theorem dL_law_1226 : decode cL_law 1226 = .ok (.ireturn, 1) := by decide +kernel
end
section
/-! store, cells, world: a store tells of each cell and place an Int; the machine's int there is Int32.ofInt of it -/
abbrev St : Type := Nat → Int → Int
abbrev inR (x : Int) : Prop := -2147483648 ≤ x ∧ x ≤ 2147483647
abbrev inL (x : Int) : Prop := -9223372036854775808 ≤ x ∧ x ≤ 9223372036854775807
def iv (x : Int) : Value := .int (Int32.ofInt x)
def jv (x : Int) : Value := .long (Int64.ofInt x)
/-- class numbers, addresses of cells, classes of arrays, where the world's cells begin, the table ABOVE -/
abbrev Wd : Type := va_G × (Nat → Nat) × (Nat → ClassId) × Nat × Nat
def rv (V : Wd) (k : Nat) : Value := .ref (V.2.1 k)
def up (σ : St) (k : Nat) (j x : Int) : St := fun k' j' => if k' = k ∧ j' = j then x else σ k' j'
abbrev Lay : Type := Wd → (Int → Int) → va_E
def iE (n : Nat) : Lay := fun V r => .inl (V.2.2.1 0, n, .inl (fun i => Int32.ofInt (r i)))
def jE (n : Nat) : Lay := fun V r => .inl (V.2.2.1 1, n, .inr (.inl (fun i => Int64.ofInt (r i))))
def qE (t n b : Nat) : Lay := fun V _ => .inl (V.2.2.1 t, n, .inr (.inr (.inr (.inr (fun i => if i < n then some (V.2.1 (b + i)) else none)))))
def oMain (a0 a1 a3 a4 a5 a6 a7 a8 a9 a10 a11 : Nat) : Lay := fun V r => .inr (0, [rv V a0, rv V a1, iv (r 2), rv V a3, rv V a4, rv V a5, rv V a6, rv V a7, rv V a8, rv V a9, rv V a10, rv V a11])
def oNet (a2 a3 a4 a5 a6 : Nat) : Lay := fun V r => .inr (1, [iv (r 0), iv (r 1), rv V a2, rv V a3, rv V a4, rv V a5, rv V a6])
def oPast (a0 a1 a2 : Nat) : Lay := fun V r => .inr (2, [rv V a0, rv V a1, rv V a2, iv (r 3), iv (r 4)])
def oThought (a0 a1 a2 a3 a4 a5 : Nat) : Lay := fun V r => .inr (3, [rv V a0, rv V a1, rv V a2, rv V a3, rv V a4, rv V a5, iv (r 6), iv (r 7)])
def oShape (a0 a1 : Nat) : Lay := fun V r => .inr (4, [rv V a0, rv V a1])
def oLetters (a0 a1 : Nat) : Lay := fun V r => .inr (5, [rv V a0, rv V a1, iv (r 2)])
def oWriting (a0 : Nat) : Lay := fun V r => .inr (6, [rv V a0, iv (r 1)])
def oLists (a0 a1 : Nat) : Lay := fun V r => .inr (7, [rv V a0, rv V a1])
def oModel (a2 a3 a4 a5 a6 a8 a9 a10 a11 a13 a14 a15 a16 a17 a18 a19 a21 a23 a25 a27 a28 : Nat) : Lay := fun V r => .inr (8, [iv (r 0), iv (r 1), rv V a2, rv V a3, rv V a4, rv V a5, rv V a6, iv (r 7), rv V a8, rv V a9, rv V a10, rv V a11, iv (r 12), rv V a13, rv V a14, rv V a15, rv V a16, rv V a17, rv V a18, rv V a19, iv (r 20), rv V a21, iv (r 22), rv V a23, iv (r 24), rv V a25, iv (r 26), rv V a27, rv V a28])
abbrev classes : List vw_C := [(RX9, TX9, 12), (RX3, TX3, 7), (RX4, TX4, 5), (RX7, TX7, 8), (RX6, TX6, 2), (RX1, TX1, 3), (RX8, TX8, 2), (RX2, TX2, 2), (RX10, TX10, 29)]
def layL : List Lay := [oMain 1 7 19 47 53 62 64 66 72 73 74, oNet 2 3 4 5 6, iE 8, iE 8, iE 8, iE 8, iE 8, oNet 8 9 10 11 12, iE 8, iE 8, iE 8, iE 8, iE 8, oNet 14 15 16 17 18, iE 8, iE 8, iE 8, iE 8, iE 8, oPast 20 21 22, qE 2 8 23, qE 2 8 31, qE 2 8 39, iE 8, iE 8, iE 8, iE 8, iE 8, iE 8, iE 8, iE 8, iE 8, iE 8, iE 8, iE 8, iE 8, iE 8, iE 8, iE 8, iE 8, iE 8, iE 8, iE 8, iE 8, iE 8, iE 8, iE 8, oThought 1 48 49 50 51 52, iE 8, iE 7, iE 8, iE 8, iE 7, oShape 1 54, qE 3 7 55, jE 8, jE 8, jE 8, jE 8, jE 8, jE 8, jE 8, oLetters 63 13, iE 72, oWriting 65, iE 115, oLists 67 71, qE 2 3 68, iE 40, iE 40, iE 40, iE 3, iE 7, iE 7, iE 7, oModel 76 77 78 79 80 81 82 83 84 85 86 87 88 89 90 91 92 93 94 95 96, iE 8, iE 8, iE 8, iE 8, iE 8, iE 64, iE 64, iE 64, iE 72, iE 3, iE 120, iE 7, iE 8, iE 7, iE 56, iE 7, jE 56, iE 120, iE 7, iE 42, iE 42]
abbrev NC : Nat := 97
def lay (k : Nat) : Lay := layL.getD k (iE 0)
def ent (V : Wd) (σ : St) (k : Nat) : va_E := lay k V (σ k)
def wld (V : Wd) (σ : St) : va_W := (List.range NC).map (fun k => (V.2.1 k, ent V σ k))
def tysV (V : Wd) : List (ClassId × FieldType) := [(V.2.2.1 0, .int), (V.2.2.1 1, .long), (V.2.2.1 2, .array .int), (V.2.2.1 3, .array .long)]
def fr (V : Wd) : Nat → Prop := fun q => V.2.2.2.1 ≤ q
def tblG : List Cond := lw_tbl.filter goodWord
theorem tblG_good : ∀ w ∈ tblG, goodWord w = true := fun w h => (List.mem_filter.mp h).2
theorem tblG_in {w : Cond} (h : w ∈ tblG) : w ∈ lw_tbl := (List.mem_filter.mp h).1
theorem tblG_of {w : Cond} (h : w ∈ lw_tbl) (hg : goodWord w = true) : w ∈ tblG := List.mem_filter.mpr ⟨h, hg⟩
theorem tblG_GI {ws : List Cond} (h : ∀ w ∈ ws, w ∈ tblG) : GoodIn tblG ws := fun w hw => ⟨h w hw, good_of_word (tblG_good w (h w hw))⟩
theorem wld_len (V : Wd) (σ : St) : (wld V σ).length = NC := by simp [wld]
theorem wld_at (V : Wd) (σ : St) {k : Nat} (h : k < NC) : (wld V σ)[k]? = some (V.2.1 k, ent V σ k) := by
  simp [wld, h]
theorem wld_set (V : Wd) (σ τ : St) {k : Nat} (h : k < NC) {e : va_E} (he : e = ent V τ k) (ho : ∀ k', k' ≠ k → τ k' = σ k') : (wld V σ).set k (V.2.1 k, e) = wld V τ := by
  apply List.ext_getElem?
  intro j
  by_cases hj : j = k
  · subst hj
    rw [List.getElem?_set_self (by rw [wld_len]; exact h), wld_at V τ h, he]
  · rw [List.getElem?_set_ne (Ne.symm hj)]
    by_cases hN : j < NC
    · rw [wld_at V σ hN, wld_at V τ hN]
      unfold ent
      rw [ho j hj]
    · rw [List.getElem?_eq_none (by rw [wld_len]; omega), List.getElem?_eq_none (by rw [wld_len]; omega)]
theorem wld_D {V : Wd} {A : Nat → Prop} (σ τ : St) (h : va_D A (wld V σ)) : va_D A (wld V τ) := by
  have key : ∀ (k : Nat) (q : Nat × va_E), (wld V τ)[k]? = some q → ∃ q0, (wld V σ)[k]? = some q0 ∧ q0.1 = q.1 := by
    intro k q hq
    have hk : k < NC := by
      have := (List.getElem?_eq_some_iff.mp hq).1
      rwa [wld_len] at this
    rw [wld_at V τ hk] at hq
    cases hq
    exact ⟨_, wld_at V σ hk, rfl⟩
  refine ⟨fun i j x y hi hj hxy => ?_, fun k q hk => ?_⟩
  · obtain ⟨x0, h1, h2⟩ := key i x hi
    obtain ⟨y0, h3, h4⟩ := key j y hj
    exact h.1 i j x0 y0 h1 h3 (h2.trans (hxy.trans h4.symm))
  · obtain ⟨q0, h1, h2⟩ := key k q hk
    rw [← h2]
    exact h.2 k q0 h1
theorem up_ne {σ : St} {k k' : Nat} {j x : Int} (h : k' ≠ k) : up σ k j x k' = σ k' := by
  funext j'
  simp [up, h]
theorem up_at (σ : St) (k : Nat) (j x : Int) : up σ k j x k j = x := by simp [up]
theorem up_nj {σ : St} {k k' : Nat} {j j' x : Int} (h : j' ≠ j) : up σ k j x k' j' = σ k' j' := by simp [up, h]
/-! numbers -/
theorem n_toInt {x : Int} (h : inR x) : (Int32.ofInt x).toInt = x := Int32.toInt_ofInt_of_le (by have := h.1; omega) (by have := h.2; omega)
theorem n_lt {x y : Int} (hx : inR x) (hy : inR y) : Int32.ofInt x < Int32.ofInt y ↔ x < y := by
  rw [Int32.lt_iff_toInt_lt, n_toInt hx, n_toInt hy]
theorem n_le {x y : Int} (hx : inR x) (hy : inR y) : Int32.ofInt x ≤ Int32.ofInt y ↔ x ≤ y := by
  rw [Int32.le_iff_toInt_le, n_toInt hx, n_toInt hy]
theorem n_eq {x y : Int} (hx : inR x) (hy : inR y) : Int32.ofInt x = Int32.ofInt y ↔ x = y := by
  rw [← Int32.toInt_inj, n_toInt hx, n_toInt hy]
theorem n_0 : Int32.ofInt 0 = 0 := rfl
theorem n_clamp {x : Int} (h : inR x) : (Int32.ofInt x).toNatClampNeg = x.toNat := Int32.toNatClampNeg_ofInt_of_le (by have := h.1; omega) (by have := h.2; omega)
theorem n_in {x : Int} {n : Nat} (h : 0 ≤ x ∧ x < n) (hn : n < 2147483648) : vp_in (Int32.ofInt x) n := by
  have hr : inR x := ⟨by omega, by omega⟩
  rintro (q | q)
  · rw [← n_0, n_lt hr ⟨by omega, by omega⟩] at q
    omega
  · rw [n_clamp hr] at q
    omega
theorem l_toInt {x : Int} (h : inL x) : (Int64.ofInt x).toInt = x := Int64.toInt_ofInt_of_le (by have := h.1; omega) (by have := h.2; omega)
theorem l_eq {x y : Int} (hx : inL x) (hy : inL y) : Int64.ofInt x = Int64.ofInt y ↔ x = y := by
  rw [← Int64.toInt_inj, l_toInt hx, l_toInt hy]
theorem l_lt {x y : Int} (hx : inL x) (hy : inL y) : Int64.ofInt x < Int64.ofInt y ↔ x < y := by
  rw [Int64.lt_iff_toInt_lt, l_toInt hx, l_toInt hy]
/-! locals -/
def lvl : Nat → List (Option Value) → List (Nat × Value)
  | _, [] => []
  | i, none :: r => lvl (i + 1) r
  | i, some v :: r => (i, v) :: lvl (i + 1) r
theorem lvl_mem : ∀ (L : List (Option Value)) (i0 j : Nat) (v : Value), L[j]? = some (some v) → (i0 + j, v) ∈ lvl i0 L
  | [], _, j, v, h => by simp at h
  | a :: r, i0, 0, v, h => by
    simp at h
    subst h
    exact List.mem_cons_self
  | a :: r, i0, j + 1, v, h => by
    have := lvl_mem r (i0 + 1) j v (by simpa using h)
    rw [show i0 + 1 + j = i0 + (j + 1) by omega] at this
    cases a with
    | none => exact this
    | some w => exact List.mem_cons_of_mem _ this
theorem lvl_of : ∀ (L : List (Option Value)) (i0 i : Nat) (v : Value), (i, v) ∈ lvl i0 L → ∃ j, i = i0 + j ∧ L[j]? = some (some v)
  | [], _, i, v, h => by cases h
  | none :: r, i0, i, v, h => by
    obtain ⟨j, h1, h2⟩ := lvl_of r (i0 + 1) i v h
    exact ⟨j + 1, by omega, by simpa using h2⟩
  | some w :: r, i0, i, v, h => by
    rcases List.mem_cons.mp h with h | h
    · cases h
      exact ⟨0, rfl, rfl⟩
    · obtain ⟨j, h1, h2⟩ := lvl_of r (i0 + 1) i v h
      exact ⟨j + 1, by omega, by simpa using h2⟩
theorem lvl_get {ls : Array Slot} {n : Nat} {L : List (Option Value)} (h : lv_has ls n (lvl 0 L)) {i : Nat} {v : Value} (hL : L[i]? = some (some v)) : ls[i]? = some (.val v) := by
  have := h.2.2 _ (lvl_mem L 0 i v hL)
  simpa using this
theorem lvl_sub {ls : Array Slot} {n : Nat} {L : List (Option Value)} {B : List (Nat × Value)} (h : lv_has ls n B) (hB : ∀ i v, L[i]? = some (some v) → (i, v) ∈ B) : lv_has ls n (lvl 0 L) := by
  refine ⟨h.1, h.2.1, fun q hq => ?_⟩
  obtain ⟨j, h1, h2⟩ := lvl_of L 0 q.1 q.2 hq
  have h3 := hB j q.2 h2
  have h4 := h.2.2 _ h3
  rw [show q.1 = j by omega]
  exact h4
def lcat : Option Value → Nat
  | none => 1
  | some v => v.category
theorem lvl_set {ls : Array Slot} {n i : Nat} {v : Value} {L : List (Option Value)} (h : lv_has ls n ((i, v) :: (lvl 0 L).filter (fun q => !(q.1 == i) && !(q.1 + 1 == i && q.2.category == 2)))) (hc : ∀ j, j + 1 = i → lcat (L.getD j none) = 1) : lv_has ls n (lvl 0 (L.set i (some v))) := by
  refine lvl_sub h fun j u hj => ?_
  by_cases e : j = i
  · subst e
    by_cases hl : j < L.length
    · rw [List.getElem?_set_self hl] at hj
      cases hj
      exact List.mem_cons_self
    · rw [List.getElem?_eq_none (by simpa using hl)] at hj
      cases hj
  · rw [List.getElem?_set_ne (Ne.symm e)] at hj
    refine List.mem_cons_of_mem _ (List.mem_filter.mpr ⟨by simpa using lvl_mem L 0 j u hj, ?_⟩)
    by_cases e2 : j + 1 = i
    · have := hc j e2
      rw [List.getD_eq_getElem?_getD, hj] at this
      have hu : u.category = 1 := this
      simp [e, hu]
    · simp [e, e2]
theorem lvl_set2 {ls : Array Slot} {n i : Nat} {v : Value} {L : List (Option Value)} (h : lv_has ls n ((i, v) :: (lvl 0 L).filter (fun q => !(q.1 == i) && (!(q.1 == i + 1) && !(q.1 + 1 == i && q.2.category == 2))))) (hc : ∀ j, j + 1 = i → lcat (L.getD j none) = 1) : lv_has ls n (lvl 0 ((L.set i (some v)).set (i + 1) none)) := by
  refine lvl_sub h fun j u hj => ?_
  by_cases e3 : j = i + 1
  · subst e3
    by_cases hl : i + 1 < (L.set i (some v)).length
    · rw [List.getElem?_set_self hl] at hj
      cases hj
    · rw [List.getElem?_eq_none (by simpa using hl)] at hj
      cases hj
  rw [List.getElem?_set_ne (Ne.symm e3)] at hj
  by_cases e : j = i
  · subst e
    by_cases hl : j < L.length
    · rw [List.getElem?_set_self hl] at hj
      cases hj
      exact List.mem_cons_self
    · rw [List.getElem?_eq_none (by simpa using hl)] at hj
      cases hj
  · rw [List.getElem?_set_ne (Ne.symm e)] at hj
    refine List.mem_cons_of_mem _ (List.mem_filter.mpr ⟨by simpa using lvl_mem L 0 j u hj, ?_⟩)
    by_cases e2 : j + 1 = i
    · have := hc j e2
      rw [List.getD_eq_getElem?_getD, hj] at this
      have hu : u.category = 1 := this
      simp [e, e3, hu]
    · simp [e, e2, e3]
/-! the machine over the store -/
abbrev Cx : Type := Program × Launch × Env × Room × State × MethodId × Array Value × List Frame × Method × Code × Nat × Nat × Nat × (State → Prop)
def AW (X : Cx) (V : Wd) (σ : St) (pc : Nat) (st : List Value) (L : List (Option Value)) : Prop :=
  match X with
  | (p, l, e, R, s, m, args, below, meth, c, nL, kc, ks, Q) => ∀ (H : Heap) (locs : List Loc) (ls : Array Slot), va_P V.1 classes (wld V σ) H → va_S (fr V) s.heap H locs → lv_has ls nL (lvl 0 L) → W p l e R s m args below meth c H locs kc ks Q (F0 m pc ls st)
def Gd (X : Cx) (V : Wd) (cc : ByteArray) (own : String) (n F Lo : Nat) : Prop :=
  match X with
  | (p, _, _, R, s, m, args, _, _, c, nL, kc, ks, _) => p.tables.exec = Jvm.exec ∧ c.code = cc ∧ nL = n ∧ c.maxLocals = n ∧ s.vm.findClass own = some m.cls ∧ (∀ w ∈ tblG, w.before args s = true) ∧ va_K V.1 classes (tysV V) s ∧ (∀ σ, va_D (fr V) (wld V σ)) ∧ V.2.2.2.1 ≤ s.heap.size ∧ va_Z "LabelsOfLines$Kinds" "ABOVE" "[I" (.ref V.2.2.2.2) (fr V) s s.heap ∧ va_T .int V.2.2.2.2 6 (fun k => iv (if k = 0 then -1 else if k = 3 then 1 else if k = 4 then 2 else 0)) (fr V) s s.heap ∧ F ≤ R.frames ∧ Lo ≤ R.locals ∧ kc ≤ R.cells ∧ ks ≤ R.slots
section ROWS
variable {X : Cx} {V : Wd} {σ : St} {pc n F Lo : Nat} {st : List Value} {L : List (Option Value)} {cc : ByteArray} {own : String}
theorem aw_iadd {x y : Int} (G : Gd X V cc own n F Lo) (hd : decode cc pc = .ok (.iadd, 1))  (k : AW X V σ (pc + 1) (iv (x + y) :: st) L) : AW X V σ pc (iv y :: iv x :: st) L := by
  obtain ⟨p, l, e, R, s, m, args, below, meth, c, nL, kc, ks, Q⟩ := X
  obtain ⟨hx, hb, hnL, hml, hown, hts, hK, hD, hb0, hZ, hT, hF, hLo, hkc, hks⟩ := G
  intro H locs ls hP hS hl
  refine lv_iadd hx hb hd ?_
  rw [← Int32.ofInt_add]
  exact k H locs ls hP hS hl
theorem aw_isub {x y : Int} (G : Gd X V cc own n F Lo) (hd : decode cc pc = .ok (.isub, 1))  (k : AW X V σ (pc + 1) (iv (x - y) :: st) L) : AW X V σ pc (iv y :: iv x :: st) L := by
  obtain ⟨p, l, e, R, s, m, args, below, meth, c, nL, kc, ks, Q⟩ := X
  obtain ⟨hx, hb, hnL, hml, hown, hts, hK, hD, hb0, hZ, hT, hF, hLo, hkc, hks⟩ := G
  intro H locs ls hP hS hl
  refine lv_isub hx hb hd ?_
  rw [← Int32.ofInt_sub]
  exact k H locs ls hP hS hl
theorem aw_imul {x y : Int} (G : Gd X V cc own n F Lo) (hd : decode cc pc = .ok (.imul, 1))  (k : AW X V σ (pc + 1) (iv (x * y) :: st) L) : AW X V σ pc (iv y :: iv x :: st) L := by
  obtain ⟨p, l, e, R, s, m, args, below, meth, c, nL, kc, ks, Q⟩ := X
  obtain ⟨hx, hb, hnL, hml, hown, hts, hK, hD, hb0, hZ, hT, hF, hLo, hkc, hks⟩ := G
  intro H locs ls hP hS hl
  refine lv_imul hx hb hd ?_
  rw [← Int32.ofInt_mul]
  exact k H locs ls hP hS hl
theorem aw_ladd {x y : Int} (G : Gd X V cc own n F Lo) (hd : decode cc pc = .ok (.ladd, 1))  (k : AW X V σ (pc + 1) (jv (x + y) :: st) L) : AW X V σ pc (jv y :: jv x :: st) L := by
  obtain ⟨p, l, e, R, s, m, args, below, meth, c, nL, kc, ks, Q⟩ := X
  obtain ⟨hx, hb, hnL, hml, hown, hts, hK, hD, hb0, hZ, hT, hF, hLo, hkc, hks⟩ := G
  intro H locs ls hP hS hl
  refine lv_ladd hx hb hd ?_
  rw [← Int64.ofInt_add]
  exact k H locs ls hP hS hl
theorem aw_lsub {x y : Int} (G : Gd X V cc own n F Lo) (hd : decode cc pc = .ok (.lsub, 1))  (k : AW X V σ (pc + 1) (jv (x - y) :: st) L) : AW X V σ pc (jv y :: jv x :: st) L := by
  obtain ⟨p, l, e, R, s, m, args, below, meth, c, nL, kc, ks, Q⟩ := X
  obtain ⟨hx, hb, hnL, hml, hown, hts, hK, hD, hb0, hZ, hT, hF, hLo, hkc, hks⟩ := G
  intro H locs ls hP hS hl
  refine lv_lsub hx hb hd ?_
  rw [← Int64.ofInt_sub]
  exact k H locs ls hP hS hl
theorem aw_lmul {x y : Int} (G : Gd X V cc own n F Lo) (hd : decode cc pc = .ok (.lmul, 1))  (k : AW X V σ (pc + 1) (jv (x * y) :: st) L) : AW X V σ pc (jv y :: jv x :: st) L := by
  obtain ⟨p, l, e, R, s, m, args, below, meth, c, nL, kc, ks, Q⟩ := X
  obtain ⟨hx, hb, hnL, hml, hown, hts, hK, hD, hb0, hZ, hT, hF, hLo, hkc, hks⟩ := G
  intro H locs ls hP hS hl
  refine lv_lmul hx hb hd ?_
  rw [← Int64.ofInt_mul]
  exact k H locs ls hP hS hl
theorem aw_ineg {x : Int} (G : Gd X V cc own n F Lo) (hd : decode cc pc = .ok (.ineg, 1))  (k : AW X V σ (pc + 1) (iv (-x) :: st) L) : AW X V σ pc (iv x :: st) L := by
  obtain ⟨p, l, e, R, s, m, args, below, meth, c, nL, kc, ks, Q⟩ := X
  obtain ⟨hx, hb, hnL, hml, hown, hts, hK, hD, hb0, hZ, hT, hF, hLo, hkc, hks⟩ := G
  intro H locs ls hP hS hl
  refine lv_ineg hx hb hd ?_
  rw [← Int32.ofInt_neg]
  exact k H locs ls hP hS hl
def iand (x y : Int) : Int := (Int32.ofInt x &&& Int32.ofInt y).toInt
def ior (x y : Int) : Int := (Int32.ofInt x ||| Int32.ofInt y).toInt
def ishl (x y : Int) : Int := (Int32.ofInt x <<< (Int32.ofInt y &&& 31)).toInt
def ishr (x y : Int) : Int := (Int32.ofInt x >>> (Int32.ofInt y &&& 31)).toInt
theorem aw_iand {x y : Int} (G : Gd X V cc own n F Lo) (hd : decode cc pc = .ok (.iand, 1))  (k : AW X V σ (pc + 1) (iv (iand x y) :: st) L) : AW X V σ pc (iv y :: iv x :: st) L := by
  obtain ⟨p, l, e, R, s, m, args, below, meth, c, nL, kc, ks, Q⟩ := X
  obtain ⟨hx, hb, hnL, hml, hown, hts, hK, hD, hb0, hZ, hT, hF, hLo, hkc, hks⟩ := G
  intro H locs ls hP hS hl
  refine lv_iand hx hb hd ?_
  unfold iand iv at k
  rw [Int32.ofInt_toInt] at k
  exact k H locs ls hP hS hl
theorem aw_ior {x y : Int} (G : Gd X V cc own n F Lo) (hd : decode cc pc = .ok (.ior, 1))  (k : AW X V σ (pc + 1) (iv (ior x y) :: st) L) : AW X V σ pc (iv y :: iv x :: st) L := by
  obtain ⟨p, l, e, R, s, m, args, below, meth, c, nL, kc, ks, Q⟩ := X
  obtain ⟨hx, hb, hnL, hml, hown, hts, hK, hD, hb0, hZ, hT, hF, hLo, hkc, hks⟩ := G
  intro H locs ls hP hS hl
  refine lv_ior hx hb hd ?_
  unfold ior iv at k
  rw [Int32.ofInt_toInt] at k
  exact k H locs ls hP hS hl
theorem aw_ishl {x y : Int} (G : Gd X V cc own n F Lo) (hd : decode cc pc = .ok (.ishl, 1))  (k : AW X V σ (pc + 1) (iv (ishl x y) :: st) L) : AW X V σ pc (iv y :: iv x :: st) L := by
  obtain ⟨p, l, e, R, s, m, args, below, meth, c, nL, kc, ks, Q⟩ := X
  obtain ⟨hx, hb, hnL, hml, hown, hts, hK, hD, hb0, hZ, hT, hF, hLo, hkc, hks⟩ := G
  intro H locs ls hP hS hl
  refine lv_ishl hx hb hd ?_
  unfold ishl iv at k
  rw [Int32.ofInt_toInt] at k
  exact k H locs ls hP hS hl
theorem aw_ishr {x y : Int} (G : Gd X V cc own n F Lo) (hd : decode cc pc = .ok (.ishr, 1))  (k : AW X V σ (pc + 1) (iv (ishr x y) :: st) L) : AW X V σ pc (iv y :: iv x :: st) L := by
  obtain ⟨p, l, e, R, s, m, args, below, meth, c, nL, kc, ks, Q⟩ := X
  obtain ⟨hx, hb, hnL, hml, hown, hts, hK, hD, hb0, hZ, hT, hF, hLo, hkc, hks⟩ := G
  intro H locs ls hP hS hl
  refine lv_ishr hx hb hd ?_
  unfold ishr iv at k
  rw [Int32.ofInt_toInt] at k
  exact k H locs ls hP hS hl
theorem aw_idiv {x y : Int} (G : Gd X V cc own n F Lo) (hd : decode cc pc = .ok (.idiv, 1)) (hx0 : inR x) (hy : inR y ∧ y ≠ 0) (k : AW X V σ (pc + 1) (iv (x.tdiv y) :: st) L) : AW X V σ pc (iv y :: iv x :: st) L := by
  obtain ⟨p, l, e, R, s, m, args, below, meth, c, nL, kc, ks, Q⟩ := X
  obtain ⟨hx, hb, hnL, hml, hown, hts, hK, hD, hb0, hZ, hT, hF, hLo, hkc, hks⟩ := G
  intro H locs ls hP hS hl
  refine lv_idiv hx hb hd (fun q => hy.2 ((n_eq hy.1 (by decide)).mp q)) ?_
  rw [← Int32.ofInt_tdiv (by rw [Int32.toInt_minValue]; omega) (by rw [Int32.toInt_maxValue]; omega) (by rw [Int32.toInt_minValue]; omega) (by rw [Int32.toInt_maxValue]; omega)]
  exact k H locs ls hP hS hl
theorem tm_bd (x y : Int) : (0 ≤ x → 0 ≤ x.tmod y ∧ x.tmod y ≤ x) ∧ (x ≤ 0 → x ≤ x.tmod y ∧ x.tmod y ≤ 0) := by
  have key : ∀ a b : Int, 0 ≤ a → 0 ≤ a.tmod b ∧ a.tmod b ≤ a := by
    intro a b ha
    have h1 : 0 ≤ a.tmod b := Int.tmod_nonneg b ha
    refine ⟨h1, ?_⟩
    have h2 := Int.natAbs_tmod a b
    have h3 := Nat.mod_le a.natAbs b.natAbs
    omega
  refine ⟨key x y, fun hx => ?_⟩
  have := key (-x) y (by omega)
  rw [Int.neg_tmod] at this
  omega
theorem aw_irem {x y : Int} (G : Gd X V cc own n F Lo) (hd : decode cc pc = .ok (.irem, 1)) (hx0 : inR x) (hy : inR y ∧ y ≠ 0) (k : AW X V σ (pc + 1) (iv (x.tmod y) :: st) L) : AW X V σ pc (iv y :: iv x :: st) L := by
  obtain ⟨p, l, e, R, s, m, args, below, meth, c, nL, kc, ks, Q⟩ := X
  obtain ⟨hx, hb, hnL, hml, hown, hts, hK, hD, hb0, hZ, hT, hF, hLo, hkc, hks⟩ := G
  intro H locs ls hP hS hl
  refine lv_irem hx hb hd (fun q => hy.2 ((n_eq hy.1 (by decide)).mp q)) ?_
  have e1 : Int32.ofInt x - Int32.ofInt x / Int32.ofInt y * Int32.ofInt y = Int32.ofInt (x.tmod y) := by
    rw [← Int32.toInt_inj, rem_toInt, n_toInt hx0, n_toInt hy.1, n_toInt]
    have t1 := tm_bd x y
    omega
  rw [e1]
  exact k H locs ls hP hS hl
theorem aw_ldiv {x y : Int} (G : Gd X V cc own n F Lo) (hd : decode cc pc = .ok (.ldiv, 1)) (hx0 : inL x) (hy : inL y ∧ y ≠ 0) (k : AW X V σ (pc + 1) (jv (x.tdiv y) :: st) L) : AW X V σ pc (jv y :: jv x :: st) L := by
  obtain ⟨p, l, e, R, s, m, args, below, meth, c, nL, kc, ks, Q⟩ := X
  obtain ⟨hx, hb, hnL, hml, hown, hts, hK, hD, hb0, hZ, hT, hF, hLo, hkc, hks⟩ := G
  intro H locs ls hP hS hl
  refine lv_ldiv hx hb hd (fun q => hy.2 ((l_eq hy.1 (by decide)).mp q)) ?_
  rw [← Int64.ofInt_tdiv (by rw [Int64.toInt_minValue]; omega) (by rw [Int64.toInt_maxValue]; omega) (by rw [Int64.toInt_minValue]; omega) (by rw [Int64.toInt_maxValue]; omega)]
  exact k H locs ls hP hS hl
theorem aw_lrem {x y : Int} (G : Gd X V cc own n F Lo) (hd : decode cc pc = .ok (.lrem, 1)) (hx0 : inL x) (hy : inL y ∧ y ≠ 0) (k : AW X V σ (pc + 1) (jv (x.tmod y) :: st) L) : AW X V σ pc (jv y :: jv x :: st) L := by
  obtain ⟨p, l, e, R, s, m, args, below, meth, c, nL, kc, ks, Q⟩ := X
  obtain ⟨hx, hb, hnL, hml, hown, hts, hK, hD, hb0, hZ, hT, hF, hLo, hkc, hks⟩ := G
  intro H locs ls hP hS hl
  refine lv_lrem hx hb hd (fun q => hy.2 ((l_eq hy.1 (by decide)).mp q)) ?_
  have e1 : Int64.ofInt x - Int64.ofInt x / Int64.ofInt y * Int64.ofInt y = Int64.ofInt (x.tmod y) := by
    rw [← Int64.ofInt_tdiv (by rw [Int64.toInt_minValue]; omega) (by rw [Int64.toInt_maxValue]; omega) (by rw [Int64.toInt_minValue]; omega) (by rw [Int64.toInt_maxValue]; omega), ← Int64.ofInt_mul, ← Int64.ofInt_sub]
    congr 1
    have t1 := Int.mul_tdiv_add_tmod x y
    rw [Int.mul_comm] at t1
    omega
  rw [e1]
  exact k H locs ls hP hS hl
theorem aw_i2l {x : Int} (G : Gd X V cc own n F Lo) (hd : decode cc pc = .ok (.i2l, 1)) (hx0 : inR x) (k : AW X V σ (pc + 1) (jv x :: st) L) : AW X V σ pc (iv x :: st) L := by
  obtain ⟨p, l, e, R, s, m, args, below, meth, c, nL, kc, ks, Q⟩ := X
  obtain ⟨hx, hb, hnL, hml, hown, hts, hK, hD, hb0, hZ, hT, hF, hLo, hkc, hks⟩ := G
  intro H locs ls hP hS hl
  refine lv_i2l hx hb hd (Int32.toInt64_ofInt (by rw [Int32.toInt_minValue]; omega) (by rw [Int32.toInt_maxValue]; omega)) ?_
  exact k H locs ls hP hS hl
theorem aw_iconst {x : Int} (G : Gd X V cc own n F Lo) (hd : decode cc pc = .ok (.iconst x, 1))  (k : AW X V σ (pc + 1) (iv x :: st) L) : AW X V σ pc (st) L := by
  obtain ⟨p, l, e, R, s, m, args, below, meth, c, nL, kc, ks, Q⟩ := X
  obtain ⟨hx, hb, hnL, hml, hown, hts, hK, hD, hb0, hZ, hT, hF, hLo, hkc, hks⟩ := G
  intro H locs ls hP hS hl
  refine lv_iconst hx hb hd rfl ?_
  exact k H locs ls hP hS hl
theorem aw_bipush {x : Int} (G : Gd X V cc own n F Lo) (hd : decode cc pc = .ok (.bipush x, 2)) (hx0 : -128 ≤ x ∧ x ≤ 127 := by decide) (k : AW X V σ (pc + 2) (iv x :: st) L) : AW X V σ pc (st) L := by
  obtain ⟨p, l, e, R, s, m, args, below, meth, c, nL, kc, ks, Q⟩ := X
  obtain ⟨hx, hb, hnL, hml, hown, hts, hK, hD, hb0, hZ, hT, hF, hLo, hkc, hks⟩ := G
  intro H locs ls hP hS hl
  refine lv_bipush hx hb hd (Int8.toInt32_ofInt (by rw [Int8.toInt_minValue]; omega) (by rw [Int8.toInt_maxValue]; omega)) ?_
  exact k H locs ls hP hS hl
theorem aw_sipush {x : Int} (G : Gd X V cc own n F Lo) (hd : decode cc pc = .ok (.sipush x, 3)) (hx0 : -32768 ≤ x ∧ x ≤ 32767 := by decide) (k : AW X V σ (pc + 3) (iv x :: st) L) : AW X V σ pc (st) L := by
  obtain ⟨p, l, e, R, s, m, args, below, meth, c, nL, kc, ks, Q⟩ := X
  obtain ⟨hx, hb, hnL, hml, hown, hts, hK, hD, hb0, hZ, hT, hF, hLo, hkc, hks⟩ := G
  intro H locs ls hP hS hl
  refine lv_sipush hx hb hd (Int16.toInt32_ofInt (by rw [Int16.toInt_minValue]; omega) (by rw [Int16.toInt_maxValue]; omega)) ?_
  exact k H locs ls hP hS hl
theorem aw_lconst {x : Fin 2} (G : Gd X V cc own n F Lo) (hd : decode cc pc = .ok (.lconst x, 1))  (k : AW X V σ (pc + 1) (jv (x : Nat) :: st) L) : AW X V σ pc (st) L := by
  obtain ⟨p, l, e, R, s, m, args, below, meth, c, nL, kc, ks, Q⟩ := X
  obtain ⟨hx, hb, hnL, hml, hown, hts, hK, hD, hb0, hZ, hT, hF, hLo, hkc, hks⟩ := G
  intro H locs ls hP hS hl
  refine lv_lconst hx hb hd rfl ?_
  exact k H locs ls hP hS hl
theorem aw_ldc {i : Nat} {v : Int} (G : Gd X V cc own n F Lo) (hd : decode cc pc = .ok (.ldc i, 2)) (hw : Cond.constant own i (Int32.ofInt v) ∈ tblG) (k : AW X V σ (pc + 2) (iv v :: st) L) : AW X V σ pc (st) L := by
  obtain ⟨p, l, e, R, s, m, args, below, meth, c, nL, kc, ks, Q⟩ := X
  obtain ⟨hx, hb, hnL, hml, hown, hts, hK, hD, hb0, hZ, hT, hF, hLo, hkc, hks⟩ := G
  intro H locs ls hP hS hl
  refine lv_ldc hx hb hown (hts _ hw) hd ?_
  exact k H locs ls hP hS hl
theorem aw_ldc2 {i : Nat} {v : Int} (G : Gd X V cc own n F Lo) (hd : decode cc pc = .ok (.ldc2_w i, 3)) (hw : Cond.constantLong own i (Int64.ofInt v) ∈ tblG) (k : AW X V σ (pc + 3) (jv v :: st) L) : AW X V σ pc (st) L := by
  obtain ⟨p, l, e, R, s, m, args, below, meth, c, nL, kc, ks, Q⟩ := X
  obtain ⟨hx, hb, hnL, hml, hown, hts, hK, hD, hb0, hZ, hT, hF, hLo, hkc, hks⟩ := G
  intro H locs ls hP hS hl
  refine lv_ldc2 hx hb hown (hts _ hw) hd ?_
  exact k H locs ls hP hS hl
theorem aw_dup {a : Value} (G : Gd X V cc own n F Lo) (hd : decode cc pc = .ok (.dup, 1)) (ha : a.category = 1 := by rfl) (k : AW X V σ (pc + 1) (a :: a :: st) L) : AW X V σ pc (a :: st) L := by
  obtain ⟨p, l, e, R, s, m, args, below, meth, c, nL, kc, ks, Q⟩ := X
  obtain ⟨hx, hb, hnL, hml, hown, hts, hK, hD, hb0, hZ, hT, hF, hLo, hkc, hks⟩ := G
  intro H locs ls hP hS hl
  refine lv_dup hx hb hd ha ?_
  exact k H locs ls hP hS hl
theorem aw_dup2 {a b : Value} (G : Gd X V cc own n F Lo) (hd : decode cc pc = .ok (.dup2, 1)) (ha : a.category = 1 := by rfl) (hb2 : b.category = 1 := by rfl) (k : AW X V σ (pc + 1) (a :: b :: a :: b :: st) L) : AW X V σ pc (a :: b :: st) L := by
  obtain ⟨p, l, e, R, s, m, args, below, meth, c, nL, kc, ks, Q⟩ := X
  obtain ⟨hx, hb, hnL, hml, hown, hts, hK, hD, hb0, hZ, hT, hF, hLo, hkc, hks⟩ := G
  intro H locs ls hP hS hl
  refine lv_dup2_11 hx hb hd ha hb2 ?_
  exact k H locs ls hP hS hl
theorem aw_pop {a : Value} (G : Gd X V cc own n F Lo) (hd : decode cc pc = .ok (.pop, 1)) (ha : a.category = 1 := by rfl) (k : AW X V σ (pc + 1) (st) L) : AW X V σ pc (a :: st) L := by
  obtain ⟨p, l, e, R, s, m, args, below, meth, c, nL, kc, ks, Q⟩ := X
  obtain ⟨hx, hb, hnL, hml, hown, hts, hK, hD, hb0, hZ, hT, hF, hLo, hkc, hks⟩ := G
  intro H locs ls hP hS hl
  refine lv_pop hx hb hd ha ?_
  exact k H locs ls hP hS hl
theorem aw_lcmp {x y : Int} (G : Gd X V cc own n F Lo) (hd : decode cc pc = .ok (.lcmp, 1)) (hx0 : inL x) (hy0 : inL y) (k : AW X V σ (pc + 1) (iv (if y < x then 1 else if x = y then 0 else -1) :: st) L) : AW X V σ pc (jv y :: jv x :: st) L := by
  obtain ⟨p, l, e, R, s, m, args, below, meth, c, nL, kc, ks, Q⟩ := X
  obtain ⟨hx, hb, hnL, hml, hown, hts, hK, hD, hb0, hZ, hT, hF, hLo, hkc, hks⟩ := G
  intro H locs ls hP hS hl
  refine W.lcmp hx hb hd ?_
  have e1 : lg_cmp (Int64.ofInt x) (Int64.ofInt y) = Int32.ofInt (if y < x then 1 else if x = y then 0 else -1) := by
    unfold lg_cmp
    by_cases h1 : y < x
    · simp [h1, (l_lt hy0 hx0).mpr h1]
    · by_cases h2 : x = y
      · subst h2
        have h3 : ¬ Int64.ofInt x < Int64.ofInt x := fun q => h1 ((l_lt hy0 hx0).mp q)
        simp [h1, h3]
      · have h3 : ¬ Int64.ofInt y < Int64.ofInt x := fun q => h1 ((l_lt hy0 hx0).mp q)
        have h4 : ¬ Int64.ofInt x = Int64.ofInt y := fun q => h2 ((l_eq hx0 hy0).mp q)
        simp [h1, h2, h3, h4]
  rw [e1]
  exact k H locs ls hP hS hl
theorem aw_iload {i : Nat} {x : Int} (G : Gd X V cc own n F Lo) (hd : decode cc pc = .ok (.iload i, 2)) (hL : L[i]? = some (some (iv x))) (k : AW X V σ (pc + 2) (iv x :: st) L) : AW X V σ pc st L := by
  obtain ⟨p, l, e, R, s, m, args, below, meth, c, nL, kc, ks, Q⟩ := X
  obtain ⟨hx, hb, hnL, hml, hown, hts, hK, hD, hb0, hZ, hT, hF, hLo, hkc, hks⟩ := G
  intro H locs ls hP hS hl
  refine lv_iload hx hb hd (lvl_get hl hL) ?_
  exact k H locs ls hP hS hl
theorem aw_iload_n {i : Fin 4} {x : Int} (G : Gd X V cc own n F Lo) (hd : decode cc pc = .ok (.iload_n i, 1)) (hL : L[(i : Nat)]? = some (some (iv x))) (k : AW X V σ (pc + 1) (iv x :: st) L) : AW X V σ pc st L := by
  obtain ⟨p, l, e, R, s, m, args, below, meth, c, nL, kc, ks, Q⟩ := X
  obtain ⟨hx, hb, hnL, hml, hown, hts, hK, hD, hb0, hZ, hT, hF, hLo, hkc, hks⟩ := G
  intro H locs ls hP hS hl
  refine lv_iload_n hx hb hd rfl (lvl_get hl hL) ?_
  exact k H locs ls hP hS hl
theorem aw_lload {i : Nat} {x : Int} (G : Gd X V cc own n F Lo) (hd : decode cc pc = .ok (.lload i, 2)) (hL : L[i]? = some (some (jv x))) (k : AW X V σ (pc + 2) (jv x :: st) L) : AW X V σ pc st L := by
  obtain ⟨p, l, e, R, s, m, args, below, meth, c, nL, kc, ks, Q⟩ := X
  obtain ⟨hx, hb, hnL, hml, hown, hts, hK, hD, hb0, hZ, hT, hF, hLo, hkc, hks⟩ := G
  intro H locs ls hP hS hl
  refine lv_lload hx hb hd (lvl_get hl hL) ?_
  exact k H locs ls hP hS hl
theorem aw_lload_n {i : Fin 4} {x : Int} (G : Gd X V cc own n F Lo) (hd : decode cc pc = .ok (.lload_n i, 1)) (hL : L[(i : Nat)]? = some (some (jv x))) (k : AW X V σ (pc + 1) (jv x :: st) L) : AW X V σ pc st L := by
  obtain ⟨p, l, e, R, s, m, args, below, meth, c, nL, kc, ks, Q⟩ := X
  obtain ⟨hx, hb, hnL, hml, hown, hts, hK, hD, hb0, hZ, hT, hF, hLo, hkc, hks⟩ := G
  intro H locs ls hP hS hl
  refine lv_lload_n hx hb hd rfl (lvl_get hl hL) ?_
  exact k H locs ls hP hS hl
theorem aw_aload {i x : Nat} (G : Gd X V cc own n F Lo) (hd : decode cc pc = .ok (.aload i, 2)) (hL : L[i]? = some (some (rv V x))) (k : AW X V σ (pc + 2) (rv V x :: st) L) : AW X V σ pc st L := by
  obtain ⟨p, l, e, R, s, m, args, below, meth, c, nL, kc, ks, Q⟩ := X
  obtain ⟨hx, hb, hnL, hml, hown, hts, hK, hD, hb0, hZ, hT, hF, hLo, hkc, hks⟩ := G
  intro H locs ls hP hS hl
  refine lv_aload hx hb hd (lvl_get hl hL) ?_
  exact k H locs ls hP hS hl
theorem aw_aload_n {i : Fin 4} {x : Nat} (G : Gd X V cc own n F Lo) (hd : decode cc pc = .ok (.aload_n i, 1)) (hL : L[(i : Nat)]? = some (some (rv V x))) (k : AW X V σ (pc + 1) (rv V x :: st) L) : AW X V σ pc st L := by
  obtain ⟨p, l, e, R, s, m, args, below, meth, c, nL, kc, ks, Q⟩ := X
  obtain ⟨hx, hb, hnL, hml, hown, hts, hK, hD, hb0, hZ, hT, hF, hLo, hkc, hks⟩ := G
  intro H locs ls hP hS hl
  refine lv_aload_n hx hb hd rfl (lvl_get hl hL) ?_
  exact k H locs ls hP hS hl
theorem aw_istore_0 {a0 : Option Value} {t : List (Option Value)} {x : Int} (G : Gd X V cc own n F Lo) (hd : decode cc pc = .ok (.istore_n 0, 1)) (hi : 0 < n := by decide) (k : AW X V σ (pc + 1) st (some (iv x) :: t)) : AW X V σ pc (iv x :: st) (a0 :: t) := by
  obtain ⟨p, l, e, R, s, m, args, below, meth, c, nL, kc, ks, Q⟩ := X
  obtain ⟨hx, hb, hnL, hml, hown, hts, hK, hD, hb0, hZ, hT, hF, hLo, hkc, hks⟩ := G
  intro H locs ls hP hS hl
  subst hnL
  refine lv_istore_n (lv := lvl 0 (a0 :: t)) hx hb hd rfl hl (hi) rfl fun ls hl => ?_
  exact k H locs ls hP hS (lvl_set (L := a0 :: t) hl (fun j hj => by omega))
theorem aw_astore_0 {a0 : Option Value} {t : List (Option Value)} {x : Nat} (G : Gd X V cc own n F Lo) (hd : decode cc pc = .ok (.astore_n 0, 1)) (hi : 0 < n := by decide) (k : AW X V σ (pc + 1) st (some (rv V x) :: t)) : AW X V σ pc (rv V x :: st) (a0 :: t) := by
  obtain ⟨p, l, e, R, s, m, args, below, meth, c, nL, kc, ks, Q⟩ := X
  obtain ⟨hx, hb, hnL, hml, hown, hts, hK, hD, hb0, hZ, hT, hF, hLo, hkc, hks⟩ := G
  intro H locs ls hP hS hl
  subst hnL
  refine lv_astore_n (lv := lvl 0 (a0 :: t)) hx hb hd rfl hl (hi) rfl fun ls hl => ?_
  exact k H locs ls hP hS (lvl_set (L := a0 :: t) hl (fun j hj => by omega))
theorem aw_iinc_0 {a0 : Option Value} {t : List (Option Value)} {x d : Int} (G : Gd X V cc own n F Lo) (hd : decode cc pc = .ok (.iinc 0 d, 3)) (hx0 : a0 = some (iv x)) (hi : 0 < n := by decide) (k : AW X V σ (pc + 3) st (some (iv (x + d)) :: t)) : AW X V σ pc st (a0 :: t) := by
  obtain ⟨p, l, e, R, s, m, args, below, meth, c, nL, kc, ks, Q⟩ := X
  obtain ⟨hx, hb, hnL, hml, hown, hts, hK, hD, hb0, hZ, hT, hF, hLo, hkc, hks⟩ := G
  intro H locs ls hP hS hl
  subst hnL hx0
  obtain ⟨k0, hk0⟩ := List.getElem?_of_mem (lvl_mem (some (iv x) :: t) 0 0 (iv x) rfl)
  refine lv_iinc (k := k0) (v := Int32.ofInt (x + d)) hx hb hd hl hk0 (by rw [Int32.ofInt_add]) hi rfl fun ls hl => ?_
  exact k H locs ls hP hS (lvl_set (L := some (iv x) :: t) hl (fun j hj => by omega))
theorem aw_istore_1 {a0 a1 : Option Value} {t : List (Option Value)} {x : Int} (G : Gd X V cc own n F Lo) (hd : decode cc pc = .ok (.istore_n 1, 1)) (hc : lcat a0 = 1 := by rfl) (hi : 1 < n := by decide) (k : AW X V σ (pc + 1) st (a0 :: some (iv x) :: t)) : AW X V σ pc (iv x :: st) (a0 :: a1 :: t) := by
  obtain ⟨p, l, e, R, s, m, args, below, meth, c, nL, kc, ks, Q⟩ := X
  obtain ⟨hx, hb, hnL, hml, hown, hts, hK, hD, hb0, hZ, hT, hF, hLo, hkc, hks⟩ := G
  intro H locs ls hP hS hl
  subst hnL
  refine lv_istore_n (lv := lvl 0 (a0 :: a1 :: t)) hx hb hd rfl hl (hi) rfl fun ls hl => ?_
  exact k H locs ls hP hS (lvl_set (L := a0 :: a1 :: t) hl (fun j hj => by rw [show j = 0 by omega]; exact hc))
theorem aw_astore_1 {a0 a1 : Option Value} {t : List (Option Value)} {x : Nat} (G : Gd X V cc own n F Lo) (hd : decode cc pc = .ok (.astore_n 1, 1)) (hc : lcat a0 = 1 := by rfl) (hi : 1 < n := by decide) (k : AW X V σ (pc + 1) st (a0 :: some (rv V x) :: t)) : AW X V σ pc (rv V x :: st) (a0 :: a1 :: t) := by
  obtain ⟨p, l, e, R, s, m, args, below, meth, c, nL, kc, ks, Q⟩ := X
  obtain ⟨hx, hb, hnL, hml, hown, hts, hK, hD, hb0, hZ, hT, hF, hLo, hkc, hks⟩ := G
  intro H locs ls hP hS hl
  subst hnL
  refine lv_astore_n (lv := lvl 0 (a0 :: a1 :: t)) hx hb hd rfl hl (hi) rfl fun ls hl => ?_
  exact k H locs ls hP hS (lvl_set (L := a0 :: a1 :: t) hl (fun j hj => by rw [show j = 0 by omega]; exact hc))
theorem aw_iinc_1 {a0 a1 : Option Value} {t : List (Option Value)} {x d : Int} (G : Gd X V cc own n F Lo) (hd : decode cc pc = .ok (.iinc 1 d, 3)) (hx0 : a1 = some (iv x)) (hc : lcat a0 = 1 := by rfl) (hi : 1 < n := by decide) (k : AW X V σ (pc + 3) st (a0 :: some (iv (x + d)) :: t)) : AW X V σ pc st (a0 :: a1 :: t) := by
  obtain ⟨p, l, e, R, s, m, args, below, meth, c, nL, kc, ks, Q⟩ := X
  obtain ⟨hx, hb, hnL, hml, hown, hts, hK, hD, hb0, hZ, hT, hF, hLo, hkc, hks⟩ := G
  intro H locs ls hP hS hl
  subst hnL hx0
  obtain ⟨k0, hk0⟩ := List.getElem?_of_mem (lvl_mem (a0 :: some (iv x) :: t) 0 1 (iv x) rfl)
  refine lv_iinc (k := k0) (v := Int32.ofInt (x + d)) hx hb hd hl hk0 (by rw [Int32.ofInt_add]) hi rfl fun ls hl => ?_
  exact k H locs ls hP hS (lvl_set (L := a0 :: some (iv x) :: t) hl (fun j hj => by rw [show j = 0 by omega]; exact hc))
theorem aw_istore_2 {a0 a1 a2 : Option Value} {t : List (Option Value)} {x : Int} (G : Gd X V cc own n F Lo) (hd : decode cc pc = .ok (.istore_n 2, 1)) (hc : lcat a1 = 1 := by rfl) (hi : 2 < n := by decide) (k : AW X V σ (pc + 1) st (a0 :: a1 :: some (iv x) :: t)) : AW X V σ pc (iv x :: st) (a0 :: a1 :: a2 :: t) := by
  obtain ⟨p, l, e, R, s, m, args, below, meth, c, nL, kc, ks, Q⟩ := X
  obtain ⟨hx, hb, hnL, hml, hown, hts, hK, hD, hb0, hZ, hT, hF, hLo, hkc, hks⟩ := G
  intro H locs ls hP hS hl
  subst hnL
  refine lv_istore_n (lv := lvl 0 (a0 :: a1 :: a2 :: t)) hx hb hd rfl hl (hi) rfl fun ls hl => ?_
  exact k H locs ls hP hS (lvl_set (L := a0 :: a1 :: a2 :: t) hl (fun j hj => by rw [show j = 1 by omega]; exact hc))
theorem aw_astore_2 {a0 a1 a2 : Option Value} {t : List (Option Value)} {x : Nat} (G : Gd X V cc own n F Lo) (hd : decode cc pc = .ok (.astore_n 2, 1)) (hc : lcat a1 = 1 := by rfl) (hi : 2 < n := by decide) (k : AW X V σ (pc + 1) st (a0 :: a1 :: some (rv V x) :: t)) : AW X V σ pc (rv V x :: st) (a0 :: a1 :: a2 :: t) := by
  obtain ⟨p, l, e, R, s, m, args, below, meth, c, nL, kc, ks, Q⟩ := X
  obtain ⟨hx, hb, hnL, hml, hown, hts, hK, hD, hb0, hZ, hT, hF, hLo, hkc, hks⟩ := G
  intro H locs ls hP hS hl
  subst hnL
  refine lv_astore_n (lv := lvl 0 (a0 :: a1 :: a2 :: t)) hx hb hd rfl hl (hi) rfl fun ls hl => ?_
  exact k H locs ls hP hS (lvl_set (L := a0 :: a1 :: a2 :: t) hl (fun j hj => by rw [show j = 1 by omega]; exact hc))
theorem aw_iinc_2 {a0 a1 a2 : Option Value} {t : List (Option Value)} {x d : Int} (G : Gd X V cc own n F Lo) (hd : decode cc pc = .ok (.iinc 2 d, 3)) (hx0 : a2 = some (iv x)) (hc : lcat a1 = 1 := by rfl) (hi : 2 < n := by decide) (k : AW X V σ (pc + 3) st (a0 :: a1 :: some (iv (x + d)) :: t)) : AW X V σ pc st (a0 :: a1 :: a2 :: t) := by
  obtain ⟨p, l, e, R, s, m, args, below, meth, c, nL, kc, ks, Q⟩ := X
  obtain ⟨hx, hb, hnL, hml, hown, hts, hK, hD, hb0, hZ, hT, hF, hLo, hkc, hks⟩ := G
  intro H locs ls hP hS hl
  subst hnL hx0
  obtain ⟨k0, hk0⟩ := List.getElem?_of_mem (lvl_mem (a0 :: a1 :: some (iv x) :: t) 0 2 (iv x) rfl)
  refine lv_iinc (k := k0) (v := Int32.ofInt (x + d)) hx hb hd hl hk0 (by rw [Int32.ofInt_add]) hi rfl fun ls hl => ?_
  exact k H locs ls hP hS (lvl_set (L := a0 :: a1 :: some (iv x) :: t) hl (fun j hj => by rw [show j = 1 by omega]; exact hc))
theorem aw_istore_3 {a0 a1 a2 a3 : Option Value} {t : List (Option Value)} {x : Int} (G : Gd X V cc own n F Lo) (hd : decode cc pc = .ok (.istore_n 3, 1)) (hc : lcat a2 = 1 := by rfl) (hi : 3 < n := by decide) (k : AW X V σ (pc + 1) st (a0 :: a1 :: a2 :: some (iv x) :: t)) : AW X V σ pc (iv x :: st) (a0 :: a1 :: a2 :: a3 :: t) := by
  obtain ⟨p, l, e, R, s, m, args, below, meth, c, nL, kc, ks, Q⟩ := X
  obtain ⟨hx, hb, hnL, hml, hown, hts, hK, hD, hb0, hZ, hT, hF, hLo, hkc, hks⟩ := G
  intro H locs ls hP hS hl
  subst hnL
  refine lv_istore_n (lv := lvl 0 (a0 :: a1 :: a2 :: a3 :: t)) hx hb hd rfl hl (hi) rfl fun ls hl => ?_
  exact k H locs ls hP hS (lvl_set (L := a0 :: a1 :: a2 :: a3 :: t) hl (fun j hj => by rw [show j = 2 by omega]; exact hc))
theorem aw_astore_3 {a0 a1 a2 a3 : Option Value} {t : List (Option Value)} {x : Nat} (G : Gd X V cc own n F Lo) (hd : decode cc pc = .ok (.astore_n 3, 1)) (hc : lcat a2 = 1 := by rfl) (hi : 3 < n := by decide) (k : AW X V σ (pc + 1) st (a0 :: a1 :: a2 :: some (rv V x) :: t)) : AW X V σ pc (rv V x :: st) (a0 :: a1 :: a2 :: a3 :: t) := by
  obtain ⟨p, l, e, R, s, m, args, below, meth, c, nL, kc, ks, Q⟩ := X
  obtain ⟨hx, hb, hnL, hml, hown, hts, hK, hD, hb0, hZ, hT, hF, hLo, hkc, hks⟩ := G
  intro H locs ls hP hS hl
  subst hnL
  refine lv_astore_n (lv := lvl 0 (a0 :: a1 :: a2 :: a3 :: t)) hx hb hd rfl hl (hi) rfl fun ls hl => ?_
  exact k H locs ls hP hS (lvl_set (L := a0 :: a1 :: a2 :: a3 :: t) hl (fun j hj => by rw [show j = 2 by omega]; exact hc))
theorem aw_iinc_3 {a0 a1 a2 a3 : Option Value} {t : List (Option Value)} {x d : Int} (G : Gd X V cc own n F Lo) (hd : decode cc pc = .ok (.iinc 3 d, 3)) (hx0 : a3 = some (iv x)) (hc : lcat a2 = 1 := by rfl) (hi : 3 < n := by decide) (k : AW X V σ (pc + 3) st (a0 :: a1 :: a2 :: some (iv (x + d)) :: t)) : AW X V σ pc st (a0 :: a1 :: a2 :: a3 :: t) := by
  obtain ⟨p, l, e, R, s, m, args, below, meth, c, nL, kc, ks, Q⟩ := X
  obtain ⟨hx, hb, hnL, hml, hown, hts, hK, hD, hb0, hZ, hT, hF, hLo, hkc, hks⟩ := G
  intro H locs ls hP hS hl
  subst hnL hx0
  obtain ⟨k0, hk0⟩ := List.getElem?_of_mem (lvl_mem (a0 :: a1 :: a2 :: some (iv x) :: t) 0 3 (iv x) rfl)
  refine lv_iinc (k := k0) (v := Int32.ofInt (x + d)) hx hb hd hl hk0 (by rw [Int32.ofInt_add]) hi rfl fun ls hl => ?_
  exact k H locs ls hP hS (lvl_set (L := a0 :: a1 :: a2 :: some (iv x) :: t) hl (fun j hj => by rw [show j = 2 by omega]; exact hc))
theorem aw_istore_4 {a0 a1 a2 a3 a4 : Option Value} {t : List (Option Value)} {x : Int} (G : Gd X V cc own n F Lo) (hd : decode cc pc = .ok (.istore 4, 2)) (hc : lcat a3 = 1 := by rfl) (hi : 4 < n := by decide) (k : AW X V σ (pc + 2) st (a0 :: a1 :: a2 :: a3 :: some (iv x) :: t)) : AW X V σ pc (iv x :: st) (a0 :: a1 :: a2 :: a3 :: a4 :: t) := by
  obtain ⟨p, l, e, R, s, m, args, below, meth, c, nL, kc, ks, Q⟩ := X
  obtain ⟨hx, hb, hnL, hml, hown, hts, hK, hD, hb0, hZ, hT, hF, hLo, hkc, hks⟩ := G
  intro H locs ls hP hS hl
  subst hnL
  refine lv_istore (lv := lvl 0 (a0 :: a1 :: a2 :: a3 :: a4 :: t)) hx hb hd hl (hi) rfl fun ls hl => ?_
  exact k H locs ls hP hS (lvl_set (L := a0 :: a1 :: a2 :: a3 :: a4 :: t) hl (fun j hj => by rw [show j = 3 by omega]; exact hc))
theorem aw_astore_4 {a0 a1 a2 a3 a4 : Option Value} {t : List (Option Value)} {x : Nat} (G : Gd X V cc own n F Lo) (hd : decode cc pc = .ok (.astore 4, 2)) (hc : lcat a3 = 1 := by rfl) (hi : 4 < n := by decide) (k : AW X V σ (pc + 2) st (a0 :: a1 :: a2 :: a3 :: some (rv V x) :: t)) : AW X V σ pc (rv V x :: st) (a0 :: a1 :: a2 :: a3 :: a4 :: t) := by
  obtain ⟨p, l, e, R, s, m, args, below, meth, c, nL, kc, ks, Q⟩ := X
  obtain ⟨hx, hb, hnL, hml, hown, hts, hK, hD, hb0, hZ, hT, hF, hLo, hkc, hks⟩ := G
  intro H locs ls hP hS hl
  subst hnL
  refine lv_astore (lv := lvl 0 (a0 :: a1 :: a2 :: a3 :: a4 :: t)) hx hb hd hl (hi) rfl fun ls hl => ?_
  exact k H locs ls hP hS (lvl_set (L := a0 :: a1 :: a2 :: a3 :: a4 :: t) hl (fun j hj => by rw [show j = 3 by omega]; exact hc))
theorem aw_iinc_4 {a0 a1 a2 a3 a4 : Option Value} {t : List (Option Value)} {x d : Int} (G : Gd X V cc own n F Lo) (hd : decode cc pc = .ok (.iinc 4 d, 3)) (hx0 : a4 = some (iv x)) (hc : lcat a3 = 1 := by rfl) (hi : 4 < n := by decide) (k : AW X V σ (pc + 3) st (a0 :: a1 :: a2 :: a3 :: some (iv (x + d)) :: t)) : AW X V σ pc st (a0 :: a1 :: a2 :: a3 :: a4 :: t) := by
  obtain ⟨p, l, e, R, s, m, args, below, meth, c, nL, kc, ks, Q⟩ := X
  obtain ⟨hx, hb, hnL, hml, hown, hts, hK, hD, hb0, hZ, hT, hF, hLo, hkc, hks⟩ := G
  intro H locs ls hP hS hl
  subst hnL hx0
  obtain ⟨k0, hk0⟩ := List.getElem?_of_mem (lvl_mem (a0 :: a1 :: a2 :: a3 :: some (iv x) :: t) 0 4 (iv x) rfl)
  refine lv_iinc (k := k0) (v := Int32.ofInt (x + d)) hx hb hd hl hk0 (by rw [Int32.ofInt_add]) hi rfl fun ls hl => ?_
  exact k H locs ls hP hS (lvl_set (L := a0 :: a1 :: a2 :: a3 :: some (iv x) :: t) hl (fun j hj => by rw [show j = 3 by omega]; exact hc))
theorem aw_istore_5 {a0 a1 a2 a3 a4 a5 : Option Value} {t : List (Option Value)} {x : Int} (G : Gd X V cc own n F Lo) (hd : decode cc pc = .ok (.istore 5, 2)) (hc : lcat a4 = 1 := by rfl) (hi : 5 < n := by decide) (k : AW X V σ (pc + 2) st (a0 :: a1 :: a2 :: a3 :: a4 :: some (iv x) :: t)) : AW X V σ pc (iv x :: st) (a0 :: a1 :: a2 :: a3 :: a4 :: a5 :: t) := by
  obtain ⟨p, l, e, R, s, m, args, below, meth, c, nL, kc, ks, Q⟩ := X
  obtain ⟨hx, hb, hnL, hml, hown, hts, hK, hD, hb0, hZ, hT, hF, hLo, hkc, hks⟩ := G
  intro H locs ls hP hS hl
  subst hnL
  refine lv_istore (lv := lvl 0 (a0 :: a1 :: a2 :: a3 :: a4 :: a5 :: t)) hx hb hd hl (hi) rfl fun ls hl => ?_
  exact k H locs ls hP hS (lvl_set (L := a0 :: a1 :: a2 :: a3 :: a4 :: a5 :: t) hl (fun j hj => by rw [show j = 4 by omega]; exact hc))
theorem aw_astore_5 {a0 a1 a2 a3 a4 a5 : Option Value} {t : List (Option Value)} {x : Nat} (G : Gd X V cc own n F Lo) (hd : decode cc pc = .ok (.astore 5, 2)) (hc : lcat a4 = 1 := by rfl) (hi : 5 < n := by decide) (k : AW X V σ (pc + 2) st (a0 :: a1 :: a2 :: a3 :: a4 :: some (rv V x) :: t)) : AW X V σ pc (rv V x :: st) (a0 :: a1 :: a2 :: a3 :: a4 :: a5 :: t) := by
  obtain ⟨p, l, e, R, s, m, args, below, meth, c, nL, kc, ks, Q⟩ := X
  obtain ⟨hx, hb, hnL, hml, hown, hts, hK, hD, hb0, hZ, hT, hF, hLo, hkc, hks⟩ := G
  intro H locs ls hP hS hl
  subst hnL
  refine lv_astore (lv := lvl 0 (a0 :: a1 :: a2 :: a3 :: a4 :: a5 :: t)) hx hb hd hl (hi) rfl fun ls hl => ?_
  exact k H locs ls hP hS (lvl_set (L := a0 :: a1 :: a2 :: a3 :: a4 :: a5 :: t) hl (fun j hj => by rw [show j = 4 by omega]; exact hc))
theorem aw_iinc_5 {a0 a1 a2 a3 a4 a5 : Option Value} {t : List (Option Value)} {x d : Int} (G : Gd X V cc own n F Lo) (hd : decode cc pc = .ok (.iinc 5 d, 3)) (hx0 : a5 = some (iv x)) (hc : lcat a4 = 1 := by rfl) (hi : 5 < n := by decide) (k : AW X V σ (pc + 3) st (a0 :: a1 :: a2 :: a3 :: a4 :: some (iv (x + d)) :: t)) : AW X V σ pc st (a0 :: a1 :: a2 :: a3 :: a4 :: a5 :: t) := by
  obtain ⟨p, l, e, R, s, m, args, below, meth, c, nL, kc, ks, Q⟩ := X
  obtain ⟨hx, hb, hnL, hml, hown, hts, hK, hD, hb0, hZ, hT, hF, hLo, hkc, hks⟩ := G
  intro H locs ls hP hS hl
  subst hnL hx0
  obtain ⟨k0, hk0⟩ := List.getElem?_of_mem (lvl_mem (a0 :: a1 :: a2 :: a3 :: a4 :: some (iv x) :: t) 0 5 (iv x) rfl)
  refine lv_iinc (k := k0) (v := Int32.ofInt (x + d)) hx hb hd hl hk0 (by rw [Int32.ofInt_add]) hi rfl fun ls hl => ?_
  exact k H locs ls hP hS (lvl_set (L := a0 :: a1 :: a2 :: a3 :: a4 :: some (iv x) :: t) hl (fun j hj => by rw [show j = 4 by omega]; exact hc))
theorem aw_istore_6 {a0 a1 a2 a3 a4 a5 a6 : Option Value} {t : List (Option Value)} {x : Int} (G : Gd X V cc own n F Lo) (hd : decode cc pc = .ok (.istore 6, 2)) (hc : lcat a5 = 1 := by rfl) (hi : 6 < n := by decide) (k : AW X V σ (pc + 2) st (a0 :: a1 :: a2 :: a3 :: a4 :: a5 :: some (iv x) :: t)) : AW X V σ pc (iv x :: st) (a0 :: a1 :: a2 :: a3 :: a4 :: a5 :: a6 :: t) := by
  obtain ⟨p, l, e, R, s, m, args, below, meth, c, nL, kc, ks, Q⟩ := X
  obtain ⟨hx, hb, hnL, hml, hown, hts, hK, hD, hb0, hZ, hT, hF, hLo, hkc, hks⟩ := G
  intro H locs ls hP hS hl
  subst hnL
  refine lv_istore (lv := lvl 0 (a0 :: a1 :: a2 :: a3 :: a4 :: a5 :: a6 :: t)) hx hb hd hl (hi) rfl fun ls hl => ?_
  exact k H locs ls hP hS (lvl_set (L := a0 :: a1 :: a2 :: a3 :: a4 :: a5 :: a6 :: t) hl (fun j hj => by rw [show j = 5 by omega]; exact hc))
theorem aw_astore_6 {a0 a1 a2 a3 a4 a5 a6 : Option Value} {t : List (Option Value)} {x : Nat} (G : Gd X V cc own n F Lo) (hd : decode cc pc = .ok (.astore 6, 2)) (hc : lcat a5 = 1 := by rfl) (hi : 6 < n := by decide) (k : AW X V σ (pc + 2) st (a0 :: a1 :: a2 :: a3 :: a4 :: a5 :: some (rv V x) :: t)) : AW X V σ pc (rv V x :: st) (a0 :: a1 :: a2 :: a3 :: a4 :: a5 :: a6 :: t) := by
  obtain ⟨p, l, e, R, s, m, args, below, meth, c, nL, kc, ks, Q⟩ := X
  obtain ⟨hx, hb, hnL, hml, hown, hts, hK, hD, hb0, hZ, hT, hF, hLo, hkc, hks⟩ := G
  intro H locs ls hP hS hl
  subst hnL
  refine lv_astore (lv := lvl 0 (a0 :: a1 :: a2 :: a3 :: a4 :: a5 :: a6 :: t)) hx hb hd hl (hi) rfl fun ls hl => ?_
  exact k H locs ls hP hS (lvl_set (L := a0 :: a1 :: a2 :: a3 :: a4 :: a5 :: a6 :: t) hl (fun j hj => by rw [show j = 5 by omega]; exact hc))
theorem aw_iinc_6 {a0 a1 a2 a3 a4 a5 a6 : Option Value} {t : List (Option Value)} {x d : Int} (G : Gd X V cc own n F Lo) (hd : decode cc pc = .ok (.iinc 6 d, 3)) (hx0 : a6 = some (iv x)) (hc : lcat a5 = 1 := by rfl) (hi : 6 < n := by decide) (k : AW X V σ (pc + 3) st (a0 :: a1 :: a2 :: a3 :: a4 :: a5 :: some (iv (x + d)) :: t)) : AW X V σ pc st (a0 :: a1 :: a2 :: a3 :: a4 :: a5 :: a6 :: t) := by
  obtain ⟨p, l, e, R, s, m, args, below, meth, c, nL, kc, ks, Q⟩ := X
  obtain ⟨hx, hb, hnL, hml, hown, hts, hK, hD, hb0, hZ, hT, hF, hLo, hkc, hks⟩ := G
  intro H locs ls hP hS hl
  subst hnL hx0
  obtain ⟨k0, hk0⟩ := List.getElem?_of_mem (lvl_mem (a0 :: a1 :: a2 :: a3 :: a4 :: a5 :: some (iv x) :: t) 0 6 (iv x) rfl)
  refine lv_iinc (k := k0) (v := Int32.ofInt (x + d)) hx hb hd hl hk0 (by rw [Int32.ofInt_add]) hi rfl fun ls hl => ?_
  exact k H locs ls hP hS (lvl_set (L := a0 :: a1 :: a2 :: a3 :: a4 :: a5 :: some (iv x) :: t) hl (fun j hj => by rw [show j = 5 by omega]; exact hc))
theorem aw_istore_7 {a0 a1 a2 a3 a4 a5 a6 a7 : Option Value} {t : List (Option Value)} {x : Int} (G : Gd X V cc own n F Lo) (hd : decode cc pc = .ok (.istore 7, 2)) (hc : lcat a6 = 1 := by rfl) (hi : 7 < n := by decide) (k : AW X V σ (pc + 2) st (a0 :: a1 :: a2 :: a3 :: a4 :: a5 :: a6 :: some (iv x) :: t)) : AW X V σ pc (iv x :: st) (a0 :: a1 :: a2 :: a3 :: a4 :: a5 :: a6 :: a7 :: t) := by
  obtain ⟨p, l, e, R, s, m, args, below, meth, c, nL, kc, ks, Q⟩ := X
  obtain ⟨hx, hb, hnL, hml, hown, hts, hK, hD, hb0, hZ, hT, hF, hLo, hkc, hks⟩ := G
  intro H locs ls hP hS hl
  subst hnL
  refine lv_istore (lv := lvl 0 (a0 :: a1 :: a2 :: a3 :: a4 :: a5 :: a6 :: a7 :: t)) hx hb hd hl (hi) rfl fun ls hl => ?_
  exact k H locs ls hP hS (lvl_set (L := a0 :: a1 :: a2 :: a3 :: a4 :: a5 :: a6 :: a7 :: t) hl (fun j hj => by rw [show j = 6 by omega]; exact hc))
theorem aw_astore_7 {a0 a1 a2 a3 a4 a5 a6 a7 : Option Value} {t : List (Option Value)} {x : Nat} (G : Gd X V cc own n F Lo) (hd : decode cc pc = .ok (.astore 7, 2)) (hc : lcat a6 = 1 := by rfl) (hi : 7 < n := by decide) (k : AW X V σ (pc + 2) st (a0 :: a1 :: a2 :: a3 :: a4 :: a5 :: a6 :: some (rv V x) :: t)) : AW X V σ pc (rv V x :: st) (a0 :: a1 :: a2 :: a3 :: a4 :: a5 :: a6 :: a7 :: t) := by
  obtain ⟨p, l, e, R, s, m, args, below, meth, c, nL, kc, ks, Q⟩ := X
  obtain ⟨hx, hb, hnL, hml, hown, hts, hK, hD, hb0, hZ, hT, hF, hLo, hkc, hks⟩ := G
  intro H locs ls hP hS hl
  subst hnL
  refine lv_astore (lv := lvl 0 (a0 :: a1 :: a2 :: a3 :: a4 :: a5 :: a6 :: a7 :: t)) hx hb hd hl (hi) rfl fun ls hl => ?_
  exact k H locs ls hP hS (lvl_set (L := a0 :: a1 :: a2 :: a3 :: a4 :: a5 :: a6 :: a7 :: t) hl (fun j hj => by rw [show j = 6 by omega]; exact hc))
theorem aw_iinc_7 {a0 a1 a2 a3 a4 a5 a6 a7 : Option Value} {t : List (Option Value)} {x d : Int} (G : Gd X V cc own n F Lo) (hd : decode cc pc = .ok (.iinc 7 d, 3)) (hx0 : a7 = some (iv x)) (hc : lcat a6 = 1 := by rfl) (hi : 7 < n := by decide) (k : AW X V σ (pc + 3) st (a0 :: a1 :: a2 :: a3 :: a4 :: a5 :: a6 :: some (iv (x + d)) :: t)) : AW X V σ pc st (a0 :: a1 :: a2 :: a3 :: a4 :: a5 :: a6 :: a7 :: t) := by
  obtain ⟨p, l, e, R, s, m, args, below, meth, c, nL, kc, ks, Q⟩ := X
  obtain ⟨hx, hb, hnL, hml, hown, hts, hK, hD, hb0, hZ, hT, hF, hLo, hkc, hks⟩ := G
  intro H locs ls hP hS hl
  subst hnL hx0
  obtain ⟨k0, hk0⟩ := List.getElem?_of_mem (lvl_mem (a0 :: a1 :: a2 :: a3 :: a4 :: a5 :: a6 :: some (iv x) :: t) 0 7 (iv x) rfl)
  refine lv_iinc (k := k0) (v := Int32.ofInt (x + d)) hx hb hd hl hk0 (by rw [Int32.ofInt_add]) hi rfl fun ls hl => ?_
  exact k H locs ls hP hS (lvl_set (L := a0 :: a1 :: a2 :: a3 :: a4 :: a5 :: a6 :: some (iv x) :: t) hl (fun j hj => by rw [show j = 6 by omega]; exact hc))
theorem aw_istore_8 {a0 a1 a2 a3 a4 a5 a6 a7 a8 : Option Value} {t : List (Option Value)} {x : Int} (G : Gd X V cc own n F Lo) (hd : decode cc pc = .ok (.istore 8, 2)) (hc : lcat a7 = 1 := by rfl) (hi : 8 < n := by decide) (k : AW X V σ (pc + 2) st (a0 :: a1 :: a2 :: a3 :: a4 :: a5 :: a6 :: a7 :: some (iv x) :: t)) : AW X V σ pc (iv x :: st) (a0 :: a1 :: a2 :: a3 :: a4 :: a5 :: a6 :: a7 :: a8 :: t) := by
  obtain ⟨p, l, e, R, s, m, args, below, meth, c, nL, kc, ks, Q⟩ := X
  obtain ⟨hx, hb, hnL, hml, hown, hts, hK, hD, hb0, hZ, hT, hF, hLo, hkc, hks⟩ := G
  intro H locs ls hP hS hl
  subst hnL
  refine lv_istore (lv := lvl 0 (a0 :: a1 :: a2 :: a3 :: a4 :: a5 :: a6 :: a7 :: a8 :: t)) hx hb hd hl (hi) rfl fun ls hl => ?_
  exact k H locs ls hP hS (lvl_set (L := a0 :: a1 :: a2 :: a3 :: a4 :: a5 :: a6 :: a7 :: a8 :: t) hl (fun j hj => by rw [show j = 7 by omega]; exact hc))
theorem aw_astore_8 {a0 a1 a2 a3 a4 a5 a6 a7 a8 : Option Value} {t : List (Option Value)} {x : Nat} (G : Gd X V cc own n F Lo) (hd : decode cc pc = .ok (.astore 8, 2)) (hc : lcat a7 = 1 := by rfl) (hi : 8 < n := by decide) (k : AW X V σ (pc + 2) st (a0 :: a1 :: a2 :: a3 :: a4 :: a5 :: a6 :: a7 :: some (rv V x) :: t)) : AW X V σ pc (rv V x :: st) (a0 :: a1 :: a2 :: a3 :: a4 :: a5 :: a6 :: a7 :: a8 :: t) := by
  obtain ⟨p, l, e, R, s, m, args, below, meth, c, nL, kc, ks, Q⟩ := X
  obtain ⟨hx, hb, hnL, hml, hown, hts, hK, hD, hb0, hZ, hT, hF, hLo, hkc, hks⟩ := G
  intro H locs ls hP hS hl
  subst hnL
  refine lv_astore (lv := lvl 0 (a0 :: a1 :: a2 :: a3 :: a4 :: a5 :: a6 :: a7 :: a8 :: t)) hx hb hd hl (hi) rfl fun ls hl => ?_
  exact k H locs ls hP hS (lvl_set (L := a0 :: a1 :: a2 :: a3 :: a4 :: a5 :: a6 :: a7 :: a8 :: t) hl (fun j hj => by rw [show j = 7 by omega]; exact hc))
theorem aw_iinc_8 {a0 a1 a2 a3 a4 a5 a6 a7 a8 : Option Value} {t : List (Option Value)} {x d : Int} (G : Gd X V cc own n F Lo) (hd : decode cc pc = .ok (.iinc 8 d, 3)) (hx0 : a8 = some (iv x)) (hc : lcat a7 = 1 := by rfl) (hi : 8 < n := by decide) (k : AW X V σ (pc + 3) st (a0 :: a1 :: a2 :: a3 :: a4 :: a5 :: a6 :: a7 :: some (iv (x + d)) :: t)) : AW X V σ pc st (a0 :: a1 :: a2 :: a3 :: a4 :: a5 :: a6 :: a7 :: a8 :: t) := by
  obtain ⟨p, l, e, R, s, m, args, below, meth, c, nL, kc, ks, Q⟩ := X
  obtain ⟨hx, hb, hnL, hml, hown, hts, hK, hD, hb0, hZ, hT, hF, hLo, hkc, hks⟩ := G
  intro H locs ls hP hS hl
  subst hnL hx0
  obtain ⟨k0, hk0⟩ := List.getElem?_of_mem (lvl_mem (a0 :: a1 :: a2 :: a3 :: a4 :: a5 :: a6 :: a7 :: some (iv x) :: t) 0 8 (iv x) rfl)
  refine lv_iinc (k := k0) (v := Int32.ofInt (x + d)) hx hb hd hl hk0 (by rw [Int32.ofInt_add]) hi rfl fun ls hl => ?_
  exact k H locs ls hP hS (lvl_set (L := a0 :: a1 :: a2 :: a3 :: a4 :: a5 :: a6 :: a7 :: some (iv x) :: t) hl (fun j hj => by rw [show j = 7 by omega]; exact hc))
theorem aw_istore_9 {a0 a1 a2 a3 a4 a5 a6 a7 a8 a9 : Option Value} {t : List (Option Value)} {x : Int} (G : Gd X V cc own n F Lo) (hd : decode cc pc = .ok (.istore 9, 2)) (hc : lcat a8 = 1 := by rfl) (hi : 9 < n := by decide) (k : AW X V σ (pc + 2) st (a0 :: a1 :: a2 :: a3 :: a4 :: a5 :: a6 :: a7 :: a8 :: some (iv x) :: t)) : AW X V σ pc (iv x :: st) (a0 :: a1 :: a2 :: a3 :: a4 :: a5 :: a6 :: a7 :: a8 :: a9 :: t) := by
  obtain ⟨p, l, e, R, s, m, args, below, meth, c, nL, kc, ks, Q⟩ := X
  obtain ⟨hx, hb, hnL, hml, hown, hts, hK, hD, hb0, hZ, hT, hF, hLo, hkc, hks⟩ := G
  intro H locs ls hP hS hl
  subst hnL
  refine lv_istore (lv := lvl 0 (a0 :: a1 :: a2 :: a3 :: a4 :: a5 :: a6 :: a7 :: a8 :: a9 :: t)) hx hb hd hl (hi) rfl fun ls hl => ?_
  exact k H locs ls hP hS (lvl_set (L := a0 :: a1 :: a2 :: a3 :: a4 :: a5 :: a6 :: a7 :: a8 :: a9 :: t) hl (fun j hj => by rw [show j = 8 by omega]; exact hc))
theorem aw_astore_9 {a0 a1 a2 a3 a4 a5 a6 a7 a8 a9 : Option Value} {t : List (Option Value)} {x : Nat} (G : Gd X V cc own n F Lo) (hd : decode cc pc = .ok (.astore 9, 2)) (hc : lcat a8 = 1 := by rfl) (hi : 9 < n := by decide) (k : AW X V σ (pc + 2) st (a0 :: a1 :: a2 :: a3 :: a4 :: a5 :: a6 :: a7 :: a8 :: some (rv V x) :: t)) : AW X V σ pc (rv V x :: st) (a0 :: a1 :: a2 :: a3 :: a4 :: a5 :: a6 :: a7 :: a8 :: a9 :: t) := by
  obtain ⟨p, l, e, R, s, m, args, below, meth, c, nL, kc, ks, Q⟩ := X
  obtain ⟨hx, hb, hnL, hml, hown, hts, hK, hD, hb0, hZ, hT, hF, hLo, hkc, hks⟩ := G
  intro H locs ls hP hS hl
  subst hnL
  refine lv_astore (lv := lvl 0 (a0 :: a1 :: a2 :: a3 :: a4 :: a5 :: a6 :: a7 :: a8 :: a9 :: t)) hx hb hd hl (hi) rfl fun ls hl => ?_
  exact k H locs ls hP hS (lvl_set (L := a0 :: a1 :: a2 :: a3 :: a4 :: a5 :: a6 :: a7 :: a8 :: a9 :: t) hl (fun j hj => by rw [show j = 8 by omega]; exact hc))
theorem aw_iinc_9 {a0 a1 a2 a3 a4 a5 a6 a7 a8 a9 : Option Value} {t : List (Option Value)} {x d : Int} (G : Gd X V cc own n F Lo) (hd : decode cc pc = .ok (.iinc 9 d, 3)) (hx0 : a9 = some (iv x)) (hc : lcat a8 = 1 := by rfl) (hi : 9 < n := by decide) (k : AW X V σ (pc + 3) st (a0 :: a1 :: a2 :: a3 :: a4 :: a5 :: a6 :: a7 :: a8 :: some (iv (x + d)) :: t)) : AW X V σ pc st (a0 :: a1 :: a2 :: a3 :: a4 :: a5 :: a6 :: a7 :: a8 :: a9 :: t) := by
  obtain ⟨p, l, e, R, s, m, args, below, meth, c, nL, kc, ks, Q⟩ := X
  obtain ⟨hx, hb, hnL, hml, hown, hts, hK, hD, hb0, hZ, hT, hF, hLo, hkc, hks⟩ := G
  intro H locs ls hP hS hl
  subst hnL hx0
  obtain ⟨k0, hk0⟩ := List.getElem?_of_mem (lvl_mem (a0 :: a1 :: a2 :: a3 :: a4 :: a5 :: a6 :: a7 :: a8 :: some (iv x) :: t) 0 9 (iv x) rfl)
  refine lv_iinc (k := k0) (v := Int32.ofInt (x + d)) hx hb hd hl hk0 (by rw [Int32.ofInt_add]) hi rfl fun ls hl => ?_
  exact k H locs ls hP hS (lvl_set (L := a0 :: a1 :: a2 :: a3 :: a4 :: a5 :: a6 :: a7 :: a8 :: some (iv x) :: t) hl (fun j hj => by rw [show j = 8 by omega]; exact hc))
theorem aw_istore_10 {a0 a1 a2 a3 a4 a5 a6 a7 a8 a9 a10 : Option Value} {t : List (Option Value)} {x : Int} (G : Gd X V cc own n F Lo) (hd : decode cc pc = .ok (.istore 10, 2)) (hc : lcat a9 = 1 := by rfl) (hi : 10 < n := by decide) (k : AW X V σ (pc + 2) st (a0 :: a1 :: a2 :: a3 :: a4 :: a5 :: a6 :: a7 :: a8 :: a9 :: some (iv x) :: t)) : AW X V σ pc (iv x :: st) (a0 :: a1 :: a2 :: a3 :: a4 :: a5 :: a6 :: a7 :: a8 :: a9 :: a10 :: t) := by
  obtain ⟨p, l, e, R, s, m, args, below, meth, c, nL, kc, ks, Q⟩ := X
  obtain ⟨hx, hb, hnL, hml, hown, hts, hK, hD, hb0, hZ, hT, hF, hLo, hkc, hks⟩ := G
  intro H locs ls hP hS hl
  subst hnL
  refine lv_istore (lv := lvl 0 (a0 :: a1 :: a2 :: a3 :: a4 :: a5 :: a6 :: a7 :: a8 :: a9 :: a10 :: t)) hx hb hd hl (hi) rfl fun ls hl => ?_
  exact k H locs ls hP hS (lvl_set (L := a0 :: a1 :: a2 :: a3 :: a4 :: a5 :: a6 :: a7 :: a8 :: a9 :: a10 :: t) hl (fun j hj => by rw [show j = 9 by omega]; exact hc))
theorem aw_astore_10 {a0 a1 a2 a3 a4 a5 a6 a7 a8 a9 a10 : Option Value} {t : List (Option Value)} {x : Nat} (G : Gd X V cc own n F Lo) (hd : decode cc pc = .ok (.astore 10, 2)) (hc : lcat a9 = 1 := by rfl) (hi : 10 < n := by decide) (k : AW X V σ (pc + 2) st (a0 :: a1 :: a2 :: a3 :: a4 :: a5 :: a6 :: a7 :: a8 :: a9 :: some (rv V x) :: t)) : AW X V σ pc (rv V x :: st) (a0 :: a1 :: a2 :: a3 :: a4 :: a5 :: a6 :: a7 :: a8 :: a9 :: a10 :: t) := by
  obtain ⟨p, l, e, R, s, m, args, below, meth, c, nL, kc, ks, Q⟩ := X
  obtain ⟨hx, hb, hnL, hml, hown, hts, hK, hD, hb0, hZ, hT, hF, hLo, hkc, hks⟩ := G
  intro H locs ls hP hS hl
  subst hnL
  refine lv_astore (lv := lvl 0 (a0 :: a1 :: a2 :: a3 :: a4 :: a5 :: a6 :: a7 :: a8 :: a9 :: a10 :: t)) hx hb hd hl (hi) rfl fun ls hl => ?_
  exact k H locs ls hP hS (lvl_set (L := a0 :: a1 :: a2 :: a3 :: a4 :: a5 :: a6 :: a7 :: a8 :: a9 :: a10 :: t) hl (fun j hj => by rw [show j = 9 by omega]; exact hc))
theorem aw_iinc_10 {a0 a1 a2 a3 a4 a5 a6 a7 a8 a9 a10 : Option Value} {t : List (Option Value)} {x d : Int} (G : Gd X V cc own n F Lo) (hd : decode cc pc = .ok (.iinc 10 d, 3)) (hx0 : a10 = some (iv x)) (hc : lcat a9 = 1 := by rfl) (hi : 10 < n := by decide) (k : AW X V σ (pc + 3) st (a0 :: a1 :: a2 :: a3 :: a4 :: a5 :: a6 :: a7 :: a8 :: a9 :: some (iv (x + d)) :: t)) : AW X V σ pc st (a0 :: a1 :: a2 :: a3 :: a4 :: a5 :: a6 :: a7 :: a8 :: a9 :: a10 :: t) := by
  obtain ⟨p, l, e, R, s, m, args, below, meth, c, nL, kc, ks, Q⟩ := X
  obtain ⟨hx, hb, hnL, hml, hown, hts, hK, hD, hb0, hZ, hT, hF, hLo, hkc, hks⟩ := G
  intro H locs ls hP hS hl
  subst hnL hx0
  obtain ⟨k0, hk0⟩ := List.getElem?_of_mem (lvl_mem (a0 :: a1 :: a2 :: a3 :: a4 :: a5 :: a6 :: a7 :: a8 :: a9 :: some (iv x) :: t) 0 10 (iv x) rfl)
  refine lv_iinc (k := k0) (v := Int32.ofInt (x + d)) hx hb hd hl hk0 (by rw [Int32.ofInt_add]) hi rfl fun ls hl => ?_
  exact k H locs ls hP hS (lvl_set (L := a0 :: a1 :: a2 :: a3 :: a4 :: a5 :: a6 :: a7 :: a8 :: a9 :: some (iv x) :: t) hl (fun j hj => by rw [show j = 9 by omega]; exact hc))
theorem aw_istore_11 {a0 a1 a2 a3 a4 a5 a6 a7 a8 a9 a10 a11 : Option Value} {t : List (Option Value)} {x : Int} (G : Gd X V cc own n F Lo) (hd : decode cc pc = .ok (.istore 11, 2)) (hc : lcat a10 = 1 := by rfl) (hi : 11 < n := by decide) (k : AW X V σ (pc + 2) st (a0 :: a1 :: a2 :: a3 :: a4 :: a5 :: a6 :: a7 :: a8 :: a9 :: a10 :: some (iv x) :: t)) : AW X V σ pc (iv x :: st) (a0 :: a1 :: a2 :: a3 :: a4 :: a5 :: a6 :: a7 :: a8 :: a9 :: a10 :: a11 :: t) := by
  obtain ⟨p, l, e, R, s, m, args, below, meth, c, nL, kc, ks, Q⟩ := X
  obtain ⟨hx, hb, hnL, hml, hown, hts, hK, hD, hb0, hZ, hT, hF, hLo, hkc, hks⟩ := G
  intro H locs ls hP hS hl
  subst hnL
  refine lv_istore (lv := lvl 0 (a0 :: a1 :: a2 :: a3 :: a4 :: a5 :: a6 :: a7 :: a8 :: a9 :: a10 :: a11 :: t)) hx hb hd hl (hi) rfl fun ls hl => ?_
  exact k H locs ls hP hS (lvl_set (L := a0 :: a1 :: a2 :: a3 :: a4 :: a5 :: a6 :: a7 :: a8 :: a9 :: a10 :: a11 :: t) hl (fun j hj => by rw [show j = 10 by omega]; exact hc))
theorem aw_astore_11 {a0 a1 a2 a3 a4 a5 a6 a7 a8 a9 a10 a11 : Option Value} {t : List (Option Value)} {x : Nat} (G : Gd X V cc own n F Lo) (hd : decode cc pc = .ok (.astore 11, 2)) (hc : lcat a10 = 1 := by rfl) (hi : 11 < n := by decide) (k : AW X V σ (pc + 2) st (a0 :: a1 :: a2 :: a3 :: a4 :: a5 :: a6 :: a7 :: a8 :: a9 :: a10 :: some (rv V x) :: t)) : AW X V σ pc (rv V x :: st) (a0 :: a1 :: a2 :: a3 :: a4 :: a5 :: a6 :: a7 :: a8 :: a9 :: a10 :: a11 :: t) := by
  obtain ⟨p, l, e, R, s, m, args, below, meth, c, nL, kc, ks, Q⟩ := X
  obtain ⟨hx, hb, hnL, hml, hown, hts, hK, hD, hb0, hZ, hT, hF, hLo, hkc, hks⟩ := G
  intro H locs ls hP hS hl
  subst hnL
  refine lv_astore (lv := lvl 0 (a0 :: a1 :: a2 :: a3 :: a4 :: a5 :: a6 :: a7 :: a8 :: a9 :: a10 :: a11 :: t)) hx hb hd hl (hi) rfl fun ls hl => ?_
  exact k H locs ls hP hS (lvl_set (L := a0 :: a1 :: a2 :: a3 :: a4 :: a5 :: a6 :: a7 :: a8 :: a9 :: a10 :: a11 :: t) hl (fun j hj => by rw [show j = 10 by omega]; exact hc))
theorem aw_iinc_11 {a0 a1 a2 a3 a4 a5 a6 a7 a8 a9 a10 a11 : Option Value} {t : List (Option Value)} {x d : Int} (G : Gd X V cc own n F Lo) (hd : decode cc pc = .ok (.iinc 11 d, 3)) (hx0 : a11 = some (iv x)) (hc : lcat a10 = 1 := by rfl) (hi : 11 < n := by decide) (k : AW X V σ (pc + 3) st (a0 :: a1 :: a2 :: a3 :: a4 :: a5 :: a6 :: a7 :: a8 :: a9 :: a10 :: some (iv (x + d)) :: t)) : AW X V σ pc st (a0 :: a1 :: a2 :: a3 :: a4 :: a5 :: a6 :: a7 :: a8 :: a9 :: a10 :: a11 :: t) := by
  obtain ⟨p, l, e, R, s, m, args, below, meth, c, nL, kc, ks, Q⟩ := X
  obtain ⟨hx, hb, hnL, hml, hown, hts, hK, hD, hb0, hZ, hT, hF, hLo, hkc, hks⟩ := G
  intro H locs ls hP hS hl
  subst hnL hx0
  obtain ⟨k0, hk0⟩ := List.getElem?_of_mem (lvl_mem (a0 :: a1 :: a2 :: a3 :: a4 :: a5 :: a6 :: a7 :: a8 :: a9 :: a10 :: some (iv x) :: t) 0 11 (iv x) rfl)
  refine lv_iinc (k := k0) (v := Int32.ofInt (x + d)) hx hb hd hl hk0 (by rw [Int32.ofInt_add]) hi rfl fun ls hl => ?_
  exact k H locs ls hP hS (lvl_set (L := a0 :: a1 :: a2 :: a3 :: a4 :: a5 :: a6 :: a7 :: a8 :: a9 :: a10 :: some (iv x) :: t) hl (fun j hj => by rw [show j = 10 by omega]; exact hc))
theorem aw_lstore_0 {a0 a1 : Option Value} {t : List (Option Value)} {x : Int} (G : Gd X V cc own n F Lo) (hd : decode cc pc = .ok (.lstore_n 0, 1)) (hi : 0 + 1 < n := by decide) (k : AW X V σ (pc + 1) st (some (jv x) :: none :: t)) : AW X V σ pc (jv x :: st) (a0 :: a1 :: t) := by
  obtain ⟨p, l, e, R, s, m, args, below, meth, c, nL, kc, ks, Q⟩ := X
  obtain ⟨hx, hb, hnL, hml, hown, hts, hK, hD, hb0, hZ, hT, hF, hLo, hkc, hks⟩ := G
  intro H locs ls hP hS hl
  subst hnL
  refine lv_lstore_n (lv := lvl 0 (a0 :: a1 :: t)) hx hb hd rfl hl hi rfl fun ls hl => ?_
  exact k H locs ls hP hS (lvl_set2 (L := a0 :: a1 :: t) hl (fun j hj => by omega))
theorem aw_lstore_1 {a0 a1 a2 : Option Value} {t : List (Option Value)} {x : Int} (G : Gd X V cc own n F Lo) (hd : decode cc pc = .ok (.lstore_n 1, 1)) (hc : lcat a0 = 1 := by rfl) (hi : 1 + 1 < n := by decide) (k : AW X V σ (pc + 1) st (a0 :: some (jv x) :: none :: t)) : AW X V σ pc (jv x :: st) (a0 :: a1 :: a2 :: t) := by
  obtain ⟨p, l, e, R, s, m, args, below, meth, c, nL, kc, ks, Q⟩ := X
  obtain ⟨hx, hb, hnL, hml, hown, hts, hK, hD, hb0, hZ, hT, hF, hLo, hkc, hks⟩ := G
  intro H locs ls hP hS hl
  subst hnL
  refine lv_lstore_n (lv := lvl 0 (a0 :: a1 :: a2 :: t)) hx hb hd rfl hl hi rfl fun ls hl => ?_
  exact k H locs ls hP hS (lvl_set2 (L := a0 :: a1 :: a2 :: t) hl (fun j hj => by rw [show j = 0 by omega]; exact hc))
theorem aw_lstore_2 {a0 a1 a2 a3 : Option Value} {t : List (Option Value)} {x : Int} (G : Gd X V cc own n F Lo) (hd : decode cc pc = .ok (.lstore_n 2, 1)) (hc : lcat a1 = 1 := by rfl) (hi : 2 + 1 < n := by decide) (k : AW X V σ (pc + 1) st (a0 :: a1 :: some (jv x) :: none :: t)) : AW X V σ pc (jv x :: st) (a0 :: a1 :: a2 :: a3 :: t) := by
  obtain ⟨p, l, e, R, s, m, args, below, meth, c, nL, kc, ks, Q⟩ := X
  obtain ⟨hx, hb, hnL, hml, hown, hts, hK, hD, hb0, hZ, hT, hF, hLo, hkc, hks⟩ := G
  intro H locs ls hP hS hl
  subst hnL
  refine lv_lstore_n (lv := lvl 0 (a0 :: a1 :: a2 :: a3 :: t)) hx hb hd rfl hl hi rfl fun ls hl => ?_
  exact k H locs ls hP hS (lvl_set2 (L := a0 :: a1 :: a2 :: a3 :: t) hl (fun j hj => by rw [show j = 1 by omega]; exact hc))
theorem aw_lstore_3 {a0 a1 a2 a3 a4 : Option Value} {t : List (Option Value)} {x : Int} (G : Gd X V cc own n F Lo) (hd : decode cc pc = .ok (.lstore_n 3, 1)) (hc : lcat a2 = 1 := by rfl) (hi : 3 + 1 < n := by decide) (k : AW X V σ (pc + 1) st (a0 :: a1 :: a2 :: some (jv x) :: none :: t)) : AW X V σ pc (jv x :: st) (a0 :: a1 :: a2 :: a3 :: a4 :: t) := by
  obtain ⟨p, l, e, R, s, m, args, below, meth, c, nL, kc, ks, Q⟩ := X
  obtain ⟨hx, hb, hnL, hml, hown, hts, hK, hD, hb0, hZ, hT, hF, hLo, hkc, hks⟩ := G
  intro H locs ls hP hS hl
  subst hnL
  refine lv_lstore_n (lv := lvl 0 (a0 :: a1 :: a2 :: a3 :: a4 :: t)) hx hb hd rfl hl hi rfl fun ls hl => ?_
  exact k H locs ls hP hS (lvl_set2 (L := a0 :: a1 :: a2 :: a3 :: a4 :: t) hl (fun j hj => by rw [show j = 2 by omega]; exact hc))
theorem aw_lstore_4 {a0 a1 a2 a3 a4 a5 : Option Value} {t : List (Option Value)} {x : Int} (G : Gd X V cc own n F Lo) (hd : decode cc pc = .ok (.lstore 4, 2)) (hc : lcat a3 = 1 := by rfl) (hi : 4 + 1 < n := by decide) (k : AW X V σ (pc + 2) st (a0 :: a1 :: a2 :: a3 :: some (jv x) :: none :: t)) : AW X V σ pc (jv x :: st) (a0 :: a1 :: a2 :: a3 :: a4 :: a5 :: t) := by
  obtain ⟨p, l, e, R, s, m, args, below, meth, c, nL, kc, ks, Q⟩ := X
  obtain ⟨hx, hb, hnL, hml, hown, hts, hK, hD, hb0, hZ, hT, hF, hLo, hkc, hks⟩ := G
  intro H locs ls hP hS hl
  subst hnL
  refine lv_lstore (lv := lvl 0 (a0 :: a1 :: a2 :: a3 :: a4 :: a5 :: t)) hx hb hd hl hi rfl fun ls hl => ?_
  exact k H locs ls hP hS (lvl_set2 (L := a0 :: a1 :: a2 :: a3 :: a4 :: a5 :: t) hl (fun j hj => by rw [show j = 3 by omega]; exact hc))
theorem aw_lstore_5 {a0 a1 a2 a3 a4 a5 a6 : Option Value} {t : List (Option Value)} {x : Int} (G : Gd X V cc own n F Lo) (hd : decode cc pc = .ok (.lstore 5, 2)) (hc : lcat a4 = 1 := by rfl) (hi : 5 + 1 < n := by decide) (k : AW X V σ (pc + 2) st (a0 :: a1 :: a2 :: a3 :: a4 :: some (jv x) :: none :: t)) : AW X V σ pc (jv x :: st) (a0 :: a1 :: a2 :: a3 :: a4 :: a5 :: a6 :: t) := by
  obtain ⟨p, l, e, R, s, m, args, below, meth, c, nL, kc, ks, Q⟩ := X
  obtain ⟨hx, hb, hnL, hml, hown, hts, hK, hD, hb0, hZ, hT, hF, hLo, hkc, hks⟩ := G
  intro H locs ls hP hS hl
  subst hnL
  refine lv_lstore (lv := lvl 0 (a0 :: a1 :: a2 :: a3 :: a4 :: a5 :: a6 :: t)) hx hb hd hl hi rfl fun ls hl => ?_
  exact k H locs ls hP hS (lvl_set2 (L := a0 :: a1 :: a2 :: a3 :: a4 :: a5 :: a6 :: t) hl (fun j hj => by rw [show j = 4 by omega]; exact hc))
theorem aw_lstore_6 {a0 a1 a2 a3 a4 a5 a6 a7 : Option Value} {t : List (Option Value)} {x : Int} (G : Gd X V cc own n F Lo) (hd : decode cc pc = .ok (.lstore 6, 2)) (hc : lcat a5 = 1 := by rfl) (hi : 6 + 1 < n := by decide) (k : AW X V σ (pc + 2) st (a0 :: a1 :: a2 :: a3 :: a4 :: a5 :: some (jv x) :: none :: t)) : AW X V σ pc (jv x :: st) (a0 :: a1 :: a2 :: a3 :: a4 :: a5 :: a6 :: a7 :: t) := by
  obtain ⟨p, l, e, R, s, m, args, below, meth, c, nL, kc, ks, Q⟩ := X
  obtain ⟨hx, hb, hnL, hml, hown, hts, hK, hD, hb0, hZ, hT, hF, hLo, hkc, hks⟩ := G
  intro H locs ls hP hS hl
  subst hnL
  refine lv_lstore (lv := lvl 0 (a0 :: a1 :: a2 :: a3 :: a4 :: a5 :: a6 :: a7 :: t)) hx hb hd hl hi rfl fun ls hl => ?_
  exact k H locs ls hP hS (lvl_set2 (L := a0 :: a1 :: a2 :: a3 :: a4 :: a5 :: a6 :: a7 :: t) hl (fun j hj => by rw [show j = 5 by omega]; exact hc))
theorem aw_lstore_7 {a0 a1 a2 a3 a4 a5 a6 a7 a8 : Option Value} {t : List (Option Value)} {x : Int} (G : Gd X V cc own n F Lo) (hd : decode cc pc = .ok (.lstore 7, 2)) (hc : lcat a6 = 1 := by rfl) (hi : 7 + 1 < n := by decide) (k : AW X V σ (pc + 2) st (a0 :: a1 :: a2 :: a3 :: a4 :: a5 :: a6 :: some (jv x) :: none :: t)) : AW X V σ pc (jv x :: st) (a0 :: a1 :: a2 :: a3 :: a4 :: a5 :: a6 :: a7 :: a8 :: t) := by
  obtain ⟨p, l, e, R, s, m, args, below, meth, c, nL, kc, ks, Q⟩ := X
  obtain ⟨hx, hb, hnL, hml, hown, hts, hK, hD, hb0, hZ, hT, hF, hLo, hkc, hks⟩ := G
  intro H locs ls hP hS hl
  subst hnL
  refine lv_lstore (lv := lvl 0 (a0 :: a1 :: a2 :: a3 :: a4 :: a5 :: a6 :: a7 :: a8 :: t)) hx hb hd hl hi rfl fun ls hl => ?_
  exact k H locs ls hP hS (lvl_set2 (L := a0 :: a1 :: a2 :: a3 :: a4 :: a5 :: a6 :: a7 :: a8 :: t) hl (fun j hj => by rw [show j = 6 by omega]; exact hc))
theorem aw_lstore_8 {a0 a1 a2 a3 a4 a5 a6 a7 a8 a9 : Option Value} {t : List (Option Value)} {x : Int} (G : Gd X V cc own n F Lo) (hd : decode cc pc = .ok (.lstore 8, 2)) (hc : lcat a7 = 1 := by rfl) (hi : 8 + 1 < n := by decide) (k : AW X V σ (pc + 2) st (a0 :: a1 :: a2 :: a3 :: a4 :: a5 :: a6 :: a7 :: some (jv x) :: none :: t)) : AW X V σ pc (jv x :: st) (a0 :: a1 :: a2 :: a3 :: a4 :: a5 :: a6 :: a7 :: a8 :: a9 :: t) := by
  obtain ⟨p, l, e, R, s, m, args, below, meth, c, nL, kc, ks, Q⟩ := X
  obtain ⟨hx, hb, hnL, hml, hown, hts, hK, hD, hb0, hZ, hT, hF, hLo, hkc, hks⟩ := G
  intro H locs ls hP hS hl
  subst hnL
  refine lv_lstore (lv := lvl 0 (a0 :: a1 :: a2 :: a3 :: a4 :: a5 :: a6 :: a7 :: a8 :: a9 :: t)) hx hb hd hl hi rfl fun ls hl => ?_
  exact k H locs ls hP hS (lvl_set2 (L := a0 :: a1 :: a2 :: a3 :: a4 :: a5 :: a6 :: a7 :: a8 :: a9 :: t) hl (fun j hj => by rw [show j = 7 by omega]; exact hc))
theorem aw_lstore_9 {a0 a1 a2 a3 a4 a5 a6 a7 a8 a9 a10 : Option Value} {t : List (Option Value)} {x : Int} (G : Gd X V cc own n F Lo) (hd : decode cc pc = .ok (.lstore 9, 2)) (hc : lcat a8 = 1 := by rfl) (hi : 9 + 1 < n := by decide) (k : AW X V σ (pc + 2) st (a0 :: a1 :: a2 :: a3 :: a4 :: a5 :: a6 :: a7 :: a8 :: some (jv x) :: none :: t)) : AW X V σ pc (jv x :: st) (a0 :: a1 :: a2 :: a3 :: a4 :: a5 :: a6 :: a7 :: a8 :: a9 :: a10 :: t) := by
  obtain ⟨p, l, e, R, s, m, args, below, meth, c, nL, kc, ks, Q⟩ := X
  obtain ⟨hx, hb, hnL, hml, hown, hts, hK, hD, hb0, hZ, hT, hF, hLo, hkc, hks⟩ := G
  intro H locs ls hP hS hl
  subst hnL
  refine lv_lstore (lv := lvl 0 (a0 :: a1 :: a2 :: a3 :: a4 :: a5 :: a6 :: a7 :: a8 :: a9 :: a10 :: t)) hx hb hd hl hi rfl fun ls hl => ?_
  exact k H locs ls hP hS (lvl_set2 (L := a0 :: a1 :: a2 :: a3 :: a4 :: a5 :: a6 :: a7 :: a8 :: a9 :: a10 :: t) hl (fun j hj => by rw [show j = 8 by omega]; exact hc))
theorem aw_lstore_10 {a0 a1 a2 a3 a4 a5 a6 a7 a8 a9 a10 a11 : Option Value} {t : List (Option Value)} {x : Int} (G : Gd X V cc own n F Lo) (hd : decode cc pc = .ok (.lstore 10, 2)) (hc : lcat a9 = 1 := by rfl) (hi : 10 + 1 < n := by decide) (k : AW X V σ (pc + 2) st (a0 :: a1 :: a2 :: a3 :: a4 :: a5 :: a6 :: a7 :: a8 :: a9 :: some (jv x) :: none :: t)) : AW X V σ pc (jv x :: st) (a0 :: a1 :: a2 :: a3 :: a4 :: a5 :: a6 :: a7 :: a8 :: a9 :: a10 :: a11 :: t) := by
  obtain ⟨p, l, e, R, s, m, args, below, meth, c, nL, kc, ks, Q⟩ := X
  obtain ⟨hx, hb, hnL, hml, hown, hts, hK, hD, hb0, hZ, hT, hF, hLo, hkc, hks⟩ := G
  intro H locs ls hP hS hl
  subst hnL
  refine lv_lstore (lv := lvl 0 (a0 :: a1 :: a2 :: a3 :: a4 :: a5 :: a6 :: a7 :: a8 :: a9 :: a10 :: a11 :: t)) hx hb hd hl hi rfl fun ls hl => ?_
  exact k H locs ls hP hS (lvl_set2 (L := a0 :: a1 :: a2 :: a3 :: a4 :: a5 :: a6 :: a7 :: a8 :: a9 :: a10 :: a11 :: t) hl (fun j hj => by rw [show j = 9 by omega]; exact hc))
theorem aw_wk {L' : List (Option Value)} (k : AW X V σ pc st L') (h : ∀ (i : Nat) (v : Value), L'[i]? = some (some v) → L[i]? = some (some v)) : AW X V σ pc st L := by
  obtain ⟨p, l, e, R, s, m, args, below, meth, c, nL, kc, ks, Q⟩ := X
  intro H locs ls hP hS hl
  exact k H locs ls hP hS (lvl_sub hl fun i v hi => by simpa using lvl_mem L 0 i v (h i v hi))
theorem aw_goto {off : Int} {tgt : Nat} (G : Gd X V cc own n F Lo) (hd : decode cc pc = .ok (.goto off, 3)) (ht : (pc : Int) + off = (tgt : Int)) (k : AW X V σ tgt st L) : AW X V σ pc st L := by
  obtain ⟨p, l, e, R, s, m, args, below, meth, c, nL, kc, ks, Q⟩ := X
  obtain ⟨hx, hb, hnL, hml, hown, hts, hK, hD, hb0, hZ, hT, hF, hLo, hkc, hks⟩ := G
  intro H locs ls hP hS hl
  exact lv_goto hx hb hd ht (k H locs ls hP hS hl)
theorem aw_nm {x : Int} (k : ∀ y, y = x → AW X V σ pc (iv y :: st) L) : AW X V σ pc (iv x :: st) L := k x rfl
theorem aw_st {τ : St} (h : σ = τ) (k : AW X V τ pc st L) : AW X V σ pc st L := h ▸ k
theorem aw_icmp_eq {x y off : Int} {tgt : Nat} (G : Gd X V cc own n F Lo) (hd : decode cc pc = .ok (.if_icmp .eq off, 3)) (ht : (pc : Int) + off = (tgt : Int)) (hx0 : inR x) (hy0 : inR y) (kt : x = y → AW X V σ tgt st L) (kf : ¬ x = y → AW X V σ (pc + 3) st L) : AW X V σ pc (iv y :: iv x :: st) L := by
  obtain ⟨p, l, e, R, s, m, args, below, meth, c, nL, kc, ks, Q⟩ := X
  obtain ⟨hx, hb, hnL, hml, hown, hts, hK, hD, hb0, hZ, hT, hF, hLo, hkc, hks⟩ := G
  intro H locs ls hP hS hl
  exact lv_icmp_eq hx hb hd ht (fun q0 => kt ((n_eq hx0 hy0).mp q0) H locs ls hP hS hl) (fun q0 => kf (fun q => q0 ((n_eq hx0 hy0).mpr q)) H locs ls hP hS hl)
theorem aw_if_eq {x off : Int} {tgt : Nat} (G : Gd X V cc own n F Lo) (hd : decode cc pc = .ok (.ifCond .eq off, 3)) (ht : (pc : Int) + off = (tgt : Int)) (hx0 : inR x) (kt : x = 0 → AW X V σ tgt st L) (kf : ¬ x = 0 → AW X V σ (pc + 3) st L) : AW X V σ pc (iv x :: st) L := by
  obtain ⟨p, l, e, R, s, m, args, below, meth, c, nL, kc, ks, Q⟩ := X
  obtain ⟨hx, hb, hnL, hml, hown, hts, hK, hD, hb0, hZ, hT, hF, hLo, hkc, hks⟩ := G
  intro H locs ls hP hS hl
  exact lv_if_eq hx hb hd ht (fun q0 => kt ((n_eq hx0 (show inR 0 by decide)).mp q0) H locs ls hP hS hl) (fun q0 => kf (fun q => q0 ((n_eq hx0 (show inR 0 by decide)).mpr q)) H locs ls hP hS hl)
theorem aw_icmp_ne {x y off : Int} {tgt : Nat} (G : Gd X V cc own n F Lo) (hd : decode cc pc = .ok (.if_icmp .ne off, 3)) (ht : (pc : Int) + off = (tgt : Int)) (hx0 : inR x) (hy0 : inR y) (kt : ¬ x = y → AW X V σ tgt st L) (kf : x = y → AW X V σ (pc + 3) st L) : AW X V σ pc (iv y :: iv x :: st) L := by
  obtain ⟨p, l, e, R, s, m, args, below, meth, c, nL, kc, ks, Q⟩ := X
  obtain ⟨hx, hb, hnL, hml, hown, hts, hK, hD, hb0, hZ, hT, hF, hLo, hkc, hks⟩ := G
  intro H locs ls hP hS hl
  exact lv_icmp_ne hx hb hd ht (fun q0 => kt (fun q => q0 ((n_eq hx0 hy0).mpr q)) H locs ls hP hS hl) (fun q0 => kf ((n_eq hx0 hy0).mp q0) H locs ls hP hS hl)
theorem aw_if_ne {x off : Int} {tgt : Nat} (G : Gd X V cc own n F Lo) (hd : decode cc pc = .ok (.ifCond .ne off, 3)) (ht : (pc : Int) + off = (tgt : Int)) (hx0 : inR x) (kt : ¬ x = 0 → AW X V σ tgt st L) (kf : x = 0 → AW X V σ (pc + 3) st L) : AW X V σ pc (iv x :: st) L := by
  obtain ⟨p, l, e, R, s, m, args, below, meth, c, nL, kc, ks, Q⟩ := X
  obtain ⟨hx, hb, hnL, hml, hown, hts, hK, hD, hb0, hZ, hT, hF, hLo, hkc, hks⟩ := G
  intro H locs ls hP hS hl
  exact lv_if_ne hx hb hd ht (fun q0 => kt (fun q => q0 ((n_eq hx0 (show inR 0 by decide)).mpr q)) H locs ls hP hS hl) (fun q0 => kf ((n_eq hx0 (show inR 0 by decide)).mp q0) H locs ls hP hS hl)
theorem aw_icmp_lt {x y off : Int} {tgt : Nat} (G : Gd X V cc own n F Lo) (hd : decode cc pc = .ok (.if_icmp .lt off, 3)) (ht : (pc : Int) + off = (tgt : Int)) (hx0 : inR x) (hy0 : inR y) (kt : x < y → AW X V σ tgt st L) (kf : ¬ x < y → AW X V σ (pc + 3) st L) : AW X V σ pc (iv y :: iv x :: st) L := by
  obtain ⟨p, l, e, R, s, m, args, below, meth, c, nL, kc, ks, Q⟩ := X
  obtain ⟨hx, hb, hnL, hml, hown, hts, hK, hD, hb0, hZ, hT, hF, hLo, hkc, hks⟩ := G
  intro H locs ls hP hS hl
  exact lv_icmp_lt hx hb hd ht (fun q0 => kt ((n_lt hx0 hy0).mp q0) H locs ls hP hS hl) (fun q0 => kf (fun q => q0 ((n_lt hx0 hy0).mpr q)) H locs ls hP hS hl)
theorem aw_if_lt {x off : Int} {tgt : Nat} (G : Gd X V cc own n F Lo) (hd : decode cc pc = .ok (.ifCond .lt off, 3)) (ht : (pc : Int) + off = (tgt : Int)) (hx0 : inR x) (kt : x < 0 → AW X V σ tgt st L) (kf : ¬ x < 0 → AW X V σ (pc + 3) st L) : AW X V σ pc (iv x :: st) L := by
  obtain ⟨p, l, e, R, s, m, args, below, meth, c, nL, kc, ks, Q⟩ := X
  obtain ⟨hx, hb, hnL, hml, hown, hts, hK, hD, hb0, hZ, hT, hF, hLo, hkc, hks⟩ := G
  intro H locs ls hP hS hl
  exact lv_if_lt hx hb hd ht (fun q0 => kt ((n_lt hx0 (show inR 0 by decide)).mp q0) H locs ls hP hS hl) (fun q0 => kf (fun q => q0 ((n_lt hx0 (show inR 0 by decide)).mpr q)) H locs ls hP hS hl)
theorem aw_icmp_ge {x y off : Int} {tgt : Nat} (G : Gd X V cc own n F Lo) (hd : decode cc pc = .ok (.if_icmp .ge off, 3)) (ht : (pc : Int) + off = (tgt : Int)) (hx0 : inR x) (hy0 : inR y) (kt : y ≤ x → AW X V σ tgt st L) (kf : ¬ y ≤ x → AW X V σ (pc + 3) st L) : AW X V σ pc (iv y :: iv x :: st) L := by
  obtain ⟨p, l, e, R, s, m, args, below, meth, c, nL, kc, ks, Q⟩ := X
  obtain ⟨hx, hb, hnL, hml, hown, hts, hK, hD, hb0, hZ, hT, hF, hLo, hkc, hks⟩ := G
  intro H locs ls hP hS hl
  exact lv_icmp_ge hx hb hd ht (fun q0 => kt ((n_le hy0 hx0).mp q0) H locs ls hP hS hl) (fun q0 => kf (fun q => q0 ((n_le hy0 hx0).mpr q)) H locs ls hP hS hl)
theorem aw_if_ge {x off : Int} {tgt : Nat} (G : Gd X V cc own n F Lo) (hd : decode cc pc = .ok (.ifCond .ge off, 3)) (ht : (pc : Int) + off = (tgt : Int)) (hx0 : inR x) (kt : 0 ≤ x → AW X V σ tgt st L) (kf : ¬ 0 ≤ x → AW X V σ (pc + 3) st L) : AW X V σ pc (iv x :: st) L := by
  obtain ⟨p, l, e, R, s, m, args, below, meth, c, nL, kc, ks, Q⟩ := X
  obtain ⟨hx, hb, hnL, hml, hown, hts, hK, hD, hb0, hZ, hT, hF, hLo, hkc, hks⟩ := G
  intro H locs ls hP hS hl
  exact lv_if_ge hx hb hd ht (fun q0 => kt ((n_le (show inR 0 by decide) hx0).mp q0) H locs ls hP hS hl) (fun q0 => kf (fun q => q0 ((n_le (show inR 0 by decide) hx0).mpr q)) H locs ls hP hS hl)
theorem aw_icmp_gt {x y off : Int} {tgt : Nat} (G : Gd X V cc own n F Lo) (hd : decode cc pc = .ok (.if_icmp .gt off, 3)) (ht : (pc : Int) + off = (tgt : Int)) (hx0 : inR x) (hy0 : inR y) (kt : y < x → AW X V σ tgt st L) (kf : ¬ y < x → AW X V σ (pc + 3) st L) : AW X V σ pc (iv y :: iv x :: st) L := by
  obtain ⟨p, l, e, R, s, m, args, below, meth, c, nL, kc, ks, Q⟩ := X
  obtain ⟨hx, hb, hnL, hml, hown, hts, hK, hD, hb0, hZ, hT, hF, hLo, hkc, hks⟩ := G
  intro H locs ls hP hS hl
  exact lv_icmp_gt hx hb hd ht (fun q0 => kt ((n_lt hy0 hx0).mp q0) H locs ls hP hS hl) (fun q0 => kf (fun q => q0 ((n_lt hy0 hx0).mpr q)) H locs ls hP hS hl)
theorem aw_if_gt {x off : Int} {tgt : Nat} (G : Gd X V cc own n F Lo) (hd : decode cc pc = .ok (.ifCond .gt off, 3)) (ht : (pc : Int) + off = (tgt : Int)) (hx0 : inR x) (kt : 0 < x → AW X V σ tgt st L) (kf : ¬ 0 < x → AW X V σ (pc + 3) st L) : AW X V σ pc (iv x :: st) L := by
  obtain ⟨p, l, e, R, s, m, args, below, meth, c, nL, kc, ks, Q⟩ := X
  obtain ⟨hx, hb, hnL, hml, hown, hts, hK, hD, hb0, hZ, hT, hF, hLo, hkc, hks⟩ := G
  intro H locs ls hP hS hl
  exact lv_if_gt hx hb hd ht (fun q0 => kt ((n_lt (show inR 0 by decide) hx0).mp q0) H locs ls hP hS hl) (fun q0 => kf (fun q => q0 ((n_lt (show inR 0 by decide) hx0).mpr q)) H locs ls hP hS hl)
theorem aw_icmp_le {x y off : Int} {tgt : Nat} (G : Gd X V cc own n F Lo) (hd : decode cc pc = .ok (.if_icmp .le off, 3)) (ht : (pc : Int) + off = (tgt : Int)) (hx0 : inR x) (hy0 : inR y) (kt : x ≤ y → AW X V σ tgt st L) (kf : ¬ x ≤ y → AW X V σ (pc + 3) st L) : AW X V σ pc (iv y :: iv x :: st) L := by
  obtain ⟨p, l, e, R, s, m, args, below, meth, c, nL, kc, ks, Q⟩ := X
  obtain ⟨hx, hb, hnL, hml, hown, hts, hK, hD, hb0, hZ, hT, hF, hLo, hkc, hks⟩ := G
  intro H locs ls hP hS hl
  exact lv_icmp_le hx hb hd ht (fun q0 => kt ((n_le hx0 hy0).mp q0) H locs ls hP hS hl) (fun q0 => kf (fun q => q0 ((n_le hx0 hy0).mpr q)) H locs ls hP hS hl)
theorem aw_if_le {x off : Int} {tgt : Nat} (G : Gd X V cc own n F Lo) (hd : decode cc pc = .ok (.ifCond .le off, 3)) (ht : (pc : Int) + off = (tgt : Int)) (hx0 : inR x) (kt : x ≤ 0 → AW X V σ tgt st L) (kf : ¬ x ≤ 0 → AW X V σ (pc + 3) st L) : AW X V σ pc (iv x :: st) L := by
  obtain ⟨p, l, e, R, s, m, args, below, meth, c, nL, kc, ks, Q⟩ := X
  obtain ⟨hx, hb, hnL, hml, hown, hts, hK, hD, hb0, hZ, hT, hF, hLo, hkc, hks⟩ := G
  intro H locs ls hP hS hl
  exact lv_if_le hx hb hd ht (fun q0 => kt ((n_le hx0 (show inR 0 by decide)).mp q0) H locs ls hP hS hl) (fun q0 => kf (fun q => q0 ((n_le hx0 (show inR 0 by decide)).mpr q)) H locs ls hP hS hl)
theorem aw_tswIn {x dflt lo hi off : Int} {offs : Array Int} {len tgt : Nat} (G : Gd X V cc own n F Lo) (hd : decode cc pc = .ok (.tableswitch dflt lo hi offs, len)) (hx0 : inR x) (h1 : ¬ x < lo) (h2 : ¬ hi < x) (ho : offs[(x - lo).toNat]? = some off) (ht : (pc : Int) + off = (tgt : Int)) (k : AW X V σ tgt st L) : AW X V σ pc (iv x :: st) L := by
  obtain ⟨p, l, e, R, s, m, args, below, meth, c, nL, kc, ks, Q⟩ := X
  obtain ⟨hx, hb, hnL, hml, hown, hts, hK, hD, hb0, hZ, hT, hF, hLo, hkc, hks⟩ := G
  intro H locs ls hP hS hl
  exact lv_tableIn hx hb hd (by rw [n_toInt hx0]; exact h1) (by rw [n_toInt hx0]; exact h2) (by rw [n_toInt hx0]; exact ho) ht (k H locs ls hP hS hl)
theorem aw_tswOut {x dflt lo hi : Int} {offs : Array Int} {len tgt : Nat} (G : Gd X V cc own n F Lo) (hd : decode cc pc = .ok (.tableswitch dflt lo hi offs, len)) (hx0 : inR x) (h1 : x < lo ∨ hi < x) (ht : (pc : Int) + dflt = (tgt : Int)) (k : AW X V σ tgt st L) : AW X V σ pc (iv x :: st) L := by
  obtain ⟨p, l, e, R, s, m, args, below, meth, c, nL, kc, ks, Q⟩ := X
  obtain ⟨hx, hb, hnL, hml, hown, hts, hK, hD, hb0, hZ, hT, hF, hLo, hkc, hks⟩ := G
  intro H locs ls hP hS hl
  exact lv_tableOut hx hb hd (by rw [n_toInt hx0]; exact h1) ht (k H locs ls hP hS hl)
theorem aw_lsw {x dflt off : Int} {ps : Array (Int × Int)} {len tgt : Nat} (G : Gd X V cc own n F Lo) (hd : decode cc pc = .ok (.lookupswitch dflt ps, len)) (hx0 : inR x) (hp : (ps.toList.zip (ps.toList.drop 1)).all (fun (a, next) => a.1 < next.1) = true) (ho : Op.lookupswitch.offset ps.toList dflt x = off) (ht : (pc : Int) + off = (tgt : Int)) (k : AW X V σ tgt st L) : AW X V σ pc (iv x :: st) L := by
  obtain ⟨p, l, e, R, s, m, args, below, meth, c, nL, kc, ks, Q⟩ := X
  obtain ⟨hx, hb, hnL, hml, hown, hts, hK, hD, hb0, hZ, hT, hF, hLo, hkc, hks⟩ := G
  intro H locs ls hP hS hl
  exact lv_lookup hx hb hd hp (by rw [n_toInt hx0]; exact ho) ht (k H locs ls hP hS hl)
theorem aw_get {C : String} {T : u_T} {N ci index k j : Nat} {lyt : Lay} {fs : List Value} {v : Value} (G : Gd X V cc own n F Lo) (hd : decode cc pc = .ok (.getfield index, 3)) (hin : ∀ w ∈ u_ws C T N, w ∈ tblG) (hlink : Cond.fieldLink own index C (T j).2.1 (T j).2.2.1 ∈ tblG) (hc : classes[ci]? = some (C, T, N)) (hj : j < N) (hown2 : (T j).1 = C) (hk : k < NC) (hE : ent V σ k = .inr (ci, fs)) (hv : fs[j]? = some v) (kk : AW X V σ (pc + 3) (v :: st) L) : AW X V σ pc (rv V k :: st) L := by
  obtain ⟨p, l, e, R, s, m, args, below, meth, c, nL, kc, ks, Q⟩ := X
  obtain ⟨hx, hb, hnL, hml, hown, hts, hK, hD, hb0, hZ, hT, hF, hLo, hkc, hks⟩ := G
  intro H locs ls hP hS hl
  exact va_get (C := C) (T := T) (N := N) (ci := ci) hx hb hts hin hown hK hP k (by rw [wld_at V σ hk, hE]) hc j hj (hts _ hlink) (fun x hx => by rw [hown2] at hx; exact hx) hv hd (kk H locs ls hP hS hl)
theorem aw_put {C : String} {T : u_T} {N ci index k j : Nat} {fs : List Value} {v : Value} {ty : FieldType} {τ : St} (ty0 : Nat → FieldType) (G : Gd X V cc own n F Lo) (hd : decode cc pc = .ok (.putfield index, 3)) (hin : ∀ w ∈ u_ws C T N, w ∈ tblG) (hty : ∀ k, k < N → parseFieldDescriptor (T k).2.2.1 = some (ty0 k)) (hnm : ∀ a, a < N → ∀ b, b < N → a ≠ b → (T a).2.1 ≠ (T b).2.1) (hlink : Cond.fieldLink own index C (T j).2.1 (T j).2.2.1 ∈ tblG) (hc : classes[ci]? = some (C, T, N)) (hj : j < N) (hown2 : (T j).1 = C) (hfin : (T j).2.2.2 = false) (hd2 : parseFieldDescriptor (T j).2.2.1 = some ty) (hn : narrow ty v = v) (hfit : fits ty v = true) (hk : k < NC) (hE : ent V σ k = .inr (ci, fs)) (hl0 : j < fs.length) (hE2 : ent V τ k = .inr (ci, fs.set j v)) (ho : ∀ k', k' ≠ k → τ k' = σ k') (kk : AW X V τ (pc + 3) st L) : AW X V σ pc (v :: rv V k :: st) L := by
  obtain ⟨p, l, e, R, s, m, args, below, meth, c, nL, kc, ks, Q⟩ := X
  obtain ⟨hx, hb, hnL, hml, hown, hts, hK, hD, hb0, hZ, hT, hF, hLo, hkc, hks⟩ := G
  intro H locs ls hP hS hl
  refine va_put (C := C) (T := T) (N := N) (ci := ci) (ty := ty) hx hb hts hin ty0 hty hnm hown hK hP (hD σ) hS k (by rw [wld_at V σ hk, hE]) hc j hj (hts _ hlink) (fun x hx => by rw [hown2] at hx; exact hx) hfin hd2 hn hfit hl0 hd (fun H1 locs1 hP1 hD1 hS1 => ?_)
  rw [wld_set V σ τ hk hE2.symm ho] at hP1
  exact kk H1 locs1 ls hP1 hS1 hl
theorem aw_iaload {k N : Nat} {j : Int} (G : Gd X V cc own n F Lo) (hd : decode cc pc = .ok (.iaload, 1)) (hk : k < NC) (hE : lay k = iE N) (hN : N < 2147483648) (hj : 0 ≤ j ∧ j < N) (kk : AW X V σ (pc + 1) (iv (σ k j) :: st) L) : AW X V σ pc (iv j :: rv V k :: st) L := by
  obtain ⟨p, l, e, R, s, m, args, below, meth, c, nL, kc, ks, Q⟩ := X
  obtain ⟨hx, hb, hnL, hml, hown, hts, hK, hD, hb0, hZ, hT, hF, hLo, hkc, hks⟩ := G
  intro H locs ls hP hS hl
  refine va_iald (n := N) (f := fun i => Int32.ofInt (σ k i)) hx hb hK hP k 0 (by rw [wld_at V σ hk]; unfold ent; rw [hE]; rfl) rfl (n_in hj hN) hd ?_
  have e1 : ((Int32.ofInt j).toNatClampNeg : Int) = j := by rw [n_clamp ⟨by omega, by omega⟩]; omega
  try dsimp only
  rw [e1]
  exact kk H locs ls hP hS hl
theorem aw_laload {k N : Nat} {j : Int} (G : Gd X V cc own n F Lo) (hd : decode cc pc = .ok (.laload, 1)) (hk : k < NC) (hE : lay k = jE N) (hN : N < 2147483648) (hj : 0 ≤ j ∧ j < N) (kk : AW X V σ (pc + 1) (jv (σ k j) :: st) L) : AW X V σ pc (iv j :: rv V k :: st) L := by
  obtain ⟨p, l, e, R, s, m, args, below, meth, c, nL, kc, ks, Q⟩ := X
  obtain ⟨hx, hb, hnL, hml, hown, hts, hK, hD, hb0, hZ, hT, hF, hLo, hkc, hks⟩ := G
  intro H locs ls hP hS hl
  refine va_lald (n := N) (f := fun i => Int64.ofInt (σ k i)) hx hb hK hP k 1 (by rw [wld_at V σ hk]; unfold ent; rw [hE]; rfl) rfl (n_in hj hN) hd ?_
  have e1 : ((Int32.ofInt j).toNatClampNeg : Int) = j := by rw [n_clamp ⟨by omega, by omega⟩]; omega
  try dsimp only
  rw [e1]
  exact kk H locs ls hP hS hl
theorem aw_iastore {k N : Nat} {j x : Int} (G : Gd X V cc own n F Lo) (hd : decode cc pc = .ok (.iastore, 1)) (hk : k < NC) (hE : lay k = iE N) (hN : N < 2147483648) (hj : 0 ≤ j ∧ j < N) (kk : AW X V (up σ k j x) (pc + 1) st L) : AW X V σ pc (iv x :: iv j :: rv V k :: st) L := by
  obtain ⟨p, l, e, R, s, m, args, below, meth, c, nL, kc, ks, Q⟩ := X
  obtain ⟨hx, hb, hnL, hml, hown, hts, hK, hD, hb0, hZ, hT, hF, hLo, hkc, hks⟩ := G
  intro H locs ls hP hS hl
  refine va_iast (n := N) (f := fun i => Int32.ofInt (σ k i)) hx hb hK hP (hD σ) hS k 0 (by rw [wld_at V σ hk]; unfold ent; rw [hE]; rfl) rfl (n_in hj hN) hd (fun H1 locs1 hP1 hD1 hS1 => ?_)
  rw [wld_set V σ (up σ k j x) hk (by
    unfold ent
    rw [hE]
    unfold iE
    try dsimp only
    congr 4
    funext i
    have e1 : (Int32.ofInt j).toNatClampNeg = j.toNat := n_clamp ⟨by omega, by omega⟩
    rw [e1]
    unfold upd up
    by_cases h : i = j.toNat
    · rw [if_pos h, if_pos ⟨rfl, by omega⟩]
    · rw [if_neg h, if_neg (by omega)]) (fun k' h' => up_ne h')] at hP1
  exact kk H1 locs1 ls hP1 hS1 hl
theorem aw_lastore {k N : Nat} {j x : Int} (G : Gd X V cc own n F Lo) (hd : decode cc pc = .ok (.lastore, 1)) (hk : k < NC) (hE : lay k = jE N) (hN : N < 2147483648) (hj : 0 ≤ j ∧ j < N) (kk : AW X V (up σ k j x) (pc + 1) st L) : AW X V σ pc (jv x :: iv j :: rv V k :: st) L := by
  obtain ⟨p, l, e, R, s, m, args, below, meth, c, nL, kc, ks, Q⟩ := X
  obtain ⟨hx, hb, hnL, hml, hown, hts, hK, hD, hb0, hZ, hT, hF, hLo, hkc, hks⟩ := G
  intro H locs ls hP hS hl
  refine va_last (n := N) (f := fun i => Int64.ofInt (σ k i)) hx hb hK hP (hD σ) hS k 1 (by rw [wld_at V σ hk]; unfold ent; rw [hE]; rfl) rfl (n_in hj hN) hd (fun H1 locs1 hP1 hD1 hS1 => ?_)
  rw [wld_set V σ (up σ k j x) hk (by
    unfold ent
    rw [hE]
    unfold jE
    try dsimp only
    congr 5
    funext i
    have e1 : (Int32.ofInt j).toNatClampNeg = j.toNat := n_clamp ⟨by omega, by omega⟩
    rw [e1]
    unfold vp_updL up
    by_cases h : i = j.toNat
    · rw [if_pos h, if_pos ⟨rfl, by omega⟩]
    · rw [if_neg h, if_neg (by omega)]) (fun k' h' => up_ne h')] at hP1
  exact kk H1 locs1 ls hP1 hS1 hl
theorem aw_aaload {k t N b : Nat} {j : Int} {ty : FieldType} (G : Gd X V cc own n F Lo) (hd : decode cc pc = .ok (.aaload, 1)) (hk : k < NC) (hE : lay k = qE t N b) (hN : N < 2147483648) (ht : (tysV V)[t]? = some (V.2.2.1 t, .array ty)) (hj : 0 ≤ j ∧ j < N) (kk : AW X V σ (pc + 1) (rv V (b + j.toNat) :: st) L) : AW X V σ pc (iv j :: rv V k :: st) L := by
  obtain ⟨p, l, e, R, s, m, args, below, meth, c, nL, kc, ks, Q⟩ := X
  obtain ⟨hx, hb, hnL, hml, hown, hts, hK, hD, hb0, hZ, hT, hF, hLo, hkc, hks⟩ := G
  intro H locs ls hP hS hl
  have e1 : (Int32.ofInt j).toNatClampNeg = j.toNat := n_clamp ⟨by omega, by omega⟩
  have hin := n_in hj hN
  have hlt : j.toNat < N := by omega
  have hc := hP k _ (wld_at V σ hk)
  unfold ent at hc
  rw [hE] at hc
  refine W.aald (v := rv V (b + j.toNat)) (ty := .array ty) hx hb (a := V.2.1 k) hc ((hK.2 t _ ht).1 N (fun q => va_rf (if q < N then some (V.2.1 (b + q)) else none))) rfl (fun q => by cases q) (by show ¬ (_ < 0 ∨ (arrV _ _ _).slots.size ≤ _); rw [arrV_size]; exact hin) (by show (arrV _ _ _).slots[_]? = _; rw [arrV_read _ _ (by rw [e1]; exact hlt), e1]; show some (va_rf (if j.toNat < N then some (V.2.1 (b + j.toNat)) else none)) = _; rw [if_pos hlt]; rfl) rfl rfl hd ?_
  exact kk H locs ls hP hS hl
def tv (V : Wd) : Value := .ref V.2.2.2.2
theorem aw_gets {index : Nat} (G : Gd X V cc own n F Lo) (hd : decode cc pc = .ok (.getstatic index, 3)) (hw : Cond.fieldLink own index "LabelsOfLines$Kinds" "ABOVE" "[I" ∈ tblG) (k : AW X V σ (pc + 3) (tv V :: st) L) : AW X V σ pc st L := by
  obtain ⟨p, l, e, R, s, m, args, below, meth, c, nL, kc, ks, Q⟩ := X
  obtain ⟨hx, hb, hnL, hml, hown, hts, hK, hD, hb0, hZ, hT, hF, hLo, hkc, hks⟩ := G
  intro H locs ls hP hS hl
  exact va_gets hx hb hZ hS hown (hts _ hw) (fun _ h => h) hd (k H locs ls hP hS hl)
theorem aw_tiald {j : Int} (G : Gd X V cc own n F Lo) (hd : decode cc pc = .ok (.iaload, 1)) (hj : 0 ≤ j ∧ j < 6) (k : AW X V σ (pc + 1) (iv (if j = 0 then -1 else if j = 3 then 1 else if j = 4 then 2 else 0) :: st) L) : AW X V σ pc (iv j :: tv V :: st) L := by
  obtain ⟨p, l, e, R, s, m, args, below, meth, c, nL, kc, ks, Q⟩ := X
  obtain ⟨hx, hb, hnL, hml, hown, hts, hK, hD, hb0, hZ, hT, hF, hLo, hkc, hks⟩ := G
  intro H locs ls hP hS hl
  have e1 : (Int32.ofInt j).toNatClampNeg = j.toNat := n_clamp ⟨by omega, by omega⟩
  refine va_ti (N := 6) hx hb hT hS (n_in (by exact hj) (by decide)) (v := iv (if j = 0 then -1 else if j = 3 then 1 else if j = 4 then 2 else 0)) ?_ hd (k H locs ls hP hS hl)
  rw [e1]
  rcases (show j = 0 ∨ j = 1 ∨ j = 2 ∨ j = 3 ∨ j = 4 ∨ j = 5 by omega) with h | h | h | h | h | h <;> subst h <;> rfl
def cpy (σ : St) (k0 : Nat) (sp : Int) (k1 : Nat) (dp m : Int) : St := fun k' j' => if k' = k1 ∧ dp ≤ j' ∧ j' < dp + m then σ k0 (sp + (j' - dp)) else σ k' j'
theorem aw_copy {index k0 k1 N0 N1 : Nat} {sp dp m0 : Int} (G : Gd X V cc own n F Lo) (hd : decode cc pc = .ok (.invokestatic index, 3)) (hw : Cond.methodLink own index arraycopyName ∈ tblG) (hw2 : Cond.native arraycopyName ∈ tblG) (hw3 : Cond.static arraycopyName ∈ tblG) (hw4 : Cond.initialized "java/lang/System" ∈ tblG) (hk0 : k0 < NC) (hk1 : k1 < NC) (hE0 : lay k0 = iE N0) (hE1 : lay k1 = iE N1) (hN0 : N0 < 2147483648) (hN1 : N1 < 2147483648) (h : 0 ≤ sp ∧ 0 ≤ dp ∧ 0 ≤ m0 ∧ sp + m0 ≤ N0 ∧ dp + m0 ≤ N1) (hroom : 1 ≤ F ∧ (st.map fun v => v.category).sum + (nativeFrameWords "java/lang/System" "arraycopy" 5 + 11) ≤ Lo) (kk : AW X V (cpy σ k0 sp k1 dp m0) (pc + 3) st L) : AW X V σ pc (iv m0 :: iv dp :: rv V k1 :: iv sp :: rv V k0 :: st) L := by
  obtain ⟨p, l, e, R, s, m, args, below, meth, c, nL, kc, ks, Q⟩ := X
  obtain ⟨hx, hb, hnL, hml, hown, hts, hK, hD, hb0, hZ, hT, hF, hLo, hkc, hks⟩ := G
  intro H locs ls hP hS hl
  have r1 : inR sp := ⟨by omega, by omega⟩
  have r2 : inR dp := ⟨by omega, by omega⟩
  have r3 : inR m0 := ⟨by omega, by omega⟩
  have c1 := n_clamp r1
  have c2 := n_clamp r2
  have c3 := n_clamp r3
  have z0 : inR 0 := by decide
  refine va_copyi (n0 := N0) (n1 := N1) (f := fun i => Int32.ofInt (σ k0 i)) (g := fun i => Int32.ofInt (σ k1 i)) (ty := .int) hx hb (by rw [hml, ← hnL]; exact hl.1.symm) hown (hts _ hw) (hts _ hw2) (hts _ hw3) (hts _ hw4) hK hP (hD σ) hS k0 k1 0 0 (by rw [wld_at V σ hk0]; unfold ent; rw [hE0]; rfl) (by rw [wld_at V σ hk1]; unfold ent; rw [hE1]; rfl) rfl rfl rfl (fun q => by have := (n_lt r1 z0).mp q; omega) (fun q => by have := (n_lt r2 z0).mp q; omega) (fun q => by have := (n_lt r3 z0).mp q; omega) (by rw [c1, c3]; omega) (by rw [c2, c3]; omega) (fun _ _ => rfl) (Nat.le_trans hroom.1 hF) (Nat.le_trans hroom.2 hLo) hd (fun H1 locs1 hP1 hD1 hS1 => ?_)
  rw [c1, c2, c3, wld_set V σ (cpy σ k0 sp k1 dp m0) hk1 (by
    unfold ent
    rw [hE1]
    unfold iE
    try dsimp only
    congr 4
    funext i
    unfold va_cpy cpy
    by_cases h9 : dp.toNat ≤ i ∧ i < dp.toNat + m0.toNat
    · rw [if_pos h9, if_pos ⟨rfl, by omega, by omega⟩]
      have e9 : ((sp.toNat + (i - dp.toNat) : Nat) : Int) = sp + ((i : Int) - dp) := by omega
      rw [e9]
    · rw [if_neg h9, if_neg (by omega)]) (fun k' h' => by
    funext j'
    unfold cpy
    rw [if_neg (by rintro ⟨q, -⟩; exact h' q)])] at hP1
  exact kk H1 locs1 ls hP1 hS1 hl
theorem aw_mmin {index : Nat} {x y : Int} (G : Gd X V cc own n F Lo) (hd : decode cc pc = .ok (.invokestatic index, 3)) (hw : Cond.methodLink own index Lib.Math.min.name ∈ tblG) (hw3 : Cond.static Lib.Math.min.name ∈ tblG) (hw4 : Cond.initialized "java/lang/Math" ∈ tblG) (hw5 : Cond.code Lib.Math.min.name Lib.Math.min.code 2 (some .int) ∈ tblG) (hx0 : inR x) (hy0 : inR y) (hroom : 1 ≤ F ∧ (st.map fun v => v.category).sum + 13 ≤ Lo) (k : AW X V σ (pc + 3) (iv (min x y) :: st) L) : AW X V σ pc (iv y :: iv x :: st) L := by
  obtain ⟨p, l, e, R, s, m, args, below, meth, c, nL, kc, ks, Q⟩ := X
  obtain ⟨hx, hb, hnL, hml, hown, hts, hK, hD, hb0, hZ, hT, hF, hLo, hkc, hks⟩ := G
  intro H locs ls hP hS hl
  refine va_mmin hx hb (by rw [hml, ← hnL]; exact hl.1.symm) hown (hts _ hw) (hts _ hw3) (hts _ hw4) (hts _ hw5) (Nat.le_trans hroom.1 hF) (Nat.le_trans hroom.2 hLo) hkc hks hd ?_
  have e1 : (if Int32.ofInt y < Int32.ofInt x then Int32.ofInt y else Int32.ofInt x) = Int32.ofInt (min x y) := by
    by_cases h : y < x
    · rw [if_pos ((n_lt hy0 hx0).mpr h), Int.min_eq_right (by omega)]
    · rw [if_neg (fun q => h ((n_lt hy0 hx0).mp q)), Int.min_eq_left (by omega)]
  rw [e1]
  exact k H locs ls hP hS hl
theorem aw_mmax {index : Nat} {x y : Int} (G : Gd X V cc own n F Lo) (hd : decode cc pc = .ok (.invokestatic index, 3)) (hw : Cond.methodLink own index Lib.Math.max.name ∈ tblG) (hw3 : Cond.static Lib.Math.max.name ∈ tblG) (hw4 : Cond.initialized "java/lang/Math" ∈ tblG) (hw5 : Cond.code Lib.Math.max.name Lib.Math.max.code 2 (some .int) ∈ tblG) (hx0 : inR x) (hy0 : inR y) (hroom : 1 ≤ F ∧ (st.map fun v => v.category).sum + 13 ≤ Lo) (k : AW X V σ (pc + 3) (iv (max x y) :: st) L) : AW X V σ pc (iv y :: iv x :: st) L := by
  obtain ⟨p, l, e, R, s, m, args, below, meth, c, nL, kc, ks, Q⟩ := X
  obtain ⟨hx, hb, hnL, hml, hown, hts, hK, hD, hb0, hZ, hT, hF, hLo, hkc, hks⟩ := G
  intro H locs ls hP hS hl
  refine va_mmax hx hb (by rw [hml, ← hnL]; exact hl.1.symm) hown (hts _ hw) (hts _ hw3) (hts _ hw4) (hts _ hw5) (Nat.le_trans hroom.1 hF) (Nat.le_trans hroom.2 hLo) hkc hks hd ?_
  have e1 : (if Int32.ofInt x < Int32.ofInt y then Int32.ofInt y else Int32.ofInt x) = Int32.ofInt (max x y) := by
    by_cases h : x < y
    · rw [if_pos ((n_lt hx0 hy0).mpr h), Int.max_eq_right (by omega)]
    · rw [if_neg (fun q => h ((n_lt hx0 hy0).mp q)), Int.max_eq_left (by omega)]
  rw [e1]
  exact k H locs ls hP hS hl
/-! contracts over the whole world -/
def WS (V : Wd) (σ : St) (U : State) : Prop := va_P V.1 classes (wld V σ) U.heap ∧ va_K V.1 classes (tysV V) U ∧ va_D (fr V) (wld V σ) ∧ V.2.2.2.1 ≤ U.heap.size ∧ va_Z "LabelsOfLines$Kinds" "ABOVE" "[I" (.ref V.2.2.2.2) (fr V) U U.heap ∧ va_T .int V.2.2.2.2 6 (fun k => iv (if k = 0 then -1 else if k = 3 then 1 else if k = 4 then 2 else 0)) (fr V) U U.heap
def QcW (V : Wd) (post : Option Value → St → Prop) : Array Value → State → Outcome → State → Prop := fun _ st oc t => (∃ (v : Option Value) (τ : St), oc = .returned v ∧ post v τ ∧ va_P V.1 classes (wld V τ) t.heap) ∧ va_F (fr V) st t
def Ct (V : Wd) (y : MethodName) (bytes : ByteArray) (maxL : Nat) (ret : Option FieldType) (f2 lo2 : Nat) (av : List Value) (σ : St) (post : Option Value → St → Prop) : Prop :=
  ∀ l : Launch, Met l y (.code y bytes maxL ret :: tblG) ({ frames := f2, cells := 0, slots := 0, locals := lo2 }) (va_Pc av (fun U => WS V σ U)) (QcW V post) 0 0 (fr V)
def PI (p : Int → St → Prop) : Option Value → St → Prop := fun v τ => ∃ r, v = some (iv r) ∧ p r τ
def PJ (p : Int → St → Prop) : Option Value → St → Prop := fun v τ => ∃ r, v = some (jv r) ∧ p r τ
def PV (p : St → Prop) : Option Value → St → Prop := fun v τ => v = none ∧ p τ
theorem ws_blind {V : Wd} {σ : St} {av : List Value} : FrameBlind (va_Pc av (fun U => WS V σ U)) := by
  intro a U g mk q
  obtain ⟨q0, q1, q2, q3, q4, q5, q6⟩ := q
  exact ⟨q0, q1, va_K.moved (u := U) (U := U.calling g mk a) (Vm.Alike.refl U.vm) q2, q3, q4, va_Z.moved (u := U) (U := U.calling g mk a) (Vm.Alike.refl U.vm) q5, va_T.moved (u := U) (U := U.calling g mk a) (Vm.Alike.refl U.vm) q6⟩
theorem ws_of {s U : State} {H : Heap} {locs : List Loc} (hP : va_P V.1 classes (wld V σ) H) (hK : va_K V.1 classes (tysV V) s) (hD : va_D (fr V) (wld V σ)) (hb0 : V.2.2.2.1 ≤ s.heap.size) (hZ : va_Z "LabelsOfLines$Kinds" "ABOVE" "[I" (.ref V.2.2.2.2) (fr V) s s.heap) (hT : va_T .int V.2.2.2.2 6 (fun k => iv (if k = 0 then -1 else if k = 3 then 1 else if k = 4 then 2 else 0)) (fr V) s s.heap) (hS : va_S (fr V) s.heap H locs) (hU : U.heap = H) (hW : s.WarmedH U.vm) : WS V σ U := by
  have hvm : s.vm.Alike U.vm := hW.alike
  have hkept : ∀ a : Nat, a < s.heap.size → ¬ fr V a → U.heap[a]? = s.heap[a]? := fun a h1 h2 => by rw [hU]; exact hS.2.1 a h1 h2
  exact ⟨by rw [hU]; exact hP, hK.moved hvm, hD, by rw [hU]; exact Nat.le_trans hb0 hS.1, (hZ.kept hkept).moved hvm, (hT.kept hkept).moved hvm⟩
theorem aw_run {av stk : List Value} {post : Option Value → St → Prop}
    {p : Program} {l : Launch} {e : Env} {R : Room} {s : State} {m : MethodId} {args : Array Value} {below : List Frame} {meth : Method} {c : Code} {nL kc ks : Nat} {Q : State → Prop} {H : Heap} {locs : List Loc} {ls : Array Slot}
    (hr : va_Run p l e R s m args below meth c H locs kc ks 0 0 (F0 m pc ls stk) st (QcW V post av.toArray) (fr V)) (hS : va_S (fr V) s.heap H locs) (hl : lv_has ls nL (lvl 0 L))
    (kk : ∀ v τ, post v τ → AW (p, l, e, R, s, m, args, below, meth, c, nL, kc, ks, Q) V τ (pc + 3) (v.toList ++ st) L) : W p l e R s m args below meth c H locs kc ks Q (F0 m pc ls stk) := by
  intro T hT X
  obtain ⟨v, st₀, t, T', L1, h0, X', hL, e1, e2, ⟨⟨v', τ, hv, hp, hb⟩, hz, hk⟩, st9⟩ := hr T hT X
  cases hv
  rw [h0] at hz hk
  obtain ⟨t2, a1, b1⟩ := kk v τ hp T'.heap (locs ++ L1) ls (by rw [e1]; exact hb)
    ⟨Nat.le_trans hS.1 (by rw [e1]; exact hz), fun q h1 h2 => by rw [e1, hk q (Nat.lt_of_lt_of_le h1 hS.1) h2]; exact hS.2.1 q h1 h2, fun q hq => by
      rcases List.mem_append.mp hq with h | h
      · exact hS.2.2 q h
      · exact hL q h⟩ hl T' rfl X'
  exact ⟨t2, st9 t2 a1, b1⟩
abbrev plainY (y : MethodName) (k : Nat) : Prop := y.cls ≠ "java/lang/invoke/MethodHandle" ∧ y.cls ≠ "java/lang/invoke/VarHandle" ∧ (parseMethodDescriptor y.desc).map (fun d => d.parameters.length) = some k
theorem aw_callV {C : String} {index maxL f2 lo2 kb ci : Nat} {y : MethodName} {bytes : ByteArray} {ret : Option FieldType} {av stk : List Value} {post : Option Value → St → Prop} {fs : List Value} {q : vw_C} (G : Gd X V cc own n F Lo) (hd : decode cc pc = .ok (.invokevirtual index, 3)) (w1 : Cond.methodLink own index y ∈ tblG) (w2 : Cond.instanceMethod y ∈ tblG) (w3 : Cond.selects C y y ∈ tblG) (w4 : Cond.initialized C ∈ tblG) (w5 : Cond.code y bytes maxL ret ∈ tblG) (hcl : classes[ci]? = some q) (hq : q.1 = C) (hC : Ct V y bytes maxL ret f2 lo2 (rv V kb :: av) σ post) (hy : y.cls = C ∧ plainY y av.length) (hst : stk = av.reverse ++ rv V kb :: st) (hroom : f2 + 1 ≤ F ∧ 8 + (maxL + 11) + lo2 ≤ Lo) (hcat : (st.map fun v => v.category).sum ≤ 8) (hkb : kb < NC) (hE : ent V σ kb = .inr (ci, fs)) (kk : ∀ v τ, post v τ → AW X V τ (pc + 3) (v.toList ++ st) L) : AW X V σ pc stk L := by
  obtain ⟨p, l, e, R, s, m, args, below, meth, c, nL, kc, ks, Q⟩ := X
  obtain ⟨hx, hb, hnL, hml, hown, hts, hK, hD, hb0, hZ, hT, hF, hLo, hkc, hks⟩ := G
  intro H locs ls hP hS hl
  subst hst
  refine aw_run (va_runV (As := av) (rest := st) (b := V.2.1 kb) (nL := n) (Ts := tblG) (cc := cc) (own := own) (C := C) (ws := .code y bytes maxL ret :: tblG) (n := av.length) ⟨hx, hb, hml, hown, hts⟩ (hC l) (cwV (C := C) (ws' := tblG) av.length hts (tblG_GI (fun w hw => ?_)) rfl rfl rfl ⟨hy.1, hy.2⟩ ⟨Nat.le_trans hroom.1 hF, Nat.le_trans hroom.2 hLo⟩) ⟨ws_blind, ?_, fun U hU hW => ⟨rfl, ws_of hP hK (hD σ) hb0 hZ hT hS hU hW⟩⟩ rfl rfl (by rw [← hnL]; exact hl.1) rfl (lv_room hcat) hd ⟨hkc, hks⟩) hS hl kk
  · unfold wsV at hw
    rcases List.mem_append.mp hw with h | h
    · simp only [List.mem_cons, List.not_mem_nil, or_false] at h
      rcases h with h | h | h | h <;> subst h <;> assumption
    · rcases List.mem_cons.mp h with h | h
      · subst h; exact w5
      · exact h
  · have := va_recv hK hP (ci := ci) (q0 := kb) hcl (by rw [wld_at V σ hkb, hE])
    rw [hq] at this
    exact this
theorem aw_callS {index maxL f2 lo2 : Nat} {y : MethodName} {bytes : ByteArray} {ret : Option FieldType} {av stk : List Value} {post : Option Value → St → Prop} (G : Gd X V cc own n F Lo) (hd : decode cc pc = .ok (.invokestatic index, 3)) (w1 : Cond.methodLink own index y ∈ tblG) (w2 : Cond.static y ∈ tblG) (w4 : Cond.initialized y.cls ∈ tblG) (w5 : Cond.code y bytes maxL ret ∈ tblG) (hC : Ct V y bytes maxL ret f2 lo2 av σ post) (hy : plainY y av.length) (hst : stk = av.reverse ++ st) (hroom : f2 + 1 ≤ F ∧ 8 + (maxL + 11) + lo2 ≤ Lo) (hcat : (st.map fun v => v.category).sum ≤ 8) (kk : ∀ v τ, post v τ → AW X V τ (pc + 3) (v.toList ++ st) L) : AW X V σ pc stk L := by
  obtain ⟨p, l, e, R, s, m, args, below, meth, c, nL, kc, ks, Q⟩ := X
  obtain ⟨hx, hb, hnL, hml, hown, hts, hK, hD, hb0, hZ, hT, hF, hLo, hkc, hks⟩ := G
  intro H locs ls hP hS hl
  subst hst
  refine aw_run (va_runS (As := av) (rest := st) (nL := n) (Ts := tblG) (cc := cc) (own := own) (ws := .code y bytes maxL ret :: tblG) (n := av.length) ⟨hx, hb, hml, hown, hts⟩ (hC l) (va_cwS (ws' := tblG) av.length hts (tblG_GI (fun w hw => ?_)) rfl rfl rfl hy ⟨Nat.le_trans hroom.1 hF, Nat.le_trans hroom.2 hLo⟩) ⟨ws_blind, fun U hU hW => ⟨rfl, ws_of hP hK (hD σ) hb0 hZ hT hS hU hW⟩⟩ rfl rfl (by rw [← hnL]; exact hl.1) rfl (lv_room hcat) hd ⟨hkc, hks⟩) hS hl kk
  unfold va_wsS at hw
  rcases List.mem_append.mp hw with h | h
  · simp only [List.mem_cons, List.not_mem_nil, or_false] at h
    rcases h with h | h | h <;> subst h <;> assumption
  · rcases List.mem_cons.mp h with h | h
    · subst h; exact w5
    · exact h
theorem aw_callSN {host : String} {index maxL f2 lo2 : Nat} {y : MethodName} {bytes : ByteArray} {ret : Option FieldType} {av stk : List Value} {post : Option Value → St → Prop} (G : Gd X V cc own n F Lo) (hd : decode cc pc = .ok (.invokestatic index, 3)) (w1 : Cond.methodLinkNest own index y host ∈ lw_tbl) (hlw : ∀ (s : State) (args : Array Value), (∀ w ∈ tblG, w.before args s = true) → va_Nw (.methodLinkNest own index y host) s) (w2 : Cond.static y ∈ tblG) (w4 : Cond.initialized y.cls ∈ tblG) (w5 : Cond.code y bytes maxL ret ∈ tblG) (hC : Ct V y bytes maxL ret f2 lo2 av σ post) (hy : plainY y av.length) (hst : stk = av.reverse ++ st) (hroom : f2 + 1 ≤ F ∧ 8 + (maxL + 11) + lo2 ≤ Lo) (hcat : (st.map fun v => v.category).sum ≤ 8) (kk : ∀ v τ, post v τ → AW X V τ (pc + 3) (v.toList ++ st) L) : AW X V σ pc stk L := by
  obtain ⟨p, l, e, R, s, m, args, below, meth, c, nL, kc, ks, Q⟩ := X
  obtain ⟨hx, hb, hnL, hml, hown, hts, hK, hD, hb0, hZ, hT, hF, hLo, hkc, hks⟩ := G
  intro H locs ls hP hS hl
  subst hst
  refine aw_run (va_runSN (As := av) (rest := st) (nL := n) (Ts := tblG) (cc := cc) (own := own) (host := host) (ws := .code y bytes maxL ret :: tblG) (n := av.length) ⟨hx, hb, hml, hown, hts⟩ (hC l) ⟨va_cnB (ws' := tblG) av.length hts (tblG_GI (fun w hw => ?_)) rfl rfl rfl (hlw s args hts) (hts _ w4) hy ⟨Nat.le_trans hroom.1 hF, Nat.le_trans hroom.2 hLo⟩, hts _ w2, trivial⟩ ⟨ws_blind, fun U hU hW => ⟨rfl, ws_of hP hK (hD σ) hb0 hZ hT hS hU hW⟩⟩ rfl rfl (by rw [← hnL]; exact hl.1) rfl (lv_room hcat) hd ⟨hkc, hks⟩) hS hl kk
  rcases List.mem_cons.mp hw with h | h
  · subst h; exact w5
  · exact h
theorem kk_I {p : Int → St → Prop} (k : ∀ r τ, p r τ → AW X V τ pc (iv r :: st) L) : ∀ v τ, PI p v τ → AW X V τ pc (v.toList ++ st) L := by
  rintro v τ ⟨r, rfl, h⟩
  exact k r τ h
theorem kk_J {p : Int → St → Prop} (k : ∀ r τ, p r τ → AW X V τ pc (jv r :: st) L) : ∀ v τ, PJ p v τ → AW X V τ pc (v.toList ++ st) L := by
  rintro v τ ⟨r, rfl, h⟩
  exact k r τ h
theorem kk_V {p : St → Prop} (k : ∀ τ, p τ → AW X V τ pc st L) : ∀ v τ, PV p v τ → AW X V τ pc (v.toList ++ st) L := by
  rintro v τ ⟨rfl, h⟩
  exact k τ h
/-! a method's end and its start -/
def Rt (X : Cx) (V : Wd) (ret : Option FieldType) (post : Option Value → St → Prop) : Prop :=
  match X with
  | (_, _, _, _, s, _, args, below, meth, _, _, kc, ks, Q) => meth.sig.returnType = ret ∧ meth.locks = false ∧ kc = 0 ∧ ks = 0 ∧ Q = MQ below (QcW V post) args s 0 0 (fr V)
theorem aw_iret {x : Int} {p0 : Int → St → Prop} (G : Gd X V cc own n F Lo) (T0 : Rt X V (some .int) (PI p0)) (hd : decode cc pc = .ok (.ireturn, 1)) (hp : p0 x σ) : AW X V σ pc [iv x] L := by
  obtain ⟨p, l, e, R, s, m, args, below, meth, c, nL, kc, ks, Q⟩ := X
  obtain ⟨hx, hb, hnL, hml, hown, hts, hK, hD, hb0, hZ, hT, hF, hLo, hkc, hks⟩ := G
  obtain ⟨hr, hlocks, rfl, rfl, rfl⟩ := T0
  intro H locs ls hP hS hl
  exact W.iret (v := Int32.ofInt x) hx hb hr (fun t ht hW => ⟨⟨_, σ, rfl, ⟨x, rfl, hp⟩, by rw [ht]; exact hP⟩, hS.F ht⟩) hS.2.2 hd
theorem aw_zret {x : Int} {p0 : Int → St → Prop} (G : Gd X V cc own n F Lo) (T0 : Rt X V (some .boolean) (PI p0)) (hd : decode cc pc = .ok (.ireturn, 1)) (hx0 : x = 0 ∨ x = 1) (hp : p0 x σ) : AW X V σ pc [iv x] L := by
  obtain ⟨p, l, e, R, s, m, args, below, meth, c, nL, kc, ks, Q⟩ := X
  obtain ⟨hx, hb, hnL, hml, hown, hts, hK, hD, hb0, hZ, hT, hF, hLo, hkc, hks⟩ := G
  obtain ⟨hr, hlocks, rfl, rfl, rfl⟩ := T0
  intro H locs ls hP hS hl
  exact W.zret (v := Int32.ofInt x) hx hb hr (by rcases hx0 with h | h <;> subst h <;> rfl) (fun t ht hW => ⟨⟨_, σ, rfl, ⟨x, rfl, hp⟩, by rw [ht]; exact hP⟩, hS.F ht⟩) hS.2.2 hd
theorem aw_lret {x : Int} {p0 : Int → St → Prop} (G : Gd X V cc own n F Lo) (T0 : Rt X V (some .long) (PJ p0)) (hd : decode cc pc = .ok (.lreturn, 1)) (hp : p0 x σ) : AW X V σ pc [jv x] L := by
  obtain ⟨p, l, e, R, s, m, args, below, meth, c, nL, kc, ks, Q⟩ := X
  obtain ⟨hx, hb, hnL, hml, hown, hts, hK, hD, hb0, hZ, hT, hF, hLo, hkc, hks⟩ := G
  obtain ⟨hr, hlocks, rfl, rfl, rfl⟩ := T0
  intro H locs ls hP hS hl
  exact W.lret (v := Int64.ofInt x) hx hb hr (fun t ht hW => ⟨⟨_, σ, rfl, ⟨x, rfl, hp⟩, by rw [ht]; exact hP⟩, hS.F ht⟩) hS.2.2 hd
theorem aw_vret {p0 : St → Prop} (G : Gd X V cc own n F Lo) (T0 : Rt X V none (PV p0)) (hd : decode cc pc = .ok (.return_, 1)) (hp : p0 σ) : AW X V σ pc [] L := by
  obtain ⟨p, l, e, R, s, m, args, below, meth, c, nL, kc, ks, Q⟩ := X
  obtain ⟨hx, hb, hnL, hml, hown, hts, hK, hD, hb0, hZ, hT, hF, hLo, hkc, hks⟩ := G
  obtain ⟨hr, hlocks, rfl, rfl, rfl⟩ := T0
  intro H locs ls hP hS hl
  exact W.vret hx hb hr (fun t ht hW => ⟨⟨_, σ, rfl, ⟨rfl, hp⟩, by rw [ht]; exact hP⟩, hS.F ht⟩) hS.2.2 hd
def lini : Nat → List Value → List (Option Value)
  | n, [] => List.replicate n none
  | 0, _ :: _ => []
  | n + 1, v :: r => if v.category = 2 then some v :: none :: lini (n - 1) r else some v :: lini n r
theorem lini_ok : ∀ (vs : List Value) (n i0 j : Nat) (v : Value), (lini n vs)[j]? = some (some v) → (i0 + j, v) ∈ lv_args i0 vs
  | [], n, i0, j, v, h => by
    unfold lini at h
    rw [List.getElem?_replicate] at h
    split at h <;> cases h
  | u :: vs, 0, i0, j, v, h => by
    unfold lini at h
    simp at h
  | u :: vs, n + 1, i0, j, v, h => by
    unfold lini at h
    unfold lv_args
    by_cases hc : u.category = 2
    · rw [if_pos hc] at h
      rw [if_pos hc]
      match j, h with
      | 0, h =>
        simp at h
        subst h
        exact List.mem_cons_self
      | 1, h => simp at h
      | j + 2, h =>
        have := lini_ok vs (n - 1) (i0 + 2) j v (by simpa using h)
        rw [show i0 + 2 + j = i0 + (j + 2) by omega] at this
        exact List.mem_cons_of_mem _ this
    · rw [if_neg hc] at h
      rw [if_neg hc]
      match j, h with
      | 0, h =>
        simp at h
        subst h
        exact List.mem_cons_self
      | j + 1, h =>
        have := lini_ok vs n (i0 + 1) j v (by simpa using h)
        rw [show i0 + 1 + j = i0 + (j + 1) by omega] at this
        exact List.mem_cons_of_mem _ this
theorem ct_of {y : MethodName} {bytes : ByteArray} {maxL f2 lo2 : Nat} {ret : Option FieldType} {av : List Value} {post : Option Value → St → Prop} (hy : plainName y.cls = true) (hlen : (lg_sl av).length ≤ maxL) (body : ∀ X : Cx, Gd X V bytes y.cls maxL f2 lo2 → Rt X V ret post → AW X V σ 0 [] (lini maxL av)) : Ct V y bytes maxL ret f2 lo2 av σ post := by
  intro l
  refine Met.ofW (cc := bytes) (maxL := maxL) (ret := ret) hy rfl ?_
  intro p e s m args below meth c s₁ B hml hv
  obtain ⟨rfl, hP, hK, hD, hb0, hZ, hT⟩ := hv
  have hts := atoms_spec (ws := .code y bytes maxL ret :: tblG) B.pre
  have hown : s.vm.findClass y.cls = some m.cls := findClass_of_methodNamed B.named
  have hl := lv_entry av (n := maxL) hlen
  rw [lg_entry_eq]
  generalize (lg_sl av ++ List.replicate (maxL - (lg_sl av).length) Slot.unset).toArray = ls at hl ⊢
  have hG : Gd (p, l, e, (headSpec (.code y bytes maxL ret :: tblG) ({ frames := f2, cells := 0, slots := 0, locals := lo2 } : Room)).room, s, m, av.toArray, below, meth, c, maxL, 0, 0, MQ below (QcW V post) av.toArray s 0 0 (fr V)) V bytes y.cls maxL f2 lo2 := ⟨B.exec, B.bytes, rfl, hml, hown, fun w hw => hts w (List.mem_cons_of_mem _ hw), hK, fun τ => wld_D σ τ hD, hb0, hZ, hT, Nat.le_refl _, Nat.le_refl _, Nat.le_refl _, Nat.le_refl _⟩
  exact body _ hG ⟨B.returns, B.notSynchronized, rfl, rfl, rfl⟩ s.heap [] ls hP va_S.rf (lvl_sub hl fun i v hi => by simpa using lini_ok av maxL 0 i v hi)
end ROWS
end
