section
-- ===== PART A: goes FIRST, ahead of the names: the tables' words, and 'selects' of the private methods out of them =====
/-- a private method of a class that the tables say can be made, by its rows of tables_1 -/
def lw_okq (q : MethodName × Nat) : Prop := (q.1.cls ≠ "java/lang/invoke/MethodHandle" ∧ q.1.cls ≠ "java/lang/invoke/VarHandle") ∧ Cond.instantiable q.1.cls q.2 ∈ tables_1 ∧ Cond.privateMethod q.1 ∈ tables_1 ∧ Cond.instanceMethod q.1 ∈ tables_1
theorem lw_p0 : lw_okq (⟨"ExpressionPrinter", "defineOperator", "(III)I"⟩, 11) := ⟨⟨by decide +kernel, by decide +kernel⟩, List.mem_of_getElem? (i := 10) (by decide +kernel), List.mem_of_getElem? (i := 192) (by decide +kernel), List.mem_of_getElem? (i := 193) (by decide +kernel)⟩
theorem lw_p1 : lw_okq (⟨"ExpressionPrinter$OperatorTable", "associativityAt", "(I)I"⟩, 6) := ⟨⟨by decide +kernel, by decide +kernel⟩, List.mem_of_getElem? (i := 18) (by decide +kernel), List.mem_of_getElem? (i := 270) (by decide +kernel), List.mem_of_getElem? (i := 271) (by decide +kernel)⟩
theorem lw_p2 : lw_okq (⟨"ExpressionPrinter", "addOperatorNode", "(III)I"⟩, 11) := ⟨⟨by decide +kernel, by decide +kernel⟩, List.mem_of_getElem? (i := 10) (by decide +kernel), List.mem_of_getElem? (i := 312) (by decide +kernel), List.mem_of_getElem? (i := 313) (by decide +kernel)⟩
theorem lw_p3 : lw_okq (⟨"ExpressionPrinter", "writeTree", "(IZ)I"⟩, 11) := ⟨⟨by decide +kernel, by decide +kernel⟩, List.mem_of_getElem? (i := 10) (by decide +kernel), List.mem_of_getElem? (i := 374) (by decide +kernel), List.mem_of_getElem? (i := 375) (by decide +kernel)⟩
theorem lw_p4 : lw_okq (⟨"ExpressionPrinter$Writer", "markNeeded", "(I)V"⟩, 5) := ⟨⟨by decide +kernel, by decide +kernel⟩, List.mem_of_getElem? (i := 132) (by decide +kernel), List.mem_of_getElem? (i := 386) (by decide +kernel), List.mem_of_getElem? (i := 387) (by decide +kernel)⟩
theorem lw_p5 : lw_okq (⟨"ExpressionPrinter$Writer", "mark", "(I)V"⟩, 5) := ⟨⟨by decide +kernel, by decide +kernel⟩, List.mem_of_getElem? (i := 132) (by decide +kernel), List.mem_of_getElem? (i := 390) (by decide +kernel), List.mem_of_getElem? (i := 391) (by decide +kernel)⟩
theorem lw_p6 : lw_okq (⟨"ExpressionPrinter$Writer", "countNeeded", "(I)V"⟩, 5) := ⟨⟨by decide +kernel, by decide +kernel⟩, List.mem_of_getElem? (i := 132) (by decide +kernel), List.mem_of_getElem? (i := 399) (by decide +kernel), List.mem_of_getElem? (i := 400) (by decide +kernel)⟩
theorem lw_p7 : lw_okq (⟨"ExpressionPrinter$Writer", "pairsInside", "(IIII)I"⟩, 5) := ⟨⟨by decide +kernel, by decide +kernel⟩, List.mem_of_getElem? (i := 132) (by decide +kernel), List.mem_of_getElem? (i := 403) (by decide +kernel), List.mem_of_getElem? (i := 404) (by decide +kernel)⟩
theorem lw_p8 : lw_okq (⟨"ExpressionPrinter$Writer", "isReadWhole", "(III)Z"⟩, 5) := ⟨⟨by decide +kernel, by decide +kernel⟩, List.mem_of_getElem? (i := 132) (by decide +kernel), List.mem_of_getElem? (i := 408) (by decide +kernel), List.mem_of_getElem? (i := 409) (by decide +kernel)⟩
theorem lw_p9 : lw_okq (⟨"ExpressionPrinter$Writer", "pairsOfOperand", "(IIIII)I"⟩, 5) := ⟨⟨by decide +kernel, by decide +kernel⟩, List.mem_of_getElem? (i := 132) (by decide +kernel), List.mem_of_getElem? (i := 418) (by decide +kernel), List.mem_of_getElem? (i := 419) (by decide +kernel)⟩
theorem lw_p10 : lw_okq (⟨"ExpressionPrinter$Writer", "pairsIfOpen", "(IIIII)I"⟩, 5) := ⟨⟨by decide +kernel, by decide +kernel⟩, List.mem_of_getElem? (i := 132) (by decide +kernel), List.mem_of_getElem? (i := 422) (by decide +kernel), List.mem_of_getElem? (i := 423) (by decide +kernel)⟩
theorem lw_p11 : lw_okq (⟨"ExpressionPrinter$Writer", "pairsIfBracketed", "(I)I"⟩, 5) := ⟨⟨by decide +kernel, by decide +kernel⟩, List.mem_of_getElem? (i := 132) (by decide +kernel), List.mem_of_getElem? (i := 432) (by decide +kernel), List.mem_of_getElem? (i := 433) (by decide +kernel)⟩
theorem lw_p12 : lw_okq (⟨"ExpressionPrinter$Writer", "writeOperand", "(IIIII)V"⟩, 5) := ⟨⟨by decide +kernel, by decide +kernel⟩, List.mem_of_getElem? (i := 132) (by decide +kernel), List.mem_of_getElem? (i := 445) (by decide +kernel), List.mem_of_getElem? (i := 446) (by decide +kernel)⟩
theorem lw_p13 : lw_okq (⟨"ExpressionPrinter$Text", "openOf", "(I)I"⟩, 2) := ⟨⟨by decide +kernel, by decide +kernel⟩, List.mem_of_getElem? (i := 70) (by decide +kernel), List.mem_of_getElem? (i := 483) (by decide +kernel), List.mem_of_getElem? (i := 484) (by decide +kernel)⟩
theorem lw_p14 : lw_okq (⟨"ExpressionPrinter$Text", "closeOf", "(I)I"⟩, 2) := ⟨⟨by decide +kernel, by decide +kernel⟩, List.mem_of_getElem? (i := 70) (by decide +kernel), List.mem_of_getElem? (i := 487) (by decide +kernel), List.mem_of_getElem? (i := 488) (by decide +kernel)⟩
theorem lw_p15 : lw_okq (⟨"ExpressionPrinter$Reader", "start", "()V"⟩, 14) := ⟨⟨by decide +kernel, by decide +kernel⟩, List.mem_of_getElem? (i := 83) (by decide +kernel), List.mem_of_getElem? (i := 500) (by decide +kernel), List.mem_of_getElem? (i := 501) (by decide +kernel)⟩
def lw_privs_1 : List (MethodName × Nat) := [(⟨"ExpressionPrinter", "defineOperator", "(III)I"⟩, 11), (⟨"ExpressionPrinter$OperatorTable", "associativityAt", "(I)I"⟩, 6), (⟨"ExpressionPrinter", "addOperatorNode", "(III)I"⟩, 11), (⟨"ExpressionPrinter", "writeTree", "(IZ)I"⟩, 11), (⟨"ExpressionPrinter$Writer", "markNeeded", "(I)V"⟩, 5), (⟨"ExpressionPrinter$Writer", "mark", "(I)V"⟩, 5), (⟨"ExpressionPrinter$Writer", "countNeeded", "(I)V"⟩, 5), (⟨"ExpressionPrinter$Writer", "pairsInside", "(IIII)I"⟩, 5), (⟨"ExpressionPrinter$Writer", "isReadWhole", "(III)Z"⟩, 5), (⟨"ExpressionPrinter$Writer", "pairsOfOperand", "(IIIII)I"⟩, 5), (⟨"ExpressionPrinter$Writer", "pairsIfOpen", "(IIIII)I"⟩, 5), (⟨"ExpressionPrinter$Writer", "pairsIfBracketed", "(I)I"⟩, 5), (⟨"ExpressionPrinter$Writer", "writeOperand", "(IIIII)V"⟩, 5), (⟨"ExpressionPrinter$Text", "openOf", "(I)I"⟩, 2), (⟨"ExpressionPrinter$Text", "closeOf", "(I)I"⟩, 2), (⟨"ExpressionPrinter$Reader", "start", "()V"⟩, 14)]
theorem lw_r1 : ∀ q ∈ lw_privs_1, lw_okq q := List.forall_mem_cons.mpr ⟨lw_p0, List.forall_mem_cons.mpr ⟨lw_p1, List.forall_mem_cons.mpr ⟨lw_p2, List.forall_mem_cons.mpr ⟨lw_p3, List.forall_mem_cons.mpr ⟨lw_p4, List.forall_mem_cons.mpr ⟨lw_p5, List.forall_mem_cons.mpr ⟨lw_p6, List.forall_mem_cons.mpr ⟨lw_p7, List.forall_mem_cons.mpr ⟨lw_p8, List.forall_mem_cons.mpr ⟨lw_p9, List.forall_mem_cons.mpr ⟨lw_p10, List.forall_mem_cons.mpr ⟨lw_p11, List.forall_mem_cons.mpr ⟨lw_p12, List.forall_mem_cons.mpr ⟨lw_p13, List.forall_mem_cons.mpr ⟨lw_p14, List.forall_mem_cons.mpr ⟨lw_p15, fun _ h => absurd h List.not_mem_nil⟩⟩⟩⟩⟩⟩⟩⟩⟩⟩⟩⟩⟩⟩⟩⟩
theorem lw_p16 : lw_okq (⟨"ExpressionPrinter$Reader", "readOperand", "()V"⟩, 14) := ⟨⟨by decide +kernel, by decide +kernel⟩, List.mem_of_getElem? (i := 83) (by decide +kernel), List.mem_of_getElem? (i := 508) (by decide +kernel), List.mem_of_getElem? (i := 509) (by decide +kernel)⟩
theorem lw_p17 : lw_okq (⟨"ExpressionPrinter$Reader", "takeLeftSide", "(I)V"⟩, 14) := ⟨⟨by decide +kernel, by decide +kernel⟩, List.mem_of_getElem? (i := 83) (by decide +kernel), List.mem_of_getElem? (i := 516) (by decide +kernel), List.mem_of_getElem? (i := 517) (by decide +kernel)⟩
theorem lw_p18 : lw_okq (⟨"ExpressionPrinter$Reader", "openFrame", "(II)V"⟩, 14) := ⟨⟨by decide +kernel, by decide +kernel⟩, List.mem_of_getElem? (i := 83) (by decide +kernel), List.mem_of_getElem? (i := 520) (by decide +kernel), List.mem_of_getElem? (i := 521) (by decide +kernel)⟩
theorem lw_p19 : lw_okq (⟨"ExpressionPrinter$Reader", "fail", "(II)V"⟩, 14) := ⟨⟨by decide +kernel, by decide +kernel⟩, List.mem_of_getElem? (i := 83) (by decide +kernel), List.mem_of_getElem? (i := 524) (by decide +kernel), List.mem_of_getElem? (i := 525) (by decide +kernel)⟩
theorem lw_p20 : lw_okq (⟨"ExpressionPrinter$Reader", "readOperator", "()V"⟩, 14) := ⟨⟨by decide +kernel, by decide +kernel⟩, List.mem_of_getElem? (i := 83) (by decide +kernel), List.mem_of_getElem? (i := 528) (by decide +kernel), List.mem_of_getElem? (i := 529) (by decide +kernel)⟩
theorem lw_p21 : lw_okq (⟨"ExpressionPrinter$Reader", "endFrame", "()V"⟩, 14) := ⟨⟨by decide +kernel, by decide +kernel⟩, List.mem_of_getElem? (i := 83) (by decide +kernel), List.mem_of_getElem? (i := 532) (by decide +kernel), List.mem_of_getElem? (i := 533) (by decide +kernel)⟩
theorem lw_p22 : lw_okq (⟨"ExpressionPrinter$Reader", "topFrame", "()I"⟩, 14) := ⟨⟨by decide +kernel, by decide +kernel⟩, List.mem_of_getElem? (i := 83) (by decide +kernel), List.mem_of_getElem? (i := 536) (by decide +kernel), List.mem_of_getElem? (i := 537) (by decide +kernel)⟩
theorem lw_p23 : lw_okq (⟨"ExpressionPrinter$Reader", "endText", "()V"⟩, 14) := ⟨⟨by decide +kernel, by decide +kernel⟩, List.mem_of_getElem? (i := 83) (by decide +kernel), List.mem_of_getElem? (i := 540) (by decide +kernel), List.mem_of_getElem? (i := 541) (by decide +kernel)⟩
theorem lw_p24 : lw_okq (⟨"ExpressionPrinter$Reader", "endBracket", "()V"⟩, 14) := ⟨⟨by decide +kernel, by decide +kernel⟩, List.mem_of_getElem? (i := 83) (by decide +kernel), List.mem_of_getElem? (i := 544) (by decide +kernel), List.mem_of_getElem? (i := 545) (by decide +kernel)⟩
theorem lw_p25 : lw_okq (⟨"ExpressionPrinter$Reader", "completeNode", "(I)V"⟩, 14) := ⟨⟨by decide +kernel, by decide +kernel⟩, List.mem_of_getElem? (i := 83) (by decide +kernel), List.mem_of_getElem? (i := 548) (by decide +kernel), List.mem_of_getElem? (i := 549) (by decide +kernel)⟩
theorem lw_p26 : lw_okq (⟨"ExpressionPrinter$Reader", "isForbiddenUnder", "(I)Z"⟩, 14) := ⟨⟨by decide +kernel, by decide +kernel⟩, List.mem_of_getElem? (i := 83) (by decide +kernel), List.mem_of_getElem? (i := 552) (by decide +kernel), List.mem_of_getElem? (i := 553) (by decide +kernel)⟩
theorem lw_p27 : lw_okq (⟨"ExpressionPrinter$Reader", "frameMin", "()I"⟩, 14) := ⟨⟨by decide +kernel, by decide +kernel⟩, List.mem_of_getElem? (i := 83) (by decide +kernel), List.mem_of_getElem? (i := 559) (by decide +kernel), List.mem_of_getElem? (i := 560) (by decide +kernel)⟩
theorem lw_p28 : lw_okq (⟨"ExpressionPrinter$Reader", "joinLeftSide", "(I)V"⟩, 14) := ⟨⟨by decide +kernel, by decide +kernel⟩, List.mem_of_getElem? (i := 83) (by decide +kernel), List.mem_of_getElem? (i := 564) (by decide +kernel), List.mem_of_getElem? (i := 565) (by decide +kernel)⟩
theorem lw_p29 : lw_okq (⟨"ExpressionPrinterModel", "define", "(III)I"⟩, 40) := ⟨⟨by decide +kernel, by decide +kernel⟩, List.mem_of_getElem? (i := 619) (by decide +kernel), List.mem_of_getElem? (i := 750) (by decide +kernel), List.mem_of_getElem? (i := 751) (by decide +kernel)⟩
theorem lw_p30 : lw_okq (⟨"ExpressionPrinterModel", "operatorFor", "(IZ)I"⟩, 40) := ⟨⟨by decide +kernel, by decide +kernel⟩, List.mem_of_getElem? (i := 619) (by decide +kernel), List.mem_of_getElem? (i := 760) (by decide +kernel), List.mem_of_getElem? (i := 761) (by decide +kernel)⟩
theorem lw_p31 : lw_okq (⟨"ExpressionPrinterModel", "isOperator", "(I)Z"⟩, 40) := ⟨⟨by decide +kernel, by decide +kernel⟩, List.mem_of_getElem? (i := 619) (by decide +kernel), List.mem_of_getElem? (i := 780) (by decide +kernel), List.mem_of_getElem? (i := 781) (by decide +kernel)⟩
def lw_privs_2 : List (MethodName × Nat) := [(⟨"ExpressionPrinter$Reader", "readOperand", "()V"⟩, 14), (⟨"ExpressionPrinter$Reader", "takeLeftSide", "(I)V"⟩, 14), (⟨"ExpressionPrinter$Reader", "openFrame", "(II)V"⟩, 14), (⟨"ExpressionPrinter$Reader", "fail", "(II)V"⟩, 14), (⟨"ExpressionPrinter$Reader", "readOperator", "()V"⟩, 14), (⟨"ExpressionPrinter$Reader", "endFrame", "()V"⟩, 14), (⟨"ExpressionPrinter$Reader", "topFrame", "()I"⟩, 14), (⟨"ExpressionPrinter$Reader", "endText", "()V"⟩, 14), (⟨"ExpressionPrinter$Reader", "endBracket", "()V"⟩, 14), (⟨"ExpressionPrinter$Reader", "completeNode", "(I)V"⟩, 14), (⟨"ExpressionPrinter$Reader", "isForbiddenUnder", "(I)Z"⟩, 14), (⟨"ExpressionPrinter$Reader", "frameMin", "()I"⟩, 14), (⟨"ExpressionPrinter$Reader", "joinLeftSide", "(I)V"⟩, 14), (⟨"ExpressionPrinterModel", "define", "(III)I"⟩, 40), (⟨"ExpressionPrinterModel", "operatorFor", "(IZ)I"⟩, 40), (⟨"ExpressionPrinterModel", "isOperator", "(I)Z"⟩, 40)]
theorem lw_r2 : ∀ q ∈ lw_privs_2, lw_okq q := List.forall_mem_cons.mpr ⟨lw_p16, List.forall_mem_cons.mpr ⟨lw_p17, List.forall_mem_cons.mpr ⟨lw_p18, List.forall_mem_cons.mpr ⟨lw_p19, List.forall_mem_cons.mpr ⟨lw_p20, List.forall_mem_cons.mpr ⟨lw_p21, List.forall_mem_cons.mpr ⟨lw_p22, List.forall_mem_cons.mpr ⟨lw_p23, List.forall_mem_cons.mpr ⟨lw_p24, List.forall_mem_cons.mpr ⟨lw_p25, List.forall_mem_cons.mpr ⟨lw_p26, List.forall_mem_cons.mpr ⟨lw_p27, List.forall_mem_cons.mpr ⟨lw_p28, List.forall_mem_cons.mpr ⟨lw_p29, List.forall_mem_cons.mpr ⟨lw_p30, List.forall_mem_cons.mpr ⟨lw_p31, fun _ h => absurd h List.not_mem_nil⟩⟩⟩⟩⟩⟩⟩⟩⟩⟩⟩⟩⟩⟩⟩⟩
theorem lw_p32 : lw_okq (⟨"ExpressionPrinterModel", "addNode", "(IIII)I"⟩, 40) := ⟨⟨by decide +kernel, by decide +kernel⟩, List.mem_of_getElem? (i := 619) (by decide +kernel), List.mem_of_getElem? (i := 804) (by decide +kernel), List.mem_of_getElem? (i := 805) (by decide +kernel)⟩
theorem lw_p33 : lw_okq (⟨"ExpressionPrinterModel", "isNode", "(I)Z"⟩, 40) := ⟨⟨by decide +kernel, by decide +kernel⟩, List.mem_of_getElem? (i := 619) (by decide +kernel), List.mem_of_getElem? (i := 812) (by decide +kernel), List.mem_of_getElem? (i := 813) (by decide +kernel)⟩
theorem lw_p34 : lw_okq (⟨"ExpressionPrinterModel", "printTree", "(IZ)I"⟩, 40) := ⟨⟨by decide +kernel, by decide +kernel⟩, List.mem_of_getElem? (i := 619) (by decide +kernel), List.mem_of_getElem? (i := 848) (by decide +kernel), List.mem_of_getElem? (i := 849) (by decide +kernel)⟩
theorem lw_p35 : lw_okq (⟨"ExpressionPrinterModel", "layCosts", "(I)V"⟩, 40) := ⟨⟨by decide +kernel, by decide +kernel⟩, List.mem_of_getElem? (i := 619) (by decide +kernel), List.mem_of_getElem? (i := 852) (by decide +kernel), List.mem_of_getElem? (i := 853) (by decide +kernel)⟩
theorem lw_p36 : lw_okq (⟨"ExpressionPrinterModel", "costOf", "(III)I"⟩, 40) := ⟨⟨by decide +kernel, by decide +kernel⟩, List.mem_of_getElem? (i := 619) (by decide +kernel), List.mem_of_getElem? (i := 856) (by decide +kernel), List.mem_of_getElem? (i := 857) (by decide +kernel)⟩
theorem lw_p37 : lw_okq (⟨"ExpressionPrinterModel", "operandCost", "(IIIIZ)I"⟩, 40) := ⟨⟨by decide +kernel, by decide +kernel⟩, List.mem_of_getElem? (i := 619) (by decide +kernel), List.mem_of_getElem? (i := 860) (by decide +kernel), List.mem_of_getElem? (i := 861) (by decide +kernel)⟩
theorem lw_p38 : lw_okq (⟨"ExpressionPrinterModel", "bareCost", "(IIIIZ)I"⟩, 40) := ⟨⟨by decide +kernel, by decide +kernel⟩, List.mem_of_getElem? (i := 619) (by decide +kernel), List.mem_of_getElem? (i := 864) (by decide +kernel), List.mem_of_getElem? (i := 865) (by decide +kernel)⟩
theorem lw_p39 : lw_okq (⟨"ExpressionPrinterModel", "mayBeBare", "(IIZ)Z"⟩, 40) := ⟨⟨by decide +kernel, by decide +kernel⟩, List.mem_of_getElem? (i := 619) (by decide +kernel), List.mem_of_getElem? (i := 868) (by decide +kernel), List.mem_of_getElem? (i := 869) (by decide +kernel)⟩
theorem lw_p40 : lw_okq (⟨"ExpressionPrinterModel", "isBarred", "(II)Z"⟩, 40) := ⟨⟨by decide +kernel, by decide +kernel⟩, List.mem_of_getElem? (i := 619) (by decide +kernel), List.mem_of_getElem? (i := 872) (by decide +kernel), List.mem_of_getElem? (i := 873) (by decide +kernel)⟩
theorem lw_p41 : lw_okq (⟨"ExpressionPrinterModel", "isClash", "(II)Z"⟩, 40) := ⟨⟨by decide +kernel, by decide +kernel⟩, List.mem_of_getElem? (i := 619) (by decide +kernel), List.mem_of_getElem? (i := 876) (by decide +kernel), List.mem_of_getElem? (i := 877) (by decide +kernel)⟩
theorem lw_p42 : lw_okq (⟨"ExpressionPrinterModel", "rightLevel", "(I)I"⟩, 40) := ⟨⟨by decide +kernel, by decide +kernel⟩, List.mem_of_getElem? (i := 619) (by decide +kernel), List.mem_of_getElem? (i := 883) (by decide +kernel), List.mem_of_getElem? (i := 884) (by decide +kernel)⟩
theorem lw_p43 : lw_okq (⟨"ExpressionPrinterModel", "push", "(IIII)V"⟩, 40) := ⟨⟨by decide +kernel, by decide +kernel⟩, List.mem_of_getElem? (i := 619) (by decide +kernel), List.mem_of_getElem? (i := 887) (by decide +kernel), List.mem_of_getElem? (i := 888) (by decide +kernel)⟩
theorem lw_p44 : lw_okq (⟨"ExpressionPrinterModel", "write", "(I)V"⟩, 40) := ⟨⟨by decide +kernel, by decide +kernel⟩, List.mem_of_getElem? (i := 619) (by decide +kernel), List.mem_of_getElem? (i := 891) (by decide +kernel), List.mem_of_getElem? (i := 892) (by decide +kernel)⟩
theorem lw_p45 : lw_okq (⟨"ExpressionPrinterModel", "pushParts", "(IIIZ)V"⟩, 40) := ⟨⟨by decide +kernel, by decide +kernel⟩, List.mem_of_getElem? (i := 619) (by decide +kernel), List.mem_of_getElem? (i := 895) (by decide +kernel), List.mem_of_getElem? (i := 896) (by decide +kernel)⟩
theorem lw_p46 : lw_okq (⟨"ExpressionPrinterModel", "pushOperand", "(IIIIZZ)V"⟩, 40) := ⟨⟨by decide +kernel, by decide +kernel⟩, List.mem_of_getElem? (i := 619) (by decide +kernel), List.mem_of_getElem? (i := 899) (by decide +kernel), List.mem_of_getElem? (i := 900) (by decide +kernel)⟩
theorem lw_p47 : lw_okq (⟨"ExpressionPrinterModel", "openingOf", "(I)I"⟩, 40) := ⟨⟨by decide +kernel, by decide +kernel⟩, List.mem_of_getElem? (i := 619) (by decide +kernel), List.mem_of_getElem? (i := 920) (by decide +kernel), List.mem_of_getElem? (i := 921) (by decide +kernel)⟩
def lw_privs_3 : List (MethodName × Nat) := [(⟨"ExpressionPrinterModel", "addNode", "(IIII)I"⟩, 40), (⟨"ExpressionPrinterModel", "isNode", "(I)Z"⟩, 40), (⟨"ExpressionPrinterModel", "printTree", "(IZ)I"⟩, 40), (⟨"ExpressionPrinterModel", "layCosts", "(I)V"⟩, 40), (⟨"ExpressionPrinterModel", "costOf", "(III)I"⟩, 40), (⟨"ExpressionPrinterModel", "operandCost", "(IIIIZ)I"⟩, 40), (⟨"ExpressionPrinterModel", "bareCost", "(IIIIZ)I"⟩, 40), (⟨"ExpressionPrinterModel", "mayBeBare", "(IIZ)Z"⟩, 40), (⟨"ExpressionPrinterModel", "isBarred", "(II)Z"⟩, 40), (⟨"ExpressionPrinterModel", "isClash", "(II)Z"⟩, 40), (⟨"ExpressionPrinterModel", "rightLevel", "(I)I"⟩, 40), (⟨"ExpressionPrinterModel", "push", "(IIII)V"⟩, 40), (⟨"ExpressionPrinterModel", "write", "(I)V"⟩, 40), (⟨"ExpressionPrinterModel", "pushParts", "(IIIZ)V"⟩, 40), (⟨"ExpressionPrinterModel", "pushOperand", "(IIIIZZ)V"⟩, 40), (⟨"ExpressionPrinterModel", "openingOf", "(I)I"⟩, 40)]
theorem lw_r3 : ∀ q ∈ lw_privs_3, lw_okq q := List.forall_mem_cons.mpr ⟨lw_p32, List.forall_mem_cons.mpr ⟨lw_p33, List.forall_mem_cons.mpr ⟨lw_p34, List.forall_mem_cons.mpr ⟨lw_p35, List.forall_mem_cons.mpr ⟨lw_p36, List.forall_mem_cons.mpr ⟨lw_p37, List.forall_mem_cons.mpr ⟨lw_p38, List.forall_mem_cons.mpr ⟨lw_p39, List.forall_mem_cons.mpr ⟨lw_p40, List.forall_mem_cons.mpr ⟨lw_p41, List.forall_mem_cons.mpr ⟨lw_p42, List.forall_mem_cons.mpr ⟨lw_p43, List.forall_mem_cons.mpr ⟨lw_p44, List.forall_mem_cons.mpr ⟨lw_p45, List.forall_mem_cons.mpr ⟨lw_p46, List.forall_mem_cons.mpr ⟨lw_p47, fun _ h => absurd h List.not_mem_nil⟩⟩⟩⟩⟩⟩⟩⟩⟩⟩⟩⟩⟩⟩⟩⟩
theorem lw_p48 : lw_okq (⟨"ExpressionPrinterModel", "closingOf", "(I)I"⟩, 40) := ⟨⟨by decide +kernel, by decide +kernel⟩, List.mem_of_getElem? (i := 619) (by decide +kernel), List.mem_of_getElem? (i := 924) (by decide +kernel), List.mem_of_getElem? (i := 925) (by decide +kernel)⟩
theorem lw_p49 : lw_okq (⟨"ExpressionPrinterModel", "readAll", "()Z"⟩, 40) := ⟨⟨by decide +kernel, by decide +kernel⟩, List.mem_of_getElem? (i := 619) (by decide +kernel), List.mem_of_getElem? (i := 928) (by decide +kernel), List.mem_of_getElem? (i := 929) (by decide +kernel)⟩
theorem lw_p50 : lw_okq (⟨"ExpressionPrinterModel", "readOperand", "()V"⟩, 40) := ⟨⟨by decide +kernel, by decide +kernel⟩, List.mem_of_getElem? (i := 619) (by decide +kernel), List.mem_of_getElem? (i := 932) (by decide +kernel), List.mem_of_getElem? (i := 933) (by decide +kernel)⟩
theorem lw_p51 : lw_okq (⟨"ExpressionPrinterModel", "addRead", "(IIII)I"⟩, 40) := ⟨⟨by decide +kernel, by decide +kernel⟩, List.mem_of_getElem? (i := 619) (by decide +kernel), List.mem_of_getElem? (i := 936) (by decide +kernel), List.mem_of_getElem? (i := 937) (by decide +kernel)⟩
theorem lw_p52 : lw_okq (⟨"ExpressionPrinterModel", "openCall", "(IIII)V"⟩, 40) := ⟨⟨by decide +kernel, by decide +kernel⟩, List.mem_of_getElem? (i := 619) (by decide +kernel), List.mem_of_getElem? (i := 940) (by decide +kernel), List.mem_of_getElem? (i := 941) (by decide +kernel)⟩
theorem lw_p53 : lw_okq (⟨"ExpressionPrinterModel", "fail", "(II)V"⟩, 40) := ⟨⟨by decide +kernel, by decide +kernel⟩, List.mem_of_getElem? (i := 619) (by decide +kernel), List.mem_of_getElem? (i := 944) (by decide +kernel), List.mem_of_getElem? (i := 945) (by decide +kernel)⟩
theorem lw_p54 : lw_okq (⟨"ExpressionPrinterModel", "goOn", "()Z"⟩, 40) := ⟨⟨by decide +kernel, by decide +kernel⟩, List.mem_of_getElem? (i := 619) (by decide +kernel), List.mem_of_getElem? (i := 948) (by decide +kernel), List.mem_of_getElem? (i := 949) (by decide +kernel)⟩
theorem lw_p55 : lw_okq (⟨"ExpressionPrinterModel", "readPostfix", "(I)V"⟩, 40) := ⟨⟨by decide +kernel, by decide +kernel⟩, List.mem_of_getElem? (i := 619) (by decide +kernel), List.mem_of_getElem? (i := 952) (by decide +kernel), List.mem_of_getElem? (i := 953) (by decide +kernel)⟩
theorem lw_p56 : lw_okq (⟨"ExpressionPrinterModel", "isBareAndBarred", "(I)Z"⟩, 40) := ⟨⟨by decide +kernel, by decide +kernel⟩, List.mem_of_getElem? (i := 619) (by decide +kernel), List.mem_of_getElem? (i := 956) (by decide +kernel), List.mem_of_getElem? (i := 957) (by decide +kernel)⟩
theorem lw_p57 : lw_okq (⟨"ExpressionPrinterModel", "readInfix", "(I)V"⟩, 40) := ⟨⟨by decide +kernel, by decide +kernel⟩, List.mem_of_getElem? (i := 619) (by decide +kernel), List.mem_of_getElem? (i := 960) (by decide +kernel), List.mem_of_getElem? (i := 961) (by decide +kernel)⟩
theorem lw_p58 : lw_okq (⟨"ExpressionPrinterModel", "endCall", "()V"⟩, 40) := ⟨⟨by decide +kernel, by decide +kernel⟩, List.mem_of_getElem? (i := 619) (by decide +kernel), List.mem_of_getElem? (i := 964) (by decide +kernel), List.mem_of_getElem? (i := 965) (by decide +kernel)⟩
theorem lw_p59 : lw_okq (⟨"ExpressionPrinterModel", "isSameAs", "(I)Z"⟩, 40) := ⟨⟨by decide +kernel, by decide +kernel⟩, List.mem_of_getElem? (i := 619) (by decide +kernel), List.mem_of_getElem? (i := 968) (by decide +kernel), List.mem_of_getElem? (i := 969) (by decide +kernel)⟩
def lw_privs_4 : List (MethodName × Nat) := [(⟨"ExpressionPrinterModel", "closingOf", "(I)I"⟩, 40), (⟨"ExpressionPrinterModel", "readAll", "()Z"⟩, 40), (⟨"ExpressionPrinterModel", "readOperand", "()V"⟩, 40), (⟨"ExpressionPrinterModel", "addRead", "(IIII)I"⟩, 40), (⟨"ExpressionPrinterModel", "openCall", "(IIII)V"⟩, 40), (⟨"ExpressionPrinterModel", "fail", "(II)V"⟩, 40), (⟨"ExpressionPrinterModel", "goOn", "()Z"⟩, 40), (⟨"ExpressionPrinterModel", "readPostfix", "(I)V"⟩, 40), (⟨"ExpressionPrinterModel", "isBareAndBarred", "(I)Z"⟩, 40), (⟨"ExpressionPrinterModel", "readInfix", "(I)V"⟩, 40), (⟨"ExpressionPrinterModel", "endCall", "()V"⟩, 40), (⟨"ExpressionPrinterModel", "isSameAs", "(I)Z"⟩, 40)]
theorem lw_r4 : ∀ q ∈ lw_privs_4, lw_okq q := List.forall_mem_cons.mpr ⟨lw_p48, List.forall_mem_cons.mpr ⟨lw_p49, List.forall_mem_cons.mpr ⟨lw_p50, List.forall_mem_cons.mpr ⟨lw_p51, List.forall_mem_cons.mpr ⟨lw_p52, List.forall_mem_cons.mpr ⟨lw_p53, List.forall_mem_cons.mpr ⟨lw_p54, List.forall_mem_cons.mpr ⟨lw_p55, List.forall_mem_cons.mpr ⟨lw_p56, List.forall_mem_cons.mpr ⟨lw_p57, List.forall_mem_cons.mpr ⟨lw_p58, List.forall_mem_cons.mpr ⟨lw_p59, fun _ h => absurd h List.not_mem_nil⟩⟩⟩⟩⟩⟩⟩⟩⟩⟩⟩⟩
def lw_privs : List (MethodName × Nat) := lw_privs_1 ++ (lw_privs_2 ++ (lw_privs_3 ++ (lw_privs_4)))
def lw_tbl : List Cond := k2_sels lw_privs ++ tables_1
theorem lw_privs_ok : ∀ q ∈ lw_privs, lw_okq q := by
  show ∀ q ∈ lw_privs_1 ++ (lw_privs_2 ++ (lw_privs_3 ++ (lw_privs_4))), lw_okq q
  exact List.forall_mem_append.mpr ⟨lw_r1, List.forall_mem_append.mpr ⟨lw_r2, List.forall_mem_append.mpr ⟨lw_r3, lw_r4⟩⟩⟩
end
section
/-! names of the classes, fields and methods (begun as the printed names of this claim) -/
def RX0 : String := "ExpressionPrinter$NodeTable"
def TX0 : u_T := fun k => match k with
  | 0 => ("ExpressionPrinter$NodeTable", "operators", "[I", true)
  | 1 => ("ExpressionPrinter$NodeTable", "letters", "[I", true)
  | 2 => ("ExpressionPrinter$NodeTable", "befores", "[I", true)
  | 3 => ("ExpressionPrinter$NodeTable", "afters", "[I", true)
  | 4 => ("ExpressionPrinter$NodeTable", "sizes", "[I", true)
  | _ => ("ExpressionPrinter$NodeTable", "count", "I", false)
def tyX0 : Nat → FieldType := fun k => match k with
  | 0 => .array .int
  | 1 => .array .int
  | 2 => .array .int
  | 3 => .array .int
  | 4 => .array .int
  | _ => .int
abbrev wsX00 : List Cond := u_ws RX0 TX0 6
theorem nmX0 : ∀ a, a < 6 → ∀ b, b < 6 → a ≠ b → (TX0 a).2.1 ≠ (TX0 b).2.1 := by decide +kernel
theorem tyX0_ok : ∀ k, k < 6 → parseFieldDescriptor (TX0 k).2.2.1 = some (tyX0 k) := by decide +kernel
abbrev cX0_init : ByteArray := prog_2_method_1_code
def yX0_init : MethodName := ⟨RX0, "<init>", "()V"⟩
abbrev cX0_count : ByteArray := prog_2_method_2_code
def yX0_count : MethodName := ⟨RX0, "count", "()I"⟩
abbrev cX0_last : ByteArray := prog_2_method_3_code
def yX0_last : MethodName := ⟨RX0, "last", "()I"⟩
abbrev cX0_has : ByteArray := prog_2_method_4_code
def yX0_has : MethodName := ⟨RX0, "has", "(I)Z"⟩
abbrev cX0_empty : ByteArray := prog_2_method_5_code
def yX0_empty : MethodName := ⟨RX0, "empty", "()V"⟩
abbrev cX0_add : ByteArray := prog_2_method_6_code
def yX0_add : MethodName := ⟨RX0, "add", "(IIII)I"⟩
abbrev cX0_addAllOf : ByteArray := prog_2_method_7_code
def yX0_addAllOf : MethodName := ⟨RX0, "addAllOf", "(LExpressionPrinter$NodeTable;)V"⟩
abbrev cX0_shifted : ByteArray := prog_2_method_8_code
def yX0_shifted : MethodName := ⟨RX0, "shifted", "(II)I"⟩
abbrev cX0_operatorAt : ByteArray := prog_2_method_9_code
def yX0_operatorAt : MethodName := ⟨RX0, "operatorAt", "(I)I"⟩
abbrev cX0_letterAt : ByteArray := prog_2_method_10_code
def yX0_letterAt : MethodName := ⟨RX0, "letterAt", "(I)I"⟩
abbrev cX0_beforeAt : ByteArray := prog_2_method_11_code
def yX0_beforeAt : MethodName := ⟨RX0, "beforeAt", "(I)I"⟩
abbrev cX0_afterAt : ByteArray := prog_2_method_12_code
def yX0_afterAt : MethodName := ⟨RX0, "afterAt", "(I)I"⟩
abbrev cX0_sizeAt : ByteArray := prog_2_method_13_code
def yX0_sizeAt : MethodName := ⟨RX0, "sizeAt", "(I)I"⟩
abbrev cX0_operandAt : ByteArray := prog_2_method_14_code
def yX0_operandAt : MethodName := ⟨RX0, "operandAt", "(II)I"⟩
def RX1 : String := "ExpressionPrinter$OperatorTable"
def TX1 : u_T := fun k => match k with
  | 0 => ("ExpressionPrinter$OperatorTable", "symbols", "[I", true)
  | 1 => ("ExpressionPrinter$OperatorTable", "kinds", "[I", true)
  | 2 => ("ExpressionPrinter$OperatorTable", "levels", "[I", true)
  | 3 => ("ExpressionPrinter$OperatorTable", "associativities", "[I", true)
  | 4 => ("ExpressionPrinter$OperatorTable", "forbiddenPairs", "[Z", true)
  | _ => ("ExpressionPrinter$OperatorTable", "count", "I", false)
def tyX1 : Nat → FieldType := fun k => match k with
  | 0 => .array .int
  | 1 => .array .int
  | 2 => .array .int
  | 3 => .array .int
  | 4 => .array .boolean
  | _ => .int
abbrev wsX10 : List Cond := u_ws RX1 TX1 6
theorem nmX1 : ∀ a, a < 6 → ∀ b, b < 6 → a ≠ b → (TX1 a).2.1 ≠ (TX1 b).2.1 := by decide +kernel
theorem tyX1_ok : ∀ k, k < 6 → parseFieldDescriptor (TX1 k).2.2.1 = some (tyX1 k) := by decide +kernel
abbrev cX1_init : ByteArray := prog_3_method_1_code
def yX1_init : MethodName := ⟨RX1, "<init>", "()V"⟩
abbrev cX1_count : ByteArray := prog_3_method_2_code
def yX1_count : MethodName := ⟨RX1, "count", "()I"⟩
abbrev cX1_has : ByteArray := prog_3_method_3_code
def yX1_has : MethodName := ⟨RX1, "has", "(I)Z"⟩
abbrev cX1_add : ByteArray := prog_3_method_4_code
def yX1_add : MethodName := ⟨RX1, "add", "(III)I"⟩
abbrev cX1_find : ByteArray := prog_3_method_5_code
def yX1_find : MethodName := ⟨RX1, "find", "(IZ)I"⟩
abbrev cX1_symbolAt : ByteArray := prog_3_method_6_code
def yX1_symbolAt : MethodName := ⟨RX1, "symbolAt", "(I)I"⟩
abbrev cX1_kindAt : ByteArray := prog_3_method_7_code
def yX1_kindAt : MethodName := ⟨RX1, "kindAt", "(I)I"⟩
abbrev cX1_levelAt : ByteArray := prog_3_method_8_code
def yX1_levelAt : MethodName := ⟨RX1, "levelAt", "(I)I"⟩
abbrev cX1_replaceLevel : ByteArray := prog_3_method_9_code
def yX1_replaceLevel : MethodName := ⟨RX1, "replaceLevel", "(II)I"⟩
abbrev cX1_associativityAt : ByteArray := prog_3_method_10_code
def yX1_associativityAt : MethodName := ⟨RX1, "associativityAt", "(I)I"⟩
abbrev cX1_replaceAssociativity : ByteArray := prog_3_method_11_code
def yX1_replaceAssociativity : MethodName := ⟨RX1, "replaceAssociativity", "(II)I"⟩
abbrev cX1_isForbidden : ByteArray := prog_3_method_12_code
def yX1_isForbidden : MethodName := ⟨RX1, "isForbidden", "(II)Z"⟩
abbrev cX1_replaceForbidden : ByteArray := prog_3_method_13_code
def yX1_replaceForbidden : MethodName := ⟨RX1, "replaceForbidden", "(IIZ)Z"⟩
abbrev cX1_minAfter : ByteArray := prog_3_method_14_code
def yX1_minAfter : MethodName := ⟨RX1, "minAfter", "(I)I"⟩
abbrev cX1_isNotAssociative : ByteArray := prog_3_method_15_code
def yX1_isNotAssociative : MethodName := ⟨RX1, "isNotAssociative", "(II)Z"⟩
def RX2 : String := "ExpressionPrinter$Reader"
def TX2 : u_T := fun k => match k with
  | 0 => ("ExpressionPrinter$Reader", "operators", "LExpressionPrinter$OperatorTable;", true)
  | 1 => ("ExpressionPrinter$Reader", "nodes", "LExpressionPrinter$NodeTable;", true)
  | 2 => ("ExpressionPrinter$Reader", "text", "LExpressionPrinter$Text;", true)
  | 3 => ("ExpressionPrinter$Reader", "frameOperators", "[I", true)
  | 4 => ("ExpressionPrinter$Reader", "framePositions", "[I", true)
  | 5 => ("ExpressionPrinter$Reader", "frameBefores", "[I", true)
  | 6 => ("ExpressionPrinter$Reader", "frames", "I", false)
  | 7 => ("ExpressionPrinter$Reader", "position", "I", false)
  | 8 => ("ExpressionPrinter$Reader", "needsOperand", "Z", false)
  | 9 => ("ExpressionPrinter$Reader", "leftSide", "I", false)
  | 10 => ("ExpressionPrinter$Reader", "bracketed", "Z", false)
  | 11 => ("ExpressionPrinter$Reader", "finished", "Z", false)
  | 12 => ("ExpressionPrinter$Reader", "faultKind", "I", false)
  | _ => ("ExpressionPrinter$Reader", "faultPosition", "I", false)
def tyX2 : Nat → FieldType := fun k => match k with
  | 0 => .object "ExpressionPrinter$OperatorTable"
  | 1 => .object "ExpressionPrinter$NodeTable"
  | 2 => .object "ExpressionPrinter$Text"
  | 3 => .array .int
  | 4 => .array .int
  | 5 => .array .int
  | 6 => .int
  | 7 => .int
  | 8 => .boolean
  | 9 => .int
  | 10 => .boolean
  | 11 => .boolean
  | 12 => .int
  | _ => .int
abbrev wsX20 : List Cond := u_ws RX2 TX2 14
theorem nmX2 : ∀ a, a < 14 → ∀ b, b < 14 → a ≠ b → (TX2 a).2.1 ≠ (TX2 b).2.1 := by decide +kernel
theorem tyX2_ok : ∀ k, k < 14 → parseFieldDescriptor (TX2 k).2.2.1 = some (tyX2 k) := by decide +kernel
abbrev cX2_init : ByteArray := prog_4_method_1_code
def yX2_init : MethodName := ⟨RX2, "<init>", "(LExpressionPrinter$OperatorTable;LExpressionPrinter$NodeTable;LExpressionPrinter$Text;)V"⟩
abbrev cX2_faultKind : ByteArray := prog_4_method_2_code
def yX2_faultKind : MethodName := ⟨RX2, "faultKind", "()I"⟩
abbrev cX2_faultPosition : ByteArray := prog_4_method_3_code
def yX2_faultPosition : MethodName := ⟨RX2, "faultPosition", "()I"⟩
abbrev cX2_reads : ByteArray := prog_4_method_4_code
def yX2_reads : MethodName := ⟨RX2, "reads", "()Z"⟩
abbrev cX2_start : ByteArray := prog_4_method_5_code
def yX2_start : MethodName := ⟨RX2, "start", "()V"⟩
abbrev cX2_readOperand : ByteArray := prog_4_method_6_code
def yX2_readOperand : MethodName := ⟨RX2, "readOperand", "()V"⟩
abbrev cX2_readOperator : ByteArray := prog_4_method_7_code
def yX2_readOperator : MethodName := ⟨RX2, "readOperator", "()V"⟩
abbrev cX2_joinLeftSide : ByteArray := prog_4_method_8_code
def yX2_joinLeftSide : MethodName := ⟨RX2, "joinLeftSide", "(I)V"⟩
abbrev cX2_openFrame : ByteArray := prog_4_method_9_code
def yX2_openFrame : MethodName := ⟨RX2, "openFrame", "(II)V"⟩
abbrev cX2_topFrame : ByteArray := prog_4_method_10_code
def yX2_topFrame : MethodName := ⟨RX2, "topFrame", "()I"⟩
abbrev cX2_frameMin : ByteArray := prog_4_method_11_code
def yX2_frameMin : MethodName := ⟨RX2, "frameMin", "()I"⟩
abbrev cX2_endFrame : ByteArray := prog_4_method_12_code
def yX2_endFrame : MethodName := ⟨RX2, "endFrame", "()V"⟩
abbrev cX2_endText : ByteArray := prog_4_method_13_code
def yX2_endText : MethodName := ⟨RX2, "endText", "()V"⟩
abbrev cX2_endBracket : ByteArray := prog_4_method_14_code
def yX2_endBracket : MethodName := ⟨RX2, "endBracket", "()V"⟩
abbrev cX2_completeNode : ByteArray := prog_4_method_15_code
def yX2_completeNode : MethodName := ⟨RX2, "completeNode", "(I)V"⟩
abbrev cX2_isForbiddenUnder : ByteArray := prog_4_method_16_code
def yX2_isForbiddenUnder : MethodName := ⟨RX2, "isForbiddenUnder", "(I)Z"⟩
abbrev cX2_takeLeftSide : ByteArray := prog_4_method_17_code
def yX2_takeLeftSide : MethodName := ⟨RX2, "takeLeftSide", "(I)V"⟩
abbrev cX2_fail : ByteArray := prog_4_method_18_code
def yX2_fail : MethodName := ⟨RX2, "fail", "(II)V"⟩
def RX3 : String := "ExpressionPrinter$Text"
def TX3 : u_T := fun k => match k with
  | 0 => ("ExpressionPrinter$Text", "signs", "[I", true)
  | _ => ("ExpressionPrinter$Text", "length", "I", false)
def tyX3 : Nat → FieldType := fun k => match k with
  | 0 => .array .int
  | _ => .int
abbrev wsX30 : List Cond := u_ws RX3 TX3 2
theorem nmX3 : ∀ a, a < 2 → ∀ b, b < 2 → a ≠ b → (TX3 a).2.1 ≠ (TX3 b).2.1 := by decide +kernel
theorem tyX3_ok : ∀ k, k < 2 → parseFieldDescriptor (TX3 k).2.2.1 = some (tyX3 k) := by decide +kernel
abbrev cX3_init : ByteArray := prog_5_method_1_code
def yX3_init : MethodName := ⟨RX3, "<init>", "()V"⟩
abbrev cX3_length : ByteArray := prog_5_method_2_code
def yX3_length : MethodName := ⟨RX3, "length", "()I"⟩
abbrev cX3_empty : ByteArray := prog_5_method_3_code
def yX3_empty : MethodName := ⟨RX3, "empty", "()V"⟩
abbrev cX3_put : ByteArray := prog_5_method_4_code
def yX3_put : MethodName := ⟨RX3, "put", "(I)Z"⟩
abbrev cX3_at : ByteArray := prog_5_method_5_code
def yX3_at : MethodName := ⟨RX3, "at", "(I)I"⟩
abbrev cX3_copyFrom : ByteArray := prog_5_method_6_code
def yX3_copyFrom : MethodName := ⟨RX3, "copyFrom", "(LExpressionPrinter$Text;)V"⟩
abbrev cX3_copyWithoutPair : ByteArray := prog_5_method_7_code
def yX3_copyWithoutPair : MethodName := ⟨RX3, "copyWithoutPair", "(LExpressionPrinter$Text;I)V"⟩
abbrev cX3_countPairs : ByteArray := prog_5_method_8_code
def yX3_countPairs : MethodName := ⟨RX3, "countPairs", "()I"⟩
abbrev cX3_openOf : ByteArray := prog_5_method_9_code
def yX3_openOf : MethodName := ⟨RX3, "openOf", "(I)I"⟩
abbrev cX3_closeOf : ByteArray := prog_5_method_10_code
def yX3_closeOf : MethodName := ⟨RX3, "closeOf", "(I)I"⟩
def RX4 : String := "ExpressionPrinter$Writer"
def TX4 : u_T := fun k => match k with
  | 0 => ("ExpressionPrinter$Writer", "operators", "LExpressionPrinter$OperatorTable;", true)
  | 1 => ("ExpressionPrinter$Writer", "nodes", "LExpressionPrinter$NodeTable;", true)
  | 2 => ("ExpressionPrinter$Writer", "output", "LExpressionPrinter$Text;", true)
  | 3 => ("ExpressionPrinter$Writer", "pairsInBrackets", "[I", true)
  | _ => ("ExpressionPrinter$Writer", "everyBracket", "Z", false)
def tyX4 : Nat → FieldType := fun k => match k with
  | 0 => .object "ExpressionPrinter$OperatorTable"
  | 1 => .object "ExpressionPrinter$NodeTable"
  | 2 => .object "ExpressionPrinter$Text"
  | 3 => .array .int
  | _ => .boolean
abbrev wsX40 : List Cond := u_ws RX4 TX4 5
theorem nmX4 : ∀ a, a < 5 → ∀ b, b < 5 → a ≠ b → (TX4 a).2.1 ≠ (TX4 b).2.1 := by decide +kernel
theorem tyX4_ok : ∀ k, k < 5 → parseFieldDescriptor (TX4 k).2.2.1 = some (tyX4 k) := by decide +kernel
abbrev cX4_init : ByteArray := prog_6_method_1_code
def yX4_init : MethodName := ⟨RX4, "<init>", "(LExpressionPrinter$OperatorTable;LExpressionPrinter$NodeTable;LExpressionPrinter$Text;)V"⟩
abbrev cX4_prepare : ByteArray := prog_6_method_2_code
def yX4_prepare : MethodName := ⟨RX4, "prepare", "(IZ)V"⟩
abbrev cX4_markNeeded : ByteArray := prog_6_method_3_code
def yX4_markNeeded : MethodName := ⟨RX4, "markNeeded", "(I)V"⟩
abbrev cX4_mark : ByteArray := prog_6_method_4_code
def yX4_mark : MethodName := ⟨RX4, "mark", "(I)V"⟩
abbrev cX4_countNeeded : ByteArray := prog_6_method_5_code
def yX4_countNeeded : MethodName := ⟨RX4, "countNeeded", "(I)V"⟩
abbrev cX4_pairsInside : ByteArray := prog_6_method_6_code
def yX4_pairsInside : MethodName := ⟨RX4, "pairsInside", "(IIII)I"⟩
abbrev cX4_isReadWhole : ByteArray := prog_6_method_7_code
def yX4_isReadWhole : MethodName := ⟨RX4, "isReadWhole", "(III)Z"⟩
abbrev cX4_pairsOfOperand : ByteArray := prog_6_method_8_code
def yX4_pairsOfOperand : MethodName := ⟨RX4, "pairsOfOperand", "(IIIII)I"⟩
abbrev cX4_pairsIfBracketed : ByteArray := prog_6_method_9_code
def yX4_pairsIfBracketed : MethodName := ⟨RX4, "pairsIfBracketed", "(I)I"⟩
abbrev cX4_pairsIfOpen : ByteArray := prog_6_method_10_code
def yX4_pairsIfOpen : MethodName := ⟨RX4, "pairsIfOpen", "(IIIII)I"⟩
abbrev cX4_writeNode : ByteArray := prog_6_method_11_code
def yX4_writeNode : MethodName := ⟨RX4, "writeNode", "(IIII)V"⟩
abbrev cX4_writeOperand : ByteArray := prog_6_method_12_code
def yX4_writeOperand : MethodName := ⟨RX4, "writeOperand", "(IIIII)V"⟩
def RX5 : String := "ExpressionPrinter"
def TX5 : u_T := fun k => match k with
  | 0 => ("ExpressionPrinter", "operators", "LExpressionPrinter$OperatorTable;", true)
  | 1 => ("ExpressionPrinter", "nodes", "LExpressionPrinter$NodeTable;", true)
  | 2 => ("ExpressionPrinter", "readNodes", "LExpressionPrinter$NodeTable;", true)
  | 3 => ("ExpressionPrinter", "reader", "LExpressionPrinter$Reader;", true)
  | 4 => ("ExpressionPrinter", "writer", "LExpressionPrinter$Writer;", true)
  | 5 => ("ExpressionPrinter", "input", "LExpressionPrinter$Text;", true)
  | 6 => ("ExpressionPrinter", "output", "LExpressionPrinter$Text;", true)
  | 7 => ("ExpressionPrinter", "readText", "LExpressionPrinter$Text;", true)
  | 8 => ("ExpressionPrinter", "printedRoot", "I", false)
  | 9 => ("ExpressionPrinter", "latestErrorKind", "I", false)
  | _ => ("ExpressionPrinter", "latestErrorPosition", "I", false)
def tyX5 : Nat → FieldType := fun k => match k with
  | 0 => .object "ExpressionPrinter$OperatorTable"
  | 1 => .object "ExpressionPrinter$NodeTable"
  | 2 => .object "ExpressionPrinter$NodeTable"
  | 3 => .object "ExpressionPrinter$Reader"
  | 4 => .object "ExpressionPrinter$Writer"
  | 5 => .object "ExpressionPrinter$Text"
  | 6 => .object "ExpressionPrinter$Text"
  | 7 => .object "ExpressionPrinter$Text"
  | 8 => .int
  | 9 => .int
  | _ => .int
abbrev wsX50 : List Cond := u_ws RX5 TX5 11
theorem nmX5 : ∀ a, a < 11 → ∀ b, b < 11 → a ≠ b → (TX5 a).2.1 ≠ (TX5 b).2.1 := by decide +kernel
theorem tyX5_ok : ∀ k, k < 11 → parseFieldDescriptor (TX5 k).2.2.1 = some (tyX5 k) := by decide +kernel
abbrev cX5_init : ByteArray := prog_1_method_1_code
def yX5_init : MethodName := ⟨RX5, "<init>", "()V"⟩
abbrev cX5_defineInfix : ByteArray := prog_1_method_2_code
def yX5_defineInfix : MethodName := ⟨RX5, "defineInfix", "(II)I"⟩
abbrev cX5_definePrefix : ByteArray := prog_1_method_3_code
def yX5_definePrefix : MethodName := ⟨RX5, "definePrefix", "(II)I"⟩
abbrev cX5_definePostfix : ByteArray := prog_1_method_4_code
def yX5_definePostfix : MethodName := ⟨RX5, "definePostfix", "(II)I"⟩
abbrev cX5_defineOperator : ByteArray := prog_1_method_5_code
def yX5_defineOperator : MethodName := ⟨RX5, "defineOperator", "(III)I"⟩
abbrev cX5_operatorCount : ByteArray := prog_1_method_6_code
def yX5_operatorCount : MethodName := ⟨RX5, "operatorCount", "()I"⟩
abbrev cX5_symbol : ByteArray := prog_1_method_7_code
def yX5_symbol : MethodName := ⟨RX5, "symbol", "(I)I"⟩
abbrev cX5_kind : ByteArray := prog_1_method_8_code
def yX5_kind : MethodName := ⟨RX5, "kind", "(I)I"⟩
abbrev cX5_setLevel : ByteArray := prog_1_method_9_code
def yX5_setLevel : MethodName := ⟨RX5, "setLevel", "(II)I"⟩
abbrev cX5_setAssociativity : ByteArray := prog_1_method_10_code
def yX5_setAssociativity : MethodName := ⟨RX5, "setAssociativity", "(II)I"⟩
abbrev cX5_setForbidden : ByteArray := prog_1_method_11_code
def yX5_setForbidden : MethodName := ⟨RX5, "setForbidden", "(IIZ)I"⟩
abbrev cX5_leaf : ByteArray := prog_1_method_12_code
def yX5_leaf : MethodName := ⟨RX5, "leaf", "(I)I"⟩
abbrev cX5_unary : ByteArray := prog_1_method_13_code
def yX5_unary : MethodName := ⟨RX5, "unary", "(II)I"⟩
abbrev cX5_binary : ByteArray := prog_1_method_14_code
def yX5_binary : MethodName := ⟨RX5, "binary", "(III)I"⟩
abbrev cX5_addOperatorNode : ByteArray := prog_1_method_15_code
def yX5_addOperatorNode : MethodName := ⟨RX5, "addOperatorNode", "(III)I"⟩
abbrev cX5_nodeCount : ByteArray := prog_1_method_16_code
def yX5_nodeCount : MethodName := ⟨RX5, "nodeCount", "()I"⟩
abbrev cX5_operatorOf : ByteArray := prog_1_method_17_code
def yX5_operatorOf : MethodName := ⟨RX5, "operatorOf", "(I)I"⟩
abbrev cX5_letterOf : ByteArray := prog_1_method_18_code
def yX5_letterOf : MethodName := ⟨RX5, "letterOf", "(I)I"⟩
abbrev cX5_operand : ByteArray := prog_1_method_19_code
def yX5_operand : MethodName := ⟨RX5, "operand", "(II)I"⟩
abbrev cX5_size : ByteArray := prog_1_method_20_code
def yX5_size : MethodName := ⟨RX5, "size", "(I)I"⟩
abbrev cX5_areEqual : ByteArray := prog_1_method_21_code
def yX5_areEqual : MethodName := ⟨RX5, "areEqual", "(II)I"⟩
abbrev cX5_sameTree : ByteArray := prog_1_method_22_code
def yX5_sameTree : MethodName := ⟨RX5, "sameTree", "(LExpressionPrinter$NodeTable;ILExpressionPrinter$NodeTable;II)Z"⟩
abbrev cX5_print : ByteArray := prog_1_method_23_code
def yX5_print : MethodName := ⟨RX5, "print", "(I)I"⟩
abbrev cX5_printFull : ByteArray := prog_1_method_24_code
def yX5_printFull : MethodName := ⟨RX5, "printFull", "(I)I"⟩
abbrev cX5_writeTree : ByteArray := prog_1_method_25_code
def yX5_writeTree : MethodName := ⟨RX5, "writeTree", "(IZ)I"⟩
abbrev cX5_outputAt : ByteArray := prog_1_method_26_code
def yX5_outputAt : MethodName := ⟨RX5, "outputAt", "(I)I"⟩
abbrev cX5_bracketPairs : ByteArray := prog_1_method_27_code
def yX5_bracketPairs : MethodName := ⟨RX5, "bracketPairs", "()I"⟩
abbrev cX5_readWithout : ByteArray := prog_1_method_28_code
def yX5_readWithout : MethodName := ⟨RX5, "readWithout", "(I)I"⟩
abbrev cX5_append : ByteArray := prog_1_method_29_code
def yX5_append : MethodName := ⟨RX5, "append", "(I)I"⟩
abbrev cX5_copyOutput : ByteArray := prog_1_method_30_code
def yX5_copyOutput : MethodName := ⟨RX5, "copyOutput", "()I"⟩
abbrev cX5_clearInput : ByteArray := prog_1_method_31_code
def yX5_clearInput : MethodName := ⟨RX5, "clearInput", "()I"⟩
abbrev cX5_parse : ByteArray := prog_1_method_32_code
def yX5_parse : MethodName := ⟨RX5, "parse", "()I"⟩
abbrev cX5_errorKind : ByteArray := prog_1_method_33_code
def yX5_errorKind : MethodName := ⟨RX5, "errorKind", "()I"⟩
abbrev cX5_errorPosition : ByteArray := prog_1_method_34_code
def yX5_errorPosition : MethodName := ⟨RX5, "errorPosition", "()I"⟩
abbrev cX5_isLetter : ByteArray := prog_1_method_35_code
def yX5_isLetter : MethodName := ⟨RX5, "isLetter", "(I)Z"⟩
abbrev cX5_canBeSymbol : ByteArray := prog_1_method_36_code
def yX5_canBeSymbol : MethodName := ⟨RX5, "canBeSymbol", "(I)Z"⟩
abbrev cX5_isLevel : ByteArray := prog_1_method_37_code
def yX5_isLevel : MethodName := ⟨RX5, "isLevel", "(I)Z"⟩
def RX6 : String := "ExpressionPrinterModel"
def TX6 : u_T := fun k => match k with
  | 0 => ("ExpressionPrinterModel", "symbols", "[I", true)
  | 1 => ("ExpressionPrinterModel", "kinds", "[I", true)
  | 2 => ("ExpressionPrinterModel", "levels", "[I", true)
  | 3 => ("ExpressionPrinterModel", "operators", "I", false)
  | 4 => ("ExpressionPrinterModel", "associativity", "[I", true)
  | 5 => ("ExpressionPrinterModel", "isForbidden", "[Z", true)
  | 6 => ("ExpressionPrinterModel", "operatorAt", "[I", true)
  | 7 => ("ExpressionPrinterModel", "letterAt", "[I", true)
  | 8 => ("ExpressionPrinterModel", "first", "[I", true)
  | 9 => ("ExpressionPrinterModel", "second", "[I", true)
  | 10 => ("ExpressionPrinterModel", "sizes", "[I", true)
  | 11 => ("ExpressionPrinterModel", "nodes", "I", false)
  | 12 => ("ExpressionPrinterModel", "output", "[I", true)
  | 13 => ("ExpressionPrinterModel", "outputLength", "I", false)
  | 14 => ("ExpressionPrinterModel", "printed", "I", false)
  | 15 => ("ExpressionPrinterModel", "input", "[I", true)
  | 16 => ("ExpressionPrinterModel", "inputLength", "I", false)
  | 17 => ("ExpressionPrinterModel", "lastKind", "I", false)
  | 18 => ("ExpressionPrinterModel", "lastPosition", "I", false)
  | 19 => ("ExpressionPrinterModel", "ones", "[I", true)
  | 20 => ("ExpressionPrinterModel", "others", "[I", true)
  | 21 => ("ExpressionPrinterModel", "fewest", "[I", true)
  | 22 => ("ExpressionPrinterModel", "waits", "[I", true)
  | 23 => ("ExpressionPrinterModel", "waiting", "I", false)
  | 24 => ("ExpressionPrinterModel", "text", "[I", true)
  | 25 => ("ExpressionPrinterModel", "length", "I", false)
  | 26 => ("ExpressionPrinterModel", "readOperator", "[I", true)
  | 27 => ("ExpressionPrinterModel", "readLetter", "[I", true)
  | 28 => ("ExpressionPrinterModel", "readFirst", "[I", true)
  | 29 => ("ExpressionPrinterModel", "readSecond", "[I", true)
  | 30 => ("ExpressionPrinterModel", "read", "I", false)
  | 31 => ("ExpressionPrinterModel", "frames", "[I", true)
  | 32 => ("ExpressionPrinterModel", "open", "I", false)
  | 33 => ("ExpressionPrinterModel", "errorKind", "I", false)
  | 34 => ("ExpressionPrinterModel", "errorAt", "I", false)
  | 35 => ("ExpressionPrinterModel", "place", "I", false)
  | 36 => ("ExpressionPrinterModel", "least", "I", false)
  | 37 => ("ExpressionPrinterModel", "left", "I", false)
  | 38 => ("ExpressionPrinterModel", "isBracketed", "Z", false)
  | _ => ("ExpressionPrinterModel", "wantsOperand", "Z", false)
def tyX6 : Nat → FieldType := fun k => match k with
  | 0 => .array .int
  | 1 => .array .int
  | 2 => .array .int
  | 3 => .int
  | 4 => .array .int
  | 5 => .array .boolean
  | 6 => .array .int
  | 7 => .array .int
  | 8 => .array .int
  | 9 => .array .int
  | 10 => .array .int
  | 11 => .int
  | 12 => .array .int
  | 13 => .int
  | 14 => .int
  | 15 => .array .int
  | 16 => .int
  | 17 => .int
  | 18 => .int
  | 19 => .array .int
  | 20 => .array .int
  | 21 => .array .int
  | 22 => .array .int
  | 23 => .int
  | 24 => .array .int
  | 25 => .int
  | 26 => .array .int
  | 27 => .array .int
  | 28 => .array .int
  | 29 => .array .int
  | 30 => .int
  | 31 => .array .int
  | 32 => .int
  | 33 => .int
  | 34 => .int
  | 35 => .int
  | 36 => .int
  | 37 => .int
  | 38 => .boolean
  | _ => .boolean
abbrev wsX60 : List Cond := u_ws RX6 TX6 40
theorem nmX6 : ∀ a, a < 40 → ∀ b, b < 40 → a ≠ b → (TX6 a).2.1 ≠ (TX6 b).2.1 := by decide +kernel
theorem tyX6_ok : ∀ k, k < 40 → parseFieldDescriptor (TX6 k).2.2.1 = some (tyX6 k) := by decide +kernel
abbrev cX6_init : ByteArray := prog_8_method_1_code
def yX6_init : MethodName := ⟨RX6, "<init>", "()V"⟩
abbrev cX6_in : ByteArray := prog_8_method_2_code
def yX6_in : MethodName := ⟨RX6, "in", "(III)Z"⟩
abbrev cX6_isOperator : ByteArray := prog_8_method_3_code
def yX6_isOperator : MethodName := ⟨RX6, "isOperator", "(I)Z"⟩
abbrev cX6_isNode : ByteArray := prog_8_method_4_code
def yX6_isNode : MethodName := ⟨RX6, "isNode", "(I)Z"⟩
abbrev cX6_isLetter : ByteArray := prog_8_method_5_code
def yX6_isLetter : MethodName := ⟨RX6, "isLetter", "(I)Z"⟩
abbrev cX6_operatorFor : ByteArray := prog_8_method_6_code
def yX6_operatorFor : MethodName := ⟨RX6, "operatorFor", "(IZ)I"⟩
abbrev cX6_define : ByteArray := prog_8_method_7_code
def yX6_define : MethodName := ⟨RX6, "define", "(III)I"⟩
abbrev cX6_defineInfix : ByteArray := prog_8_method_8_code
def yX6_defineInfix : MethodName := ⟨RX6, "defineInfix", "(II)I"⟩
abbrev cX6_definePrefix : ByteArray := prog_8_method_9_code
def yX6_definePrefix : MethodName := ⟨RX6, "definePrefix", "(II)I"⟩
abbrev cX6_definePostfix : ByteArray := prog_8_method_10_code
def yX6_definePostfix : MethodName := ⟨RX6, "definePostfix", "(II)I"⟩
abbrev cX6_operatorCount : ByteArray := prog_8_method_11_code
def yX6_operatorCount : MethodName := ⟨RX6, "operatorCount", "()I"⟩
abbrev cX6_symbol : ByteArray := prog_8_method_12_code
def yX6_symbol : MethodName := ⟨RX6, "symbol", "(I)I"⟩
abbrev cX6_kind : ByteArray := prog_8_method_13_code
def yX6_kind : MethodName := ⟨RX6, "kind", "(I)I"⟩
abbrev cX6_setLevel : ByteArray := prog_8_method_14_code
def yX6_setLevel : MethodName := ⟨RX6, "setLevel", "(II)I"⟩
abbrev cX6_setAssociativity : ByteArray := prog_8_method_15_code
def yX6_setAssociativity : MethodName := ⟨RX6, "setAssociativity", "(II)I"⟩
abbrev cX6_setForbidden : ByteArray := prog_8_method_16_code
def yX6_setForbidden : MethodName := ⟨RX6, "setForbidden", "(IIZ)I"⟩
abbrev cX6_rightLevel : ByteArray := prog_8_method_17_code
def yX6_rightLevel : MethodName := ⟨RX6, "rightLevel", "(I)I"⟩
abbrev cX6_isClash : ByteArray := prog_8_method_18_code
def yX6_isClash : MethodName := ⟨RX6, "isClash", "(II)Z"⟩
abbrev cX6_isBarred : ByteArray := prog_8_method_19_code
def yX6_isBarred : MethodName := ⟨RX6, "isBarred", "(II)Z"⟩
abbrev cX6_addNode : ByteArray := prog_8_method_20_code
def yX6_addNode : MethodName := ⟨RX6, "addNode", "(IIII)I"⟩
abbrev cX6_leaf : ByteArray := prog_8_method_21_code
def yX6_leaf : MethodName := ⟨RX6, "leaf", "(I)I"⟩
abbrev cX6_unary : ByteArray := prog_8_method_22_code
def yX6_unary : MethodName := ⟨RX6, "unary", "(II)I"⟩
abbrev cX6_binary : ByteArray := prog_8_method_23_code
def yX6_binary : MethodName := ⟨RX6, "binary", "(III)I"⟩
abbrev cX6_nodeCount : ByteArray := prog_8_method_24_code
def yX6_nodeCount : MethodName := ⟨RX6, "nodeCount", "()I"⟩
abbrev cX6_operatorOf : ByteArray := prog_8_method_25_code
def yX6_operatorOf : MethodName := ⟨RX6, "operatorOf", "(I)I"⟩
abbrev cX6_letterOf : ByteArray := prog_8_method_26_code
def yX6_letterOf : MethodName := ⟨RX6, "letterOf", "(I)I"⟩
abbrev cX6_operand : ByteArray := prog_8_method_27_code
def yX6_operand : MethodName := ⟨RX6, "operand", "(II)I"⟩
abbrev cX6_size : ByteArray := prog_8_method_28_code
def yX6_size : MethodName := ⟨RX6, "size", "(I)I"⟩
abbrev cX6_areEqual : ByteArray := prog_8_method_29_code
def yX6_areEqual : MethodName := ⟨RX6, "areEqual", "(II)I"⟩
abbrev cX6_cell : ByteArray := prog_8_method_30_code
def yX6_cell : MethodName := ⟨RX6, "cell", "(III)I"⟩
abbrev cX6_mayBeBare : ByteArray := prog_8_method_31_code
def yX6_mayBeBare : MethodName := ⟨RX6, "mayBeBare", "(IIZ)Z"⟩
abbrev cX6_bareCost : ByteArray := prog_8_method_32_code
def yX6_bareCost : MethodName := ⟨RX6, "bareCost", "(IIIIZ)I"⟩
abbrev cX6_operandCost : ByteArray := prog_8_method_33_code
def yX6_operandCost : MethodName := ⟨RX6, "operandCost", "(IIIIZ)I"⟩
abbrev cX6_costOf : ByteArray := prog_8_method_34_code
def yX6_costOf : MethodName := ⟨RX6, "costOf", "(III)I"⟩
abbrev cX6_layCosts : ByteArray := prog_8_method_35_code
def yX6_layCosts : MethodName := ⟨RX6, "layCosts", "(I)V"⟩
abbrev cX6_push : ByteArray := prog_8_method_36_code
def yX6_push : MethodName := ⟨RX6, "push", "(IIII)V"⟩
abbrev cX6_pushOperand : ByteArray := prog_8_method_37_code
def yX6_pushOperand : MethodName := ⟨RX6, "pushOperand", "(IIIIZZ)V"⟩
abbrev cX6_write : ByteArray := prog_8_method_38_code
def yX6_write : MethodName := ⟨RX6, "write", "(I)V"⟩
abbrev cX6_pushParts : ByteArray := prog_8_method_39_code
def yX6_pushParts : MethodName := ⟨RX6, "pushParts", "(IIIZ)V"⟩
abbrev cX6_printTree : ByteArray := prog_8_method_40_code
def yX6_printTree : MethodName := ⟨RX6, "printTree", "(IZ)I"⟩
abbrev cX6_print : ByteArray := prog_8_method_41_code
def yX6_print : MethodName := ⟨RX6, "print", "(I)I"⟩
abbrev cX6_printFull : ByteArray := prog_8_method_42_code
def yX6_printFull : MethodName := ⟨RX6, "printFull", "(I)I"⟩
abbrev cX6_outputAt : ByteArray := prog_8_method_43_code
def yX6_outputAt : MethodName := ⟨RX6, "outputAt", "(I)I"⟩
abbrev cX6_bracketPairs : ByteArray := prog_8_method_44_code
def yX6_bracketPairs : MethodName := ⟨RX6, "bracketPairs", "()I"⟩
abbrev cX6_addRead : ByteArray := prog_8_method_45_code
def yX6_addRead : MethodName := ⟨RX6, "addRead", "(IIII)I"⟩
abbrev cX6_fail : ByteArray := prog_8_method_46_code
def yX6_fail : MethodName := ⟨RX6, "fail", "(II)V"⟩
abbrev cX6_openCall : ByteArray := prog_8_method_47_code
def yX6_openCall : MethodName := ⟨RX6, "openCall", "(IIII)V"⟩
abbrev cX6_readOperand : ByteArray := prog_8_method_48_code
def yX6_readOperand : MethodName := ⟨RX6, "readOperand", "()V"⟩
abbrev cX6_isBareAndBarred : ByteArray := prog_8_method_49_code
def yX6_isBareAndBarred : MethodName := ⟨RX6, "isBareAndBarred", "(I)Z"⟩
abbrev cX6_readPostfix : ByteArray := prog_8_method_50_code
def yX6_readPostfix : MethodName := ⟨RX6, "readPostfix", "(I)V"⟩
abbrev cX6_readInfix : ByteArray := prog_8_method_51_code
def yX6_readInfix : MethodName := ⟨RX6, "readInfix", "(I)V"⟩
abbrev cX6_endCall : ByteArray := prog_8_method_52_code
def yX6_endCall : MethodName := ⟨RX6, "endCall", "()V"⟩
abbrev cX6_goOn : ByteArray := prog_8_method_53_code
def yX6_goOn : MethodName := ⟨RX6, "goOn", "()Z"⟩
abbrev cX6_readAll : ByteArray := prog_8_method_54_code
def yX6_readAll : MethodName := ⟨RX6, "readAll", "()Z"⟩
abbrev cX6_isSameAs : ByteArray := prog_8_method_55_code
def yX6_isSameAs : MethodName := ⟨RX6, "isSameAs", "(I)Z"⟩
abbrev cX6_openingOf : ByteArray := prog_8_method_56_code
def yX6_openingOf : MethodName := ⟨RX6, "openingOf", "(I)I"⟩
abbrev cX6_closingOf : ByteArray := prog_8_method_57_code
def yX6_closingOf : MethodName := ⟨RX6, "closingOf", "(I)I"⟩
abbrev cX6_readWithout : ByteArray := prog_8_method_58_code
def yX6_readWithout : MethodName := ⟨RX6, "readWithout", "(I)I"⟩
abbrev cX6_append : ByteArray := prog_8_method_59_code
def yX6_append : MethodName := ⟨RX6, "append", "(I)I"⟩
abbrev cX6_copyOutput : ByteArray := prog_8_method_60_code
def yX6_copyOutput : MethodName := ⟨RX6, "copyOutput", "()I"⟩
abbrev cX6_clearInput : ByteArray := prog_8_method_61_code
def yX6_clearInput : MethodName := ⟨RX6, "clearInput", "()I"⟩
abbrev cX6_parse : ByteArray := prog_8_method_62_code
def yX6_parse : MethodName := ⟨RX6, "parse", "()I"⟩
abbrev cX6_errorKind : ByteArray := prog_8_method_63_code
def yX6_errorKind : MethodName := ⟨RX6, "errorKind", "()I"⟩
abbrev cX6_errorPosition : ByteArray := prog_8_method_64_code
def yX6_errorPosition : MethodName := ⟨RX6, "errorPosition", "()I"⟩
def RJ9 : String := "java/lang/Math"
def TJ9 : u_T := fun k => match k with
  | _ => ("", "", "", false)
def tyJ9 : Nat → FieldType := fun k => match k with
  | _ => .int
abbrev wsJ90 : List Cond := u_ws RJ9 TJ9 0
theorem nmJ9 : ∀ a, a < 0 → ∀ b, b < 0 → a ≠ b → (TJ9 a).2.1 ≠ (TJ9 b).2.1 := by decide +kernel
theorem tyJ9_ok : ∀ k, k < 0 → parseFieldDescriptor (TJ9 k).2.2.1 = some (tyJ9 k) := by decide +kernel
abbrev cJ9_max_7cf53 : ByteArray := prog_9_method_65_code
def yJ9_max_7cf53 : MethodName := ⟨RJ9, "max", "(II)I"⟩
abbrev cJ9_min_7cf53 : ByteArray := prog_9_method_69_code
def yJ9_min_7cf53 : MethodName := ⟨RJ9, "min", "(II)I"⟩
def RL : String := "ExpressionPrinterLaw"
abbrev cL_law : ByteArray := code
def yL_law : MethodName := ⟨RL, "law", "([I)Z"⟩
end
section
/-! ===== one world of all the cells that the law makes: values are whole numbers, a state is a table of them ===== -/
def TB : List Cond := lw_tbl.filter goodWord
theorem tb_of {w : Cond} (h : w ∈ lw_tbl) (hg : goodWord w = true) : w ∈ TB := List.mem_filter.mpr ⟨h, hg⟩
theorem tb_in {w : Cond} (h : w ∈ TB) : w ∈ lw_tbl := (List.mem_filter.mp h).1
theorem tb_good {w : Cond} (h : w ∈ TB) : goodWord w = true := (List.mem_filter.mp h).2
theorem goodIn_tb {big ws : List Cond} (hb : ∀ w ∈ TB, w ∈ big) (hw : ∀ w ∈ ws, w ∈ TB) : GoodIn big ws := fun w h => ⟨hb w (hw w h), good_of_word (tb_good (hw w h))⟩
/-- a state: cell, place, number -/
abbrev ZSt : Type := Nat → Nat → Int
def zRg (a : Int) : Prop := -2147483648 ≤ a ∧ a < 2147483648
def zRs (σ : ZSt) : Prop := ∀ k j, zRg (σ k j)
def zi (a : Int) : Int32 := Int32.ofInt a
def ziv (a : Int) : Value := .int (zi a)
def zup (σ : ZSt) (k j : Nat) (v : Int) : ZSt := fun k' j' => if k' = k ∧ j' = j then v else σ k' j'
theorem zRs.up {σ : ZSt} (h : zRs σ) {v : Int} (hv : zRg v) (k j : Nat) : zRs (zup σ k j v) := by
  intro a b
  unfold zup
  split
  · exact hv
  · exact h a b
theorem zi_toInt {a : Int} (h : zRg a) : (zi a).toInt = a := Int32.toInt_ofInt_of_le h.1 h.2
theorem zi_clamp {a : Int} (h : zRg a) : (zi a).toNatClampNeg = a.toNat := by
  show (zi a).toInt.toNat = a.toNat
  rw [zi_toInt h]
theorem zi_lt {a b : Int} (ha : zRg a) (hb : zRg b) : zi a < zi b ↔ a < b := by rw [Int32.lt_iff_toInt_lt, zi_toInt ha, zi_toInt hb]
theorem zi_le {a b : Int} (ha : zRg a) (hb : zRg b) : zi a ≤ zi b ↔ a ≤ b := by rw [Int32.le_iff_toInt_le, zi_toInt ha, zi_toInt hb]
theorem zi_eq {a b : Int} (ha : zRg a) (hb : zRg b) : zi a = zi b ↔ a = b := by rw [← Int32.toInt_inj, zi_toInt ha, zi_toInt hb]
theorem zi_0 : zi 0 = 0 := rfl
theorem zi_add (a b : Int) : zi a + zi b = zi (a + b) := (Int32.ofInt_add a b).symm
theorem zi_sub (a b : Int) : zi a - zi b = zi (a - b) := (Int32.ofInt_sub a b).symm
theorem zi_mul (a b : Int) : zi a * zi b = zi (a * b) := (Int32.ofInt_mul a b).symm
theorem zi_of (x : Int32) : zi x.toInt = x := Int32.ofInt_toInt x
theorem zRg_of (x : Int32) : zRg x.toInt := ⟨x.le_toInt, x.toInt_lt⟩
theorem zi_in {a : Int} {n : Nat} (h0 : 0 ≤ a) (h1 : a < n) (hn : n < 2147483648) : vp_in (zi a) n := by
  rw [vp_in_iff, zi_toInt ⟨by omega, by omega⟩]
  exact ⟨h0, h1⟩
/-- the shape of the world: arrays (0: of ints, 1: of booleans; how long), objects (class; a field is a cell or a number) -/
abbrev ZSh : Type := List ((Nat × Nat) ⊕ (Nat × List (Option Nat)))
def zSH : ZSh := [
  .inr (5, [some 1, some 7, some 13, some 25, some 29, some 19, some 21, some 23, none, none, none]),
  .inr (1, [some 2, some 3, some 4, some 5, some 6, none]),
  .inl (0, 16), .inl (0, 16), .inl (0, 16), .inl (0, 10), .inl (1, 256),
  .inr (0, [some 8, some 9, some 10, some 11, some 12, none]),
  .inl (0, 120), .inl (0, 120), .inl (0, 120), .inl (0, 120), .inl (0, 120),
  .inr (0, [some 14, some 15, some 16, some 17, some 18, none]),
  .inl (0, 120), .inl (0, 120), .inl (0, 120), .inl (0, 120), .inl (0, 120),
  .inr (3, [some 20, none]), .inl (0, 120),
  .inr (3, [some 22, none]), .inl (0, 120),
  .inr (3, [some 24, none]), .inl (0, 120),
  .inr (2, [some 1, some 13, some 23, some 26, some 27, some 28, none, none, none, none, none, none, none, none]),
  .inl (0, 120), .inl (0, 120), .inl (0, 120),
  .inr (4, [some 1, some 7, some 21, some 30, none]), .inl (0, 100),
  .inr (6, [some 32, some 33, some 34, none, some 35, some 36, some 37, some 38, some 39, some 40, some 41, none, some 42, none, none, some 43, none, none, none, some 44, some 45, some 46, some 47, none, some 48, none, some 49, some 50, some 51, some 52, none, some 53, none, none, none, none, none, none, none, none]),
  .inl (0, 16), .inl (0, 16), .inl (0, 16), .inl (0, 10), .inl (1, 256),
  .inl (0, 100), .inl (0, 100), .inl (0, 100), .inl (0, 100), .inl (0, 100),
  .inl (0, 120), .inl (0, 120), .inl (0, 256), .inl (0, 256), .inl (0, 12100), .inl (0, 1200), .inl (0, 120),
  .inl (0, 130), .inl (0, 130), .inl (0, 130), .inl (0, 130), .inl (0, 700)]
abbrev zcls : List vw_C := [(RX0, TX0, 6), (RX1, TX1, 6), (RX2, TX2, 14), (RX3, TX3, 2), (RX4, TX4, 5), (RX5, TX5, 11), (RX6, TX6, 40)]
/-- where all lies: the classes' numbers, the two array classes, the cells' addresses -/
abbrev ZE : Type := va_G × ClassId × ClassId × (Nat → Nat)
def zrf (E : ZE) (k : Nat) : Value := .ref (E.2.2.2 k)
def ztys (E : ZE) : List (ClassId × FieldType) := [(E.2.1, .int), (E.2.2.1, .boolean)]
def zfv (E : ZE) (σ : ZSt) (k j : Nat) : Option Nat → Value
  | some q => zrf E q
  | none => ziv (σ k j)
def zfs (E : ZE) (σ : ZSt) (k : Nat) : Nat → List (Option Nat) → List Value
  | _, [] => []
  | j, f :: r => zfv E σ k j f :: zfs E σ k (j + 1) r
def zcell (E : ZE) (σ : ZSt) (k : Nat) : (Nat × Nat) ⊕ (Nat × List (Option Nat)) → va_E
  | .inl (t, n) => .inl (if t = 0 then E.2.1 else E.2.2.1, n, .inl (fun j => zi (σ k j)))
  | .inr (ci, fs) => .inr (ci, zfs E σ k 0 fs)
def zws (E : ZE) (σ : ZSt) : Nat → ZSh → va_W
  | _, [] => []
  | k, x :: r => (E.2.2.2 k, zcell E σ k x) :: zws E σ (k + 1) r
def zworld (E : ZE) (σ : ZSt) : va_W := zws E σ 0 zSH
theorem zfs_get {E : ZE} {σ : ZSt} {k : Nat} {f : Option Nat} : ∀ {fs : List (Option Nat)} {i j : Nat}, fs[j]? = some f → (zfs E σ k i fs)[j]? = some (zfv E σ k (i + j) f) := by
  intro fs
  induction fs with
  | nil => intro i j h; simp at h
  | cons a r ih =>
    intro i j h
    cases j with
    | zero => simp at h; subst h; simp [zfs]
    | succ j =>
      have h2 : r[j]? = some f := by simpa using h
      have := ih (i := i + 1) h2
      simp only [zfs, List.getElem?_cons_succ]
      rw [this]
      congr 2
      omega
theorem zfs_len {E : ZE} {σ : ZSt} {k : Nat} : ∀ {fs : List (Option Nat)} {i : Nat}, (zfs E σ k i fs).length = fs.length := by
  intro fs
  induction fs with
  | nil => intro i; rfl
  | cons a r ih => intro i; simp [zfs, ih]
theorem zfs_other {E : ZE} {σ σ' : ZSt} {k : Nat} : ∀ {fs : List (Option Nat)} {i : Nat}, (∀ j, i ≤ j → σ' k j = σ k j) → zfs E σ' k i fs = zfs E σ k i fs := by
  intro fs
  induction fs with
  | nil => intro i h; rfl
  | cons a r ih =>
    intro i h
    simp only [zfs]
    rw [ih (fun j hj => h j (by omega))]
    congr 1
    cases a with
    | some q => rfl
    | none => simp only [zfv]; rw [h i (Nat.le_refl i)]
theorem zfs_set {E : ZE} {σ : ZSt} {k : Nat} {v : Int} : ∀ {fs : List (Option Nat)} {i j : Nat}, fs[j]? = some none → (zfs E σ k i fs).set j (ziv v) = zfs E (zup σ k (i + j) v) k i fs := by
  intro fs
  induction fs with
  | nil => intro i j h; simp at h
  | cons a r ih =>
    intro i j h
    cases j with
    | zero =>
      simp at h
      subst h
      simp only [zfs, List.set_cons_zero]
      congr 1
      · simp [zfv, zup]
      · exact (zfs_other (fun j hj => by simp [zup]; omega)).symm
    | succ j =>
      have h2 : r[j]? = some none := by simpa using h
      simp only [zfs, List.set_cons_succ]
      rw [ih h2]
      have e : i + 1 + j = i + (j + 1) := by omega
      rw [e]
      congr 1
      cases a with
      | some q => rfl
      | none =>
        simp only [zfv, zup]
        rw [if_neg (by omega)]
theorem zws_get {E : ZE} {σ : ZSt} {x : (Nat × Nat) ⊕ (Nat × List (Option Nat))} : ∀ {sh : ZSh} {i k : Nat}, sh[k]? = some x → (zws E σ i sh)[k]? = some (E.2.2.2 (i + k), zcell E σ (i + k) x) := by
  intro sh
  induction sh with
  | nil => intro i k h; simp at h
  | cons a r ih =>
    intro i k h
    cases k with
    | zero => simp at h; subst h; simp [zws]
    | succ k =>
      have h2 : r[k]? = some x := by simpa using h
      simp only [zws, List.getElem?_cons_succ]
      rw [ih h2]
      have e : i + 1 + k = i + (k + 1) := by omega
      rw [e]
theorem zws_len {E : ZE} {σ : ZSt} : ∀ {sh : ZSh} {i : Nat}, (zws E σ i sh).length = sh.length := by
  intro sh
  induction sh with
  | nil => intro i; rfl
  | cons a r ih => intro i; simp [zws, ih]
theorem zcell_other {E : ZE} {σ σ' : ZSt} {k : Nat} (h : ∀ j, σ' k j = σ k j) (x : (Nat × Nat) ⊕ (Nat × List (Option Nat))) : zcell E σ' k x = zcell E σ k x := by
  cases x with
  | inl a => obtain ⟨t, n⟩ := a; simp only [zcell, h]
  | inr o => obtain ⟨ci, fs⟩ := o; simp only [zcell]; rw [zfs_other (fun j _ => h j)]
theorem zws_other {E : ZE} {σ σ' : ZSt} : ∀ {sh : ZSh} {i : Nat}, (∀ k j, i ≤ k → σ' k j = σ k j) → zws E σ' i sh = zws E σ i sh := by
  intro sh
  induction sh with
  | nil => intro i h; rfl
  | cons a r ih =>
    intro i h
    simp only [zws]
    rw [ih (fun k j hk => h k j (by omega)), zcell_other (fun j => h i j (Nat.le_refl i))]
theorem zws_set {E : ZE} {σ : ZSt} {j : Nat} {v : Int} {x : (Nat × Nat) ⊕ (Nat × List (Option Nat))} : ∀ {sh : ZSh} {i k : Nat}, sh[k]? = some x → (zws E σ i sh).set k (E.2.2.2 (i + k), zcell E (zup σ (i + k) j v) (i + k) x) = zws E (zup σ (i + k) j v) i sh := by
  intro sh
  induction sh with
  | nil => intro i k h; simp at h
  | cons a r ih =>
    intro i k h
    cases k with
    | zero =>
      simp at h
      subst h
      simp only [zws, List.set_cons_zero, Nat.add_zero]
      congr 1
      exact (zws_other (fun k' j' hk => by simp only [zup]; rw [if_neg (by omega)])).symm
    | succ k =>
      have h2 : r[k]? = some x := by simpa using h
      have e : i + 1 + k = i + (k + 1) := by omega
      have := ih (i := i + 1) h2
      rw [e] at this
      simp only [zws, List.set_cons_succ]
      rw [this]
      congr 2
      exact (zcell_other (fun j' => by simp only [zup]; rw [if_neg (by omega)]) a).symm
theorem zw_get {E : ZE} {σ : ZSt} {x : (Nat × Nat) ⊕ (Nat × List (Option Nat))} {k : Nat} (h : zSH[k]? = some x) : (zworld E σ)[k]? = some (E.2.2.2 k, zcell E σ k x) := by
  have := zws_get (E := E) (σ := σ) (i := 0) h
  simpa [zworld] using this
theorem zw_set {E : ZE} {σ : ZSt} {j : Nat} {v : Int} {x : (Nat × Nat) ⊕ (Nat × List (Option Nat))} {k : Nat} (h : zSH[k]? = some x) : (zworld E σ).set k (E.2.2.2 k, zcell E (zup σ k j v) k x) = zworld E (zup σ k j v) := by
  have := zws_set (E := E) (σ := σ) (j := j) (v := v) (i := 0) h
  simpa [zworld] using this
theorem zw_addr {E : ZE} {σ : ZSt} {k : Nat} {q : Nat × va_E} (h : (zworld E σ)[k]? = some q) : k < zSH.length ∧ q.1 = E.2.2.2 k := by
  have hl : k < zSH.length := by
    have := (List.getElem?_eq_some_iff.mp h).1
    rwa [zworld, zws_len] at this
  refine ⟨hl, ?_⟩
  have := zw_get (E := E) (σ := σ) (List.getElem?_eq_getElem hl)
  rw [h] at this
  cases this
  rfl
def ZInj (E : ZE) : Prop := ∀ i j : Nat, i < zSH.length → j < zSH.length → E.2.2.2 i = E.2.2.2 j → i = j
theorem zD {E : ZE} {A : Nat → Prop} (hi : ZInj E) (hA : ∀ k, k < zSH.length → A (E.2.2.2 k)) (σ : ZSt) : va_D A (zworld E σ) := by
  refine ⟨fun i j p q hp hq he => ?_, fun k q hk => ?_⟩
  · obtain ⟨h1, h2⟩ := zw_addr hp
    obtain ⟨h3, h4⟩ := zw_addr hq
    exact hi i j h1 h3 (by rw [← h2, ← h4]; exact he)
  · obtain ⟨h1, h2⟩ := zw_addr hk
    rw [h2]
    exact hA k h1
end
section
/-! ===== the judgement: a frame of a method over the world; what every method's walk knows ===== -/
def znw1 : Cond := .methodLinkNest RX1 40 yX5_isLevel RX5
def znw2 : Cond := .methodLinkNest RX2 85 yX5_isLetter RX5
def ZK (E : ZE) (U : State) : Prop := va_K E.1 zcls (ztys E) U ∧ va_Nw znw1 U ∧ va_Nw znw2 U ∧ ZInj E
theorem ZK.same {E : ZE} {u U : State} (h : ZK E u) (hv : u.vm = U.vm) : ZK E U :=
  ⟨va_K.moved (by rw [hv]; exact Vm.Alike.refl _) h.1, va_Nw.same rfl hv h.2.1, va_Nw.same rfl hv h.2.2.1, h.2.2.2⟩
theorem ZK.warm {E : ZE} {s U : State} (h : ZK E s) (hW : s.WarmedH U.vm) : ZK E U :=
  ⟨va_K.moved hW.alike h.1, va_Nw.warmM hW h.2.1, va_Nw.warmM hW h.2.2.1, h.2.2.2⟩
/-- the locals, by their places; of each only a value of one word is told -/
def zlp : Nat → List (Option Value) → List (Nat × Value)
  | _, [] => []
  | i, none :: r => zlp (i + 1) r
  | i, some v :: r => if v.category = 1 then (i, v) :: zlp (i + 1) r else zlp (i + 1) r
theorem zlp_mem {q : Nat × Value} : ∀ {lv : List (Option Value)} {i : Nat}, q ∈ zlp i lv ↔ ∃ j, q.1 = i + j ∧ lv[j]? = some (some q.2) ∧ q.2.category = 1 := by
  intro lv
  induction lv with
  | nil => intro i; simp [zlp]
  | cons a r ih =>
    intro i
    have key : (∃ j, q.1 = i + j ∧ (a :: r)[j]? = some (some q.2) ∧ q.2.category = 1) ↔ ((q.1 = i ∧ a = some q.2 ∧ q.2.category = 1) ∨ ∃ j, q.1 = (i + 1) + j ∧ r[j]? = some (some q.2) ∧ q.2.category = 1) := by
      constructor
      · rintro ⟨j, h1, h2, h3⟩
        cases j with
        | zero => left; simp at h2; exact ⟨by omega, h2, h3⟩
        | succ j => right; exact ⟨j, by omega, by simpa using h2, h3⟩
      · rintro (⟨h1, h2, h3⟩ | ⟨j, h1, h2, h3⟩)
        · exact ⟨0, by omega, by simp [h2], h3⟩
        · exact ⟨j + 1, by omega, by simpa using h2, h3⟩
    rw [key]
    cases a with
    | none => simp [zlp, ih]
    | some v =>
      simp only [zlp]
      split
      · rename_i hv
        rw [List.mem_cons, ih]
        constructor
        · rintro (h | h)
          · subst h; left; exact ⟨rfl, rfl, hv⟩
          · right; exact h
        · rintro (⟨h1, h2, h3⟩ | h)
          · left
            obtain ⟨q1, q2⟩ := q
            simp at h1 h2
            subst h1; subst h2
            rfl
          · right; exact h
      · rename_i hv
        rw [ih]
        constructor
        · intro h; right; exact h
        · rintro (⟨h1, h2, h3⟩ | h)
          · simp at h2; rw [← h2] at h3; exact absurd h3 hv
          · exact h
theorem zlp_at {ls : Array Slot} {n i : Nat} {lv : List (Option Value)} {v : Value} (hl : lv_has ls n (zlp 0 lv)) (hv : lv[i]? = some (some v)) (hc : v.category = 1) : ls[i]? = some (.val v) :=
  hl.2.2 (i, v) (zlp_mem.mpr ⟨i, by simp, hv, hc⟩)
theorem zlp_store {ls : Array Slot} {n i : Nat} {lv : List (Option Value)} {v : Value} (hl : lv_has ls n ((i, v) :: (zlp 0 lv).filter (fun q => !(q.1 == i) && !(q.1 + 1 == i && q.2.category == 2)))) : lv_has ls n (zlp 0 (lv.set i (some v))) := by
  refine ⟨hl.1, hl.2.1, fun q hq => ?_⟩
  obtain ⟨j, h1, h2, h3⟩ := zlp_mem.mp hq
  have h1' : q.1 = j := by omega
  apply hl.2.2
  rw [List.getElem?_set] at h2
  split at h2
  · rename_i hij
    split at h2
    · simp at h2
      obtain ⟨q1, q2⟩ := q
      simp at h1' h2
      subst h1'; subst hij; subst h2
      exact List.mem_cons_self
    · cases h2
  · rename_i hij
    refine List.mem_cons_of_mem _ (List.mem_filter.mpr ⟨zlp_mem.mpr ⟨j, h1, h2, h3⟩, ?_⟩)
    have : ¬ q.1 = i := by omega
    simp [this, h3]
theorem zlp_args : ∀ {As : List Value} {i n : Nat}, As.all (fun v => v.category == 1) = true → ∀ q ∈ zlp i (As.map some ++ List.replicate n none), q ∈ lv_args i As := by
  intro As
  induction As with
  | nil =>
    intro i n _ q hq
    obtain ⟨j, h1, h2, h3⟩ := zlp_mem.mp hq
    simp [List.getElem?_replicate] at h2
  | cons v r ih =>
    intro i n h q hq
    simp only [List.all_cons, Bool.and_eq_true, beq_iff_eq] at h
    simp only [List.map_cons, List.cons_append, zlp, h.1, if_true] at hq
    simp only [lv_args, h.1]
    rcases List.mem_cons.mp hq with h2 | h2
    · rw [h2]; exact List.mem_cons_self
    · exact List.mem_cons_of_mem _ (ih h.2 q h2)
theorem zlg_len : ∀ {As : List Value}, As.all (fun v => v.category == 1) = true → (lg_sl As).length = As.length := by
  intro As
  induction As with
  | nil => intro _; rfl
  | cons v r ih =>
    intro h
    simp only [List.all_cons, Bool.and_eq_true, beq_iff_eq] at h
    have := ih h.2
    unfold lg_sl at this ⊢
    rw [List.flatMap_cons]
    simp [h.1, this]
/-- what stays the same through a walk -/
abbrev ZT : Type := Program × Launch × Env × Room × State × MethodId × Array Value × List Frame × Method × Code × (Nat → Prop) × (State → Prop) × Nat × Nat × Nat
def ZG (E : ZE) (Γ : ZT) (pc : Nat) (lv : List (Option Value)) (st : List Value) (σ : ZSt) : Prop := match Γ with
  | (p, l, e, R, s, m, args, below, meth, c, A, Q, nL, cells, slots) =>
    ∀ (H : Heap) (locs : List Loc) (ls : Array Slot), va_P E.1 zcls (zworld E σ) H → va_S A s.heap H locs → lv_has ls nL (zlp 0 lv) → W p l e R s m args below meth c H locs cells slots Q (F0 m pc ls st)
def ZC (E : ZE) (Γ : ZT) (h : Nat) (own : String) (cc : ByteArray) : Prop := match Γ with
  | (p, _, _, R, s, m, args, _, _, c, A, _, nL, cells, slots) =>
    p.tables.exec = Jvm.exec ∧ c.code = cc ∧ s.vm.findClass own = some m.cls ∧ c.maxLocals = nL ∧ (∀ w ∈ TB, w.before args s = true) ∧ ZK E s ∧ (∀ k, k < zSH.length → A (E.2.2.2 k)) ∧ (∀ q, s.heap.size ≤ q → A q) ∧ (h ≤ R.frames ∧ 40 * h ≤ R.locals ∧ cells ≤ R.cells ∧ slots ≤ R.slots)
/-- the ends of a method: an int, a boolean, nothing -/
def ZRi (E : ZE) (Γ : ZT) (cc : ByteArray) (P : Int → ZSt → Prop) : Prop := ∀ (pc : Nat) (lv : List (Option Value)) (σ : ZSt) (r : Int), decode cc pc = .ok (.ireturn, 1) → zRg r → zRs σ → P r σ → ZG E Γ pc lv [ziv r] σ
def ZRz (E : ZE) (Γ : ZT) (cc : ByteArray) (P : Int → ZSt → Prop) : Prop := ∀ (pc : Nat) (lv : List (Option Value)) (σ : ZSt) (r : Int), decode cc pc = .ok (.ireturn, 1) → (r = 0 ∨ r = 1) → zRs σ → P r σ → ZG E Γ pc lv [ziv r] σ
def ZRv (E : ZE) (Γ : ZT) (cc : ByteArray) (P : ZSt → Prop) : Prop := ∀ (pc : Nat) (lv : List (Option Value)) (σ : ZSt), decode cc pc = .ok (.return_, 1) → zRs σ → P σ → ZG E Γ pc lv [] σ
def ZA (E : ZE) (sz : Nat) : Nat → Prop := fun q => (∃ k, k < zSH.length ∧ q = E.2.2.2 k) ∨ sz ≤ q
def ZQi (E : ZE) (P : Int → ZSt → Prop) (A : Nat → Prop) : Array Value → State → Outcome → State → Prop := fun _ st oc t => (∃ (r : Int) (σ' : ZSt), oc = .returned (some (ziv r)) ∧ zRg r ∧ zRs σ' ∧ P r σ' ∧ va_P E.1 zcls (zworld E σ') t.heap) ∧ va_F A st t
def ZQv (E : ZE) (P : ZSt → Prop) (A : Nat → Prop) : Array Value → State → Outcome → State → Prop := fun _ st oc t => (∃ (σ' : ZSt), oc = .returned none ∧ zRs σ' ∧ P σ' ∧ va_P E.1 zcls (zworld E σ') t.heap) ∧ va_F A st t
def ZPc (E : ZE) (As : List Value) (σ : ZSt) (sz : Nat) : Array Value → State → Prop := va_Pc As (fun U => U.heap.size = sz ∧ va_P E.1 zcls (zworld E σ) U.heap ∧ ZK E U)
def zroom (h : Nat) : Room := { frames := h, cells := 0, slots := 0, locals := 40 * h }
/-- a method's contract: it returns an int r and the state σ', with P r σ' -/
def ZMi (E : ZE) (h : Nat) (y : MethodName) (cc : ByteArray) (maxL : Nat) (ret : Option FieldType) (As : List Value) (σ : ZSt) (P : Int → ZSt → Prop) : Prop :=
  ∀ (l : Launch) (sz : Nat), Met l y (.code y cc maxL ret :: TB) (zroom h) (ZPc E As σ sz) (ZQi E P (ZA E sz)) 0 0 (ZA E sz)
def ZMv (E : ZE) (h : Nat) (y : MethodName) (cc : ByteArray) (maxL : Nat) (As : List Value) (σ : ZSt) (P : ZSt → Prop) : Prop :=
  ∀ (l : Launch) (sz : Nat), Met l y (.code y cc maxL none :: TB) (zroom h) (ZPc E As σ sz) (ZQv E P (ZA E sz)) 0 0 (ZA E sz)
theorem zblind {E : ZE} {As : List Value} {σ : ZSt} {sz : Nat} : FrameBlind (ZPc E As σ sz) := by
  intro a U g mk h
  obtain ⟨h1, h2, h3, h4⟩ := h
  exact ⟨h1, h2, h3, h4.same rfl⟩
theorem znarZ {r : Int} (h : r = 0 ∨ r = 1) : narrow .boolean (.int (zi r)) = .int (zi r) := by rcases h with rfl | rfl <;> decide
theorem zRg01 {r : Int} (h : r = 0 ∨ r = 1) : zRg r := by rcases h with rfl | rfl <;> exact ⟨by decide, by decide⟩
section INTRO
variable {E : ZE} {h : Nat} {y : MethodName} {cc : ByteArray} {maxL : Nat} {As : List Value} {σ : ZSt}
theorem zentry {p : Program} {l : Launch} {e : Env} {s : State} {m : MethodId} {below : List Frame} {meth : Method} {c : Code} {R : Room} {Q : State → Prop} {A : Nat → Prop} (hcat : As.all (fun v => v.category == 1) = true) (hlen : As.length ≤ maxL) (hP : va_P E.1 zcls (zworld E σ) s.heap)
    (k : ZG E (p, l, e, R, s, m, As.toArray, below, meth, c, A, Q, maxL, 0, 0) 0 (As.map some ++ List.replicate (maxL - As.length) none) [] σ) : W p l e R s m As.toArray below meth c s.heap [] 0 0 Q (entryFrame m As.toArray maxL) := by
  have hl := lv_entry As (n := maxL) (by rw [zlg_len hcat]; exact hlen)
  rw [lg_entry_eq]
  refine k s.heap [] _ hP va_S.rf ⟨hl.1, hl.2.1, fun q hq => hl.2.2 q (zlp_args hcat q hq)⟩
theorem ZMi.intro {P : Int → ZSt → Prop} (hy : plainName y.cls = true) (hcat : As.all (fun v => v.category == 1) = true) (hlen : As.length ≤ maxL)
    (body : ∀ Γ : ZT, ZC E Γ h y.cls cc → ZRi E Γ cc P → ZG E Γ 0 (As.map some ++ List.replicate (maxL - As.length) none) [] σ) : ZMi E h y cc maxL (some .int) As σ P := by
  intro l sz
  refine Met.ofW (cc := cc) (maxL := maxL) (ret := some .int) hy rfl ?_
  intro p e s m args below meth c s₁ B hml hv
  obtain ⟨rfl, hsz, hP, hK⟩ := hv
  have hx := B.exec
  have hb := B.bytes
  have hr := B.returns
  have hts := atoms_spec (ws := .code y cc maxL (some .int) :: TB) B.pre
  have hown : s.vm.findClass y.cls = some m.cls := findClass_of_methodNamed B.named
  have hlocks := B.notSynchronized
  subst hsz
  refine zentry (A := ZA E s.heap.size) hcat hlen hP (body _ ?_ ?_)
  · unfold ZC
    exact ⟨hx, hb, hown, hml, fun w hw => hts w (List.mem_cons_of_mem _ hw), hK, fun k hk => Or.inl ⟨k, hk, rfl⟩, fun q hq => Or.inr hq, Nat.le_refl _, Nat.le_refl _, Nat.le_refl _, Nat.le_refl _⟩
  intro pc lv σ' r hd hrg hrs hp H locs ls hPH hS hl
  exact W.iret hx hb hr (fun t ht hW => ⟨⟨r, σ', rfl, hrg, hrs, hp, by rw [ht]; exact hPH⟩, hS.F ht⟩) hS.2.2 hd
theorem ZMi.introZ {P : Int → ZSt → Prop} (hy : plainName y.cls = true) (hcat : As.all (fun v => v.category == 1) = true) (hlen : As.length ≤ maxL)
    (body : ∀ Γ : ZT, ZC E Γ h y.cls cc → ZRz E Γ cc P → ZG E Γ 0 (As.map some ++ List.replicate (maxL - As.length) none) [] σ) : ZMi E h y cc maxL (some .boolean) As σ P := by
  intro l sz
  refine Met.ofW (cc := cc) (maxL := maxL) (ret := some .boolean) hy rfl ?_
  intro p e s m args below meth c s₁ B hml hv
  obtain ⟨rfl, hsz, hP, hK⟩ := hv
  have hx := B.exec
  have hb := B.bytes
  have hr := B.returns
  have hts := atoms_spec (ws := .code y cc maxL (some .boolean) :: TB) B.pre
  have hown : s.vm.findClass y.cls = some m.cls := findClass_of_methodNamed B.named
  have hlocks := B.notSynchronized
  subst hsz
  refine zentry (A := ZA E s.heap.size) hcat hlen hP (body _ ?_ ?_)
  · unfold ZC
    exact ⟨hx, hb, hown, hml, fun w hw => hts w (List.mem_cons_of_mem _ hw), hK, fun k hk => Or.inl ⟨k, hk, rfl⟩, fun q hq => Or.inr hq, Nat.le_refl _, Nat.le_refl _, Nat.le_refl _, Nat.le_refl _⟩
  intro pc lv σ' r hd hrg hrs hp H locs ls hPH hS hl
  exact W.zret hx hb hr (znarZ hrg) (fun t ht hW => ⟨⟨r, σ', rfl, zRg01 hrg, hrs, hp, by rw [ht]; exact hPH⟩, hS.F ht⟩) hS.2.2 hd
theorem ZMv.intro {P : ZSt → Prop} (hy : plainName y.cls = true) (hcat : As.all (fun v => v.category == 1) = true) (hlen : As.length ≤ maxL)
    (body : ∀ Γ : ZT, ZC E Γ h y.cls cc → ZRv E Γ cc P → ZG E Γ 0 (As.map some ++ List.replicate (maxL - As.length) none) [] σ) : ZMv E h y cc maxL As σ P := by
  intro l sz
  refine Met.ofW (cc := cc) (maxL := maxL) (ret := none) hy rfl ?_
  intro p e s m args below meth c s₁ B hml hv
  obtain ⟨rfl, hsz, hP, hK⟩ := hv
  have hx := B.exec
  have hb := B.bytes
  have hr := B.returns
  have hts := atoms_spec (ws := .code y cc maxL none :: TB) B.pre
  have hown : s.vm.findClass y.cls = some m.cls := findClass_of_methodNamed B.named
  have hlocks := B.notSynchronized
  subst hsz
  refine zentry (A := ZA E s.heap.size) hcat hlen hP (body _ ?_ ?_)
  · unfold ZC
    exact ⟨hx, hb, hown, hml, fun w hw => hts w (List.mem_cons_of_mem _ hw), hK, fun k hk => Or.inl ⟨k, hk, rfl⟩, fun q hq => Or.inr hq, Nat.le_refl _, Nat.le_refl _, Nat.le_refl _, Nat.le_refl _⟩
  intro pc lv σ' hd hrs hp H locs ls hPH hS hl
  exact W.vret hx hb hr (fun t ht hW => ⟨⟨σ', rfl, hrs, hp, by rw [ht]; exact hPH⟩, hS.F ht⟩) hS.2.2 hd
end INTRO
end
section
/-! ===== a row an instruction ===== -/
section ROWS
variable {E : ZE} {Γ : ZT} {h : Nat} {own : String} {cc : ByteArray} {pc : Nat} {lv : List (Option Value)} {st : List Value} {σ : ZSt}
theorem zcat_iv (a : Int) : (ziv a).category = 1 := rfl
theorem zcat_rf (E : ZE) (k : Nat) : (zrf E k).category = 1 := rfl
theorem z_iconst (C : ZC E Γ h own cc) {n : Int} (hd : decode cc pc = .ok (.iconst n, 1)) (kk : ZG E Γ (pc + 1) lv (ziv n :: st) σ) : ZG E Γ pc lv st σ := by
  obtain ⟨p, l, e, R, s, m, args, below, meth, c, A, Q, nL, cells, slots⟩ := Γ
  obtain ⟨hx, hb, -⟩ := C
  intro H locs ls hP hS hl
  exact lv_iconst hx hb hd rfl (kk H locs ls hP hS hl)
theorem z_bipush (C : ZC E Γ h own cc) {n : Int} (hd : decode cc pc = .ok (.bipush n, 2)) (hv : (Int8.ofInt n).toInt32 = zi n) (kk : ZG E Γ (pc + 2) lv (ziv n :: st) σ) : ZG E Γ pc lv st σ := by
  obtain ⟨p, l, e, R, s, m, args, below, meth, c, A, Q, nL, cells, slots⟩ := Γ
  obtain ⟨hx, hb, -⟩ := C
  intro H locs ls hP hS hl
  exact lv_bipush hx hb hd hv (kk H locs ls hP hS hl)
theorem z_sipush (C : ZC E Γ h own cc) {n : Int} (hd : decode cc pc = .ok (.sipush n, 3)) (hv : (Int16.ofInt n).toInt32 = zi n) (kk : ZG E Γ (pc + 3) lv (ziv n :: st) σ) : ZG E Γ pc lv st σ := by
  obtain ⟨p, l, e, R, s, m, args, below, meth, c, A, Q, nL, cells, slots⟩ := Γ
  obtain ⟨hx, hb, -⟩ := C
  intro H locs ls hP hS hl
  exact lv_sipush hx hb hd hv (kk H locs ls hP hS hl)
theorem z_iload_n (C : ZC E Γ h own cc) {k : Fin 4} {i : Nat} {a : Int} (hd : decode cc pc = .ok (.iload_n k, 1)) (hi : (k : Nat) = i) (hv : lv[i]? = some (some (ziv a))) (kk : ZG E Γ (pc + 1) lv (ziv a :: st) σ) : ZG E Γ pc lv st σ := by
  obtain ⟨p, l, e, R, s, m, args, below, meth, c, A, Q, nL, cells, slots⟩ := Γ
  obtain ⟨hx, hb, -⟩ := C
  intro H locs ls hP hS hl
  exact lv_iload_n hx hb hd hi (zlp_at hl hv rfl) (kk H locs ls hP hS hl)
theorem z_iload (C : ZC E Γ h own cc) {i : Nat} {a : Int} (hd : decode cc pc = .ok (.iload i, 2)) (hv : lv[i]? = some (some (ziv a))) (kk : ZG E Γ (pc + 2) lv (ziv a :: st) σ) : ZG E Γ pc lv st σ := by
  obtain ⟨p, l, e, R, s, m, args, below, meth, c, A, Q, nL, cells, slots⟩ := Γ
  obtain ⟨hx, hb, -⟩ := C
  intro H locs ls hP hS hl
  exact lv_iload hx hb hd (zlp_at hl hv rfl) (kk H locs ls hP hS hl)
theorem z_aload_n (C : ZC E Γ h own cc) {k : Fin 4} {i q : Nat} (hd : decode cc pc = .ok (.aload_n k, 1)) (hi : (k : Nat) = i) (hv : lv[i]? = some (some (.ref q))) (kk : ZG E Γ (pc + 1) lv (.ref q :: st) σ) : ZG E Γ pc lv st σ := by
  obtain ⟨p, l, e, R, s, m, args, below, meth, c, A, Q, nL, cells, slots⟩ := Γ
  obtain ⟨hx, hb, -⟩ := C
  intro H locs ls hP hS hl
  exact lv_aload_n hx hb hd hi (zlp_at hl hv rfl) (kk H locs ls hP hS hl)
theorem z_aload (C : ZC E Γ h own cc) {i q : Nat} (hd : decode cc pc = .ok (.aload i, 2)) (hv : lv[i]? = some (some (.ref q))) (kk : ZG E Γ (pc + 2) lv (.ref q :: st) σ) : ZG E Γ pc lv st σ := by
  obtain ⟨p, l, e, R, s, m, args, below, meth, c, A, Q, nL, cells, slots⟩ := Γ
  obtain ⟨hx, hb, -⟩ := C
  intro H locs ls hP hS hl
  exact lv_aload hx hb hd (zlp_at hl hv rfl) (kk H locs ls hP hS hl)
/-- as long as the locals are -/
def ZN (Γ : ZT) (n : Nat) : Prop := match Γ with
  | (_, _, _, _, _, _, _, _, _, _, _, _, nL, _, _) => nL = n
theorem z_istore_n (C : ZC E Γ h own cc) {k : Fin 4} {i : Nat} {a : Int} {n : Nat} (hN : ZN Γ n) (hd : decode cc pc = .ok (.istore_n k, 1)) (hi : (k : Nat) = i) (hn : i < n) (kk : ZG E Γ (pc + 1) (lv.set i (some (ziv a))) st σ) : ZG E Γ pc lv (ziv a :: st) σ := by
  obtain ⟨p, l, e, R, s, m, args, below, meth, c, A, Q, nL, cells, slots⟩ := Γ
  obtain ⟨hx, hb, -⟩ := C
  cases hN
  intro H locs ls hP hS hl
  exact lv_istore_n hx hb hd hi hl hn rfl (fun ls' hl' => kk H locs ls' hP hS (zlp_store hl'))
theorem z_istore (C : ZC E Γ h own cc) {i : Nat} {a : Int} {n : Nat} (hN : ZN Γ n) (hd : decode cc pc = .ok (.istore i, 2)) (hn : i < n) (kk : ZG E Γ (pc + 2) (lv.set i (some (ziv a))) st σ) : ZG E Γ pc lv (ziv a :: st) σ := by
  obtain ⟨p, l, e, R, s, m, args, below, meth, c, A, Q, nL, cells, slots⟩ := Γ
  obtain ⟨hx, hb, -⟩ := C
  cases hN
  intro H locs ls hP hS hl
  exact lv_istore hx hb hd hl hn rfl (fun ls' hl' => kk H locs ls' hP hS (zlp_store hl'))
theorem z_iinc (C : ZC E Γ h own cc) {i : Nat} {a d : Int} {n : Nat} (hN : ZN Γ n) (hd : decode cc pc = .ok (.iinc i d, 3)) (hn : i < n) (hv : lv[i]? = some (some (ziv a))) (kk : ZG E Γ (pc + 3) (lv.set i (some (ziv (a + d)))) st σ) : ZG E Γ pc lv st σ := by
  obtain ⟨p, l, e, R, s, m, args, below, meth, c, A, Q, nL, cells, slots⟩ := Γ
  obtain ⟨hx, hb, -⟩ := C
  cases hN
  intro H locs ls hP hS hl
  have hm : (i, ziv a) ∈ zlp 0 lv := zlp_mem.mpr ⟨i, by simp, hv, rfl⟩
  obtain ⟨k, hk⟩ := List.getElem?_of_mem hm
  exact lv_iinc (v := zi (a + d)) hx hb hd hl hk (zi_add a d) hn rfl (fun ls' hl' => kk H locs ls' hP hS (zlp_store hl'))
theorem z_iadd (C : ZC E Γ h own cc) {a b : Int} (hd : decode cc pc = .ok (.iadd, 1)) (kk : ZG E Γ (pc + 1) lv (ziv (a + b) :: st) σ) : ZG E Γ pc lv (ziv b :: ziv a :: st) σ := by
  obtain ⟨p, l, e, R, s, m, args, below, meth, c, A, Q, nL, cells, slots⟩ := Γ
  obtain ⟨hx, hb, -⟩ := C
  intro H locs ls hP hS hl
  have k2 := kk H locs ls hP hS hl
  rw [ziv, ← zi_add] at k2
  exact lv_iadd hx hb hd k2
theorem z_isub (C : ZC E Γ h own cc) {a b : Int} (hd : decode cc pc = .ok (.isub, 1)) (kk : ZG E Γ (pc + 1) lv (ziv (a - b) :: st) σ) : ZG E Γ pc lv (ziv b :: ziv a :: st) σ := by
  obtain ⟨p, l, e, R, s, m, args, below, meth, c, A, Q, nL, cells, slots⟩ := Γ
  obtain ⟨hx, hb, -⟩ := C
  intro H locs ls hP hS hl
  have k2 := kk H locs ls hP hS hl
  rw [ziv, ← zi_sub] at k2
  exact lv_isub hx hb hd k2
theorem z_imul (C : ZC E Γ h own cc) {a b : Int} (hd : decode cc pc = .ok (.imul, 1)) (kk : ZG E Γ (pc + 1) lv (ziv (a * b) :: st) σ) : ZG E Γ pc lv (ziv b :: ziv a :: st) σ := by
  obtain ⟨p, l, e, R, s, m, args, below, meth, c, A, Q, nL, cells, slots⟩ := Γ
  obtain ⟨hx, hb, -⟩ := C
  intro H locs ls hP hS hl
  have k2 := kk H locs ls hP hS hl
  rw [ziv, ← zi_mul] at k2
  exact lv_imul hx hb hd k2
theorem z_dup (C : ZC E Γ h own cc) {v : Value} (hd : decode cc pc = .ok (.dup, 1)) (hv : v.category = 1) (kk : ZG E Γ (pc + 1) lv (v :: v :: st) σ) : ZG E Γ pc lv (v :: st) σ := by
  obtain ⟨p, l, e, R, s, m, args, below, meth, c, A, Q, nL, cells, slots⟩ := Γ
  obtain ⟨hx, hb, -⟩ := C
  intro H locs ls hP hS hl
  exact lv_dup hx hb hd hv (kk H locs ls hP hS hl)
theorem z_pop (C : ZC E Γ h own cc) {v : Value} (hd : decode cc pc = .ok (.pop, 1)) (hv : v.category = 1) (kk : ZG E Γ (pc + 1) lv st σ) : ZG E Γ pc lv (v :: st) σ := by
  obtain ⟨p, l, e, R, s, m, args, below, meth, c, A, Q, nL, cells, slots⟩ := Γ
  obtain ⟨hx, hb, -⟩ := C
  intro H locs ls hP hS hl
  exact lv_pop hx hb hd hv (kk H locs ls hP hS hl)
theorem z_goto (C : ZC E Γ h own cc) {off : Int} (tgt : Nat) (hd : decode cc pc = .ok (.goto off, 3)) (ht : (pc : Int) + off = (tgt : Int)) (kk : ZG E Γ tgt lv st σ) : ZG E Γ pc lv st σ := by
  obtain ⟨p, l, e, R, s, m, args, below, meth, c, A, Q, nL, cells, slots⟩ := Γ
  obtain ⟨hx, hb, -⟩ := C
  intro H locs ls hP hS hl
  exact lv_goto hx hb hd ht (kk H locs ls hP hS hl)
-- branches
theorem zRg0 : zRg 0 := ⟨by decide, by decide⟩
theorem z_icmp_eq (C : ZC E Γ h own cc) {a b off : Int} (tgt : Nat) (ha : zRg a) (hb2 : zRg b) (hd : decode cc pc = .ok (.if_icmp .eq off, 3)) (ht : (pc : Int) + off = (tgt : Int)) (kt : a = b → ZG E Γ tgt lv st σ) (kf : a ≠ b → ZG E Γ (pc + 3) lv st σ) : ZG E Γ pc lv (ziv b :: ziv a :: st) σ := by
  obtain ⟨p, l, e, R, s, m, args, below, meth, c, A, Q, nL, cells, slots⟩ := Γ
  obtain ⟨hx, hb, -⟩ := C
  intro H locs ls hP hS hl
  exact lv_icmp_eq hx hb hd ht (fun q => kt ((zi_eq ha hb2).mp q) H locs ls hP hS hl) (fun q => kf (fun r => q ((zi_eq ha hb2).mpr r)) H locs ls hP hS hl)
theorem z_if_eq (C : ZC E Γ h own cc) {a off : Int} (tgt : Nat) (ha : zRg a) (hd : decode cc pc = .ok (.ifCond .eq off, 3)) (ht : (pc : Int) + off = (tgt : Int)) (kt : a = 0 → ZG E Γ tgt lv st σ) (kf : a ≠ 0 → ZG E Γ (pc + 3) lv st σ) : ZG E Γ pc lv (ziv a :: st) σ := by
  obtain ⟨p, l, e, R, s, m, args, below, meth, c, A, Q, nL, cells, slots⟩ := Γ
  obtain ⟨hx, hb, -⟩ := C
  intro H locs ls hP hS hl
  exact lv_if_eq hx hb hd ht (fun q => kt ((zi_eq ha zRg0).mp q) H locs ls hP hS hl) (fun q => kf (fun r => q ((zi_eq ha zRg0).mpr r)) H locs ls hP hS hl)
theorem z_icmp_ne (C : ZC E Γ h own cc) {a b off : Int} (tgt : Nat) (ha : zRg a) (hb2 : zRg b) (hd : decode cc pc = .ok (.if_icmp .ne off, 3)) (ht : (pc : Int) + off = (tgt : Int)) (kt : a ≠ b → ZG E Γ tgt lv st σ) (kf : a = b → ZG E Γ (pc + 3) lv st σ) : ZG E Γ pc lv (ziv b :: ziv a :: st) σ := by
  obtain ⟨p, l, e, R, s, m, args, below, meth, c, A, Q, nL, cells, slots⟩ := Γ
  obtain ⟨hx, hb, -⟩ := C
  intro H locs ls hP hS hl
  exact lv_icmp_ne hx hb hd ht (fun q => kt (fun r => q ((zi_eq ha hb2).mpr r)) H locs ls hP hS hl) (fun q => kf ((zi_eq ha hb2).mp q) H locs ls hP hS hl)
theorem z_if_ne (C : ZC E Γ h own cc) {a off : Int} (tgt : Nat) (ha : zRg a) (hd : decode cc pc = .ok (.ifCond .ne off, 3)) (ht : (pc : Int) + off = (tgt : Int)) (kt : a ≠ 0 → ZG E Γ tgt lv st σ) (kf : a = 0 → ZG E Γ (pc + 3) lv st σ) : ZG E Γ pc lv (ziv a :: st) σ := by
  obtain ⟨p, l, e, R, s, m, args, below, meth, c, A, Q, nL, cells, slots⟩ := Γ
  obtain ⟨hx, hb, -⟩ := C
  intro H locs ls hP hS hl
  exact lv_if_ne hx hb hd ht (fun q => kt (fun r => q ((zi_eq ha zRg0).mpr r)) H locs ls hP hS hl) (fun q => kf ((zi_eq ha zRg0).mp q) H locs ls hP hS hl)
theorem z_icmp_lt (C : ZC E Γ h own cc) {a b off : Int} (tgt : Nat) (ha : zRg a) (hb2 : zRg b) (hd : decode cc pc = .ok (.if_icmp .lt off, 3)) (ht : (pc : Int) + off = (tgt : Int)) (kt : a < b → ZG E Γ tgt lv st σ) (kf : b ≤ a → ZG E Γ (pc + 3) lv st σ) : ZG E Γ pc lv (ziv b :: ziv a :: st) σ := by
  obtain ⟨p, l, e, R, s, m, args, below, meth, c, A, Q, nL, cells, slots⟩ := Γ
  obtain ⟨hx, hb, -⟩ := C
  intro H locs ls hP hS hl
  exact lv_icmp_lt hx hb hd ht (fun q => kt ((zi_lt ha hb2).mp q) H locs ls hP hS hl) (fun q => kf (Int.not_lt.mp (fun r => q ((zi_lt ha hb2).mpr r))) H locs ls hP hS hl)
theorem z_if_lt (C : ZC E Γ h own cc) {a off : Int} (tgt : Nat) (ha : zRg a) (hd : decode cc pc = .ok (.ifCond .lt off, 3)) (ht : (pc : Int) + off = (tgt : Int)) (kt : a < 0 → ZG E Γ tgt lv st σ) (kf : 0 ≤ a → ZG E Γ (pc + 3) lv st σ) : ZG E Γ pc lv (ziv a :: st) σ := by
  obtain ⟨p, l, e, R, s, m, args, below, meth, c, A, Q, nL, cells, slots⟩ := Γ
  obtain ⟨hx, hb, -⟩ := C
  intro H locs ls hP hS hl
  exact lv_if_lt hx hb hd ht (fun q => kt ((zi_lt ha zRg0).mp q) H locs ls hP hS hl) (fun q => kf (Int.not_lt.mp (fun r => q ((zi_lt ha zRg0).mpr r))) H locs ls hP hS hl)
theorem z_icmp_ge (C : ZC E Γ h own cc) {a b off : Int} (tgt : Nat) (ha : zRg a) (hb2 : zRg b) (hd : decode cc pc = .ok (.if_icmp .ge off, 3)) (ht : (pc : Int) + off = (tgt : Int)) (kt : b ≤ a → ZG E Γ tgt lv st σ) (kf : a < b → ZG E Γ (pc + 3) lv st σ) : ZG E Γ pc lv (ziv b :: ziv a :: st) σ := by
  obtain ⟨p, l, e, R, s, m, args, below, meth, c, A, Q, nL, cells, slots⟩ := Γ
  obtain ⟨hx, hb, -⟩ := C
  intro H locs ls hP hS hl
  exact lv_icmp_ge hx hb hd ht (fun q => kt ((zi_le hb2 ha).mp q) H locs ls hP hS hl) (fun q => kf (Int.not_le.mp (fun r => q ((zi_le hb2 ha).mpr r))) H locs ls hP hS hl)
theorem z_if_ge (C : ZC E Γ h own cc) {a off : Int} (tgt : Nat) (ha : zRg a) (hd : decode cc pc = .ok (.ifCond .ge off, 3)) (ht : (pc : Int) + off = (tgt : Int)) (kt : 0 ≤ a → ZG E Γ tgt lv st σ) (kf : a < 0 → ZG E Γ (pc + 3) lv st σ) : ZG E Γ pc lv (ziv a :: st) σ := by
  obtain ⟨p, l, e, R, s, m, args, below, meth, c, A, Q, nL, cells, slots⟩ := Γ
  obtain ⟨hx, hb, -⟩ := C
  intro H locs ls hP hS hl
  exact lv_if_ge hx hb hd ht (fun q => kt ((zi_le zRg0 ha).mp q) H locs ls hP hS hl) (fun q => kf (Int.not_le.mp (fun r => q ((zi_le zRg0 ha).mpr r))) H locs ls hP hS hl)
theorem z_icmp_gt (C : ZC E Γ h own cc) {a b off : Int} (tgt : Nat) (ha : zRg a) (hb2 : zRg b) (hd : decode cc pc = .ok (.if_icmp .gt off, 3)) (ht : (pc : Int) + off = (tgt : Int)) (kt : b < a → ZG E Γ tgt lv st σ) (kf : a ≤ b → ZG E Γ (pc + 3) lv st σ) : ZG E Γ pc lv (ziv b :: ziv a :: st) σ := by
  obtain ⟨p, l, e, R, s, m, args, below, meth, c, A, Q, nL, cells, slots⟩ := Γ
  obtain ⟨hx, hb, -⟩ := C
  intro H locs ls hP hS hl
  exact lv_icmp_gt hx hb hd ht (fun q => kt ((zi_lt hb2 ha).mp q) H locs ls hP hS hl) (fun q => kf (Int.not_lt.mp (fun r => q ((zi_lt hb2 ha).mpr r))) H locs ls hP hS hl)
theorem z_if_gt (C : ZC E Γ h own cc) {a off : Int} (tgt : Nat) (ha : zRg a) (hd : decode cc pc = .ok (.ifCond .gt off, 3)) (ht : (pc : Int) + off = (tgt : Int)) (kt : 0 < a → ZG E Γ tgt lv st σ) (kf : a ≤ 0 → ZG E Γ (pc + 3) lv st σ) : ZG E Γ pc lv (ziv a :: st) σ := by
  obtain ⟨p, l, e, R, s, m, args, below, meth, c, A, Q, nL, cells, slots⟩ := Γ
  obtain ⟨hx, hb, -⟩ := C
  intro H locs ls hP hS hl
  exact lv_if_gt hx hb hd ht (fun q => kt ((zi_lt zRg0 ha).mp q) H locs ls hP hS hl) (fun q => kf (Int.not_lt.mp (fun r => q ((zi_lt zRg0 ha).mpr r))) H locs ls hP hS hl)
theorem z_icmp_le (C : ZC E Γ h own cc) {a b off : Int} (tgt : Nat) (ha : zRg a) (hb2 : zRg b) (hd : decode cc pc = .ok (.if_icmp .le off, 3)) (ht : (pc : Int) + off = (tgt : Int)) (kt : a ≤ b → ZG E Γ tgt lv st σ) (kf : b < a → ZG E Γ (pc + 3) lv st σ) : ZG E Γ pc lv (ziv b :: ziv a :: st) σ := by
  obtain ⟨p, l, e, R, s, m, args, below, meth, c, A, Q, nL, cells, slots⟩ := Γ
  obtain ⟨hx, hb, -⟩ := C
  intro H locs ls hP hS hl
  exact lv_icmp_le hx hb hd ht (fun q => kt ((zi_le ha hb2).mp q) H locs ls hP hS hl) (fun q => kf (Int.not_le.mp (fun r => q ((zi_le ha hb2).mpr r))) H locs ls hP hS hl)
theorem z_if_le (C : ZC E Γ h own cc) {a off : Int} (tgt : Nat) (ha : zRg a) (hd : decode cc pc = .ok (.ifCond .le off, 3)) (ht : (pc : Int) + off = (tgt : Int)) (kt : a ≤ 0 → ZG E Γ tgt lv st σ) (kf : 0 < a → ZG E Γ (pc + 3) lv st σ) : ZG E Γ pc lv (ziv a :: st) σ := by
  obtain ⟨p, l, e, R, s, m, args, below, meth, c, A, Q, nL, cells, slots⟩ := Γ
  obtain ⟨hx, hb, -⟩ := C
  intro H locs ls hP hS hl
  exact lv_if_le hx hb hd ht (fun q => kt ((zi_le ha zRg0).mp q) H locs ls hP hS hl) (fun q => kf (Int.not_le.mp (fun r => q ((zi_le ha zRg0).mpr r))) H locs ls hP hS hl)
-- fields
def ZF (own : String) (index ci j : Nat) (fin : Bool) (ty : FieldType) : Prop := ∃ (Cn : String) (T : u_T) (N : Nat) (ty0 : Nat → FieldType), zcls[ci]? = some (Cn, T, N) ∧ j < N ∧ (∀ w ∈ u_ws Cn T N, w ∈ TB) ∧ Cond.fieldLink own index (T j).1 (T j).2.1 (T j).2.2.1 ∈ TB ∧ (T j).2.2.2 = fin ∧ parseFieldDescriptor (T j).2.2.1 = some ty ∧ (∀ k, k < N → parseFieldDescriptor (T k).2.2.1 = some (ty0 k)) ∧ (∀ a, a < N → ∀ b, b < N → a ≠ b → (T a).2.1 ≠ (T b).2.1)
theorem z_getV (C : ZC E Γ h own cc) {index ci j k : Nat} {fin : Bool} {ty : FieldType} {fs : List (Option Nat)} {x : Option Nat} (f : ZF own index ci j fin ty) (hs : zSH[k]? = some (.inr (ci, fs))) (hf : fs[j]? = some x) (hd : decode cc pc = .ok (.getfield index, 3)) (kk : ZG E Γ (pc + 3) lv (zfv E σ k j x :: st) σ) : ZG E Γ pc lv (zrf E k :: st) σ := by
  obtain ⟨p, l, e, R, s, m, args, below, meth, c, A, Q, nL, cells, slots⟩ := Γ
  obtain ⟨hx, hb, hown, hml, hts, hK, -⟩ := C
  obtain ⟨Cn, T, N, ty0, h1, h2, h3, h4, h5, h6, h7, h8⟩ := f
  intro H locs ls hP hS hl
  refine va_get hx hb hts h3 hown hK.1 hP k (zw_get hs) h1 j h2 (hts _ h4) (fun _ h9 => h9) (zfs_get hf) hd ?_
  rw [Nat.zero_add]
  exact kk H locs ls hP hS hl
theorem z_getI (C : ZC E Γ h own cc) {index ci j k : Nat} {fin : Bool} {ty : FieldType} {fs : List (Option Nat)} (f : ZF own index ci j fin ty) (hs : zSH[k]? = some (.inr (ci, fs))) (hf : fs[j]? = some none) (hd : decode cc pc = .ok (.getfield index, 3)) (kk : ZG E Γ (pc + 3) lv (ziv (σ k j) :: st) σ) : ZG E Γ pc lv (zrf E k :: st) σ := z_getV C f hs hf hd kk
theorem z_getR (C : ZC E Γ h own cc) {index ci j k q : Nat} {fin : Bool} {ty : FieldType} {fs : List (Option Nat)} (f : ZF own index ci j fin ty) (hs : zSH[k]? = some (.inr (ci, fs))) (hf : fs[j]? = some (some q)) (hd : decode cc pc = .ok (.getfield index, 3)) (kk : ZG E Γ (pc + 3) lv (zrf E q :: st) σ) : ZG E Γ pc lv (zrf E k :: st) σ := z_getV C f hs hf hd kk
theorem z_putV (C : ZC E Γ h own cc) (hR : zRs σ) {index ci j k : Nat} {ty : FieldType} {fs : List (Option Nat)} {v : Int} (hn : narrow ty (ziv v) = ziv v) (hfit : fits ty (ziv v) = true) (f : ZF own index ci j false ty) (hs : zSH[k]? = some (.inr (ci, fs))) (hf : fs[j]? = some none) (hv : zRg v) (hd : decode cc pc = .ok (.putfield index, 3)) (kk : ∀ σ1 : ZSt, σ1 = zup σ k j v → zRs σ1 → ZG E Γ (pc + 3) lv st σ1) : ZG E Γ pc lv (ziv v :: zrf E k :: st) σ := by
  obtain ⟨p, l, e, R, s, m, args, below, meth, c, A, Q, nL, cells, slots⟩ := Γ
  obtain ⟨hx, hb, hown, hml, hts, hK, hA1, hA2, -⟩ := C
  obtain ⟨Cn, T, N, ty0, h1, h2, h3, h4, h5, h6, h7, h8⟩ := f
  intro H locs ls hP hS hl
  have hj : j < fs.length := (List.getElem?_eq_some_iff.mp hf).1
  refine va_put hx hb hts h3 ty0 h7 h8 hown hK.1 hP (zD hK.2.2.2 hA1 σ) hS k (zw_get hs) h1 j h2 (hts _ h4) (fun _ h9 => h9) h5 h6 hn hfit (by rw [zfs_len]; exact hj) hd (fun H1 locs1 hP1 hD1 hS1 => ?_)
  refine kk _ rfl (hR.up hv k j) H1 locs1 ls ?_ hS1 hl
  rw [← zw_set hs]
  have e : zcell E (zup σ k j v) k (.inr (ci, fs)) = .inr (ci, (zfs E σ k 0 fs).set j (ziv v)) := by
    show Sum.inr (ci, zfs E (zup σ k j v) k 0 fs) = _
    rw [zfs_set hf, Nat.zero_add]
  rw [e]
  exact hP1
theorem z_putI (C : ZC E Γ h own cc) (hR : zRs σ) {index ci j k : Nat} {fs : List (Option Nat)} {v : Int} (f : ZF own index ci j false .int) (hs : zSH[k]? = some (.inr (ci, fs))) (hf : fs[j]? = some none) (hv : zRg v) (hd : decode cc pc = .ok (.putfield index, 3)) (kk : ∀ σ1 : ZSt, σ1 = zup σ k j v → zRs σ1 → ZG E Γ (pc + 3) lv st σ1) : ZG E Γ pc lv (ziv v :: zrf E k :: st) σ := z_putV C hR rfl rfl f hs hf hv hd kk
theorem z_putZ (C : ZC E Γ h own cc) (hR : zRs σ) {index ci j k : Nat} {fs : List (Option Nat)} {v : Int} (f : ZF own index ci j false .boolean) (hs : zSH[k]? = some (.inr (ci, fs))) (hf : fs[j]? = some none) (hv : v = 0 ∨ v = 1) (hd : decode cc pc = .ok (.putfield index, 3)) (kk : ∀ σ1 : ZSt, σ1 = zup σ k j v → zRs σ1 → ZG E Γ (pc + 3) lv st σ1) : ZG E Γ pc lv (ziv v :: zrf E k :: st) σ := z_putV C hR (znarZ hv) (by rcases hv with rfl | rfl <;> decide) f hs hf (zRg01 hv) hd kk
-- arrays
theorem zSH_len : ∀ (k t n : Nat), zSH[k]? = some (.inl (t, n)) → n < 2147483648 := by
  have h : zSH.all (fun x => match x with | .inl (_, n) => decide (n < 2147483648) | .inr _ => true) = true := by decide +kernel
  intro k t n hk
  have := List.all_eq_true.mp h _ (List.mem_of_getElem? hk)
  simpa using this
theorem z_iald (C : ZC E Γ h own cc) {k n : Nat} {i : Int} (hs : zSH[k]? = some (.inl (0, n))) (h0 : 0 ≤ i) (h1 : i < n) (hd : decode cc pc = .ok (.iaload, 1)) (kk : ZG E Γ (pc + 1) lv (ziv (σ k i.toNat) :: st) σ) : ZG E Γ pc lv (ziv i :: zrf E k :: st) σ := by
  obtain ⟨p, l, e, R, s, m, args, below, meth, c, A, Q, nL, cells, slots⟩ := Γ
  obtain ⟨hx, hb, hown, hml, hts, hK, -⟩ := C
  intro H locs ls hP hS hl
  have hn := zSH_len _ _ _ hs
  refine va_iald (n := n) (f := fun j => zi (σ k j)) hx hb hK.1 hP k 0 (zw_get hs) rfl (zi_in h0 h1 hn) hd ?_
  rw [zi_clamp ⟨by omega, by omega⟩]
  exact kk H locs ls hP hS hl
theorem z_zald (C : ZC E Γ h own cc) {k n : Nat} {i : Int} (hs : zSH[k]? = some (.inl (1, n))) (h0 : 0 ≤ i) (h1 : i < n) (hd : decode cc pc = .ok (.baload, 1)) (kk : ZG E Γ (pc + 1) lv (ziv (σ k i.toNat) :: st) σ) : ZG E Γ pc lv (ziv i :: zrf E k :: st) σ := by
  obtain ⟨p, l, e, R, s, m, args, below, meth, c, A, Q, nL, cells, slots⟩ := Γ
  obtain ⟨hx, hb, hown, hml, hts, hK, -⟩ := C
  intro H locs ls hP hS hl
  have hn := zSH_len _ _ _ hs
  refine va_zald (n := n) (f := fun j => zi (σ k j)) hx hb hK.1 hP k 1 (zw_get hs) rfl (zi_in h0 h1 hn) hd ?_
  rw [zi_clamp ⟨by omega, by omega⟩]
  exact kk H locs ls hP hS hl
theorem zupd_eq {σ : ZSt} {k : Nat} {i v : Int} (hi : zRg i) : upd (fun j => zi (σ k j)) (zi i).toNatClampNeg (zi v) = fun j => zi (zup σ k i.toNat v k j) := by
  funext j
  unfold upd zup
  rw [zi_clamp hi]
  by_cases hj : j = i.toNat
  · simp [hj]
  · simp [hj]
theorem z_iast (C : ZC E Γ h own cc) (hR : zRs σ) {k n : Nat} {i v : Int} (hs : zSH[k]? = some (.inl (0, n))) (h0 : 0 ≤ i) (h1 : i < n) (hv : zRg v) (hd : decode cc pc = .ok (.iastore, 1)) (kk : ∀ σ1 : ZSt, σ1 = zup σ k i.toNat v → zRs σ1 → ZG E Γ (pc + 1) lv st σ1) : ZG E Γ pc lv (ziv v :: ziv i :: zrf E k :: st) σ := by
  obtain ⟨p, l, e, R, s, m, args, below, meth, c, A, Q, nL, cells, slots⟩ := Γ
  obtain ⟨hx, hb, hown, hml, hts, hK, hA1, hA2, -⟩ := C
  intro H locs ls hP hS hl
  have hn := zSH_len _ _ _ hs
  refine va_iast (n := n) (f := fun j => zi (σ k j)) hx hb hK.1 hP (zD hK.2.2.2 hA1 σ) hS k 0 (zw_get hs) rfl (zi_in h0 h1 hn) hd (fun H1 locs1 hP1 hD1 hS1 => ?_)
  refine kk _ rfl (hR.up hv k i.toNat) H1 locs1 ls ?_ hS1 hl
  rw [← zw_set hs]
  rw [zupd_eq ⟨by omega, by omega⟩] at hP1
  exact hP1
theorem z_zast (C : ZC E Γ h own cc) (hR : zRs σ) {k n : Nat} {i v : Int} (hs : zSH[k]? = some (.inl (1, n))) (h0 : 0 ≤ i) (h1 : i < n) (hv : v = 0 ∨ v = 1) (hd : decode cc pc = .ok (.bastore, 1)) (kk : ∀ σ1 : ZSt, σ1 = zup σ k i.toNat v → zRs σ1 → ZG E Γ (pc + 1) lv st σ1) : ZG E Γ pc lv (ziv v :: ziv i :: zrf E k :: st) σ := by
  obtain ⟨p, l, e, R, s, m, args, below, meth, c, A, Q, nL, cells, slots⟩ := Γ
  obtain ⟨hx, hb, hown, hml, hts, hK, hA1, hA2, -⟩ := C
  intro H locs ls hP hS hl
  have hn := zSH_len _ _ _ hs
  refine va_zast (n := n) (f := fun j => zi (σ k j)) hx hb hK.1 hP (zD hK.2.2.2 hA1 σ) hS k 1 (zw_get hs) rfl (zi_in h0 h1 hn) hd (fun H1 locs1 hP1 hD1 hS1 => ?_)
  refine kk _ rfl (hR.up (zRg01 hv) k i.toNat) H1 locs1 ls ?_ hS1 hl
  rw [← zw_set hs]
  have e9 : vp_nar .boolean (zi v) = zi v := by rcases hv with rfl | rfl <;> decide
  rw [e9, zupd_eq ⟨by omega, by omega⟩] at hP1
  exact hP1
-- calls
theorem z_after_i {p : Program} {l : Launch} {e : Env} {R : Room} {s : State} {m : MethodId} {args : Array Value} {below : List Frame} {meth : Method} {c : Code} {H : Heap} {locs : List Loc} {cells slots : Nat} {Q : State → Prop} {ls : Array Slot} {rest st0 : List Value} {a : Array Value} {A0 A1 free : Nat → Prop} {P : Int → ZSt → Prop}
    (hr : va_Run p l e R s m args below meth c H locs cells slots 0 0 (F0 m pc ls st0) rest (ZQi E P A1 a) free) (hS : va_S A0 s.heap H locs) (hA : ∀ q, A1 q → A0 q) (hf : ∀ q, free q → A0 q)
    (kk : ∀ (r : Int) (σ' : ZSt) (H1 : Heap) (locs1 : List Loc), zRg r → zRs σ' → P r σ' → va_P E.1 zcls (zworld E σ') H1 → va_S A0 s.heap H1 locs1 → W p l e R s m args below meth c H1 locs1 cells slots Q (F0 m (pc + 3) ls (ziv r :: rest))) : W p l e R s m args below meth c H locs cells slots Q (F0 m pc ls st0) := by
  intro T hT X
  obtain ⟨v, st₀, t, T', L, h0, X', hL, e1, e2, ⟨⟨r, σ', hv, hg, hs, hp, hb⟩, hz, hk⟩, st⟩ := hr T hT X
  cases hv
  rw [h0] at hz hk
  obtain ⟨t2, a1, b1⟩ := kk r σ' T'.heap (locs ++ L) hg hs hp (by rw [e1]; exact hb)
    ⟨Nat.le_trans hS.1 (by rw [e1]; exact hz), fun q h1 h2 => by rw [e1, hk q (Nat.lt_of_lt_of_le h1 hS.1) (fun z => h2 (hA q z))]; exact hS.2.1 q h1 h2, fun q hq => by
      rcases List.mem_append.mp hq with h | h
      · exact hS.2.2 q h
      · exact hf _ (hL q h)⟩ T' rfl X'
  exact ⟨t2, st t2 a1, b1⟩
theorem z_after_v {p : Program} {l : Launch} {e : Env} {R : Room} {s : State} {m : MethodId} {args : Array Value} {below : List Frame} {meth : Method} {c : Code} {H : Heap} {locs : List Loc} {cells slots : Nat} {Q : State → Prop} {ls : Array Slot} {rest st0 : List Value} {a : Array Value} {A0 A1 free : Nat → Prop} {P : ZSt → Prop}
    (hr : va_Run p l e R s m args below meth c H locs cells slots 0 0 (F0 m pc ls st0) rest (ZQv E P A1 a) free) (hS : va_S A0 s.heap H locs) (hA : ∀ q, A1 q → A0 q) (hf : ∀ q, free q → A0 q)
    (kk : ∀ (σ' : ZSt) (H1 : Heap) (locs1 : List Loc), zRs σ' → P σ' → va_P E.1 zcls (zworld E σ') H1 → va_S A0 s.heap H1 locs1 → W p l e R s m args below meth c H1 locs1 cells slots Q (F0 m (pc + 3) ls rest)) : W p l e R s m args below meth c H locs cells slots Q (F0 m pc ls st0) := by
  intro T hT X
  obtain ⟨v, st₀, t, T', L, h0, X', hL, e1, e2, ⟨⟨σ', hv, hs, hp, hb⟩, hz, hk⟩, st⟩ := hr T hT X
  cases hv
  rw [h0] at hz hk
  obtain ⟨t2, a1, b1⟩ := kk σ' T'.heap (locs ++ L) hs hp (by rw [e1]; exact hb)
    ⟨Nat.le_trans hS.1 (by rw [e1]; exact hz), fun q h1 h2 => by rw [e1, hk q (Nat.lt_of_lt_of_le h1 hS.1) (fun z => h2 (hA q z))]; exact hS.2.1 q h1 h2, fun q hq => by
      rcases List.mem_append.mp hq with h | h
      · exact hS.2.2 q h
      · exact hf _ (hL q h)⟩ T' rfl X'
  exact ⟨t2, st t2 a1, b1⟩
/-- a call's words: of an instance's method, of a class's own, of a nest mate's -/
def ZV (own : String) (index : Nat) (y : MethodName) (cy : ByteArray) (maxL : Nat) (ret : Option FieldType) (n : Nat) : Prop := (∀ w ∈ ([.methodLink own index y, .instanceMethod y, .selects y.cls y y, .initialized y.cls, .code y cy maxL ret] : List Cond), w ∈ TB) ∧ (y.cls ≠ "java/lang/invoke/MethodHandle" ∧ y.cls ≠ "java/lang/invoke/VarHandle" ∧ (parseMethodDescriptor y.desc).map (fun d => d.parameters.length) = some n) ∧ maxL ≤ 21
def ZS (own : String) (index : Nat) (y : MethodName) (cy : ByteArray) (maxL : Nat) (ret : Option FieldType) (n : Nat) : Prop := (∀ w ∈ ([.methodLink own index y, .static y, .initialized y.cls, .code y cy maxL ret] : List Cond), w ∈ TB) ∧ (y.cls ≠ "java/lang/invoke/MethodHandle" ∧ y.cls ≠ "java/lang/invoke/VarHandle" ∧ (parseMethodDescriptor y.desc).map (fun d => d.parameters.length) = some n) ∧ maxL ≤ 21
def ZSN (own : String) (index : Nat) (y : MethodName) (cy : ByteArray) (maxL : Nat) (ret : Option FieldType) (n : Nat) : Prop := ((Cond.methodLinkNest own index y RX5 = znw1 ∨ Cond.methodLinkNest own index y RX5 = znw2) ∧ ∀ w ∈ ([.static y, .initialized y.cls, .code y cy maxL ret] : List Cond), w ∈ TB) ∧ (y.cls ≠ "java/lang/invoke/MethodHandle" ∧ y.cls ≠ "java/lang/invoke/VarHandle" ∧ (parseMethodDescriptor y.desc).map (fun d => d.parameters.length) = some n) ∧ maxL ≤ 21
theorem zws_TB {y : MethodName} {cy : ByteArray} {maxL : Nat} {ret : Option FieldType} (h : Cond.code y cy maxL ret ∈ TB) : ∀ w ∈ (Cond.code y cy maxL ret :: TB), w ∈ TB := by
  intro w hw
  rcases List.mem_cons.mp hw with h1 | h1
  · rw [h1]; exact h
  · exact h1
theorem zcwV {R : Room} {s : State} {args : Array Value} {index n maxL h' : Nat} {y : MethodName} {cy : ByteArray} {ret : Option FieldType} (hts : ∀ w ∈ TB, w.before args s = true) (mw : ZV own index y cy maxL ret n) (hh : h' + 1 ≤ h) (hR : h ≤ R.frames ∧ 40 * h ≤ R.locals) : CallW R s args own y.cls index y cy maxL ret (.code y cy maxL ret :: TB) (zroom h') 0 0 n := by
  obtain ⟨h1, h2, h3⟩ := mw
  refine cwV n hts (goodIn_tb (fun w h => h) ?_) rfl rfl rfl ⟨rfl, h2⟩ ⟨?_, ?_⟩
  · intro w hw
    rcases List.mem_append.mp hw with h | h
    · exact h1 w (by simp only [List.mem_cons, List.not_mem_nil, or_false] at h ⊢; rcases h with h | h | h | h <;> simp [h])
    · exact zws_TB (h1 _ (by simp)) w h
  · show h' + 1 ≤ _
    omega
  · show 8 + (maxL + 11) + 40 * h' ≤ _
    omega
theorem zcwS {R : Room} {s : State} {args : Array Value} {index n maxL h' : Nat} {y : MethodName} {cy : ByteArray} {ret : Option FieldType} (hts : ∀ w ∈ TB, w.before args s = true) (mw : ZS own index y cy maxL ret n) (hh : h' + 1 ≤ h) (hR : h ≤ R.frames ∧ 40 * h ≤ R.locals) : CallB R s args own index y cy maxL ret (.code y cy maxL ret :: TB) (zroom h') 0 0 n ∧ (Cond.static y).before args s = true := by
  obtain ⟨h1, h2, h3⟩ := mw
  refine va_cwS n hts (goodIn_tb (fun w h => h) ?_) rfl rfl rfl h2 ⟨?_, ?_⟩
  · intro w hw
    rcases List.mem_append.mp hw with h | h
    · exact h1 w (by simp only [List.mem_cons, List.not_mem_nil, or_false] at h ⊢; rcases h with h | h | h <;> simp [h])
    · exact zws_TB (h1 _ (by simp)) w h
  · show h' + 1 ≤ _
    omega
  · show 8 + (maxL + 11) + 40 * h' ≤ _
    omega
theorem zPre {s : State} {H : Heap} {As : List Value} {sz : Nat} (hP : va_P E.1 zcls (zworld E σ) H) (hK : ZK E s) (hz : H.size = sz) : PreS s H (ZPc E As σ sz) As :=
  ⟨zblind, fun U hU hW => ⟨rfl, by rw [hU]; exact hz, by rw [hU]; exact hP, hK.warm hW⟩⟩
theorem z_sum {m : MethodId} {ls : Array Slot} {rest st0 : List Value} (hr : (rest.map fun v => v.category).sum ≤ 8) : 2 * (F0 m pc ls st0).monitorRoom + (rest.map fun v => v.category).sum ≤ 8 := by
  show 2 * 0 + _ ≤ 8
  omega
theorem z_runV {p : Program} {l : Launch} {e : Env} {R : Room} {s : State} {m : MethodId} {args : Array Value} {below : List Frame} {meth : Method} {c : Code} {H : Heap} {locs : List Loc} {cells slots nL : Nat} {ls : Array Slot} {A : Nat → Prop} {Q : State → Prop} (C : ZC E (p, l, e, R, s, m, args, below, meth, c, A, Q, nL, cells, slots) h own cc) {y : MethodName} {cy : ByteArray} {maxL h' index k ci n N : Nat} {T : u_T} {ret : Option FieldType} {As rest st0 : List Value} {Qc : Array Value → State → Outcome → State → Prop} {free : Nat → Prop} {fs : List (Option Nat)}
    (hM : Met l y (.code y cy maxL ret :: TB) (zroom h') (ZPc E (zrf E k :: As) σ H.size) Qc 0 0 free) (mw : ZV own index y cy maxL ret n) (hh : h' + 1 ≤ h) (hs : zSH[k]? = some (.inr (ci, fs))) (hc : zcls[ci]? = some (y.cls, T, N)) (hn : As.length = n) (hst : st0 = As.reverse ++ zrf E k :: rest) (hrs : (rest.map fun v => v.category).sum ≤ 8) (hd : decode cc pc = .ok (.invokevirtual index, 3)) (hP : va_P E.1 zcls (zworld E σ) H) (hl : ls.size = nL) :
    va_Run p l e R s m args below meth c H locs cells slots 0 0 (F0 m pc ls st0) rest (Qc (zrf E k :: As).toArray) free := by
  obtain ⟨hx, hb, hown, hml, hts, hK, hA1, hA2, hR1, hR2, hR3, hR4⟩ := C
  have hp := zPre (As := zrf E k :: As) (s := s) (sz := H.size) hP hK rfl
  exact va_runV (C := y.cls) (b := E.2.2.2 k) ⟨hx, hb, hml, hown, hts⟩ hM (zcwV hts mw hh ⟨hR1, hR2⟩) ⟨hp.1, va_recv hK.1 hP hc (zw_get hs), hp.2⟩ rfl hn hl hst (z_sum hrs) hd ⟨hR3, hR4⟩
theorem z_subA {s : State} {H : Heap} {A : Nat → Prop} {locs : List Loc} (hA1 : ∀ k, k < zSH.length → A (E.2.2.2 k)) (hA2 : ∀ q, s.heap.size ≤ q → A q) (hS : va_S A s.heap H locs) : ∀ q, ZA E H.size q → A q := by
  intro q hq
  rcases hq with ⟨k, h1, h2⟩ | h1
  · rw [h2]; exact hA1 k h1
  · exact hA2 q (Nat.le_trans hS.1 h1)
theorem z_callVi (C : ZC E Γ h own cc) {y : MethodName} {cy : ByteArray} {maxL h' index k ci n N : Nat} {T : u_T} {ret : Option FieldType} {As rest st0 : List Value} {fs : List (Option Nat)} {P : Int → ZSt → Prop}
    (hM : ZMi E h' y cy maxL ret (zrf E k :: As) σ P) (mw : ZV own index y cy maxL ret n) (hh : h' + 1 ≤ h) (hs : zSH[k]? = some (.inr (ci, fs))) (hc : zcls[ci]? = some (y.cls, T, N)) (hn : As.length = n) (hst : st0 = As.reverse ++ zrf E k :: rest) (hrs : (rest.map fun v => v.category).sum ≤ 8) (hd : decode cc pc = .ok (.invokevirtual index, 3))
    (kk : ∀ (r : Int) (σ' : ZSt), zRg r → zRs σ' → P r σ' → ZG E Γ (pc + 3) lv (ziv r :: rest) σ') : ZG E Γ pc lv st0 σ := by
  obtain ⟨p, l, e, R, s, m, args, below, meth, c, A, Q, nL, cells, slots⟩ := Γ
  intro H locs ls hP hS hl
  have hr := z_runV (locs := locs) (ls := ls) (pc := pc) (st0 := st0) C (hM l H.size) mw hh hs hc hn hst hrs hd hP hl.1
  obtain ⟨hx, hb, hown, hml, hts, hK, hA1, hA2, hR1, hR2, hR3, hR4⟩ := C
  have hA := z_subA hA1 hA2 hS
  exact z_after_i hr hS hA hA (fun r σ' H1 locs1 g1 g2 g3 g4 g5 => kk r σ' g1 g2 g3 H1 locs1 ls g4 g5 hl)
theorem z_callVv (C : ZC E Γ h own cc) {y : MethodName} {cy : ByteArray} {maxL h' index k ci n N : Nat} {T : u_T} {As rest st0 : List Value} {fs : List (Option Nat)} {P : ZSt → Prop}
    (hM : ZMv E h' y cy maxL (zrf E k :: As) σ P) (mw : ZV own index y cy maxL none n) (hh : h' + 1 ≤ h) (hs : zSH[k]? = some (.inr (ci, fs))) (hc : zcls[ci]? = some (y.cls, T, N)) (hn : As.length = n) (hst : st0 = As.reverse ++ zrf E k :: rest) (hrs : (rest.map fun v => v.category).sum ≤ 8) (hd : decode cc pc = .ok (.invokevirtual index, 3))
    (kk : ∀ (σ' : ZSt), zRs σ' → P σ' → ZG E Γ (pc + 3) lv rest σ') : ZG E Γ pc lv st0 σ := by
  obtain ⟨p, l, e, R, s, m, args, below, meth, c, A, Q, nL, cells, slots⟩ := Γ
  intro H locs ls hP hS hl
  have hr := z_runV (locs := locs) (ls := ls) (pc := pc) (st0 := st0) C (hM l H.size) mw hh hs hc hn hst hrs hd hP hl.1
  obtain ⟨hx, hb, hown, hml, hts, hK, hA1, hA2, hR1, hR2, hR3, hR4⟩ := C
  have hA := z_subA hA1 hA2 hS
  exact z_after_v hr hS hA hA (fun σ' H1 locs1 g2 g3 g4 g5 => kk σ' g2 g3 H1 locs1 ls g4 g5 hl)
theorem z_callSi (C : ZC E Γ h own cc) {y : MethodName} {cy : ByteArray} {maxL h' index n : Nat} {ret : Option FieldType} {As rest st0 : List Value} {P : Int → ZSt → Prop}
    (hM : ZMi E h' y cy maxL ret As σ P) (mw : ZS own index y cy maxL ret n) (hh : h' + 1 ≤ h) (hn : As.length = n) (hst : st0 = As.reverse ++ rest) (hrs : (rest.map fun v => v.category).sum ≤ 8) (hd : decode cc pc = .ok (.invokestatic index, 3))
    (kk : ∀ (r : Int) (σ' : ZSt), zRg r → zRs σ' → P r σ' → ZG E Γ (pc + 3) lv (ziv r :: rest) σ') : ZG E Γ pc lv st0 σ := by
  obtain ⟨p, l, e, R, s, m, args, below, meth, c, A, Q, nL, cells, slots⟩ := Γ
  intro H locs ls hP hS hl
  obtain ⟨hx, hb, hown, hml, hts, hK, hA1, hA2, hR1, hR2, hR3, hR4⟩ := C
  have hp := zPre (As := As) (s := s) (sz := H.size) hP hK rfl
  have hr := va_runS (p := p) (l := l) (e := e) (below := below) (meth := meth) (H := H) (locs := locs) (cells := cells) (slots := slots) (g := F0 m pc ls st0) (rest := rest) ⟨hx, hb, hml, hown, hts⟩ (hM l H.size) (zcwS hts mw hh ⟨hR1, hR2⟩) hp rfl hn hl.1 hst (z_sum hrs) hd ⟨hR3, hR4⟩
  have hA := z_subA hA1 hA2 hS
  exact z_after_i hr hS hA hA (fun r σ' H1 locs1 g1 g2 g3 g4 g5 => kk r σ' g1 g2 g3 H1 locs1 ls g4 g5 hl)
theorem z_callNi (C : ZC E Γ h own cc) {y : MethodName} {cy : ByteArray} {maxL h' index n : Nat} {ret : Option FieldType} {As rest st0 : List Value} {P : Int → ZSt → Prop}
    (hM : ZMi E h' y cy maxL ret As σ P) (mw : ZSN own index y cy maxL ret n) (hh : h' + 1 ≤ h) (hn : As.length = n) (hst : st0 = As.reverse ++ rest) (hrs : (rest.map fun v => v.category).sum ≤ 8) (hd : decode cc pc = .ok (.invokestatic index, 3))
    (kk : ∀ (r : Int) (σ' : ZSt), zRg r → zRs σ' → P r σ' → ZG E Γ (pc + 3) lv (ziv r :: rest) σ') : ZG E Γ pc lv st0 σ := by
  obtain ⟨p, l, e, R, s, m, args, below, meth, c, A, Q, nL, cells, slots⟩ := Γ
  intro H locs ls hP hS hl
  obtain ⟨hx, hb, hown, hml, hts, hK, hA1, hA2, hR1, hR2, hR3, hR4⟩ := C
  have hp := zPre (As := As) (s := s) (sz := H.size) hP hK rfl
  obtain ⟨⟨hnw, h1⟩, h2, h3⟩ := mw
  have hlink : va_Nw (.methodLinkNest own index y RX5) s := by
    rcases hnw with h | h
    · rw [h]; exact hK.2.1
    · rw [h]; exact hK.2.2.1
  have hG : GoodIn TB (.code y cy maxL ret :: TB) := goodIn_tb (fun w h => h) (zws_TB (h1 _ (by simp)))
  have hr := va_runSN (p := p) (l := l) (e := e) (below := below) (meth := meth) (H := H) (locs := locs) (cells := cells) (slots := slots) (g := F0 m pc ls st0) (rest := rest) (host := RX5) ⟨hx, hb, hml, hown, hts⟩ (hM l H.size)
    ⟨va_cnB n hts hG rfl rfl rfl hlink (hts _ (h1 _ (by simp))) h2 ⟨by show h' + 1 ≤ _; omega, by show 8 + (maxL + 11) + 40 * h' ≤ _; omega⟩, hts _ (h1 _ (by simp)), trivial⟩ hp rfl hn hl.1 hst (z_sum hrs) hd ⟨hR3, hR4⟩
  have hA := z_subA hA1 hA2 hS
  exact z_after_i hr hS hA hA (fun r σ' H1 locs1 g1 g2 g3 g4 g5 => kk r σ' g1 g2 g3 H1 locs1 ls g4 g5 hl)
-- Math.min, Math.max
def ZMt (own : String) (index : Nat) (y : MethodName) (cy : ByteArray) : Prop := ∀ w ∈ ([.methodLink own index y, .static y, .initialized "java/lang/Math", .code y cy 2 (some .int)] : List Cond), w ∈ TB
theorem z_min (C : ZC E Γ h own cc) {index : Nat} {a b : Int} (mw : ZMt own index Lib.Math.min.name Lib.Math.min.code) (ha : zRg a) (hb2 : zRg b) (hh : 1 ≤ h) (hrs : (st.map fun v => v.category).sum ≤ 8) (hd : decode cc pc = .ok (.invokestatic index, 3)) (kk : ZG E Γ (pc + 3) lv (ziv (min a b) :: st) σ) : ZG E Γ pc lv (ziv b :: ziv a :: st) σ := by
  obtain ⟨p, l, e, R, s, m, args, below, meth, c, A, Q, nL, cells, slots⟩ := Γ
  obtain ⟨hx, hb, hown, hml, hts, hK, hA1, hA2, hR1, hR2, hR3, hR4⟩ := C
  intro H locs ls hP hS hl
  refine va_mmin hx hb (by rw [hml]; exact hl.1.symm) hown (hts _ (mw _ (by simp))) (hts _ (mw _ (by simp))) (hts _ (mw _ (by simp))) (hts _ (mw _ (by simp))) (by omega) (by omega) hR3 hR4 hd ?_
  have k2 := kk H locs ls hP hS hl
  have e1 : zi (min a b) = if zi b < zi a then zi b else zi a := by
    by_cases hab : b < a
    · rw [if_pos ((zi_lt hb2 ha).mpr hab), Int.min_eq_right (by omega)]
    · rw [if_neg (fun q => hab ((zi_lt hb2 ha).mp q)), Int.min_eq_left (by omega)]
  rw [ziv, e1] at k2
  exact k2
theorem z_max (C : ZC E Γ h own cc) {index : Nat} {a b : Int} (mw : ZMt own index Lib.Math.max.name Lib.Math.max.code) (ha : zRg a) (hb2 : zRg b) (hh : 1 ≤ h) (hrs : (st.map fun v => v.category).sum ≤ 8) (hd : decode cc pc = .ok (.invokestatic index, 3)) (kk : ZG E Γ (pc + 3) lv (ziv (max a b) :: st) σ) : ZG E Γ pc lv (ziv b :: ziv a :: st) σ := by
  obtain ⟨p, l, e, R, s, m, args, below, meth, c, A, Q, nL, cells, slots⟩ := Γ
  obtain ⟨hx, hb, hown, hml, hts, hK, hA1, hA2, hR1, hR2, hR3, hR4⟩ := C
  intro H locs ls hP hS hl
  refine va_mmax hx hb (by rw [hml]; exact hl.1.symm) hown (hts _ (mw _ (by simp))) (hts _ (mw _ (by simp))) (hts _ (mw _ (by simp))) (hts _ (mw _ (by simp))) (by omega) (by omega) hR3 hR4 hd ?_
  have k2 := kk H locs ls hP hS hl
  have e1 : zi (max a b) = if zi a < zi b then zi b else zi a := by
    by_cases hab : a < b
    · rw [if_pos ((zi_lt ha hb2).mpr hab), Int.max_eq_right (by omega)]
    · rw [if_neg (fun q => hab ((zi_lt ha hb2).mp q)), Int.max_eq_left (by omega)]
  rw [ziv, e1] at k2
  exact k2
end ROWS
end
