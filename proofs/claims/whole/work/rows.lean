section
-- ===== PART A: goes FIRST, ahead of the names: the tables' words, and 'selects' of the private methods out of them =====
/-- a private method of a class that the tables say can be made, by its rows of tables_1 -/
def lw_okq (q : MethodName × Nat) : Prop := (q.1.cls ≠ "java/lang/invoke/MethodHandle" ∧ q.1.cls ≠ "java/lang/invoke/VarHandle") ∧ Cond.instantiable q.1.cls q.2 ∈ tables_1 ∧ Cond.privateMethod q.1 ∈ tables_1 ∧ Cond.instanceMethod q.1 ∈ tables_1
theorem lw_p0 : lw_okq (⟨"ExpressionPrinter", "defineOperator", "(III)I"⟩, 11) := ⟨⟨by decide +kernel, by decide +kernel⟩, List.mem_of_getElem? (i := 10) (by decide +kernel), List.mem_of_getElem? (i := 192) (by decide +kernel), List.mem_of_getElem? (i := 193) (by decide +kernel)⟩
theorem lw_p1 : lw_okq (⟨"ExpressionPrinter$OperatorTable", "associativityAt", "(I)I"⟩, 6) := ⟨⟨by decide +kernel, by decide +kernel⟩, List.mem_of_getElem? (i := 18) (by decide +kernel), List.mem_of_getElem? (i := 270) (by decide +kernel), List.mem_of_getElem? (i := 271) (by decide +kernel)⟩
theorem lw_p2 : lw_okq (⟨"ExpressionPrinter", "addOperatorNode", "(III)I"⟩, 11) := ⟨⟨by decide +kernel, by decide +kernel⟩, List.mem_of_getElem? (i := 10) (by decide +kernel), List.mem_of_getElem? (i := 312) (by decide +kernel), List.mem_of_getElem? (i := 313) (by decide +kernel)⟩
theorem lw_p3 : lw_okq (⟨"ExpressionPrinter", "writeTree", "(IZ)I"⟩, 11) := ⟨⟨by decide +kernel, by decide +kernel⟩, List.mem_of_getElem? (i := 10) (by decide +kernel), List.mem_of_getElem? (i := 374) (by decide +kernel), List.mem_of_getElem? (i := 375) (by decide +kernel)⟩
theorem lw_p4 : lw_okq (⟨"ExpressionPrinter$Writer", "markNeeded", "(I)V"⟩, 5) := ⟨⟨by decide +kernel, by decide +kernel⟩, List.mem_of_getElem? (i := 132) (by decide +kernel), List.mem_of_getElem? (i := 386) (by decide +kernel), List.mem_of_getElem? (i := 387) (by decide +kernel)⟩
theorem lw_p5 : lw_okq (⟨"ExpressionPrinter$Writer", "mark", "(I)V"⟩, 5) := ⟨⟨by decide +kernel, by decide +kernel⟩, List.mem_of_getElem? (i := 132) (by decide +kernel), List.mem_of_getElem? (i := 390) (by decide +kernel), List.mem_of_getElem? (i := 391) (by decide +kernel)⟩
theorem lw_p6 : lw_okq (⟨"ExpressionPrinter$Writer", "countNeeded", "(I)V"⟩, 5) := ⟨⟨by decide +kernel, by decide +kernel⟩, List.mem_of_getElem? (i := 132) (by decide +kernel), List.mem_of_getElem? (i := 399) (by decide +kernel), List.mem_of_getElem? (i := 400) (by decide +kernel)⟩
theorem lw_p7 : lw_okq (⟨"ExpressionPrinter$Writer", "pairsInside", "(IIII)I"⟩, 5) := ⟨⟨by decide +kernel, by decide +kernel⟩, List.mem_of_getElem? (i := 132) (by decide +kernel), List.mem_of_getElem? (i := 403) (by decide +kernel), List.mem_of_getElem? (i := 404) (by decide +kernel)⟩
theorem lw_p8 : lw_okq (⟨"ExpressionPrinter$Writer", "isReadWhole", "(III)Z"⟩, 5) := ⟨⟨by decide +kernel, by decide +kernel⟩, List.mem_of_getElem? (i := 132) (by decide +kernel), List.mem_of_getElem? (i := 408) (by decide +kernel), List.mem_of_getElem? (i := 409) (by decide +kernel)⟩
theorem lw_p9 : lw_okq (⟨"ExpressionPrinter$Writer", "pairsOfOperand", "(IIIII)I"⟩, 5) := ⟨⟨by decide +kernel, by decide +kernel⟩, List.mem_of_getElem? (i := 132) (by decide +kernel), List.mem_of_getElem? (i := 418) (by decide +kernel), List.mem_of_getElem? (i := 419) (by decide +kernel)⟩
theorem lw_p10 : lw_okq (⟨"ExpressionPrinter$Writer", "pairsIfOpen", "(IIIII)I"⟩, 5) := ⟨⟨by decide +kernel, by decide +kernel⟩, List.mem_of_getElem? (i := 132) (by decide +kernel), List.mem_of_getElem? (i := 422) (by decide +kernel), List.mem_of_getElem? (i := 423) (by decide +kernel)⟩
theorem lw_p11 : lw_okq (⟨"ExpressionPrinter$Writer", "pairsIfBracketed", "(I)I"⟩, 5) := ⟨⟨by decide +kernel, by decide +kernel⟩, List.mem_of_getElem? (i := 132) (by decide +kernel), List.mem_of_getElem? (i := 432) (by decide +kernel), List.mem_of_getElem? (i := 433) (by decide +kernel)⟩
theorem lw_p12 : lw_okq (⟨"ExpressionPrinter$Writer", "writeOperand", "(IIIII)V"⟩, 5) := ⟨⟨by decide +kernel, by decide +kernel⟩, List.mem_of_getElem? (i := 132) (by decide +kernel), List.mem_of_getElem? (i := 445) (by decide +kernel), List.mem_of_getElem? (i := 446) (by decide +kernel)⟩
theorem lw_p13 : lw_okq (⟨"ExpressionPrinter$Text", "openOf", "(I)I"⟩, 2) := ⟨⟨by decide +kernel, by decide +kernel⟩, List.mem_of_getElem? (i := 70) (by decide +kernel), List.mem_of_getElem? (i := 483) (by decide +kernel), List.mem_of_getElem? (i := 484) (by decide +kernel)⟩
theorem lw_p14 : lw_okq (⟨"ExpressionPrinter$Text", "closeOf", "(I)I"⟩, 2) := ⟨⟨by decide +kernel, by decide +kernel⟩, List.mem_of_getElem? (i := 70) (by decide +kernel), List.mem_of_getElem? (i := 487) (by decide +kernel), List.mem_of_getElem? (i := 488) (by decide +kernel)⟩
theorem lw_p15 : lw_okq (⟨"ExpressionPrinter$Reader", "start", "()V"⟩, 14) := ⟨⟨by decide +kernel, by decide +kernel⟩, List.mem_of_getElem? (i := 83) (by decide +kernel), List.mem_of_getElem? (i := 500) (by decide +kernel), List.mem_of_getElem? (i := 501) (by decide +kernel)⟩
def lw_privs_1 : List (MethodName × Nat) := [(⟨"ExpressionPrinter", "defineOperator", "(III)I"⟩, 11), (⟨"ExpressionPrinter$OperatorTable", "associativityAt", "(I)I"⟩, 6), (⟨"ExpressionPrinter", "addOperatorNode", "(III)I"⟩, 11), (⟨"ExpressionPrinter", "writeTree", "(IZ)I"⟩, 11), (⟨"ExpressionPrinter$Writer", "markNeeded", "(I)V"⟩, 5), (⟨"ExpressionPrinter$Writer", "mark", "(I)V"⟩, 5), (⟨"ExpressionPrinter$Writer", "countNeeded", "(I)V"⟩, 5), (⟨"ExpressionPrinter$Writer", "pairsInside", "(IIII)I"⟩, 5), (⟨"ExpressionPrinter$Writer", "isReadWhole", "(III)Z"⟩, 5), (⟨"ExpressionPrinter$Writer", "pairsOfOperand", "(IIIII)I"⟩, 5), (⟨"ExpressionPrinter$Writer", "pairsIfOpen", "(IIIII)I"⟩, 5), (⟨"ExpressionPrinter$Writer", "pairsIfBracketed", "(I)I"⟩, 5), (⟨"ExpressionPrinter$Writer", "writeOperand", "(IIIII)V"⟩, 5), (⟨"ExpressionPrinter$Text", "openOf", "(I)I"⟩, 2), (⟨"ExpressionPrinter$Text", "closeOf", "(I)I"⟩, 2), (⟨"ExpressionPrinter$Reader", "start", "()V"⟩, 14)]
theorem lw_r1 : ∀ q ∈ lw_privs_1, lw_okq q := List.forall_mem_cons.mpr ⟨lw_p0, List.forall_mem_cons.mpr ⟨lw_p1, List.forall_mem_cons.mpr ⟨lw_p2, List.forall_mem_cons.mpr ⟨lw_p3, List.forall_mem_cons.mpr ⟨lw_p4, List.forall_mem_cons.mpr ⟨lw_p5, List.forall_mem_cons.mpr ⟨lw_p6, List.forall_mem_cons.mpr ⟨lw_p7, List.forall_mem_cons.mpr ⟨lw_p8, List.forall_mem_cons.mpr ⟨lw_p9, List.forall_mem_cons.mpr ⟨lw_p10, List.forall_mem_cons.mpr ⟨lw_p11, List.forall_mem_cons.mpr ⟨lw_p12, List.forall_mem_cons.mpr ⟨lw_p13, List.forall_mem_cons.mpr ⟨lw_p14, List.forall_mem_cons.mpr ⟨lw_p15, fun _ h => absurd h List.not_mem_nil⟩⟩⟩⟩⟩⟩⟩⟩⟩⟩⟩⟩⟩⟩⟩⟩
theorem lw_p16 : lw_okq (⟨"ExpressionPrinter$Reader", "readOperand", "()V"⟩, 14) := ⟨⟨by decide +kernel, by decide +kernel⟩, List.mem_of_getElem? (i := 83) (by decide +kernel), List.mem_of_getElem? (i := 508) (by decide +kernel), List.mem_of_getElem? (i := 509) (by decide +kernel)⟩
theorem lw_p17 : lw_okq (⟨"ExpressionPrinter$Reader", "takeLeftSide", "(I)V"⟩, 14) := ⟨⟨by decide +kernel, by decide +kernel⟩, List.mem_of_getElem? (i := 83) (by decide +kernel), List.mem_of_getElem? (i := 516) (by decide +kernel), List.mem_of_getElem? (i := 517) (by decide +kernel)⟩
theorem lw_p18 : lw_okq (⟨"ExpressionPrinter$Reader", "openFrame", "(II)V"⟩, 14) := ⟨⟨by decide +kernel, by decide +kernel⟩, List.mem_of_getElem? (i := 83) (by decide +kernel), List.mem_of_getElem? (i := 520) (by decide +kernel), List.mem_of_getElem? (i := 521) (by decide +kernel)⟩
theorem lw_p19 : lw_okq (⟨"ExpressionPrinter$Reader", "fail", "(II)V"⟩, 14) := ⟨⟨by decide +kernel, by decide +kernel⟩, List.mem_of_getElem? (i := 83) (by decide +kernel), List.mem_of_getElem? (i := 524) (by decide +kernel), List.mem_of_getElem? (i := 525) (by decide +kernel)⟩
theorem lw_p20 : lw_okq (⟨"ExpressionPrinter$Reader", "readOperator", "()V"⟩, 14) := ⟨⟨by decide +kernel, by decide +kernel⟩, List.mem_of_getElem? (i := 83) (by decide +kernel), List.mem_of_getElem? (i := 528) (by decide +kernel), List.mem_of_getElem? (i := 529) (by decide +kernel)⟩
theorem lw_p21 : lw_okq (⟨"ExpressionPrinter$Reader", "endFrame", "()V"⟩, 14) := ⟨⟨by decide +kernel, by decide +kernel⟩, List.mem_of_getElem? (i := 83) (by decide +kernel), List.mem_of_getElem? (i := 532) (by decide +kernel), List.mem_of_getElem? (i := 533) (by decide +kernel)⟩
theorem lw_p22 : lw_okq (⟨"ExpressionPrinter$Reader", "topFrame", "()I"⟩, 14) := ⟨⟨by decide +kernel, by decide +kernel⟩, List.mem_of_getElem? (i := 83) (by decide +kernel), List.mem_of_getElem? (i := 536) (by decide +kernel), List.mem_of_getElem? (i := 537) (by decide +kernel)⟩
theorem lw_p23 : lw_okq (⟨"ExpressionPrinter$Reader", "endText", "()V"⟩, 14) := ⟨⟨by decide +kernel, by decide +kernel⟩, List.mem_of_getElem? (i := 83) (by decide +kernel), List.mem_of_getElem? (i := 540) (by decide +kernel), List.mem_of_getElem? (i := 541) (by decide +kernel)⟩
theorem lw_p24 : lw_okq (⟨"ExpressionPrinter$Reader", "endBracket", "()V"⟩, 14) := ⟨⟨by decide +kernel, by decide +kernel⟩, List.mem_of_getElem? (i := 83) (by decide +kernel), List.mem_of_getElem? (i := 544) (by decide +kernel), List.mem_of_getElem? (i := 545) (by decide +kernel)⟩
theorem lw_p25 : lw_okq (⟨"ExpressionPrinter$Reader", "completeNode", "(I)V"⟩, 14) := ⟨⟨by decide +kernel, by decide +kernel⟩, List.mem_of_getElem? (i := 83) (by decide +kernel), List.mem_of_getElem? (i := 548) (by decide +kernel), List.mem_of_getElem? (i := 549) (by decide +kernel)⟩
theorem lw_p26 : lw_okq (⟨"ExpressionPrinter$Reader", "isForbiddenUnder", "(I)Z"⟩, 14) := ⟨⟨by decide +kernel, by decide +kernel⟩, List.mem_of_getElem? (i := 83) (by decide +kernel), List.mem_of_getElem? (i := 552) (by decide +kernel), List.mem_of_getElem? (i := 553) (by decide +kernel)⟩
theorem lw_p27 : lw_okq (⟨"ExpressionPrinter$Reader", "frameMin", "()I"⟩, 14) := ⟨⟨by decide +kernel, by decide +kernel⟩, List.mem_of_getElem? (i := 83) (by decide +kernel), List.mem_of_getElem? (i := 559) (by decide +kernel), List.mem_of_getElem? (i := 560) (by decide +kernel)⟩
theorem lw_p28 : lw_okq (⟨"ExpressionPrinter$Reader", "joinLeftSide", "(I)V"⟩, 14) := ⟨⟨by decide +kernel, by decide +kernel⟩, List.mem_of_getElem? (i := 83) (by decide +kernel), List.mem_of_getElem? (i := 564) (by decide +kernel), List.mem_of_getElem? (i := 565) (by decide +kernel)⟩
theorem lw_p29 : lw_okq (⟨"ExpressionPrinterModel", "define", "(III)I"⟩, 40) := ⟨⟨by decide +kernel, by decide +kernel⟩, List.mem_of_getElem? (i := 619) (by decide +kernel), List.mem_of_getElem? (i := 750) (by decide +kernel), List.mem_of_getElem? (i := 751) (by decide +kernel)⟩
theorem lw_p30 : lw_okq (⟨"ExpressionPrinterModel", "operatorFor", "(IZ)I"⟩, 40) := ⟨⟨by decide +kernel, by decide +kernel⟩, List.mem_of_getElem? (i := 619) (by decide +kernel), List.mem_of_getElem? (i := 760) (by decide +kernel), List.mem_of_getElem? (i := 761) (by decide +kernel)⟩
theorem lw_p31 : lw_okq (⟨"ExpressionPrinterModel", "isOperator", "(I)Z"⟩, 40) := ⟨⟨by decide +kernel, by decide +kernel⟩, List.mem_of_getElem? (i := 619) (by decide +kernel), List.mem_of_getElem? (i := 780) (by decide +kernel), List.mem_of_getElem? (i := 781) (by decide +kernel)⟩
def lw_privs_2 : List (MethodName × Nat) := [(⟨"ExpressionPrinter$Reader", "readOperand", "()V"⟩, 14), (⟨"ExpressionPrinter$Reader", "takeLeftSide", "(I)V"⟩, 14), (⟨"ExpressionPrinter$Reader", "openFrame", "(II)V"⟩, 14), (⟨"ExpressionPrinter$Reader", "fail", "(II)V"⟩, 14), (⟨"ExpressionPrinter$Reader", "readOperator", "()V"⟩, 14), (⟨"ExpressionPrinter$Reader", "endFrame", "()V"⟩, 14), (⟨"ExpressionPrinter$Reader", "topFrame", "()I"⟩, 14), (⟨"ExpressionPrinter$Reader", "endText", "()V"⟩, 14), (⟨"ExpressionPrinter$Reader", "endBracket", "()V"⟩, 14), (⟨"ExpressionPrinter$Reader", "completeNode", "(I)V"⟩, 14), (⟨"ExpressionPrinter$Reader", "isForbiddenUnder", "(I)Z"⟩, 14), (⟨"ExpressionPrinter$Reader", "frameMin", "()I"⟩, 14), (⟨"ExpressionPrinter$Reader", "joinLeftSide", "(I)V"⟩, 14), (⟨"ExpressionPrinterModel", "define", "(III)I"⟩, 40), (⟨"ExpressionPrinterModel", "operatorFor", "(IZ)I"⟩, 40), (⟨"ExpressionPrinterModel", "isOperator", "(I)Z"⟩, 40)]
theorem lw_r2 : ∀ q ∈ lw_privs_2, lw_okq q := List.forall_mem_cons.mpr ⟨lw_p16, List.forall_mem_cons.mpr ⟨lw_p17, List.forall_mem_cons.mpr ⟨lw_p18, List.forall_mem_cons.mpr ⟨lw_p19, List.forall_mem_cons.mpr ⟨lw_p20, List.forall_mem_cons.mpr ⟨lw_p21, List.forall_mem_cons.mpr ⟨lw_p22, List.forall_mem_cons.mpr ⟨lw_p23, List.forall_mem_cons.mpr ⟨lw_p24, List.forall_mem_cons.mpr ⟨lw_p25, List.forall_mem_cons.mpr ⟨lw_p26, List.forall_mem_cons.mpr ⟨lw_p27, List.forall_mem_cons.mpr ⟨lw_p28, List.forall_mem_cons.mpr ⟨lw_p29, List.forall_mem_cons.mpr ⟨lw_p30, List.forall_mem_cons.mpr ⟨lw_p31, fun _ h => absurd h List.not_mem_nil⟩⟩⟩⟩⟩⟩⟩⟩⟩⟩⟩⟩⟩⟩⟩⟩
theorem lw_p32 : lw_okq (⟨"ExpressionPrinterModel", "addNode", "(IIII)I"⟩, 40) := ⟨⟨by decide +kernel, by decide +kernel⟩, List.mem_of_getElem? (i := 619) (by decide +kernel), List.mem_of_getElem? (i := 804) (by decide +kernel), List.mem_of_getElem? (i := 805) (by decide +kernel)⟩
theorem lw_p33 : lw_okq (⟨"ExpressionPrinterModel", "isNode", "(I)Z"⟩, 40) := ⟨⟨by decide +kernel, by decide +kernel⟩, List.mem_of_getElem? (i := 619) (by decide +kernel), List.mem_of_getElem? (i := 812) (by decide +kernel), List.mem_of_getElem? (i := 813) (by decide +kernel)⟩
theorem lw_p34 : lw_okq (⟨"ExpressionPrinterModel", "printTree", "(IZ)I"⟩, 40) := ⟨⟨by decide +kernel, by decide +kernel⟩, List.mem_of_getElem? (i := 619) (by decide +kernel), List.mem_of_getElem? (i := 848) (by decide +kernel), List.mem_of_getElem? (i := 849) (by decide +kernel)⟩
theorem lw_p35 : lw_okq (⟨"ExpressionPrinterModel", "layCosts", "(I)V"⟩, 40) := ⟨⟨by decide +kernel, by decide +kernel⟩, List.mem_of_getElem? (i := 619) (by decide +kernel), List.mem_of_getElem? (i := 852) (by decide +kernel), List.mem_of_getElem? (i := 853) (by decide +kernel)⟩
theorem lw_p36 : lw_okq (⟨"ExpressionPrinterModel", "costOf", "(III)I"⟩, 40) := ⟨⟨by decide +kernel, by decide +kernel⟩, List.mem_of_getElem? (i := 619) (by decide +kernel), List.mem_of_getElem? (i := 856) (by decide +kernel), List.mem_of_getElem? (i := 857) (by decide +kernel)⟩
theorem lw_p37 : lw_okq (⟨"ExpressionPrinterModel", "operandCost", "(IIIIZ)I"⟩, 40) := ⟨⟨by decide +kernel, by decide +kernel⟩, List.mem_of_getElem? (i := 619) (by decide +kernel), List.mem_of_getElem? (i := 860) (by decide +kernel), List.mem_of_getElem? (i := 861) (by decide +kernel)⟩
theorem lw_p38 : lw_okq (⟨"ExpressionPrinterModel", "bareCost", "(IIIIZ)I"⟩, 40) := ⟨⟨by decide +kernel, by decide +kernel⟩, List.mem_of_getElem? (i := 619) (by decide +kernel), List.mem_of_getElem? (i := 864) (by decide +kernel), List.mem_of_getElem? (i := 865) (by decide +kernel)⟩
theorem lw_p39 : lw_okq (⟨"ExpressionPrinterModel", "mayBeBare", "(IIZ)Z"⟩, 40) := ⟨⟨by decide +kernel, by decide +kernel⟩, List.mem_of_getElem? (i := 619) (by decide +kernel), List.mem_of_getElem? (i := 868) (by decide +kernel), List.mem_of_getElem? (i := 869) (by decide +kernel)⟩
theorem lw_p40 : lw_okq (⟨"ExpressionPrinterModel", "isBarred", "(II)Z"⟩, 40) := ⟨⟨by decide +kernel, by decide +kernel⟩, List.mem_of_getElem? (i := 619) (by decide +kernel), List.mem_of_getElem? (i := 872) (by decide +kernel), List.mem_of_getElem? (i := 873) (by decide +kernel)⟩
theorem lw_p41 : lw_okq (⟨"ExpressionPrinterModel", "isClash", "(II)Z"⟩, 40) := ⟨⟨by decide +kernel, by decide +kernel⟩, List.mem_of_getElem? (i := 619) (by decide +kernel), List.mem_of_getElem? (i := 876) (by decide +kernel), List.mem_of_getElem? (i := 877) (by decide +kernel)⟩
theorem lw_p42 : lw_okq (⟨"ExpressionPrinterModel", "rightLevel", "(I)I"⟩, 40) := ⟨⟨by decide +kernel, by decide +kernel⟩, List.mem_of_getElem? (i := 619) (by decide +kernel), List.mem_of_getElem? (i := 883) (by decide +kernel), List.mem_of_getElem? (i := 884) (by decide +kernel)⟩
theorem lw_p43 : lw_okq (⟨"ExpressionPrinterModel", "push", "(IIII)V"⟩, 40) := ⟨⟨by decide +kernel, by decide +kernel⟩, List.mem_of_getElem? (i := 619) (by decide +kernel), List.mem_of_getElem? (i := 887) (by decide +kernel), List.mem_of_getElem? (i := 888) (by decide +kernel)⟩
theorem lw_p44 : lw_okq (⟨"ExpressionPrinterModel", "write", "(I)V"⟩, 40) := ⟨⟨by decide +kernel, by decide +kernel⟩, List.mem_of_getElem? (i := 619) (by decide +kernel), List.mem_of_getElem? (i := 891) (by decide +kernel), List.mem_of_getElem? (i := 892) (by decide +kernel)⟩
theorem lw_p45 : lw_okq (⟨"ExpressionPrinterModel", "pushParts", "(IIIZ)V"⟩, 40) := ⟨⟨by decide +kernel, by decide +kernel⟩, List.mem_of_getElem? (i := 619) (by decide +kernel), List.mem_of_getElem? (i := 895) (by decide +kernel), List.mem_of_getElem? (i := 896) (by decide +kernel)⟩
theorem lw_p46 : lw_okq (⟨"ExpressionPrinterModel", "pushOperand", "(IIIIZZ)V"⟩, 40) := ⟨⟨by decide +kernel, by decide +kernel⟩, List.mem_of_getElem? (i := 619) (by decide +kernel), List.mem_of_getElem? (i := 899) (by decide +kernel), List.mem_of_getElem? (i := 900) (by decide +kernel)⟩
theorem lw_p47 : lw_okq (⟨"ExpressionPrinterModel", "openingOf", "(I)I"⟩, 40) := ⟨⟨by decide +kernel, by decide +kernel⟩, List.mem_of_getElem? (i := 619) (by decide +kernel), List.mem_of_getElem? (i := 920) (by decide +kernel), List.mem_of_getElem? (i := 921) (by decide +kernel)⟩
def lw_privs_3 : List (MethodName × Nat) := [(⟨"ExpressionPrinterModel", "addNode", "(IIII)I"⟩, 40), (⟨"ExpressionPrinterModel", "isNode", "(I)Z"⟩, 40), (⟨"ExpressionPrinterModel", "printTree", "(IZ)I"⟩, 40), (⟨"ExpressionPrinterModel", "layCosts", "(I)V"⟩, 40), (⟨"ExpressionPrinterModel", "costOf", "(III)I"⟩, 40), (⟨"ExpressionPrinterModel", "operandCost", "(IIIIZ)I"⟩, 40), (⟨"ExpressionPrinterModel", "bareCost", "(IIIIZ)I"⟩, 40), (⟨"ExpressionPrinterModel", "mayBeBare", "(IIZ)Z"⟩, 40), (⟨"ExpressionPrinterModel", "isBarred", "(II)Z"⟩, 40), (⟨"ExpressionPrinterModel", "isClash", "(II)Z"⟩, 40), (⟨"ExpressionPrinterModel", "rightLevel", "(I)I"⟩, 40), (⟨"ExpressionPrinterModel", "push", "(IIII)V"⟩, 40), (⟨"ExpressionPrinterModel", "write", "(I)V"⟩, 40), (⟨"ExpressionPrinterModel", "pushParts", "(IIIZ)V"⟩, 40), (⟨"ExpressionPrinterModel", "pushOperand", "(IIIIZZ)V"⟩, 40), (⟨"ExpressionPrinterModel", "openingOf", "(I)I"⟩, 40)]
theorem lw_r3 : ∀ q ∈ lw_privs_3, lw_okq q := List.forall_mem_cons.mpr ⟨lw_p32, List.forall_mem_cons.mpr ⟨lw_p33, List.forall_mem_cons.mpr ⟨lw_p34, List.forall_mem_cons.mpr ⟨lw_p35, List.forall_mem_cons.mpr ⟨lw_p36, List.forall_mem_cons.mpr ⟨lw_p37, List.forall_mem_cons.mpr ⟨lw_p38, List.forall_mem_cons.mpr ⟨lw_p39, List.forall_mem_cons.mpr ⟨lw_p40, List.forall_mem_cons.mpr ⟨lw_p41, List.forall_mem_cons.mpr ⟨lw_p42, List.forall_mem_cons.mpr ⟨lw_p43, List.forall_mem_cons.mpr ⟨lw_p44, List.forall_mem_cons.mpr ⟨lw_p45, List.forall_mem_cons.mpr ⟨lw_p46, List.forall_mem_cons.mpr ⟨lw_p47, fun _ h => absurd h List.not_mem_nil⟩⟩⟩⟩⟩⟩⟩⟩⟩⟩⟩⟩⟩⟩⟩⟩
theorem lw_p48 : lw_okq (⟨"ExpressionPrinterModel", "closingOf", "(I)I"⟩, 40) := ⟨⟨by decide +kernel, by decide +kernel⟩, List.mem_of_getElem? (i := 619) (by decide +kernel), List.mem_of_getElem? (i := 924) (by decide +kernel), List.mem_of_getElem? (i := 925) (by decide +kernel)⟩
theorem lw_p49 : lw_okq (⟨"ExpressionPrinterModel", "readAll", "()Z"⟩, 40) := ⟨⟨by decide +kernel, by decide +kernel⟩, List.mem_of_getElem? (i := 619) (by decide +kernel), List.mem_of_getElem? (i := 928) (by decide +kernel), List.mem_of_getElem? (i := 929) (by decide +kernel)⟩
theorem lw_p50 : lw_okq (⟨"ExpressionPrinterModel", "readOperand", "()V"⟩, 40) := ⟨⟨by decide +kernel, by decide +kernel⟩, List.mem_of_getElem? (i := 619) (by decide +kernel), List.mem_of_getElem? (i := 932) (by decide +kernel), List.mem_of_getElem? (i := 933) (by decide +kernel)⟩
theorem lw_p51 : lw_okq (⟨"ExpressionPrinterModel", "addRead", "(IIII)I"⟩, 40) := ⟨⟨by decide +kernel, by decide +kernel⟩, List.mem_of_getElem? (i := 619) (by decide +kernel), List.mem_of_getElem? (i := 936) (by decide +kernel), List.mem_of_getElem? (i := 937) (by decide +kernel)⟩
theorem lw_p52 : lw_okq (⟨"ExpressionPrinterModel", "openCall", "(IIII)V"⟩, 40) := ⟨⟨by decide +kernel, by decide +kernel⟩, List.mem_of_getElem? (i := 619) (by decide +kernel), List.mem_of_getElem? (i := 940) (by decide +kernel), List.mem_of_getElem? (i := 941) (by decide +kernel)⟩
theorem lw_p53 : lw_okq (⟨"ExpressionPrinterModel", "fail", "(II)V"⟩, 40) := ⟨⟨by decide +kernel, by decide +kernel⟩, List.mem_of_getElem? (i := 619) (by decide +kernel), List.mem_of_getElem? (i := 944) (by decide +kernel), List.mem_of_getElem? (i := 945) (by decide +kernel)⟩
theorem lw_p54 : lw_okq (⟨"ExpressionPrinterModel", "goOn", "()Z"⟩, 40) := ⟨⟨by decide +kernel, by decide +kernel⟩, List.mem_of_getElem? (i := 619) (by decide +kernel), List.mem_of_getElem? (i := 948) (by decide +kernel), List.mem_of_getElem? (i := 949) (by decide +kernel)⟩
theorem lw_p55 : lw_okq (⟨"ExpressionPrinterModel", "readPostfix", "(I)V"⟩, 40) := ⟨⟨by decide +kernel, by decide +kernel⟩, List.mem_of_getElem? (i := 619) (by decide +kernel), List.mem_of_getElem? (i := 952) (by decide +kernel), List.mem_of_getElem? (i := 953) (by decide +kernel)⟩
theorem lw_p56 : lw_okq (⟨"ExpressionPrinterModel", "isBareAndBarred", "(I)Z"⟩, 40) := ⟨⟨by decide +kernel, by decide +kernel⟩, List.mem_of_getElem? (i := 619) (by decide +kernel), List.mem_of_getElem? (i := 956) (by decide +kernel), List.mem_of_getElem? (i := 957) (by decide +kernel)⟩
theorem lw_p57 : lw_okq (⟨"ExpressionPrinterModel", "readInfix", "(I)V"⟩, 40) := ⟨⟨by decide +kernel, by decide +kernel⟩, List.mem_of_getElem? (i := 619) (by decide +kernel), List.mem_of_getElem? (i := 960) (by decide +kernel), List.mem_of_getElem? (i := 961) (by decide +kernel)⟩
theorem lw_p58 : lw_okq (⟨"ExpressionPrinterModel", "endCall", "()V"⟩, 40) := ⟨⟨by decide +kernel, by decide +kernel⟩, List.mem_of_getElem? (i := 619) (by decide +kernel), List.mem_of_getElem? (i := 964) (by decide +kernel), List.mem_of_getElem? (i := 965) (by decide +kernel)⟩
theorem lw_p59 : lw_okq (⟨"ExpressionPrinterModel", "isSameAs", "(I)Z"⟩, 40) := ⟨⟨by decide +kernel, by decide +kernel⟩, List.mem_of_getElem? (i := 619) (by decide +kernel), List.mem_of_getElem? (i := 968) (by decide +kernel), List.mem_of_getElem? (i := 969) (by decide +kernel)⟩
def lw_privs_4 : List (MethodName × Nat) := [(⟨"ExpressionPrinterModel", "closingOf", "(I)I"⟩, 40), (⟨"ExpressionPrinterModel", "readAll", "()Z"⟩, 40), (⟨"ExpressionPrinterModel", "readOperand", "()V"⟩, 40), (⟨"ExpressionPrinterModel", "addRead", "(IIII)I"⟩, 40), (⟨"ExpressionPrinterModel", "openCall", "(IIII)V"⟩, 40), (⟨"ExpressionPrinterModel", "fail", "(II)V"⟩, 40), (⟨"ExpressionPrinterModel", "goOn", "()Z"⟩, 40), (⟨"ExpressionPrinterModel", "readPostfix", "(I)V"⟩, 40), (⟨"ExpressionPrinterModel", "isBareAndBarred", "(I)Z"⟩, 40), (⟨"ExpressionPrinterModel", "readInfix", "(I)V"⟩, 40), (⟨"ExpressionPrinterModel", "endCall", "()V"⟩, 40), (⟨"ExpressionPrinterModel", "isSameAs", "(I)Z"⟩, 40)]
theorem lw_r4 : ∀ q ∈ lw_privs_4, lw_okq q := List.forall_mem_cons.mpr ⟨lw_p48, List.forall_mem_cons.mpr ⟨lw_p49, List.forall_mem_cons.mpr ⟨lw_p50, List.forall_mem_cons.mpr ⟨lw_p51, List.forall_mem_cons.mpr ⟨lw_p52, List.forall_mem_cons.mpr ⟨lw_p53, List.forall_mem_cons.mpr ⟨lw_p54, List.forall_mem_cons.mpr ⟨lw_p55, List.forall_mem_cons.mpr ⟨lw_p56, List.forall_mem_cons.mpr ⟨lw_p57, List.forall_mem_cons.mpr ⟨lw_p58, List.forall_mem_cons.mpr ⟨lw_p59, fun _ h => absurd h List.not_mem_nil⟩⟩⟩⟩⟩⟩⟩⟩⟩⟩⟩⟩
def lw_privs : List (MethodName × Nat) := lw_privs_1 ++ (lw_privs_2 ++ (lw_privs_3 ++ (lw_privs_4)))
def lw_tbl : List Cond := k2_sels lw_privs ++ tables_1
theorem lw_privs_ok : ∀ q ∈ lw_privs, lw_okq q := by
  show ∀ q ∈ lw_privs_1 ++ (lw_privs_2 ++ (lw_privs_3 ++ (lw_privs_4))), lw_okq q
  exact List.forall_mem_append.mpr ⟨lw_r1, List.forall_mem_append.mpr ⟨lw_r2, List.forall_mem_append.mpr ⟨lw_r3, lw_r4⟩⟩⟩
end
section
/-! names of the classes, fields and methods (begun as the printed names of this claim) -/
def RX0 : String := "ExpressionPrinter$NodeTable"
def TX0 : u_T := fun k => match k with
  | 0 => ("ExpressionPrinter$NodeTable", "operators", "[I", true)
  | 1 => ("ExpressionPrinter$NodeTable", "letters", "[I", true)
  | 2 => ("ExpressionPrinter$NodeTable", "befores", "[I", true)
  | 3 => ("ExpressionPrinter$NodeTable", "afters", "[I", true)
  | 4 => ("ExpressionPrinter$NodeTable", "sizes", "[I", true)
  | _ => ("ExpressionPrinter$NodeTable", "count", "I", false)
def tyX0 : Nat → FieldType := fun k => match k with
  | 0 => .array .int
  | 1 => .array .int
  | 2 => .array .int
  | 3 => .array .int
  | 4 => .array .int
  | _ => .int
abbrev wsX00 : List Cond := u_ws RX0 TX0 6
theorem nmX0 : ∀ a, a < 6 → ∀ b, b < 6 → a ≠ b → (TX0 a).2.1 ≠ (TX0 b).2.1 := by decide +kernel
theorem tyX0_ok : ∀ k, k < 6 → parseFieldDescriptor (TX0 k).2.2.1 = some (tyX0 k) := by decide +kernel
abbrev cX0_init : ByteArray := prog_2_method_1_code
def yX0_init : MethodName := ⟨RX0, "<init>", "()V"⟩
abbrev cX0_count : ByteArray := prog_2_method_2_code
def yX0_count : MethodName := ⟨RX0, "count", "()I"⟩
abbrev cX0_last : ByteArray := prog_2_method_3_code
def yX0_last : MethodName := ⟨RX0, "last", "()I"⟩
abbrev cX0_has : ByteArray := prog_2_method_4_code
def yX0_has : MethodName := ⟨RX0, "has", "(I)Z"⟩
abbrev cX0_empty : ByteArray := prog_2_method_5_code
def yX0_empty : MethodName := ⟨RX0, "empty", "()V"⟩
abbrev cX0_add : ByteArray := prog_2_method_6_code
def yX0_add : MethodName := ⟨RX0, "add", "(IIII)I"⟩
abbrev cX0_addAllOf : ByteArray := prog_2_method_7_code
def yX0_addAllOf : MethodName := ⟨RX0, "addAllOf", "(LExpressionPrinter$NodeTable;)V"⟩
abbrev cX0_shifted : ByteArray := prog_2_method_8_code
def yX0_shifted : MethodName := ⟨RX0, "shifted", "(II)I"⟩
abbrev cX0_operatorAt : ByteArray := prog_2_method_9_code
def yX0_operatorAt : MethodName := ⟨RX0, "operatorAt", "(I)I"⟩
abbrev cX0_letterAt : ByteArray := prog_2_method_10_code
def yX0_letterAt : MethodName := ⟨RX0, "letterAt", "(I)I"⟩
abbrev cX0_beforeAt : ByteArray := prog_2_method_11_code
def yX0_beforeAt : MethodName := ⟨RX0, "beforeAt", "(I)I"⟩
abbrev cX0_afterAt : ByteArray := prog_2_method_12_code
def yX0_afterAt : MethodName := ⟨RX0, "afterAt", "(I)I"⟩
abbrev cX0_sizeAt : ByteArray := prog_2_method_13_code
def yX0_sizeAt : MethodName := ⟨RX0, "sizeAt", "(I)I"⟩
abbrev cX0_operandAt : ByteArray := prog_2_method_14_code
def yX0_operandAt : MethodName := ⟨RX0, "operandAt", "(II)I"⟩
def RX1 : String := "ExpressionPrinter$OperatorTable"
def TX1 : u_T := fun k => match k with
  | 0 => ("ExpressionPrinter$OperatorTable", "symbols", "[I", true)
  | 1 => ("ExpressionPrinter$OperatorTable", "kinds", "[I", true)
  | 2 => ("ExpressionPrinter$OperatorTable", "levels", "[I", true)
  | 3 => ("ExpressionPrinter$OperatorTable", "associativities", "[I", true)
  | 4 => ("ExpressionPrinter$OperatorTable", "forbiddenPairs", "[Z", true)
  | _ => ("ExpressionPrinter$OperatorTable", "count", "I", false)
def tyX1 : Nat → FieldType := fun k => match k with
  | 0 => .array .int
  | 1 => .array .int
  | 2 => .array .int
  | 3 => .array .int
  | 4 => .array .boolean
  | _ => .int
abbrev wsX10 : List Cond := u_ws RX1 TX1 6
theorem nmX1 : ∀ a, a < 6 → ∀ b, b < 6 → a ≠ b → (TX1 a).2.1 ≠ (TX1 b).2.1 := by decide +kernel
theorem tyX1_ok : ∀ k, k < 6 → parseFieldDescriptor (TX1 k).2.2.1 = some (tyX1 k) := by decide +kernel
abbrev cX1_init : ByteArray := prog_3_method_1_code
def yX1_init : MethodName := ⟨RX1, "<init>", "()V"⟩
abbrev cX1_count : ByteArray := prog_3_method_2_code
def yX1_count : MethodName := ⟨RX1, "count", "()I"⟩
abbrev cX1_has : ByteArray := prog_3_method_3_code
def yX1_has : MethodName := ⟨RX1, "has", "(I)Z"⟩
abbrev cX1_add : ByteArray := prog_3_method_4_code
def yX1_add : MethodName := ⟨RX1, "add", "(III)I"⟩
abbrev cX1_find : ByteArray := prog_3_method_5_code
def yX1_find : MethodName := ⟨RX1, "find", "(IZ)I"⟩
abbrev cX1_symbolAt : ByteArray := prog_3_method_6_code
def yX1_symbolAt : MethodName := ⟨RX1, "symbolAt", "(I)I"⟩
abbrev cX1_kindAt : ByteArray := prog_3_method_7_code
def yX1_kindAt : MethodName := ⟨RX1, "kindAt", "(I)I"⟩
abbrev cX1_levelAt : ByteArray := prog_3_method_8_code
def yX1_levelAt : MethodName := ⟨RX1, "levelAt", "(I)I"⟩
abbrev cX1_replaceLevel : ByteArray := prog_3_method_9_code
def yX1_replaceLevel : MethodName := ⟨RX1, "replaceLevel", "(II)I"⟩
abbrev cX1_associativityAt : ByteArray := prog_3_method_10_code
def yX1_associativityAt : MethodName := ⟨RX1, "associativityAt", "(I)I"⟩
abbrev cX1_replaceAssociativity : ByteArray := prog_3_method_11_code
def yX1_replaceAssociativity : MethodName := ⟨RX1, "replaceAssociativity", "(II)I"⟩
abbrev cX1_isForbidden : ByteArray := prog_3_method_12_code
def yX1_isForbidden : MethodName := ⟨RX1, "isForbidden", "(II)Z"⟩
abbrev cX1_replaceForbidden : ByteArray := prog_3_method_13_code
def yX1_replaceForbidden : MethodName := ⟨RX1, "replaceForbidden", "(IIZ)Z"⟩
abbrev cX1_minAfter : ByteArray := prog_3_method_14_code
def yX1_minAfter : MethodName := ⟨RX1, "minAfter", "(I)I"⟩
abbrev cX1_isNotAssociative : ByteArray := prog_3_method_15_code
def yX1_isNotAssociative : MethodName := ⟨RX1, "isNotAssociative", "(II)Z"⟩
def RX2 : String := "ExpressionPrinter$Reader"
def TX2 : u_T := fun k => match k with
  | 0 => ("ExpressionPrinter$Reader", "operators", "LExpressionPrinter$OperatorTable;", true)
  | 1 => ("ExpressionPrinter$Reader", "nodes", "LExpressionPrinter$NodeTable;", true)
  | 2 => ("ExpressionPrinter$Reader", "text", "LExpressionPrinter$Text;", true)
  | 3 => ("ExpressionPrinter$Reader", "frameOperators", "[I", true)
  | 4 => ("ExpressionPrinter$Reader", "framePositions", "[I", true)
  | 5 => ("ExpressionPrinter$Reader", "frameBefores", "[I", true)
  | 6 => ("ExpressionPrinter$Reader", "frames", "I", false)
  | 7 => ("ExpressionPrinter$Reader", "position", "I", false)
  | 8 => ("ExpressionPrinter$Reader", "needsOperand", "Z", false)
  | 9 => ("ExpressionPrinter$Reader", "leftSide", "I", false)
  | 10 => ("ExpressionPrinter$Reader", "bracketed", "Z", false)
  | 11 => ("ExpressionPrinter$Reader", "finished", "Z", false)
  | 12 => ("ExpressionPrinter$Reader", "faultKind", "I", false)
  | _ => ("ExpressionPrinter$Reader", "faultPosition", "I", false)
def tyX2 : Nat → FieldType := fun k => match k with
  | 0 => .object "ExpressionPrinter$OperatorTable"
  | 1 => .object "ExpressionPrinter$NodeTable"
  | 2 => .object "ExpressionPrinter$Text"
  | 3 => .array .int
  | 4 => .array .int
  | 5 => .array .int
  | 6 => .int
  | 7 => .int
  | 8 => .boolean
  | 9 => .int
  | 10 => .boolean
  | 11 => .boolean
  | 12 => .int
  | _ => .int
abbrev wsX20 : List Cond := u_ws RX2 TX2 14
theorem nmX2 : ∀ a, a < 14 → ∀ b, b < 14 → a ≠ b → (TX2 a).2.1 ≠ (TX2 b).2.1 := by decide +kernel
theorem tyX2_ok : ∀ k, k < 14 → parseFieldDescriptor (TX2 k).2.2.1 = some (tyX2 k) := by decide +kernel
abbrev cX2_init : ByteArray := prog_4_method_1_code
def yX2_init : MethodName := ⟨RX2, "<init>", "(LExpressionPrinter$OperatorTable;LExpressionPrinter$NodeTable;LExpressionPrinter$Text;)V"⟩
abbrev cX2_faultKind : ByteArray := prog_4_method_2_code
def yX2_faultKind : MethodName := ⟨RX2, "faultKind", "()I"⟩
abbrev cX2_faultPosition : ByteArray := prog_4_method_3_code
def yX2_faultPosition : MethodName := ⟨RX2, "faultPosition", "()I"⟩
abbrev cX2_reads : ByteArray := prog_4_method_4_code
def yX2_reads : MethodName := ⟨RX2, "reads", "()Z"⟩
abbrev cX2_start : ByteArray := prog_4_method_5_code
def yX2_start : MethodName := ⟨RX2, "start", "()V"⟩
abbrev cX2_readOperand : ByteArray := prog_4_method_6_code
def yX2_readOperand : MethodName := ⟨RX2, "readOperand", "()V"⟩
abbrev cX2_readOperator : ByteArray := prog_4_method_7_code
def yX2_readOperator : MethodName := ⟨RX2, "readOperator", "()V"⟩
abbrev cX2_joinLeftSide : ByteArray := prog_4_method_8_code
def yX2_joinLeftSide : MethodName := ⟨RX2, "joinLeftSide", "(I)V"⟩
abbrev cX2_openFrame : ByteArray := prog_4_method_9_code
def yX2_openFrame : MethodName := ⟨RX2, "openFrame", "(II)V"⟩
abbrev cX2_topFrame : ByteArray := prog_4_method_10_code
def yX2_topFrame : MethodName := ⟨RX2, "topFrame", "()I"⟩
abbrev cX2_frameMin : ByteArray := prog_4_method_11_code
def yX2_frameMin : MethodName := ⟨RX2, "frameMin", "()I"⟩
abbrev cX2_endFrame : ByteArray := prog_4_method_12_code
def yX2_endFrame : MethodName := ⟨RX2, "endFrame", "()V"⟩
abbrev cX2_endText : ByteArray := prog_4_method_13_code
def yX2_endText : MethodName := ⟨RX2, "endText", "()V"⟩
abbrev cX2_endBracket : ByteArray := prog_4_method_14_code
def yX2_endBracket : MethodName := ⟨RX2, "endBracket", "()V"⟩
abbrev cX2_completeNode : ByteArray := prog_4_method_15_code
def yX2_completeNode : MethodName := ⟨RX2, "completeNode", "(I)V"⟩
abbrev cX2_isForbiddenUnder : ByteArray := prog_4_method_16_code
def yX2_isForbiddenUnder : MethodName := ⟨RX2, "isForbiddenUnder", "(I)Z"⟩
abbrev cX2_takeLeftSide : ByteArray := prog_4_method_17_code
def yX2_takeLeftSide : MethodName := ⟨RX2, "takeLeftSide", "(I)V"⟩
abbrev cX2_fail : ByteArray := prog_4_method_18_code
def yX2_fail : MethodName := ⟨RX2, "fail", "(II)V"⟩
def RX3 : String := "ExpressionPrinter$Text"
def TX3 : u_T := fun k => match k with
  | 0 => ("ExpressionPrinter$Text", "signs", "[I", true)
  | _ => ("ExpressionPrinter$Text", "length", "I", false)
def tyX3 : Nat → FieldType := fun k => match k with
  | 0 => .array .int
  | _ => .int
abbrev wsX30 : List Cond := u_ws RX3 TX3 2
theorem nmX3 : ∀ a, a < 2 → ∀ b, b < 2 → a ≠ b → (TX3 a).2.1 ≠ (TX3 b).2.1 := by decide +kernel
theorem tyX3_ok : ∀ k, k < 2 → parseFieldDescriptor (TX3 k).2.2.1 = some (tyX3 k) := by decide +kernel
abbrev cX3_init : ByteArray := prog_5_method_1_code
def yX3_init : MethodName := ⟨RX3, "<init>", "()V"⟩
abbrev cX3_length : ByteArray := prog_5_method_2_code
def yX3_length : MethodName := ⟨RX3, "length", "()I"⟩
abbrev cX3_empty : ByteArray := prog_5_method_3_code
def yX3_empty : MethodName := ⟨RX3, "empty", "()V"⟩
abbrev cX3_put : ByteArray := prog_5_method_4_code
def yX3_put : MethodName := ⟨RX3, "put", "(I)Z"⟩
abbrev cX3_at : ByteArray := prog_5_method_5_code
def yX3_at : MethodName := ⟨RX3, "at", "(I)I"⟩
abbrev cX3_copyFrom : ByteArray := prog_5_method_6_code
def yX3_copyFrom : MethodName := ⟨RX3, "copyFrom", "(LExpressionPrinter$Text;)V"⟩
abbrev cX3_copyWithoutPair : ByteArray := prog_5_method_7_code
def yX3_copyWithoutPair : MethodName := ⟨RX3, "copyWithoutPair", "(LExpressionPrinter$Text;I)V"⟩
abbrev cX3_countPairs : ByteArray := prog_5_method_8_code
def yX3_countPairs : MethodName := ⟨RX3, "countPairs", "()I"⟩
abbrev cX3_openOf : ByteArray := prog_5_method_9_code
def yX3_openOf : MethodName := ⟨RX3, "openOf", "(I)I"⟩
abbrev cX3_closeOf : ByteArray := prog_5_method_10_code
def yX3_closeOf : MethodName := ⟨RX3, "closeOf", "(I)I"⟩
def RX4 : String := "ExpressionPrinter$Writer"
def TX4 : u_T := fun k => match k with
  | 0 => ("ExpressionPrinter$Writer", "operators", "LExpressionPrinter$OperatorTable;", true)
  | 1 => ("ExpressionPrinter$Writer", "nodes", "LExpressionPrinter$NodeTable;", true)
  | 2 => ("ExpressionPrinter$Writer", "output", "LExpressionPrinter$Text;", true)
  | 3 => ("ExpressionPrinter$Writer", "pairsInBrackets", "[I", true)
  | _ => ("ExpressionPrinter$Writer", "everyBracket", "Z", false)
def tyX4 : Nat → FieldType := fun k => match k with
  | 0 => .object "ExpressionPrinter$OperatorTable"
  | 1 => .object "ExpressionPrinter$NodeTable"
  | 2 => .object "ExpressionPrinter$Text"
  | 3 => .array .int
  | _ => .boolean
abbrev wsX40 : List Cond := u_ws RX4 TX4 5
theorem nmX4 : ∀ a, a < 5 → ∀ b, b < 5 → a ≠ b → (TX4 a).2.1 ≠ (TX4 b).2.1 := by decide +kernel
theorem tyX4_ok : ∀ k, k < 5 → parseFieldDescriptor (TX4 k).2.2.1 = some (tyX4 k) := by decide +kernel
abbrev cX4_init : ByteArray := prog_6_method_1_code
def yX4_init : MethodName := ⟨RX4, "<init>", "(LExpressionPrinter$OperatorTable;LExpressionPrinter$NodeTable;LExpressionPrinter$Text;)V"⟩
abbrev cX4_prepare : ByteArray := prog_6_method_2_code
def yX4_prepare : MethodName := ⟨RX4, "prepare", "(IZ)V"⟩
abbrev cX4_markNeeded : ByteArray := prog_6_method_3_code
def yX4_markNeeded : MethodName := ⟨RX4, "markNeeded", "(I)V"⟩
abbrev cX4_mark : ByteArray := prog_6_method_4_code
def yX4_mark : MethodName := ⟨RX4, "mark", "(I)V"⟩
abbrev cX4_countNeeded : ByteArray := prog_6_method_5_code
def yX4_countNeeded : MethodName := ⟨RX4, "countNeeded", "(I)V"⟩
abbrev cX4_pairsInside : ByteArray := prog_6_method_6_code
def yX4_pairsInside : MethodName := ⟨RX4, "pairsInside", "(IIII)I"⟩
abbrev cX4_isReadWhole : ByteArray := prog_6_method_7_code
def yX4_isReadWhole : MethodName := ⟨RX4, "isReadWhole", "(III)Z"⟩
abbrev cX4_pairsOfOperand : ByteArray := prog_6_method_8_code
def yX4_pairsOfOperand : MethodName := ⟨RX4, "pairsOfOperand", "(IIIII)I"⟩
abbrev cX4_pairsIfBracketed : ByteArray := prog_6_method_9_code
def yX4_pairsIfBracketed : MethodName := ⟨RX4, "pairsIfBracketed", "(I)I"⟩
abbrev cX4_pairsIfOpen : ByteArray := prog_6_method_10_code
def yX4_pairsIfOpen : MethodName := ⟨RX4, "pairsIfOpen", "(IIIII)I"⟩
abbrev cX4_writeNode : ByteArray := prog_6_method_11_code
def yX4_writeNode : MethodName := ⟨RX4, "writeNode", "(IIII)V"⟩
abbrev cX4_writeOperand : ByteArray := prog_6_method_12_code
def yX4_writeOperand : MethodName := ⟨RX4, "writeOperand", "(IIIII)V"⟩
def RX5 : String := "ExpressionPrinter"
def TX5 : u_T := fun k => match k with
  | 0 => ("ExpressionPrinter", "operators", "LExpressionPrinter$OperatorTable;", true)
  | 1 => ("ExpressionPrinter", "nodes", "LExpressionPrinter$NodeTable;", true)
  | 2 => ("ExpressionPrinter", "readNodes", "LExpressionPrinter$NodeTable;", true)
  | 3 => ("ExpressionPrinter", "reader", "LExpressionPrinter$Reader;", true)
  | 4 => ("ExpressionPrinter", "writer", "LExpressionPrinter$Writer;", true)
  | 5 => ("ExpressionPrinter", "input", "LExpressionPrinter$Text;", true)
  | 6 => ("ExpressionPrinter", "output", "LExpressionPrinter$Text;", true)
  | 7 => ("ExpressionPrinter", "readText", "LExpressionPrinter$Text;", true)
  | 8 => ("ExpressionPrinter", "printedRoot", "I", false)
  | 9 => ("ExpressionPrinter", "latestErrorKind", "I", false)
  | _ => ("ExpressionPrinter", "latestErrorPosition", "I", false)
def tyX5 : Nat → FieldType := fun k => match k with
  | 0 => .object "ExpressionPrinter$OperatorTable"
  | 1 => .object "ExpressionPrinter$NodeTable"
  | 2 => .object "ExpressionPrinter$NodeTable"
  | 3 => .object "ExpressionPrinter$Reader"
  | 4 => .object "ExpressionPrinter$Writer"
  | 5 => .object "ExpressionPrinter$Text"
  | 6 => .object "ExpressionPrinter$Text"
  | 7 => .object "ExpressionPrinter$Text"
  | 8 => .int
  | 9 => .int
  | _ => .int
abbrev wsX50 : List Cond := u_ws RX5 TX5 11
theorem nmX5 : ∀ a, a < 11 → ∀ b, b < 11 → a ≠ b → (TX5 a).2.1 ≠ (TX5 b).2.1 := by decide +kernel
theorem tyX5_ok : ∀ k, k < 11 → parseFieldDescriptor (TX5 k).2.2.1 = some (tyX5 k) := by decide +kernel
abbrev cX5_init : ByteArray := prog_1_method_1_code
def yX5_init : MethodName := ⟨RX5, "<init>", "()V"⟩
abbrev cX5_defineInfix : ByteArray := prog_1_method_2_code
def yX5_defineInfix : MethodName := ⟨RX5, "defineInfix", "(II)I"⟩
abbrev cX5_definePrefix : ByteArray := prog_1_method_3_code
def yX5_definePrefix : MethodName := ⟨RX5, "definePrefix", "(II)I"⟩
abbrev cX5_definePostfix : ByteArray := prog_1_method_4_code
def yX5_definePostfix : MethodName := ⟨RX5, "definePostfix", "(II)I"⟩
abbrev cX5_defineOperator : ByteArray := prog_1_method_5_code
def yX5_defineOperator : MethodName := ⟨RX5, "defineOperator", "(III)I"⟩
abbrev cX5_operatorCount : ByteArray := prog_1_method_6_code
def yX5_operatorCount : MethodName := ⟨RX5, "operatorCount", "()I"⟩
abbrev cX5_symbol : ByteArray := prog_1_method_7_code
def yX5_symbol : MethodName := ⟨RX5, "symbol", "(I)I"⟩
abbrev cX5_kind : ByteArray := prog_1_method_8_code
def yX5_kind : MethodName := ⟨RX5, "kind", "(I)I"⟩
abbrev cX5_setLevel : ByteArray := prog_1_method_9_code
def yX5_setLevel : MethodName := ⟨RX5, "setLevel", "(II)I"⟩
abbrev cX5_setAssociativity : ByteArray := prog_1_method_10_code
def yX5_setAssociativity : MethodName := ⟨RX5, "setAssociativity", "(II)I"⟩
abbrev cX5_setForbidden : ByteArray := prog_1_method_11_code
def yX5_setForbidden : MethodName := ⟨RX5, "setForbidden", "(IIZ)I"⟩
abbrev cX5_leaf : ByteArray := prog_1_method_12_code
def yX5_leaf : MethodName := ⟨RX5, "leaf", "(I)I"⟩
abbrev cX5_unary : ByteArray := prog_1_method_13_code
def yX5_unary : MethodName := ⟨RX5, "unary", "(II)I"⟩
abbrev cX5_binary : ByteArray := prog_1_method_14_code
def yX5_binary : MethodName := ⟨RX5, "binary", "(III)I"⟩
abbrev cX5_addOperatorNode : ByteArray := prog_1_method_15_code
def yX5_addOperatorNode : MethodName := ⟨RX5, "addOperatorNode", "(III)I"⟩
abbrev cX5_nodeCount : ByteArray := prog_1_method_16_code
def yX5_nodeCount : MethodName := ⟨RX5, "nodeCount", "()I"⟩
abbrev cX5_operatorOf : ByteArray := prog_1_method_17_code
def yX5_operatorOf : MethodName := ⟨RX5, "operatorOf", "(I)I"⟩
abbrev cX5_letterOf : ByteArray := prog_1_method_18_code
def yX5_letterOf : MethodName := ⟨RX5, "letterOf", "(I)I"⟩
abbrev cX5_operand : ByteArray := prog_1_method_19_code
def yX5_operand : MethodName := ⟨RX5, "operand", "(II)I"⟩
abbrev cX5_size : ByteArray := prog_1_method_20_code
def yX5_size : MethodName := ⟨RX5, "size", "(I)I"⟩
abbrev cX5_areEqual : ByteArray := prog_1_method_21_code
def yX5_areEqual : MethodName := ⟨RX5, "areEqual", "(II)I"⟩
abbrev cX5_sameTree : ByteArray := prog_1_method_22_code
def yX5_sameTree : MethodName := ⟨RX5, "sameTree", "(LExpressionPrinter$NodeTable;ILExpressionPrinter$NodeTable;II)Z"⟩
abbrev cX5_print : ByteArray := prog_1_method_23_code
def yX5_print : MethodName := ⟨RX5, "print", "(I)I"⟩
abbrev cX5_printFull : ByteArray := prog_1_method_24_code
def yX5_printFull : MethodName := ⟨RX5, "printFull", "(I)I"⟩
abbrev cX5_writeTree : ByteArray := prog_1_method_25_code
def yX5_writeTree : MethodName := ⟨RX5, "writeTree", "(IZ)I"⟩
abbrev cX5_outputAt : ByteArray := prog_1_method_26_code
def yX5_outputAt : MethodName := ⟨RX5, "outputAt", "(I)I"⟩
abbrev cX5_bracketPairs : ByteArray := prog_1_method_27_code
def yX5_bracketPairs : MethodName := ⟨RX5, "bracketPairs", "()I"⟩
abbrev cX5_readWithout : ByteArray := prog_1_method_28_code
def yX5_readWithout : MethodName := ⟨RX5, "readWithout", "(I)I"⟩
abbrev cX5_append : ByteArray := prog_1_method_29_code
def yX5_append : MethodName := ⟨RX5, "append", "(I)I"⟩
abbrev cX5_copyOutput : ByteArray := prog_1_method_30_code
def yX5_copyOutput : MethodName := ⟨RX5, "copyOutput", "()I"⟩
abbrev cX5_clearInput : ByteArray := prog_1_method_31_code
def yX5_clearInput : MethodName := ⟨RX5, "clearInput", "()I"⟩
abbrev cX5_parse : ByteArray := prog_1_method_32_code
def yX5_parse : MethodName := ⟨RX5, "parse", "()I"⟩
abbrev cX5_errorKind : ByteArray := prog_1_method_33_code
def yX5_errorKind : MethodName := ⟨RX5, "errorKind", "()I"⟩
abbrev cX5_errorPosition : ByteArray := prog_1_method_34_code
def yX5_errorPosition : MethodName := ⟨RX5, "errorPosition", "()I"⟩
abbrev cX5_isLetter : ByteArray := prog_1_method_35_code
def yX5_isLetter : MethodName := ⟨RX5, "isLetter", "(I)Z"⟩
abbrev cX5_canBeSymbol : ByteArray := prog_1_method_36_code
def yX5_canBeSymbol : MethodName := ⟨RX5, "canBeSymbol", "(I)Z"⟩
abbrev cX5_isLevel : ByteArray := prog_1_method_37_code
def yX5_isLevel : MethodName := ⟨RX5, "isLevel", "(I)Z"⟩
def RX6 : String := "ExpressionPrinterModel"
def TX6 : u_T := fun k => match k with
  | 0 => ("ExpressionPrinterModel", "symbols", "[I", true)
  | 1 => ("ExpressionPrinterModel", "kinds", "[I", true)
  | 2 => ("ExpressionPrinterModel", "levels", "[I", true)
  | 3 => ("ExpressionPrinterModel", "operators", "I", false)
  | 4 => ("ExpressionPrinterModel", "associativity", "[I", true)
  | 5 => ("ExpressionPrinterModel", "isForbidden", "[Z", true)
  | 6 => ("ExpressionPrinterModel", "operatorAt", "[I", true)
  | 7 => ("ExpressionPrinterModel", "letterAt", "[I", true)
  | 8 => ("ExpressionPrinterModel", "first", "[I", true)
  | 9 => ("ExpressionPrinterModel", "second", "[I", true)
  | 10 => ("ExpressionPrinterModel", "sizes", "[I", true)
  | 11 => ("ExpressionPrinterModel", "nodes", "I", false)
  | 12 => ("ExpressionPrinterModel", "output", "[I", true)
  | 13 => ("ExpressionPrinterModel", "outputLength", "I", false)
  | 14 => ("ExpressionPrinterModel", "printed", "I", false)
  | 15 => ("ExpressionPrinterModel", "input", "[I", true)
  | 16 => ("ExpressionPrinterModel", "inputLength", "I", false)
  | 17 => ("ExpressionPrinterModel", "lastKind", "I", false)
  | 18 => ("ExpressionPrinterModel", "lastPosition", "I", false)
  | 19 => ("ExpressionPrinterModel", "ones", "[I", true)
  | 20 => ("ExpressionPrinterModel", "others", "[I", true)
  | 21 => ("ExpressionPrinterModel", "fewest", "[I", true)
  | 22 => ("ExpressionPrinterModel", "waits", "[I", true)
  | 23 => ("ExpressionPrinterModel", "waiting", "I", false)
  | 24 => ("ExpressionPrinterModel", "text", "[I", true)
  | 25 => ("ExpressionPrinterModel", "length", "I", false)
  | 26 => ("ExpressionPrinterModel", "readOperator", "[I", true)
  | 27 => ("ExpressionPrinterModel", "readLetter", "[I", true)
  | 28 => ("ExpressionPrinterModel", "readFirst", "[I", true)
  | 29 => ("ExpressionPrinterModel", "readSecond", "[I", true)
  | 30 => ("ExpressionPrinterModel", "read", "I", false)
  | 31 => ("ExpressionPrinterModel", "frames", "[I", true)
  | 32 => ("ExpressionPrinterModel", "open", "I", false)
  | 33 => ("ExpressionPrinterModel", "errorKind", "I", false)
  | 34 => ("ExpressionPrinterModel", "errorAt", "I", false)
  | 35 => ("ExpressionPrinterModel", "place", "I", false)
  | 36 => ("ExpressionPrinterModel", "least", "I", false)
  | 37 => ("ExpressionPrinterModel", "left", "I", false)
  | 38 => ("ExpressionPrinterModel", "isBracketed", "Z", false)
  | _ => ("ExpressionPrinterModel", "wantsOperand", "Z", false)
def tyX6 : Nat → FieldType := fun k => match k with
  | 0 => .array .int
  | 1 => .array .int
  | 2 => .array .int
  | 3 => .int
  | 4 => .array .int
  | 5 => .array .boolean
  | 6 => .array .int
  | 7 => .array .int
  | 8 => .array .int
  | 9 => .array .int
  | 10 => .array .int
  | 11 => .int
  | 12 => .array .int
  | 13 => .int
  | 14 => .int
  | 15 => .array .int
  | 16 => .int
  | 17 => .int
  | 18 => .int
  | 19 => .array .int
  | 20 => .array .int
  | 21 => .array .int
  | 22 => .array .int
  | 23 => .int
  | 24 => .array .int
  | 25 => .int
  | 26 => .array .int
  | 27 => .array .int
  | 28 => .array .int
  | 29 => .array .int
  | 30 => .int
  | 31 => .array .int
  | 32 => .int
  | 33 => .int
  | 34 => .int
  | 35 => .int
  | 36 => .int
  | 37 => .int
  | 38 => .boolean
  | _ => .boolean
abbrev wsX60 : List Cond := u_ws RX6 TX6 40
theorem nmX6 : ∀ a, a < 40 → ∀ b, b < 40 → a ≠ b → (TX6 a).2.1 ≠ (TX6 b).2.1 := by decide +kernel
theorem tyX6_ok : ∀ k, k < 40 → parseFieldDescriptor (TX6 k).2.2.1 = some (tyX6 k) := by decide +kernel
abbrev cX6_init : ByteArray := prog_8_method_1_code
def yX6_init : MethodName := ⟨RX6, "<init>", "()V"⟩
abbrev cX6_in : ByteArray := prog_8_method_2_code
def yX6_in : MethodName := ⟨RX6, "in", "(III)Z"⟩
abbrev cX6_isOperator : ByteArray := prog_8_method_3_code
def yX6_isOperator : MethodName := ⟨RX6, "isOperator", "(I)Z"⟩
abbrev cX6_isNode : ByteArray := prog_8_method_4_code
def yX6_isNode : MethodName := ⟨RX6, "isNode", "(I)Z"⟩
abbrev cX6_isLetter : ByteArray := prog_8_method_5_code
def yX6_isLetter : MethodName := ⟨RX6, "isLetter", "(I)Z"⟩
abbrev cX6_operatorFor : ByteArray := prog_8_method_6_code
def yX6_operatorFor : MethodName := ⟨RX6, "operatorFor", "(IZ)I"⟩
abbrev cX6_define : ByteArray := prog_8_method_7_code
def yX6_define : MethodName := ⟨RX6, "define", "(III)I"⟩
abbrev cX6_defineInfix : ByteArray := prog_8_method_8_code
def yX6_defineInfix : MethodName := ⟨RX6, "defineInfix", "(II)I"⟩
abbrev cX6_definePrefix : ByteArray := prog_8_method_9_code
def yX6_definePrefix : MethodName := ⟨RX6, "definePrefix", "(II)I"⟩
abbrev cX6_definePostfix : ByteArray := prog_8_method_10_code
def yX6_definePostfix : MethodName := ⟨RX6, "definePostfix", "(II)I"⟩
abbrev cX6_operatorCount : ByteArray := prog_8_method_11_code
def yX6_operatorCount : MethodName := ⟨RX6, "operatorCount", "()I"⟩
abbrev cX6_symbol : ByteArray := prog_8_method_12_code
def yX6_symbol : MethodName := ⟨RX6, "symbol", "(I)I"⟩
abbrev cX6_kind : ByteArray := prog_8_method_13_code
def yX6_kind : MethodName := ⟨RX6, "kind", "(I)I"⟩
abbrev cX6_setLevel : ByteArray := prog_8_method_14_code
def yX6_setLevel : MethodName := ⟨RX6, "setLevel", "(II)I"⟩
abbrev cX6_setAssociativity : ByteArray := prog_8_method_15_code
def yX6_setAssociativity : MethodName := ⟨RX6, "setAssociativity", "(II)I"⟩
abbrev cX6_setForbidden : ByteArray := prog_8_method_16_code
def yX6_setForbidden : MethodName := ⟨RX6, "setForbidden", "(IIZ)I"⟩
abbrev cX6_rightLevel : ByteArray := prog_8_method_17_code
def yX6_rightLevel : MethodName := ⟨RX6, "rightLevel", "(I)I"⟩
abbrev cX6_isClash : ByteArray := prog_8_method_18_code
def yX6_isClash : MethodName := ⟨RX6, "isClash", "(II)Z"⟩
abbrev cX6_isBarred : ByteArray := prog_8_method_19_code
def yX6_isBarred : MethodName := ⟨RX6, "isBarred", "(II)Z"⟩
abbrev cX6_addNode : ByteArray := prog_8_method_20_code
def yX6_addNode : MethodName := ⟨RX6, "addNode", "(IIII)I"⟩
abbrev cX6_leaf : ByteArray := prog_8_method_21_code
def yX6_leaf : MethodName := ⟨RX6, "leaf", "(I)I"⟩
abbrev cX6_unary : ByteArray := prog_8_method_22_code
def yX6_unary : MethodName := ⟨RX6, "unary", "(II)I"⟩
abbrev cX6_binary : ByteArray := prog_8_method_23_code
def yX6_binary : MethodName := ⟨RX6, "binary", "(III)I"⟩
abbrev cX6_nodeCount : ByteArray := prog_8_method_24_code
def yX6_nodeCount : MethodName := ⟨RX6, "nodeCount", "()I"⟩
abbrev cX6_operatorOf : ByteArray := prog_8_method_25_code
def yX6_operatorOf : MethodName := ⟨RX6, "operatorOf", "(I)I"⟩
abbrev cX6_letterOf : ByteArray := prog_8_method_26_code
def yX6_letterOf : MethodName := ⟨RX6, "letterOf", "(I)I"⟩
abbrev cX6_operand : ByteArray := prog_8_method_27_code
def yX6_operand : MethodName := ⟨RX6, "operand", "(II)I"⟩
abbrev cX6_size : ByteArray := prog_8_method_28_code
def yX6_size : MethodName := ⟨RX6, "size", "(I)I"⟩
abbrev cX6_areEqual : ByteArray := prog_8_method_29_code
def yX6_areEqual : MethodName := ⟨RX6, "areEqual", "(II)I"⟩
abbrev cX6_cell : ByteArray := prog_8_method_30_code
def yX6_cell : MethodName := ⟨RX6, "cell", "(III)I"⟩
abbrev cX6_mayBeBare : ByteArray := prog_8_method_31_code
def yX6_mayBeBare : MethodName := ⟨RX6, "mayBeBare", "(IIZ)Z"⟩
abbrev cX6_bareCost : ByteArray := prog_8_method_32_code
def yX6_bareCost : MethodName := ⟨RX6, "bareCost", "(IIIIZ)I"⟩
abbrev cX6_operandCost : ByteArray := prog_8_method_33_code
def yX6_operandCost : MethodName := ⟨RX6, "operandCost", "(IIIIZ)I"⟩
abbrev cX6_costOf : ByteArray := prog_8_method_34_code
def yX6_costOf : MethodName := ⟨RX6, "costOf", "(III)I"⟩
abbrev cX6_layCosts : ByteArray := prog_8_method_35_code
def yX6_layCosts : MethodName := ⟨RX6, "layCosts", "(I)V"⟩
abbrev cX6_push : ByteArray := prog_8_method_36_code
def yX6_push : MethodName := ⟨RX6, "push", "(IIII)V"⟩
abbrev cX6_pushOperand : ByteArray := prog_8_method_37_code
def yX6_pushOperand : MethodName := ⟨RX6, "pushOperand", "(IIIIZZ)V"⟩
abbrev cX6_write : ByteArray := prog_8_method_38_code
def yX6_write : MethodName := ⟨RX6, "write", "(I)V"⟩
abbrev cX6_pushParts : ByteArray := prog_8_method_39_code
def yX6_pushParts : MethodName := ⟨RX6, "pushParts", "(IIIZ)V"⟩
abbrev cX6_printTree : ByteArray := prog_8_method_40_code
def yX6_printTree : MethodName := ⟨RX6, "printTree", "(IZ)I"⟩
abbrev cX6_print : ByteArray := prog_8_method_41_code
def yX6_print : MethodName := ⟨RX6, "print", "(I)I"⟩
abbrev cX6_printFull : ByteArray := prog_8_method_42_code
def yX6_printFull : MethodName := ⟨RX6, "printFull", "(I)I"⟩
abbrev cX6_outputAt : ByteArray := prog_8_method_43_code
def yX6_outputAt : MethodName := ⟨RX6, "outputAt", "(I)I"⟩
abbrev cX6_bracketPairs : ByteArray := prog_8_method_44_code
def yX6_bracketPairs : MethodName := ⟨RX6, "bracketPairs", "()I"⟩
abbrev cX6_addRead : ByteArray := prog_8_method_45_code
def yX6_addRead : MethodName := ⟨RX6, "addRead", "(IIII)I"⟩
abbrev cX6_fail : ByteArray := prog_8_method_46_code
def yX6_fail : MethodName := ⟨RX6, "fail", "(II)V"⟩
abbrev cX6_openCall : ByteArray := prog_8_method_47_code
def yX6_openCall : MethodName := ⟨RX6, "openCall", "(IIII)V"⟩
abbrev cX6_readOperand : ByteArray := prog_8_method_48_code
def yX6_readOperand : MethodName := ⟨RX6, "readOperand", "()V"⟩
abbrev cX6_isBareAndBarred : ByteArray := prog_8_method_49_code
def yX6_isBareAndBarred : MethodName := ⟨RX6, "isBareAndBarred", "(I)Z"⟩
abbrev cX6_readPostfix : ByteArray := prog_8_method_50_code
def yX6_readPostfix : MethodName := ⟨RX6, "readPostfix", "(I)V"⟩
abbrev cX6_readInfix : ByteArray := prog_8_method_51_code
def yX6_readInfix : MethodName := ⟨RX6, "readInfix", "(I)V"⟩
abbrev cX6_endCall : ByteArray := prog_8_method_52_code
def yX6_endCall : MethodName := ⟨RX6, "endCall", "()V"⟩
abbrev cX6_goOn : ByteArray := prog_8_method_53_code
def yX6_goOn : MethodName := ⟨RX6, "goOn", "()Z"⟩
abbrev cX6_readAll : ByteArray := prog_8_method_54_code
def yX6_readAll : MethodName := ⟨RX6, "readAll", "()Z"⟩
abbrev cX6_isSameAs : ByteArray := prog_8_method_55_code
def yX6_isSameAs : MethodName := ⟨RX6, "isSameAs", "(I)Z"⟩
abbrev cX6_openingOf : ByteArray := prog_8_method_56_code
def yX6_openingOf : MethodName := ⟨RX6, "openingOf", "(I)I"⟩
abbrev cX6_closingOf : ByteArray := prog_8_method_57_code
def yX6_closingOf : MethodName := ⟨RX6, "closingOf", "(I)I"⟩
abbrev cX6_readWithout : ByteArray := prog_8_method_58_code
def yX6_readWithout : MethodName := ⟨RX6, "readWithout", "(I)I"⟩
abbrev cX6_append : ByteArray := prog_8_method_59_code
def yX6_append : MethodName := ⟨RX6, "append", "(I)I"⟩
abbrev cX6_copyOutput : ByteArray := prog_8_method_60_code
def yX6_copyOutput : MethodName := ⟨RX6, "copyOutput", "()I"⟩
abbrev cX6_clearInput : ByteArray := prog_8_method_61_code
def yX6_clearInput : MethodName := ⟨RX6, "clearInput", "()I"⟩
abbrev cX6_parse : ByteArray := prog_8_method_62_code
def yX6_parse : MethodName := ⟨RX6, "parse", "()I"⟩
abbrev cX6_errorKind : ByteArray := prog_8_method_63_code
def yX6_errorKind : MethodName := ⟨RX6, "errorKind", "()I"⟩
abbrev cX6_errorPosition : ByteArray := prog_8_method_64_code
def yX6_errorPosition : MethodName := ⟨RX6, "errorPosition", "()I"⟩
def RJ9 : String := "java/lang/Math"
def TJ9 : u_T := fun k => match k with
  | _ => ("", "", "", false)
def tyJ9 : Nat → FieldType := fun k => match k with
  | _ => .int
abbrev wsJ90 : List Cond := u_ws RJ9 TJ9 0
theorem nmJ9 : ∀ a, a < 0 → ∀ b, b < 0 → a ≠ b → (TJ9 a).2.1 ≠ (TJ9 b).2.1 := by decide +kernel
theorem tyJ9_ok : ∀ k, k < 0 → parseFieldDescriptor (TJ9 k).2.2.1 = some (tyJ9 k) := by decide +kernel
abbrev cJ9_max_7cf53 : ByteArray := prog_9_method_65_code
def yJ9_max_7cf53 : MethodName := ⟨RJ9, "max", "(II)I"⟩
abbrev cJ9_min_7cf53 : ByteArray := prog_9_method_69_code
def yJ9_min_7cf53 : MethodName := ⟨RJ9, "min", "(II)I"⟩
def RL : String := "ExpressionPrinterLaw"
abbrev cL_law : ByteArray := code
def yL_law : MethodName := ⟨RL, "law", "([I)Z"⟩
end
section
/-! ===== decode rows (as printed) ===== -/
theorem dX0_count_0 : decode cX0_count 0 = .ok (.aload_n 0, 1) := by decide +kernel
theorem dX0_count_1 : decode cX0_count 1 = .ok (.getfield 27, 3) := by decide +kernel
theorem dX0_count_4 : decode cX0_count 4 = .ok (.ireturn, 1) := by decide +kernel
theorem dX0_last_0 : decode cX0_last 0 = .ok (.aload_n 0, 1) := by decide +kernel
theorem dX0_last_1 : decode cX0_last 1 = .ok (.getfield 27, 3) := by decide +kernel
theorem dX0_last_4 : decode cX0_last 4 = .ok (.iconst 1, 1) := by decide +kernel
theorem dX0_last_5 : decode cX0_last 5 = .ok (.isub, 1) := by decide +kernel
theorem dX0_last_6 : decode cX0_last 6 = .ok (.ireturn, 1) := by decide +kernel
theorem dX0_has_0 : decode cX0_has 0 = .ok (.iload_n 1, 1) := by decide +kernel
theorem dX0_has_1 : decode cX0_has 1 = .ok (.ifCond .lt 15, 3) := by decide +kernel
theorem dX0_has_4 : decode cX0_has 4 = .ok (.iload_n 1, 1) := by decide +kernel
theorem dX0_has_5 : decode cX0_has 5 = .ok (.aload_n 0, 1) := by decide +kernel
theorem dX0_has_6 : decode cX0_has 6 = .ok (.getfield 27, 3) := by decide +kernel
theorem dX0_has_9 : decode cX0_has 9 = .ok (.if_icmp .ge 7, 3) := by decide +kernel
theorem dX0_has_12 : decode cX0_has 12 = .ok (.iconst 1, 1) := by decide +kernel
theorem dX0_has_13 : decode cX0_has 13 = .ok (.goto 4, 3) := by decide +kernel
theorem dX0_has_16 : decode cX0_has 16 = .ok (.iconst 0, 1) := by decide +kernel
theorem dX0_has_17 : decode cX0_has 17 = .ok (.ireturn, 1) := by decide +kernel
theorem dX0_empty_0 : decode cX0_empty 0 = .ok (.aload_n 0, 1) := by decide +kernel
theorem dX0_empty_1 : decode cX0_empty 1 = .ok (.iconst 0, 1) := by decide +kernel
theorem dX0_empty_2 : decode cX0_empty 2 = .ok (.putfield 27, 3) := by decide +kernel
theorem dX0_empty_5 : decode cX0_empty 5 = .ok (.return_, 1) := by decide +kernel
theorem dX0_add_0 : decode cX0_add 0 = .ok (.aload_n 0, 1) := by decide +kernel
theorem dX0_add_1 : decode cX0_add 1 = .ok (.getfield 27, 3) := by decide +kernel
theorem dX0_add_4 : decode cX0_add 4 = .ok (.bipush 120, 2) := by decide +kernel
theorem dX0_add_6 : decode cX0_add 6 = .ok (.if_icmp .lt 5, 3) := by decide +kernel
theorem dX0_add_9 : decode cX0_add 9 = .ok (.iconst (-1), 1) := by decide +kernel
theorem dX0_add_10 : decode cX0_add 10 = .ok (.ireturn, 1) := by decide +kernel
theorem dX0_add_11 : decode cX0_add 11 = .ok (.aload_n 0, 1) := by decide +kernel
theorem dX0_add_12 : decode cX0_add 12 = .ok (.getfield 11, 3) := by decide +kernel
theorem dX0_add_15 : decode cX0_add 15 = .ok (.aload_n 0, 1) := by decide +kernel
theorem dX0_add_16 : decode cX0_add 16 = .ok (.getfield 27, 3) := by decide +kernel
theorem dX0_add_19 : decode cX0_add 19 = .ok (.iload_n 1, 1) := by decide +kernel
theorem dX0_add_20 : decode cX0_add 20 = .ok (.iastore, 1) := by decide +kernel
theorem dX0_add_21 : decode cX0_add 21 = .ok (.aload_n 0, 1) := by decide +kernel
theorem dX0_add_22 : decode cX0_add 22 = .ok (.getfield 15, 3) := by decide +kernel
theorem dX0_add_25 : decode cX0_add 25 = .ok (.aload_n 0, 1) := by decide +kernel
theorem dX0_add_26 : decode cX0_add 26 = .ok (.getfield 27, 3) := by decide +kernel
theorem dX0_add_29 : decode cX0_add 29 = .ok (.iload_n 2, 1) := by decide +kernel
theorem dX0_add_30 : decode cX0_add 30 = .ok (.iastore, 1) := by decide +kernel
theorem dX0_add_31 : decode cX0_add 31 = .ok (.aload_n 0, 1) := by decide +kernel
theorem dX0_add_32 : decode cX0_add 32 = .ok (.getfield 18, 3) := by decide +kernel
theorem dX0_add_35 : decode cX0_add 35 = .ok (.aload_n 0, 1) := by decide +kernel
theorem dX0_add_36 : decode cX0_add 36 = .ok (.getfield 27, 3) := by decide +kernel
theorem dX0_add_39 : decode cX0_add 39 = .ok (.iload_n 3, 1) := by decide +kernel
theorem dX0_add_40 : decode cX0_add 40 = .ok (.iastore, 1) := by decide +kernel
theorem dX0_add_41 : decode cX0_add 41 = .ok (.aload_n 0, 1) := by decide +kernel
theorem dX0_add_42 : decode cX0_add 42 = .ok (.getfield 21, 3) := by decide +kernel
theorem dX0_add_45 : decode cX0_add 45 = .ok (.aload_n 0, 1) := by decide +kernel
theorem dX0_add_46 : decode cX0_add 46 = .ok (.getfield 27, 3) := by decide +kernel
theorem dX0_add_49 : decode cX0_add 49 = .ok (.iload 4, 2) := by decide +kernel
theorem dX0_add_51 : decode cX0_add 51 = .ok (.iastore, 1) := by decide +kernel
theorem dX0_add_52 : decode cX0_add 52 = .ok (.aload_n 0, 1) := by decide +kernel
theorem dX0_add_53 : decode cX0_add 53 = .ok (.getfield 24, 3) := by decide +kernel
theorem dX0_add_56 : decode cX0_add 56 = .ok (.aload_n 0, 1) := by decide +kernel
theorem dX0_add_57 : decode cX0_add 57 = .ok (.getfield 27, 3) := by decide +kernel
theorem dX0_add_60 : decode cX0_add 60 = .ok (.iconst 1, 1) := by decide +kernel
theorem dX0_add_61 : decode cX0_add 61 = .ok (.aload_n 0, 1) := by decide +kernel
theorem dX0_add_62 : decode cX0_add 62 = .ok (.iload_n 3, 1) := by decide +kernel
theorem dX0_add_63 : decode cX0_add 63 = .ok (.invokevirtual 31, 3) := by decide +kernel
theorem dX0_add_66 : decode cX0_add 66 = .ok (.iadd, 1) := by decide +kernel
theorem dX0_add_67 : decode cX0_add 67 = .ok (.aload_n 0, 1) := by decide +kernel
theorem dX0_add_68 : decode cX0_add 68 = .ok (.iload 4, 2) := by decide +kernel
theorem dX0_add_70 : decode cX0_add 70 = .ok (.invokevirtual 31, 3) := by decide +kernel
theorem dX0_add_73 : decode cX0_add 73 = .ok (.iadd, 1) := by decide +kernel
theorem dX0_add_74 : decode cX0_add 74 = .ok (.iastore, 1) := by decide +kernel
theorem dX0_add_75 : decode cX0_add 75 = .ok (.aload_n 0, 1) := by decide +kernel
theorem dX0_add_76 : decode cX0_add 76 = .ok (.dup, 1) := by decide +kernel
theorem dX0_add_77 : decode cX0_add 77 = .ok (.getfield 27, 3) := by decide +kernel
theorem dX0_add_80 : decode cX0_add 80 = .ok (.iconst 1, 1) := by decide +kernel
theorem dX0_add_81 : decode cX0_add 81 = .ok (.iadd, 1) := by decide +kernel
theorem dX0_add_82 : decode cX0_add 82 = .ok (.putfield 27, 3) := by decide +kernel
theorem dX0_add_85 : decode cX0_add 85 = .ok (.aload_n 0, 1) := by decide +kernel
theorem dX0_add_86 : decode cX0_add 86 = .ok (.getfield 27, 3) := by decide +kernel
theorem dX0_add_89 : decode cX0_add 89 = .ok (.iconst 1, 1) := by decide +kernel
theorem dX0_add_90 : decode cX0_add 90 = .ok (.isub, 1) := by decide +kernel
theorem dX0_add_91 : decode cX0_add 91 = .ok (.ireturn, 1) := by decide +kernel
theorem dX0_addAllOf_0 : decode cX0_addAllOf 0 = .ok (.aload_n 0, 1) := by decide +kernel
theorem dX0_addAllOf_1 : decode cX0_addAllOf 1 = .ok (.getfield 27, 3) := by decide +kernel
theorem dX0_addAllOf_4 : decode cX0_addAllOf 4 = .ok (.istore_n 2, 1) := by decide +kernel
theorem dX0_addAllOf_5 : decode cX0_addAllOf 5 = .ok (.iconst 0, 1) := by decide +kernel
theorem dX0_addAllOf_6 : decode cX0_addAllOf 6 = .ok (.istore_n 3, 1) := by decide +kernel
theorem dX0_addAllOf_7 : decode cX0_addAllOf 7 = .ok (.iload_n 3, 1) := by decide +kernel
theorem dX0_addAllOf_8 : decode cX0_addAllOf 8 = .ok (.aload_n 1, 1) := by decide +kernel
theorem dX0_addAllOf_9 : decode cX0_addAllOf 9 = .ok (.getfield 27, 3) := by decide +kernel
theorem dX0_addAllOf_12 : decode cX0_addAllOf 12 = .ok (.if_icmp .ge 46, 3) := by decide +kernel
theorem dX0_addAllOf_15 : decode cX0_addAllOf 15 = .ok (.aload_n 0, 1) := by decide +kernel
theorem dX0_addAllOf_16 : decode cX0_addAllOf 16 = .ok (.aload_n 1, 1) := by decide +kernel
theorem dX0_addAllOf_17 : decode cX0_addAllOf 17 = .ok (.getfield 11, 3) := by decide +kernel
theorem dX0_addAllOf_20 : decode cX0_addAllOf 20 = .ok (.iload_n 3, 1) := by decide +kernel
theorem dX0_addAllOf_21 : decode cX0_addAllOf 21 = .ok (.iaload, 1) := by decide +kernel
theorem dX0_addAllOf_22 : decode cX0_addAllOf 22 = .ok (.aload_n 1, 1) := by decide +kernel
theorem dX0_addAllOf_23 : decode cX0_addAllOf 23 = .ok (.getfield 15, 3) := by decide +kernel
theorem dX0_addAllOf_26 : decode cX0_addAllOf 26 = .ok (.iload_n 3, 1) := by decide +kernel
theorem dX0_addAllOf_27 : decode cX0_addAllOf 27 = .ok (.iaload, 1) := by decide +kernel
theorem dX0_addAllOf_28 : decode cX0_addAllOf 28 = .ok (.aload_n 1, 1) := by decide +kernel
theorem dX0_addAllOf_29 : decode cX0_addAllOf 29 = .ok (.getfield 18, 3) := by decide +kernel
theorem dX0_addAllOf_32 : decode cX0_addAllOf 32 = .ok (.iload_n 3, 1) := by decide +kernel
theorem dX0_addAllOf_33 : decode cX0_addAllOf 33 = .ok (.iaload, 1) := by decide +kernel
theorem dX0_addAllOf_34 : decode cX0_addAllOf 34 = .ok (.iload_n 2, 1) := by decide +kernel
theorem dX0_addAllOf_35 : decode cX0_addAllOf 35 = .ok (.invokestatic 35, 3) := by decide +kernel
theorem dX0_addAllOf_38 : decode cX0_addAllOf 38 = .ok (.aload_n 1, 1) := by decide +kernel
theorem dX0_addAllOf_39 : decode cX0_addAllOf 39 = .ok (.getfield 21, 3) := by decide +kernel
theorem dX0_addAllOf_42 : decode cX0_addAllOf 42 = .ok (.iload_n 3, 1) := by decide +kernel
theorem dX0_addAllOf_43 : decode cX0_addAllOf 43 = .ok (.iaload, 1) := by decide +kernel
theorem dX0_addAllOf_44 : decode cX0_addAllOf 44 = .ok (.iload_n 2, 1) := by decide +kernel
theorem dX0_addAllOf_45 : decode cX0_addAllOf 45 = .ok (.invokestatic 35, 3) := by decide +kernel
theorem dX0_addAllOf_48 : decode cX0_addAllOf 48 = .ok (.invokevirtual 39, 3) := by decide +kernel
theorem dX0_addAllOf_51 : decode cX0_addAllOf 51 = .ok (.pop, 1) := by decide +kernel
theorem dX0_addAllOf_52 : decode cX0_addAllOf 52 = .ok (.iinc 3 1, 3) := by decide +kernel
theorem dX0_addAllOf_55 : decode cX0_addAllOf 55 = .ok (.goto (-48), 3) := by decide +kernel
theorem dX0_addAllOf_58 : decode cX0_addAllOf 58 = .ok (.return_, 1) := by decide +kernel
theorem dX0_shifted_0 : decode cX0_shifted 0 = .ok (.iload_n 0, 1) := by decide +kernel
theorem dX0_shifted_1 : decode cX0_shifted 1 = .ok (.iconst (-1), 1) := by decide +kernel
theorem dX0_shifted_2 : decode cX0_shifted 2 = .ok (.if_icmp .ne 7, 3) := by decide +kernel
theorem dX0_shifted_5 : decode cX0_shifted 5 = .ok (.iconst (-1), 1) := by decide +kernel
theorem dX0_shifted_6 : decode cX0_shifted 6 = .ok (.goto 6, 3) := by decide +kernel
theorem dX0_shifted_9 : decode cX0_shifted 9 = .ok (.iload_n 0, 1) := by decide +kernel
theorem dX0_shifted_10 : decode cX0_shifted 10 = .ok (.iload_n 1, 1) := by decide +kernel
theorem dX0_shifted_11 : decode cX0_shifted 11 = .ok (.iadd, 1) := by decide +kernel
theorem dX0_shifted_12 : decode cX0_shifted 12 = .ok (.ireturn, 1) := by decide +kernel
theorem dX0_operatorAt_0 : decode cX0_operatorAt 0 = .ok (.aload_n 0, 1) := by decide +kernel
theorem dX0_operatorAt_1 : decode cX0_operatorAt 1 = .ok (.iload_n 1, 1) := by decide +kernel
theorem dX0_operatorAt_2 : decode cX0_operatorAt 2 = .ok (.invokevirtual 43, 3) := by decide +kernel
theorem dX0_operatorAt_5 : decode cX0_operatorAt 5 = .ok (.ifCond .eq 12, 3) := by decide +kernel
theorem dX0_operatorAt_8 : decode cX0_operatorAt 8 = .ok (.aload_n 0, 1) := by decide +kernel
theorem dX0_operatorAt_9 : decode cX0_operatorAt 9 = .ok (.getfield 11, 3) := by decide +kernel
theorem dX0_operatorAt_12 : decode cX0_operatorAt 12 = .ok (.iload_n 1, 1) := by decide +kernel
theorem dX0_operatorAt_13 : decode cX0_operatorAt 13 = .ok (.iaload, 1) := by decide +kernel
theorem dX0_operatorAt_14 : decode cX0_operatorAt 14 = .ok (.goto 4, 3) := by decide +kernel
theorem dX0_operatorAt_17 : decode cX0_operatorAt 17 = .ok (.iconst (-1), 1) := by decide +kernel
theorem dX0_operatorAt_18 : decode cX0_operatorAt 18 = .ok (.ireturn, 1) := by decide +kernel
theorem dX0_letterAt_0 : decode cX0_letterAt 0 = .ok (.aload_n 0, 1) := by decide +kernel
theorem dX0_letterAt_1 : decode cX0_letterAt 1 = .ok (.iload_n 1, 1) := by decide +kernel
theorem dX0_letterAt_2 : decode cX0_letterAt 2 = .ok (.invokevirtual 43, 3) := by decide +kernel
theorem dX0_letterAt_5 : decode cX0_letterAt 5 = .ok (.ifCond .eq 12, 3) := by decide +kernel
theorem dX0_letterAt_8 : decode cX0_letterAt 8 = .ok (.aload_n 0, 1) := by decide +kernel
theorem dX0_letterAt_9 : decode cX0_letterAt 9 = .ok (.getfield 15, 3) := by decide +kernel
theorem dX0_letterAt_12 : decode cX0_letterAt 12 = .ok (.iload_n 1, 1) := by decide +kernel
theorem dX0_letterAt_13 : decode cX0_letterAt 13 = .ok (.iaload, 1) := by decide +kernel
theorem dX0_letterAt_14 : decode cX0_letterAt 14 = .ok (.goto 4, 3) := by decide +kernel
theorem dX0_letterAt_17 : decode cX0_letterAt 17 = .ok (.iconst (-1), 1) := by decide +kernel
theorem dX0_letterAt_18 : decode cX0_letterAt 18 = .ok (.ireturn, 1) := by decide +kernel
theorem dX0_beforeAt_0 : decode cX0_beforeAt 0 = .ok (.aload_n 0, 1) := by decide +kernel
theorem dX0_beforeAt_1 : decode cX0_beforeAt 1 = .ok (.iload_n 1, 1) := by decide +kernel
theorem dX0_beforeAt_2 : decode cX0_beforeAt 2 = .ok (.invokevirtual 43, 3) := by decide +kernel
theorem dX0_beforeAt_5 : decode cX0_beforeAt 5 = .ok (.ifCond .eq 12, 3) := by decide +kernel
theorem dX0_beforeAt_8 : decode cX0_beforeAt 8 = .ok (.aload_n 0, 1) := by decide +kernel
theorem dX0_beforeAt_9 : decode cX0_beforeAt 9 = .ok (.getfield 18, 3) := by decide +kernel
theorem dX0_beforeAt_12 : decode cX0_beforeAt 12 = .ok (.iload_n 1, 1) := by decide +kernel
theorem dX0_beforeAt_13 : decode cX0_beforeAt 13 = .ok (.iaload, 1) := by decide +kernel
theorem dX0_beforeAt_14 : decode cX0_beforeAt 14 = .ok (.goto 4, 3) := by decide +kernel
theorem dX0_beforeAt_17 : decode cX0_beforeAt 17 = .ok (.iconst (-1), 1) := by decide +kernel
theorem dX0_beforeAt_18 : decode cX0_beforeAt 18 = .ok (.ireturn, 1) := by decide +kernel
theorem dX0_afterAt_0 : decode cX0_afterAt 0 = .ok (.aload_n 0, 1) := by decide +kernel
theorem dX0_afterAt_1 : decode cX0_afterAt 1 = .ok (.iload_n 1, 1) := by decide +kernel
theorem dX0_afterAt_2 : decode cX0_afterAt 2 = .ok (.invokevirtual 43, 3) := by decide +kernel
theorem dX0_afterAt_5 : decode cX0_afterAt 5 = .ok (.ifCond .eq 12, 3) := by decide +kernel
theorem dX0_afterAt_8 : decode cX0_afterAt 8 = .ok (.aload_n 0, 1) := by decide +kernel
theorem dX0_afterAt_9 : decode cX0_afterAt 9 = .ok (.getfield 21, 3) := by decide +kernel
theorem dX0_afterAt_12 : decode cX0_afterAt 12 = .ok (.iload_n 1, 1) := by decide +kernel
theorem dX0_afterAt_13 : decode cX0_afterAt 13 = .ok (.iaload, 1) := by decide +kernel
theorem dX0_afterAt_14 : decode cX0_afterAt 14 = .ok (.goto 4, 3) := by decide +kernel
theorem dX0_afterAt_17 : decode cX0_afterAt 17 = .ok (.iconst (-1), 1) := by decide +kernel
theorem dX0_afterAt_18 : decode cX0_afterAt 18 = .ok (.ireturn, 1) := by decide +kernel
theorem dX0_sizeAt_0 : decode cX0_sizeAt 0 = .ok (.aload_n 0, 1) := by decide +kernel
theorem dX0_sizeAt_1 : decode cX0_sizeAt 1 = .ok (.iload_n 1, 1) := by decide +kernel
theorem dX0_sizeAt_2 : decode cX0_sizeAt 2 = .ok (.invokevirtual 43, 3) := by decide +kernel
theorem dX0_sizeAt_5 : decode cX0_sizeAt 5 = .ok (.ifCond .eq 12, 3) := by decide +kernel
theorem dX0_sizeAt_8 : decode cX0_sizeAt 8 = .ok (.aload_n 0, 1) := by decide +kernel
theorem dX0_sizeAt_9 : decode cX0_sizeAt 9 = .ok (.getfield 24, 3) := by decide +kernel
theorem dX0_sizeAt_12 : decode cX0_sizeAt 12 = .ok (.iload_n 1, 1) := by decide +kernel
theorem dX0_sizeAt_13 : decode cX0_sizeAt 13 = .ok (.iaload, 1) := by decide +kernel
theorem dX0_sizeAt_14 : decode cX0_sizeAt 14 = .ok (.goto 4, 3) := by decide +kernel
theorem dX0_sizeAt_17 : decode cX0_sizeAt 17 = .ok (.iconst 0, 1) := by decide +kernel
theorem dX0_sizeAt_18 : decode cX0_sizeAt 18 = .ok (.ireturn, 1) := by decide +kernel
theorem dX0_operandAt_0 : decode cX0_operandAt 0 = .ok (.aload_n 0, 1) := by decide +kernel
theorem dX0_operandAt_1 : decode cX0_operandAt 1 = .ok (.iload_n 1, 1) := by decide +kernel
theorem dX0_operandAt_2 : decode cX0_operandAt 2 = .ok (.invokevirtual 47, 3) := by decide +kernel
theorem dX0_operandAt_5 : decode cX0_operandAt 5 = .ok (.istore_n 3, 1) := by decide +kernel
theorem dX0_operandAt_6 : decode cX0_operandAt 6 = .ok (.aload_n 0, 1) := by decide +kernel
theorem dX0_operandAt_7 : decode cX0_operandAt 7 = .ok (.iload_n 1, 1) := by decide +kernel
theorem dX0_operandAt_8 : decode cX0_operandAt 8 = .ok (.invokevirtual 50, 3) := by decide +kernel
theorem dX0_operandAt_11 : decode cX0_operandAt 11 = .ok (.istore 4, 2) := by decide +kernel
theorem dX0_operandAt_13 : decode cX0_operandAt 13 = .ok (.iload_n 2, 1) := by decide +kernel
theorem dX0_operandAt_14 : decode cX0_operandAt 14 = .ok (.ifCond .ne 15, 3) := by decide +kernel
theorem dX0_operandAt_17 : decode cX0_operandAt 17 = .ok (.iload_n 3, 1) := by decide +kernel
theorem dX0_operandAt_18 : decode cX0_operandAt 18 = .ok (.iconst (-1), 1) := by decide +kernel
theorem dX0_operandAt_19 : decode cX0_operandAt 19 = .ok (.if_icmp .ne 8, 3) := by decide +kernel
theorem dX0_operandAt_22 : decode cX0_operandAt 22 = .ok (.iload 4, 2) := by decide +kernel
theorem dX0_operandAt_24 : decode cX0_operandAt 24 = .ok (.goto 4, 3) := by decide +kernel
theorem dX0_operandAt_27 : decode cX0_operandAt 27 = .ok (.iload_n 3, 1) := by decide +kernel
theorem dX0_operandAt_28 : decode cX0_operandAt 28 = .ok (.ireturn, 1) := by decide +kernel
theorem dX0_operandAt_29 : decode cX0_operandAt 29 = .ok (.iload_n 2, 1) := by decide +kernel
theorem dX0_operandAt_30 : decode cX0_operandAt 30 = .ok (.iconst 1, 1) := by decide +kernel
theorem dX0_operandAt_31 : decode cX0_operandAt 31 = .ok (.if_icmp .ne 13, 3) := by decide +kernel
theorem dX0_operandAt_34 : decode cX0_operandAt 34 = .ok (.iload_n 3, 1) := by decide +kernel
theorem dX0_operandAt_35 : decode cX0_operandAt 35 = .ok (.iconst (-1), 1) := by decide +kernel
theorem dX0_operandAt_36 : decode cX0_operandAt 36 = .ok (.if_icmp .eq 8, 3) := by decide +kernel
theorem dX0_operandAt_39 : decode cX0_operandAt 39 = .ok (.iload 4, 2) := by decide +kernel
theorem dX0_operandAt_41 : decode cX0_operandAt 41 = .ok (.goto 4, 3) := by decide +kernel
theorem dX0_operandAt_44 : decode cX0_operandAt 44 = .ok (.iconst (-1), 1) := by decide +kernel
theorem dX0_operandAt_45 : decode cX0_operandAt 45 = .ok (.ireturn, 1) := by decide +kernel
theorem dX1_count_0 : decode cX1_count 0 = .ok (.aload_n 0, 1) := by decide +kernel
theorem dX1_count_1 : decode cX1_count 1 = .ok (.getfield 28, 3) := by decide +kernel
theorem dX1_count_4 : decode cX1_count 4 = .ok (.ireturn, 1) := by decide +kernel
theorem dX1_has_0 : decode cX1_has 0 = .ok (.iload_n 1, 1) := by decide +kernel
theorem dX1_has_1 : decode cX1_has 1 = .ok (.ifCond .lt 15, 3) := by decide +kernel
theorem dX1_has_4 : decode cX1_has 4 = .ok (.iload_n 1, 1) := by decide +kernel
theorem dX1_has_5 : decode cX1_has 5 = .ok (.aload_n 0, 1) := by decide +kernel
theorem dX1_has_6 : decode cX1_has 6 = .ok (.getfield 28, 3) := by decide +kernel
theorem dX1_has_9 : decode cX1_has 9 = .ok (.if_icmp .ge 7, 3) := by decide +kernel
theorem dX1_has_12 : decode cX1_has 12 = .ok (.iconst 1, 1) := by decide +kernel
theorem dX1_has_13 : decode cX1_has 13 = .ok (.goto 4, 3) := by decide +kernel
theorem dX1_has_16 : decode cX1_has 16 = .ok (.iconst 0, 1) := by decide +kernel
theorem dX1_has_17 : decode cX1_has 17 = .ok (.ireturn, 1) := by decide +kernel
theorem dX1_add_0 : decode cX1_add 0 = .ok (.aload_n 0, 1) := by decide +kernel
theorem dX1_add_1 : decode cX1_add 1 = .ok (.getfield 28, 3) := by decide +kernel
theorem dX1_add_4 : decode cX1_add 4 = .ok (.bipush 16, 2) := by decide +kernel
theorem dX1_add_6 : decode cX1_add 6 = .ok (.if_icmp .lt 5, 3) := by decide +kernel
theorem dX1_add_9 : decode cX1_add 9 = .ok (.iconst (-1), 1) := by decide +kernel
theorem dX1_add_10 : decode cX1_add 10 = .ok (.ireturn, 1) := by decide +kernel
theorem dX1_add_11 : decode cX1_add 11 = .ok (.aload_n 0, 1) := by decide +kernel
theorem dX1_add_12 : decode cX1_add 12 = .ok (.getfield 9, 3) := by decide +kernel
theorem dX1_add_15 : decode cX1_add 15 = .ok (.aload_n 0, 1) := by decide +kernel
theorem dX1_add_16 : decode cX1_add 16 = .ok (.getfield 28, 3) := by decide +kernel
theorem dX1_add_19 : decode cX1_add 19 = .ok (.iload_n 1, 1) := by decide +kernel
theorem dX1_add_20 : decode cX1_add 20 = .ok (.iastore, 1) := by decide +kernel
theorem dX1_add_21 : decode cX1_add 21 = .ok (.aload_n 0, 1) := by decide +kernel
theorem dX1_add_22 : decode cX1_add 22 = .ok (.getfield 15, 3) := by decide +kernel
theorem dX1_add_25 : decode cX1_add 25 = .ok (.aload_n 0, 1) := by decide +kernel
theorem dX1_add_26 : decode cX1_add 26 = .ok (.getfield 28, 3) := by decide +kernel
theorem dX1_add_29 : decode cX1_add 29 = .ok (.iload_n 2, 1) := by decide +kernel
theorem dX1_add_30 : decode cX1_add 30 = .ok (.iastore, 1) := by decide +kernel
theorem dX1_add_31 : decode cX1_add 31 = .ok (.aload_n 0, 1) := by decide +kernel
theorem dX1_add_32 : decode cX1_add 32 = .ok (.getfield 18, 3) := by decide +kernel
theorem dX1_add_35 : decode cX1_add 35 = .ok (.aload_n 0, 1) := by decide +kernel
theorem dX1_add_36 : decode cX1_add 36 = .ok (.getfield 28, 3) := by decide +kernel
theorem dX1_add_39 : decode cX1_add 39 = .ok (.iload_n 3, 1) := by decide +kernel
theorem dX1_add_40 : decode cX1_add 40 = .ok (.iastore, 1) := by decide +kernel
theorem dX1_add_41 : decode cX1_add 41 = .ok (.aload_n 0, 1) := by decide +kernel
theorem dX1_add_42 : decode cX1_add 42 = .ok (.dup, 1) := by decide +kernel
theorem dX1_add_43 : decode cX1_add 43 = .ok (.getfield 28, 3) := by decide +kernel
theorem dX1_add_46 : decode cX1_add 46 = .ok (.iconst 1, 1) := by decide +kernel
theorem dX1_add_47 : decode cX1_add 47 = .ok (.iadd, 1) := by decide +kernel
theorem dX1_add_48 : decode cX1_add 48 = .ok (.putfield 28, 3) := by decide +kernel
theorem dX1_add_51 : decode cX1_add 51 = .ok (.aload_n 0, 1) := by decide +kernel
theorem dX1_add_52 : decode cX1_add 52 = .ok (.getfield 28, 3) := by decide +kernel
theorem dX1_add_55 : decode cX1_add 55 = .ok (.iconst 1, 1) := by decide +kernel
theorem dX1_add_56 : decode cX1_add 56 = .ok (.isub, 1) := by decide +kernel
theorem dX1_add_57 : decode cX1_add 57 = .ok (.ireturn, 1) := by decide +kernel
theorem dX1_find_0 : decode cX1_find 0 = .ok (.iconst 0, 1) := by decide +kernel
theorem dX1_find_1 : decode cX1_find 1 = .ok (.istore_n 3, 1) := by decide +kernel
theorem dX1_find_2 : decode cX1_find 2 = .ok (.iload_n 3, 1) := by decide +kernel
theorem dX1_find_3 : decode cX1_find 3 = .ok (.aload_n 0, 1) := by decide +kernel
theorem dX1_find_4 : decode cX1_find 4 = .ok (.getfield 28, 3) := by decide +kernel
theorem dX1_find_7 : decode cX1_find 7 = .ok (.if_icmp .ge 40, 3) := by decide +kernel
theorem dX1_find_10 : decode cX1_find 10 = .ok (.aload_n 0, 1) := by decide +kernel
theorem dX1_find_11 : decode cX1_find 11 = .ok (.getfield 9, 3) := by decide +kernel
theorem dX1_find_14 : decode cX1_find 14 = .ok (.iload_n 3, 1) := by decide +kernel
theorem dX1_find_15 : decode cX1_find 15 = .ok (.iaload, 1) := by decide +kernel
theorem dX1_find_16 : decode cX1_find 16 = .ok (.iload_n 1, 1) := by decide +kernel
theorem dX1_find_17 : decode cX1_find 17 = .ok (.if_icmp .ne 24, 3) := by decide +kernel
theorem dX1_find_20 : decode cX1_find 20 = .ok (.aload_n 0, 1) := by decide +kernel
theorem dX1_find_21 : decode cX1_find 21 = .ok (.getfield 15, 3) := by decide +kernel
theorem dX1_find_24 : decode cX1_find 24 = .ok (.iload_n 3, 1) := by decide +kernel
theorem dX1_find_25 : decode cX1_find 25 = .ok (.iaload, 1) := by decide +kernel
theorem dX1_find_26 : decode cX1_find 26 = .ok (.iconst 1, 1) := by decide +kernel
theorem dX1_find_27 : decode cX1_find 27 = .ok (.if_icmp .ne 7, 3) := by decide +kernel
theorem dX1_find_30 : decode cX1_find 30 = .ok (.iconst 1, 1) := by decide +kernel
theorem dX1_find_31 : decode cX1_find 31 = .ok (.goto 4, 3) := by decide +kernel
theorem dX1_find_34 : decode cX1_find 34 = .ok (.iconst 0, 1) := by decide +kernel
theorem dX1_find_35 : decode cX1_find 35 = .ok (.iload_n 2, 1) := by decide +kernel
theorem dX1_find_36 : decode cX1_find 36 = .ok (.if_icmp .ne 5, 3) := by decide +kernel
theorem dX1_find_39 : decode cX1_find 39 = .ok (.iload_n 3, 1) := by decide +kernel
theorem dX1_find_40 : decode cX1_find 40 = .ok (.ireturn, 1) := by decide +kernel
theorem dX1_find_41 : decode cX1_find 41 = .ok (.iinc 3 1, 3) := by decide +kernel
theorem dX1_find_44 : decode cX1_find 44 = .ok (.goto (-42), 3) := by decide +kernel
theorem dX1_find_47 : decode cX1_find 47 = .ok (.iconst (-1), 1) := by decide +kernel
theorem dX1_find_48 : decode cX1_find 48 = .ok (.ireturn, 1) := by decide +kernel
theorem dX1_symbolAt_0 : decode cX1_symbolAt 0 = .ok (.aload_n 0, 1) := by decide +kernel
theorem dX1_symbolAt_1 : decode cX1_symbolAt 1 = .ok (.iload_n 1, 1) := by decide +kernel
theorem dX1_symbolAt_2 : decode cX1_symbolAt 2 = .ok (.invokevirtual 32, 3) := by decide +kernel
theorem dX1_symbolAt_5 : decode cX1_symbolAt 5 = .ok (.ifCond .eq 12, 3) := by decide +kernel
theorem dX1_symbolAt_8 : decode cX1_symbolAt 8 = .ok (.aload_n 0, 1) := by decide +kernel
theorem dX1_symbolAt_9 : decode cX1_symbolAt 9 = .ok (.getfield 9, 3) := by decide +kernel
theorem dX1_symbolAt_12 : decode cX1_symbolAt 12 = .ok (.iload_n 1, 1) := by decide +kernel
theorem dX1_symbolAt_13 : decode cX1_symbolAt 13 = .ok (.iaload, 1) := by decide +kernel
theorem dX1_symbolAt_14 : decode cX1_symbolAt 14 = .ok (.goto 4, 3) := by decide +kernel
theorem dX1_symbolAt_17 : decode cX1_symbolAt 17 = .ok (.iconst (-1), 1) := by decide +kernel
theorem dX1_symbolAt_18 : decode cX1_symbolAt 18 = .ok (.ireturn, 1) := by decide +kernel
theorem dX1_kindAt_0 : decode cX1_kindAt 0 = .ok (.aload_n 0, 1) := by decide +kernel
theorem dX1_kindAt_1 : decode cX1_kindAt 1 = .ok (.iload_n 1, 1) := by decide +kernel
theorem dX1_kindAt_2 : decode cX1_kindAt 2 = .ok (.invokevirtual 32, 3) := by decide +kernel
theorem dX1_kindAt_5 : decode cX1_kindAt 5 = .ok (.ifCond .eq 12, 3) := by decide +kernel
theorem dX1_kindAt_8 : decode cX1_kindAt 8 = .ok (.aload_n 0, 1) := by decide +kernel
theorem dX1_kindAt_9 : decode cX1_kindAt 9 = .ok (.getfield 15, 3) := by decide +kernel
theorem dX1_kindAt_12 : decode cX1_kindAt 12 = .ok (.iload_n 1, 1) := by decide +kernel
theorem dX1_kindAt_13 : decode cX1_kindAt 13 = .ok (.iaload, 1) := by decide +kernel
theorem dX1_kindAt_14 : decode cX1_kindAt 14 = .ok (.goto 4, 3) := by decide +kernel
theorem dX1_kindAt_17 : decode cX1_kindAt 17 = .ok (.iconst (-1), 1) := by decide +kernel
theorem dX1_kindAt_18 : decode cX1_kindAt 18 = .ok (.ireturn, 1) := by decide +kernel
theorem dX1_levelAt_0 : decode cX1_levelAt 0 = .ok (.aload_n 0, 1) := by decide +kernel
theorem dX1_levelAt_1 : decode cX1_levelAt 1 = .ok (.iload_n 1, 1) := by decide +kernel
theorem dX1_levelAt_2 : decode cX1_levelAt 2 = .ok (.invokevirtual 32, 3) := by decide +kernel
theorem dX1_levelAt_5 : decode cX1_levelAt 5 = .ok (.ifCond .eq 12, 3) := by decide +kernel
theorem dX1_levelAt_8 : decode cX1_levelAt 8 = .ok (.aload_n 0, 1) := by decide +kernel
theorem dX1_levelAt_9 : decode cX1_levelAt 9 = .ok (.getfield 18, 3) := by decide +kernel
theorem dX1_levelAt_12 : decode cX1_levelAt 12 = .ok (.iload_n 1, 1) := by decide +kernel
theorem dX1_levelAt_13 : decode cX1_levelAt 13 = .ok (.iaload, 1) := by decide +kernel
theorem dX1_levelAt_14 : decode cX1_levelAt 14 = .ok (.goto 4, 3) := by decide +kernel
theorem dX1_levelAt_17 : decode cX1_levelAt 17 = .ok (.iconst 0, 1) := by decide +kernel
theorem dX1_levelAt_18 : decode cX1_levelAt 18 = .ok (.ireturn, 1) := by decide +kernel
theorem dX1_replaceLevel_0 : decode cX1_replaceLevel 0 = .ok (.aload_n 0, 1) := by decide +kernel
theorem dX1_replaceLevel_1 : decode cX1_replaceLevel 1 = .ok (.iload_n 1, 1) := by decide +kernel
theorem dX1_replaceLevel_2 : decode cX1_replaceLevel 2 = .ok (.invokevirtual 36, 3) := by decide +kernel
theorem dX1_replaceLevel_5 : decode cX1_replaceLevel 5 = .ok (.istore_n 3, 1) := by decide +kernel
theorem dX1_replaceLevel_6 : decode cX1_replaceLevel 6 = .ok (.aload_n 0, 1) := by decide +kernel
theorem dX1_replaceLevel_7 : decode cX1_replaceLevel 7 = .ok (.iload_n 1, 1) := by decide +kernel
theorem dX1_replaceLevel_8 : decode cX1_replaceLevel 8 = .ok (.invokevirtual 32, 3) := by decide +kernel
theorem dX1_replaceLevel_11 : decode cX1_replaceLevel 11 = .ok (.ifCond .eq 10, 3) := by decide +kernel
theorem dX1_replaceLevel_14 : decode cX1_replaceLevel 14 = .ok (.aload_n 0, 1) := by decide +kernel
theorem dX1_replaceLevel_15 : decode cX1_replaceLevel 15 = .ok (.getfield 18, 3) := by decide +kernel
theorem dX1_replaceLevel_18 : decode cX1_replaceLevel 18 = .ok (.iload_n 1, 1) := by decide +kernel
theorem dX1_replaceLevel_19 : decode cX1_replaceLevel 19 = .ok (.iload_n 2, 1) := by decide +kernel
theorem dX1_replaceLevel_20 : decode cX1_replaceLevel 20 = .ok (.iastore, 1) := by decide +kernel
theorem dX1_replaceLevel_21 : decode cX1_replaceLevel 21 = .ok (.iload_n 3, 1) := by decide +kernel
theorem dX1_replaceLevel_22 : decode cX1_replaceLevel 22 = .ok (.ireturn, 1) := by decide +kernel
theorem dX1_associativityAt_0 : decode cX1_associativityAt 0 = .ok (.iload_n 1, 1) := by decide +kernel
theorem dX1_associativityAt_1 : decode cX1_associativityAt 1 = .ok (.invokestatic 40, 3) := by decide +kernel
theorem dX1_associativityAt_4 : decode cX1_associativityAt 4 = .ok (.ifCond .eq 12, 3) := by decide +kernel
theorem dX1_associativityAt_7 : decode cX1_associativityAt 7 = .ok (.aload_n 0, 1) := by decide +kernel
theorem dX1_associativityAt_8 : decode cX1_associativityAt 8 = .ok (.getfield 21, 3) := by decide +kernel
theorem dX1_associativityAt_11 : decode cX1_associativityAt 11 = .ok (.iload_n 1, 1) := by decide +kernel
theorem dX1_associativityAt_12 : decode cX1_associativityAt 12 = .ok (.iaload, 1) := by decide +kernel
theorem dX1_associativityAt_13 : decode cX1_associativityAt 13 = .ok (.goto 4, 3) := by decide +kernel
theorem dX1_associativityAt_16 : decode cX1_associativityAt 16 = .ok (.iconst 0, 1) := by decide +kernel
theorem dX1_associativityAt_17 : decode cX1_associativityAt 17 = .ok (.ireturn, 1) := by decide +kernel
theorem dX1_replaceAssociativity_0 : decode cX1_replaceAssociativity 0 = .ok (.aload_n 0, 1) := by decide +kernel
theorem dX1_replaceAssociativity_1 : decode cX1_replaceAssociativity 1 = .ok (.iload_n 1, 1) := by decide +kernel
theorem dX1_replaceAssociativity_2 : decode cX1_replaceAssociativity 2 = .ok (.invokevirtual 43, 3) := by decide +kernel
theorem dX1_replaceAssociativity_5 : decode cX1_replaceAssociativity 5 = .ok (.istore_n 3, 1) := by decide +kernel
theorem dX1_replaceAssociativity_6 : decode cX1_replaceAssociativity 6 = .ok (.iload_n 1, 1) := by decide +kernel
theorem dX1_replaceAssociativity_7 : decode cX1_replaceAssociativity 7 = .ok (.invokestatic 40, 3) := by decide +kernel
theorem dX1_replaceAssociativity_10 : decode cX1_replaceAssociativity 10 = .ok (.ifCond .eq 10, 3) := by decide +kernel
theorem dX1_replaceAssociativity_13 : decode cX1_replaceAssociativity 13 = .ok (.aload_n 0, 1) := by decide +kernel
theorem dX1_replaceAssociativity_14 : decode cX1_replaceAssociativity 14 = .ok (.getfield 21, 3) := by decide +kernel
theorem dX1_replaceAssociativity_17 : decode cX1_replaceAssociativity 17 = .ok (.iload_n 1, 1) := by decide +kernel
theorem dX1_replaceAssociativity_18 : decode cX1_replaceAssociativity 18 = .ok (.iload_n 2, 1) := by decide +kernel
theorem dX1_replaceAssociativity_19 : decode cX1_replaceAssociativity 19 = .ok (.iastore, 1) := by decide +kernel
theorem dX1_replaceAssociativity_20 : decode cX1_replaceAssociativity 20 = .ok (.iload_n 3, 1) := by decide +kernel
theorem dX1_replaceAssociativity_21 : decode cX1_replaceAssociativity 21 = .ok (.ireturn, 1) := by decide +kernel
theorem dX1_isForbidden_0 : decode cX1_isForbidden 0 = .ok (.aload_n 0, 1) := by decide +kernel
theorem dX1_isForbidden_1 : decode cX1_isForbidden 1 = .ok (.iload_n 1, 1) := by decide +kernel
theorem dX1_isForbidden_2 : decode cX1_isForbidden 2 = .ok (.invokevirtual 32, 3) := by decide +kernel
theorem dX1_isForbidden_5 : decode cX1_isForbidden 5 = .ok (.ifCond .eq 29, 3) := by decide +kernel
theorem dX1_isForbidden_8 : decode cX1_isForbidden 8 = .ok (.aload_n 0, 1) := by decide +kernel
theorem dX1_isForbidden_9 : decode cX1_isForbidden 9 = .ok (.iload_n 2, 1) := by decide +kernel
theorem dX1_isForbidden_10 : decode cX1_isForbidden 10 = .ok (.invokevirtual 32, 3) := by decide +kernel
theorem dX1_isForbidden_13 : decode cX1_isForbidden 13 = .ok (.ifCond .eq 21, 3) := by decide +kernel
theorem dX1_isForbidden_16 : decode cX1_isForbidden 16 = .ok (.aload_n 0, 1) := by decide +kernel
theorem dX1_isForbidden_17 : decode cX1_isForbidden 17 = .ok (.getfield 24, 3) := by decide +kernel
theorem dX1_isForbidden_20 : decode cX1_isForbidden 20 = .ok (.iload_n 1, 1) := by decide +kernel
theorem dX1_isForbidden_21 : decode cX1_isForbidden 21 = .ok (.bipush 16, 2) := by decide +kernel
theorem dX1_isForbidden_23 : decode cX1_isForbidden 23 = .ok (.imul, 1) := by decide +kernel
theorem dX1_isForbidden_24 : decode cX1_isForbidden 24 = .ok (.iload_n 2, 1) := by decide +kernel
theorem dX1_isForbidden_25 : decode cX1_isForbidden 25 = .ok (.iadd, 1) := by decide +kernel
theorem dX1_isForbidden_26 : decode cX1_isForbidden 26 = .ok (.baload, 1) := by decide +kernel
theorem dX1_isForbidden_27 : decode cX1_isForbidden 27 = .ok (.ifCond .eq 7, 3) := by decide +kernel
theorem dX1_isForbidden_30 : decode cX1_isForbidden 30 = .ok (.iconst 1, 1) := by decide +kernel
theorem dX1_isForbidden_31 : decode cX1_isForbidden 31 = .ok (.goto 4, 3) := by decide +kernel
theorem dX1_isForbidden_34 : decode cX1_isForbidden 34 = .ok (.iconst 0, 1) := by decide +kernel
theorem dX1_isForbidden_35 : decode cX1_isForbidden 35 = .ok (.ireturn, 1) := by decide +kernel
theorem dX1_replaceForbidden_0 : decode cX1_replaceForbidden 0 = .ok (.aload_n 0, 1) := by decide +kernel
theorem dX1_replaceForbidden_1 : decode cX1_replaceForbidden 1 = .ok (.iload_n 1, 1) := by decide +kernel
theorem dX1_replaceForbidden_2 : decode cX1_replaceForbidden 2 = .ok (.iload_n 2, 1) := by decide +kernel
theorem dX1_replaceForbidden_3 : decode cX1_replaceForbidden 3 = .ok (.invokevirtual 46, 3) := by decide +kernel
theorem dX1_replaceForbidden_6 : decode cX1_replaceForbidden 6 = .ok (.istore 4, 2) := by decide +kernel
theorem dX1_replaceForbidden_8 : decode cX1_replaceForbidden 8 = .ok (.aload_n 0, 1) := by decide +kernel
theorem dX1_replaceForbidden_9 : decode cX1_replaceForbidden 9 = .ok (.iload_n 1, 1) := by decide +kernel
theorem dX1_replaceForbidden_10 : decode cX1_replaceForbidden 10 = .ok (.invokevirtual 32, 3) := by decide +kernel
theorem dX1_replaceForbidden_13 : decode cX1_replaceForbidden 13 = .ok (.ifCond .eq 23, 3) := by decide +kernel
theorem dX1_replaceForbidden_16 : decode cX1_replaceForbidden 16 = .ok (.aload_n 0, 1) := by decide +kernel
theorem dX1_replaceForbidden_17 : decode cX1_replaceForbidden 17 = .ok (.iload_n 2, 1) := by decide +kernel
theorem dX1_replaceForbidden_18 : decode cX1_replaceForbidden 18 = .ok (.invokevirtual 32, 3) := by decide +kernel
theorem dX1_replaceForbidden_21 : decode cX1_replaceForbidden 21 = .ok (.ifCond .eq 15, 3) := by decide +kernel
theorem dX1_replaceForbidden_24 : decode cX1_replaceForbidden 24 = .ok (.aload_n 0, 1) := by decide +kernel
theorem dX1_replaceForbidden_25 : decode cX1_replaceForbidden 25 = .ok (.getfield 24, 3) := by decide +kernel
theorem dX1_replaceForbidden_28 : decode cX1_replaceForbidden 28 = .ok (.iload_n 1, 1) := by decide +kernel
theorem dX1_replaceForbidden_29 : decode cX1_replaceForbidden 29 = .ok (.bipush 16, 2) := by decide +kernel
theorem dX1_replaceForbidden_31 : decode cX1_replaceForbidden 31 = .ok (.imul, 1) := by decide +kernel
theorem dX1_replaceForbidden_32 : decode cX1_replaceForbidden 32 = .ok (.iload_n 2, 1) := by decide +kernel
theorem dX1_replaceForbidden_33 : decode cX1_replaceForbidden 33 = .ok (.iadd, 1) := by decide +kernel
theorem dX1_replaceForbidden_34 : decode cX1_replaceForbidden 34 = .ok (.iload_n 3, 1) := by decide +kernel
theorem dX1_replaceForbidden_35 : decode cX1_replaceForbidden 35 = .ok (.bastore, 1) := by decide +kernel
theorem dX1_replaceForbidden_36 : decode cX1_replaceForbidden 36 = .ok (.iload 4, 2) := by decide +kernel
theorem dX1_replaceForbidden_38 : decode cX1_replaceForbidden 38 = .ok (.ireturn, 1) := by decide +kernel
theorem dX1_minAfter_0 : decode cX1_minAfter 0 = .ok (.aload_n 0, 1) := by decide +kernel
theorem dX1_minAfter_1 : decode cX1_minAfter 1 = .ok (.iload_n 1, 1) := by decide +kernel
theorem dX1_minAfter_2 : decode cX1_minAfter 2 = .ok (.invokevirtual 32, 3) := by decide +kernel
theorem dX1_minAfter_5 : decode cX1_minAfter 5 = .ok (.ifCond .ne 5, 3) := by decide +kernel
theorem dX1_minAfter_8 : decode cX1_minAfter 8 = .ok (.iconst 0, 1) := by decide +kernel
theorem dX1_minAfter_9 : decode cX1_minAfter 9 = .ok (.ireturn, 1) := by decide +kernel
theorem dX1_minAfter_10 : decode cX1_minAfter 10 = .ok (.aload_n 0, 1) := by decide +kernel
theorem dX1_minAfter_11 : decode cX1_minAfter 11 = .ok (.getfield 18, 3) := by decide +kernel
theorem dX1_minAfter_14 : decode cX1_minAfter 14 = .ok (.iload_n 1, 1) := by decide +kernel
theorem dX1_minAfter_15 : decode cX1_minAfter 15 = .ok (.iaload, 1) := by decide +kernel
theorem dX1_minAfter_16 : decode cX1_minAfter 16 = .ok (.istore_n 2, 1) := by decide +kernel
theorem dX1_minAfter_17 : decode cX1_minAfter 17 = .ok (.iload_n 2, 1) := by decide +kernel
theorem dX1_minAfter_18 : decode cX1_minAfter 18 = .ok (.invokestatic 40, 3) := by decide +kernel
theorem dX1_minAfter_21 : decode cX1_minAfter 21 = .ok (.ifCond .eq 17, 3) := by decide +kernel
theorem dX1_minAfter_24 : decode cX1_minAfter 24 = .ok (.aload_n 0, 1) := by decide +kernel
theorem dX1_minAfter_25 : decode cX1_minAfter 25 = .ok (.getfield 21, 3) := by decide +kernel
theorem dX1_minAfter_28 : decode cX1_minAfter 28 = .ok (.iload_n 2, 1) := by decide +kernel
theorem dX1_minAfter_29 : decode cX1_minAfter 29 = .ok (.iaload, 1) := by decide +kernel
theorem dX1_minAfter_30 : decode cX1_minAfter 30 = .ok (.iconst 1, 1) := by decide +kernel
theorem dX1_minAfter_31 : decode cX1_minAfter 31 = .ok (.if_icmp .ne 7, 3) := by decide +kernel
theorem dX1_minAfter_34 : decode cX1_minAfter 34 = .ok (.iconst 1, 1) := by decide +kernel
theorem dX1_minAfter_35 : decode cX1_minAfter 35 = .ok (.goto 4, 3) := by decide +kernel
theorem dX1_minAfter_38 : decode cX1_minAfter 38 = .ok (.iconst 0, 1) := by decide +kernel
theorem dX1_minAfter_39 : decode cX1_minAfter 39 = .ok (.istore_n 3, 1) := by decide +kernel
theorem dX1_minAfter_40 : decode cX1_minAfter 40 = .ok (.aload_n 0, 1) := by decide +kernel
theorem dX1_minAfter_41 : decode cX1_minAfter 41 = .ok (.getfield 15, 3) := by decide +kernel
theorem dX1_minAfter_44 : decode cX1_minAfter 44 = .ok (.iload_n 1, 1) := by decide +kernel
theorem dX1_minAfter_45 : decode cX1_minAfter 45 = .ok (.iaload, 1) := by decide +kernel
theorem dX1_minAfter_46 : decode cX1_minAfter 46 = .ok (.ifCond .ne 13, 3) := by decide +kernel
theorem dX1_minAfter_49 : decode cX1_minAfter 49 = .ok (.iload_n 3, 1) := by decide +kernel
theorem dX1_minAfter_50 : decode cX1_minAfter 50 = .ok (.ifCond .ne 9, 3) := by decide +kernel
theorem dX1_minAfter_53 : decode cX1_minAfter 53 = .ok (.iload_n 2, 1) := by decide +kernel
theorem dX1_minAfter_54 : decode cX1_minAfter 54 = .ok (.iconst 1, 1) := by decide +kernel
theorem dX1_minAfter_55 : decode cX1_minAfter 55 = .ok (.iadd, 1) := by decide +kernel
theorem dX1_minAfter_56 : decode cX1_minAfter 56 = .ok (.goto 4, 3) := by decide +kernel
theorem dX1_minAfter_59 : decode cX1_minAfter 59 = .ok (.iload_n 2, 1) := by decide +kernel
theorem dX1_minAfter_60 : decode cX1_minAfter 60 = .ok (.ireturn, 1) := by decide +kernel
theorem dX1_isNotAssociative_0 : decode cX1_isNotAssociative 0 = .ok (.aload_n 0, 1) := by decide +kernel
theorem dX1_isNotAssociative_1 : decode cX1_isNotAssociative 1 = .ok (.iload_n 1, 1) := by decide +kernel
theorem dX1_isNotAssociative_2 : decode cX1_isNotAssociative 2 = .ok (.invokevirtual 36, 3) := by decide +kernel
theorem dX1_isNotAssociative_5 : decode cX1_isNotAssociative 5 = .ok (.istore_n 3, 1) := by decide +kernel
theorem dX1_isNotAssociative_6 : decode cX1_isNotAssociative 6 = .ok (.aload_n 0, 1) := by decide +kernel
theorem dX1_isNotAssociative_7 : decode cX1_isNotAssociative 7 = .ok (.iload_n 1, 1) := by decide +kernel
theorem dX1_isNotAssociative_8 : decode cX1_isNotAssociative 8 = .ok (.invokevirtual 50, 3) := by decide +kernel
theorem dX1_isNotAssociative_11 : decode cX1_isNotAssociative 11 = .ok (.ifCond .ne 33, 3) := by decide +kernel
theorem dX1_isNotAssociative_14 : decode cX1_isNotAssociative 14 = .ok (.aload_n 0, 1) := by decide +kernel
theorem dX1_isNotAssociative_15 : decode cX1_isNotAssociative 15 = .ok (.iload_n 2, 1) := by decide +kernel
theorem dX1_isNotAssociative_16 : decode cX1_isNotAssociative 16 = .ok (.invokevirtual 50, 3) := by decide +kernel
theorem dX1_isNotAssociative_19 : decode cX1_isNotAssociative 19 = .ok (.ifCond .ne 25, 3) := by decide +kernel
theorem dX1_isNotAssociative_22 : decode cX1_isNotAssociative 22 = .ok (.aload_n 0, 1) := by decide +kernel
theorem dX1_isNotAssociative_23 : decode cX1_isNotAssociative 23 = .ok (.iload_n 2, 1) := by decide +kernel
theorem dX1_isNotAssociative_24 : decode cX1_isNotAssociative 24 = .ok (.invokevirtual 36, 3) := by decide +kernel
theorem dX1_isNotAssociative_27 : decode cX1_isNotAssociative 27 = .ok (.iload_n 3, 1) := by decide +kernel
theorem dX1_isNotAssociative_28 : decode cX1_isNotAssociative 28 = .ok (.if_icmp .ne 16, 3) := by decide +kernel
theorem dX1_isNotAssociative_31 : decode cX1_isNotAssociative 31 = .ok (.aload_n 0, 1) := by decide +kernel
theorem dX1_isNotAssociative_32 : decode cX1_isNotAssociative 32 = .ok (.iload_n 3, 1) := by decide +kernel
theorem dX1_isNotAssociative_33 : decode cX1_isNotAssociative 33 = .ok (.invokevirtual 43, 3) := by decide +kernel
theorem dX1_isNotAssociative_36 : decode cX1_isNotAssociative 36 = .ok (.iconst 2, 1) := by decide +kernel
theorem dX1_isNotAssociative_37 : decode cX1_isNotAssociative 37 = .ok (.if_icmp .ne 7, 3) := by decide +kernel
theorem dX1_isNotAssociative_40 : decode cX1_isNotAssociative 40 = .ok (.iconst 1, 1) := by decide +kernel
theorem dX1_isNotAssociative_41 : decode cX1_isNotAssociative 41 = .ok (.goto 4, 3) := by decide +kernel
theorem dX1_isNotAssociative_44 : decode cX1_isNotAssociative 44 = .ok (.iconst 0, 1) := by decide +kernel
theorem dX1_isNotAssociative_45 : decode cX1_isNotAssociative 45 = .ok (.ireturn, 1) := by decide +kernel
theorem dX3_length_0 : decode cX3_length 0 = .ok (.aload_n 0, 1) := by decide +kernel
theorem dX3_length_1 : decode cX3_length 1 = .ok (.getfield 15, 3) := by decide +kernel
theorem dX3_length_4 : decode cX3_length 4 = .ok (.ireturn, 1) := by decide +kernel
theorem dX3_empty_0 : decode cX3_empty 0 = .ok (.aload_n 0, 1) := by decide +kernel
theorem dX3_empty_1 : decode cX3_empty 1 = .ok (.iconst 0, 1) := by decide +kernel
theorem dX3_empty_2 : decode cX3_empty 2 = .ok (.putfield 15, 3) := by decide +kernel
theorem dX3_empty_5 : decode cX3_empty 5 = .ok (.return_, 1) := by decide +kernel
theorem dX3_put_0 : decode cX3_put 0 = .ok (.aload_n 0, 1) := by decide +kernel
theorem dX3_put_1 : decode cX3_put 1 = .ok (.getfield 15, 3) := by decide +kernel
theorem dX3_put_4 : decode cX3_put 4 = .ok (.bipush 120, 2) := by decide +kernel
theorem dX3_put_6 : decode cX3_put 6 = .ok (.if_icmp .lt 5, 3) := by decide +kernel
theorem dX3_put_9 : decode cX3_put 9 = .ok (.iconst 0, 1) := by decide +kernel
theorem dX3_put_10 : decode cX3_put 10 = .ok (.ireturn, 1) := by decide +kernel
theorem dX3_put_11 : decode cX3_put 11 = .ok (.aload_n 0, 1) := by decide +kernel
theorem dX3_put_12 : decode cX3_put 12 = .ok (.getfield 9, 3) := by decide +kernel
theorem dX3_put_15 : decode cX3_put 15 = .ok (.aload_n 0, 1) := by decide +kernel
theorem dX3_put_16 : decode cX3_put 16 = .ok (.getfield 15, 3) := by decide +kernel
theorem dX3_put_19 : decode cX3_put 19 = .ok (.iload_n 1, 1) := by decide +kernel
theorem dX3_put_20 : decode cX3_put 20 = .ok (.iastore, 1) := by decide +kernel
theorem dX3_put_21 : decode cX3_put 21 = .ok (.aload_n 0, 1) := by decide +kernel
theorem dX3_put_22 : decode cX3_put 22 = .ok (.dup, 1) := by decide +kernel
theorem dX3_put_23 : decode cX3_put 23 = .ok (.getfield 15, 3) := by decide +kernel
theorem dX3_put_26 : decode cX3_put 26 = .ok (.iconst 1, 1) := by decide +kernel
theorem dX3_put_27 : decode cX3_put 27 = .ok (.iadd, 1) := by decide +kernel
theorem dX3_put_28 : decode cX3_put 28 = .ok (.putfield 15, 3) := by decide +kernel
theorem dX3_put_31 : decode cX3_put 31 = .ok (.iconst 1, 1) := by decide +kernel
theorem dX3_put_32 : decode cX3_put 32 = .ok (.ireturn, 1) := by decide +kernel
theorem dX3_at_0 : decode cX3_at 0 = .ok (.iload_n 1, 1) := by decide +kernel
theorem dX3_at_1 : decode cX3_at 1 = .ok (.ifCond .lt 20, 3) := by decide +kernel
theorem dX3_at_4 : decode cX3_at 4 = .ok (.iload_n 1, 1) := by decide +kernel
theorem dX3_at_5 : decode cX3_at 5 = .ok (.aload_n 0, 1) := by decide +kernel
theorem dX3_at_6 : decode cX3_at 6 = .ok (.getfield 15, 3) := by decide +kernel
theorem dX3_at_9 : decode cX3_at 9 = .ok (.if_icmp .ge 12, 3) := by decide +kernel
theorem dX3_at_12 : decode cX3_at 12 = .ok (.aload_n 0, 1) := by decide +kernel
theorem dX3_at_13 : decode cX3_at 13 = .ok (.getfield 9, 3) := by decide +kernel
theorem dX3_at_16 : decode cX3_at 16 = .ok (.iload_n 1, 1) := by decide +kernel
theorem dX3_at_17 : decode cX3_at 17 = .ok (.iaload, 1) := by decide +kernel
theorem dX3_at_18 : decode cX3_at 18 = .ok (.goto 4, 3) := by decide +kernel
theorem dX3_at_21 : decode cX3_at 21 = .ok (.iconst (-1), 1) := by decide +kernel
theorem dX3_at_22 : decode cX3_at 22 = .ok (.ireturn, 1) := by decide +kernel
theorem dX3_copyFrom_0 : decode cX3_copyFrom 0 = .ok (.aload_n 0, 1) := by decide +kernel
theorem dX3_copyFrom_1 : decode cX3_copyFrom 1 = .ok (.invokevirtual 19, 3) := by decide +kernel
theorem dX3_copyFrom_4 : decode cX3_copyFrom 4 = .ok (.iconst 0, 1) := by decide +kernel
theorem dX3_copyFrom_5 : decode cX3_copyFrom 5 = .ok (.istore_n 2, 1) := by decide +kernel
theorem dX3_copyFrom_6 : decode cX3_copyFrom 6 = .ok (.iload_n 2, 1) := by decide +kernel
theorem dX3_copyFrom_7 : decode cX3_copyFrom 7 = .ok (.aload_n 1, 1) := by decide +kernel
theorem dX3_copyFrom_8 : decode cX3_copyFrom 8 = .ok (.getfield 15, 3) := by decide +kernel
theorem dX3_copyFrom_11 : decode cX3_copyFrom 11 = .ok (.if_icmp .ge 20, 3) := by decide +kernel
theorem dX3_copyFrom_14 : decode cX3_copyFrom 14 = .ok (.aload_n 0, 1) := by decide +kernel
theorem dX3_copyFrom_15 : decode cX3_copyFrom 15 = .ok (.aload_n 1, 1) := by decide +kernel
theorem dX3_copyFrom_16 : decode cX3_copyFrom 16 = .ok (.getfield 9, 3) := by decide +kernel
theorem dX3_copyFrom_19 : decode cX3_copyFrom 19 = .ok (.iload_n 2, 1) := by decide +kernel
theorem dX3_copyFrom_20 : decode cX3_copyFrom 20 = .ok (.iaload, 1) := by decide +kernel
theorem dX3_copyFrom_21 : decode cX3_copyFrom 21 = .ok (.invokevirtual 22, 3) := by decide +kernel
theorem dX3_copyFrom_24 : decode cX3_copyFrom 24 = .ok (.pop, 1) := by decide +kernel
theorem dX3_copyFrom_25 : decode cX3_copyFrom 25 = .ok (.iinc 2 1, 3) := by decide +kernel
theorem dX3_copyFrom_28 : decode cX3_copyFrom 28 = .ok (.goto (-22), 3) := by decide +kernel
theorem dX3_copyFrom_31 : decode cX3_copyFrom 31 = .ok (.return_, 1) := by decide +kernel
theorem dX3_copyWithoutPair_0 : decode cX3_copyWithoutPair 0 = .ok (.aload_n 1, 1) := by decide +kernel
theorem dX3_copyWithoutPair_1 : decode cX3_copyWithoutPair 1 = .ok (.iload_n 2, 1) := by decide +kernel
theorem dX3_copyWithoutPair_2 : decode cX3_copyWithoutPair 2 = .ok (.invokevirtual 26, 3) := by decide +kernel
theorem dX3_copyWithoutPair_5 : decode cX3_copyWithoutPair 5 = .ok (.istore_n 3, 1) := by decide +kernel
theorem dX3_copyWithoutPair_6 : decode cX3_copyWithoutPair 6 = .ok (.aload_n 1, 1) := by decide +kernel
theorem dX3_copyWithoutPair_7 : decode cX3_copyWithoutPair 7 = .ok (.iload_n 3, 1) := by decide +kernel
theorem dX3_copyWithoutPair_8 : decode cX3_copyWithoutPair 8 = .ok (.invokevirtual 30, 3) := by decide +kernel
theorem dX3_copyWithoutPair_11 : decode cX3_copyWithoutPair 11 = .ok (.istore 4, 2) := by decide +kernel
theorem dX3_copyWithoutPair_13 : decode cX3_copyWithoutPair 13 = .ok (.aload_n 0, 1) := by decide +kernel
theorem dX3_copyWithoutPair_14 : decode cX3_copyWithoutPair 14 = .ok (.invokevirtual 19, 3) := by decide +kernel
theorem dX3_copyWithoutPair_17 : decode cX3_copyWithoutPair 17 = .ok (.iconst 0, 1) := by decide +kernel
theorem dX3_copyWithoutPair_18 : decode cX3_copyWithoutPair 18 = .ok (.istore 5, 2) := by decide +kernel
theorem dX3_copyWithoutPair_20 : decode cX3_copyWithoutPair 20 = .ok (.iload 5, 2) := by decide +kernel
theorem dX3_copyWithoutPair_22 : decode cX3_copyWithoutPair 22 = .ok (.aload_n 1, 1) := by decide +kernel
theorem dX3_copyWithoutPair_23 : decode cX3_copyWithoutPair 23 = .ok (.getfield 15, 3) := by decide +kernel
theorem dX3_copyWithoutPair_26 : decode cX3_copyWithoutPair 26 = .ok (.if_icmp .ge 34, 3) := by decide +kernel
theorem dX3_copyWithoutPair_29 : decode cX3_copyWithoutPair 29 = .ok (.iload 5, 2) := by decide +kernel
theorem dX3_copyWithoutPair_31 : decode cX3_copyWithoutPair 31 = .ok (.iload_n 3, 1) := by decide +kernel
theorem dX3_copyWithoutPair_32 : decode cX3_copyWithoutPair 32 = .ok (.if_icmp .eq 22, 3) := by decide +kernel
theorem dX3_copyWithoutPair_35 : decode cX3_copyWithoutPair 35 = .ok (.iload 5, 2) := by decide +kernel
theorem dX3_copyWithoutPair_37 : decode cX3_copyWithoutPair 37 = .ok (.iload 4, 2) := by decide +kernel
theorem dX3_copyWithoutPair_39 : decode cX3_copyWithoutPair 39 = .ok (.if_icmp .eq 15, 3) := by decide +kernel
theorem dX3_copyWithoutPair_42 : decode cX3_copyWithoutPair 42 = .ok (.aload_n 0, 1) := by decide +kernel
theorem dX3_copyWithoutPair_43 : decode cX3_copyWithoutPair 43 = .ok (.aload_n 1, 1) := by decide +kernel
theorem dX3_copyWithoutPair_44 : decode cX3_copyWithoutPair 44 = .ok (.getfield 9, 3) := by decide +kernel
theorem dX3_copyWithoutPair_47 : decode cX3_copyWithoutPair 47 = .ok (.iload 5, 2) := by decide +kernel
theorem dX3_copyWithoutPair_49 : decode cX3_copyWithoutPair 49 = .ok (.iaload, 1) := by decide +kernel
theorem dX3_copyWithoutPair_50 : decode cX3_copyWithoutPair 50 = .ok (.invokevirtual 22, 3) := by decide +kernel
theorem dX3_copyWithoutPair_53 : decode cX3_copyWithoutPair 53 = .ok (.pop, 1) := by decide +kernel
theorem dX3_copyWithoutPair_54 : decode cX3_copyWithoutPair 54 = .ok (.iinc 5 1, 3) := by decide +kernel
theorem dX3_copyWithoutPair_57 : decode cX3_copyWithoutPair 57 = .ok (.goto (-37), 3) := by decide +kernel
theorem dX3_copyWithoutPair_60 : decode cX3_copyWithoutPair 60 = .ok (.return_, 1) := by decide +kernel
theorem dX3_countPairs_0 : decode cX3_countPairs 0 = .ok (.iconst 0, 1) := by decide +kernel
theorem dX3_countPairs_1 : decode cX3_countPairs 1 = .ok (.istore_n 1, 1) := by decide +kernel
theorem dX3_countPairs_2 : decode cX3_countPairs 2 = .ok (.iconst 0, 1) := by decide +kernel
theorem dX3_countPairs_3 : decode cX3_countPairs 3 = .ok (.istore_n 2, 1) := by decide +kernel
theorem dX3_countPairs_4 : decode cX3_countPairs 4 = .ok (.iload_n 2, 1) := by decide +kernel
theorem dX3_countPairs_5 : decode cX3_countPairs 5 = .ok (.aload_n 0, 1) := by decide +kernel
theorem dX3_countPairs_6 : decode cX3_countPairs 6 = .ok (.getfield 15, 3) := by decide +kernel
theorem dX3_countPairs_9 : decode cX3_countPairs 9 = .ok (.if_icmp .ge 23, 3) := by decide +kernel
theorem dX3_countPairs_12 : decode cX3_countPairs 12 = .ok (.aload_n 0, 1) := by decide +kernel
theorem dX3_countPairs_13 : decode cX3_countPairs 13 = .ok (.getfield 9, 3) := by decide +kernel
theorem dX3_countPairs_16 : decode cX3_countPairs 16 = .ok (.iload_n 2, 1) := by decide +kernel
theorem dX3_countPairs_17 : decode cX3_countPairs 17 = .ok (.iaload, 1) := by decide +kernel
theorem dX3_countPairs_18 : decode cX3_countPairs 18 = .ok (.bipush 40, 2) := by decide +kernel
theorem dX3_countPairs_20 : decode cX3_countPairs 20 = .ok (.if_icmp .ne 6, 3) := by decide +kernel
theorem dX3_countPairs_23 : decode cX3_countPairs 23 = .ok (.iinc 1 1, 3) := by decide +kernel
theorem dX3_countPairs_26 : decode cX3_countPairs 26 = .ok (.iinc 2 1, 3) := by decide +kernel
theorem dX3_countPairs_29 : decode cX3_countPairs 29 = .ok (.goto (-25), 3) := by decide +kernel
theorem dX3_countPairs_32 : decode cX3_countPairs 32 = .ok (.iload_n 1, 1) := by decide +kernel
theorem dX3_countPairs_33 : decode cX3_countPairs 33 = .ok (.ireturn, 1) := by decide +kernel
theorem dX3_openOf_0 : decode cX3_openOf 0 = .ok (.iconst 0, 1) := by decide +kernel
theorem dX3_openOf_1 : decode cX3_openOf 1 = .ok (.istore_n 2, 1) := by decide +kernel
theorem dX3_openOf_2 : decode cX3_openOf 2 = .ok (.iconst 0, 1) := by decide +kernel
theorem dX3_openOf_3 : decode cX3_openOf 3 = .ok (.istore_n 3, 1) := by decide +kernel
theorem dX3_openOf_4 : decode cX3_openOf 4 = .ok (.iload_n 3, 1) := by decide +kernel
theorem dX3_openOf_5 : decode cX3_openOf 5 = .ok (.aload_n 0, 1) := by decide +kernel
theorem dX3_openOf_6 : decode cX3_openOf 6 = .ok (.getfield 15, 3) := by decide +kernel
theorem dX3_openOf_9 : decode cX3_openOf 9 = .ok (.if_icmp .ge 30, 3) := by decide +kernel
theorem dX3_openOf_12 : decode cX3_openOf 12 = .ok (.aload_n 0, 1) := by decide +kernel
theorem dX3_openOf_13 : decode cX3_openOf 13 = .ok (.getfield 9, 3) := by decide +kernel
theorem dX3_openOf_16 : decode cX3_openOf 16 = .ok (.iload_n 3, 1) := by decide +kernel
theorem dX3_openOf_17 : decode cX3_openOf 17 = .ok (.iaload, 1) := by decide +kernel
theorem dX3_openOf_18 : decode cX3_openOf 18 = .ok (.bipush 40, 2) := by decide +kernel
theorem dX3_openOf_20 : decode cX3_openOf 20 = .ok (.if_icmp .ne 13, 3) := by decide +kernel
theorem dX3_openOf_23 : decode cX3_openOf 23 = .ok (.iload_n 2, 1) := by decide +kernel
theorem dX3_openOf_24 : decode cX3_openOf 24 = .ok (.iload_n 1, 1) := by decide +kernel
theorem dX3_openOf_25 : decode cX3_openOf 25 = .ok (.if_icmp .ne 5, 3) := by decide +kernel
theorem dX3_openOf_28 : decode cX3_openOf 28 = .ok (.iload_n 3, 1) := by decide +kernel
theorem dX3_openOf_29 : decode cX3_openOf 29 = .ok (.ireturn, 1) := by decide +kernel
theorem dX3_openOf_30 : decode cX3_openOf 30 = .ok (.iinc 2 1, 3) := by decide +kernel
theorem dX3_openOf_33 : decode cX3_openOf 33 = .ok (.iinc 3 1, 3) := by decide +kernel
theorem dX3_openOf_36 : decode cX3_openOf 36 = .ok (.goto (-32), 3) := by decide +kernel
theorem dX3_openOf_39 : decode cX3_openOf 39 = .ok (.iconst (-1), 1) := by decide +kernel
theorem dX3_openOf_40 : decode cX3_openOf 40 = .ok (.ireturn, 1) := by decide +kernel
theorem dX3_closeOf_0 : decode cX3_closeOf 0 = .ok (.iconst 0, 1) := by decide +kernel
theorem dX3_closeOf_1 : decode cX3_closeOf 1 = .ok (.istore_n 2, 1) := by decide +kernel
theorem dX3_closeOf_2 : decode cX3_closeOf 2 = .ok (.iload_n 1, 1) := by decide +kernel
theorem dX3_closeOf_3 : decode cX3_closeOf 3 = .ok (.iconst 0, 1) := by decide +kernel
theorem dX3_closeOf_4 : decode cX3_closeOf 4 = .ok (.invokestatic 33, 3) := by decide +kernel
theorem dX3_closeOf_7 : decode cX3_closeOf 7 = .ok (.istore_n 3, 1) := by decide +kernel
theorem dX3_closeOf_8 : decode cX3_closeOf 8 = .ok (.iload_n 3, 1) := by decide +kernel
theorem dX3_closeOf_9 : decode cX3_closeOf 9 = .ok (.aload_n 0, 1) := by decide +kernel
theorem dX3_closeOf_10 : decode cX3_closeOf 10 = .ok (.getfield 15, 3) := by decide +kernel
theorem dX3_closeOf_13 : decode cX3_closeOf 13 = .ok (.if_icmp .ge 46, 3) := by decide +kernel
theorem dX3_closeOf_16 : decode cX3_closeOf 16 = .ok (.aload_n 0, 1) := by decide +kernel
theorem dX3_closeOf_17 : decode cX3_closeOf 17 = .ok (.getfield 9, 3) := by decide +kernel
theorem dX3_closeOf_20 : decode cX3_closeOf 20 = .ok (.iload_n 3, 1) := by decide +kernel
theorem dX3_closeOf_21 : decode cX3_closeOf 21 = .ok (.iaload, 1) := by decide +kernel
theorem dX3_closeOf_22 : decode cX3_closeOf 22 = .ok (.bipush 40, 2) := by decide +kernel
theorem dX3_closeOf_24 : decode cX3_closeOf 24 = .ok (.if_icmp .ne 9, 3) := by decide +kernel
theorem dX3_closeOf_27 : decode cX3_closeOf 27 = .ok (.iinc 2 1, 3) := by decide +kernel
theorem dX3_closeOf_30 : decode cX3_closeOf 30 = .ok (.goto 23, 3) := by decide +kernel
theorem dX3_closeOf_33 : decode cX3_closeOf 33 = .ok (.aload_n 0, 1) := by decide +kernel
theorem dX3_closeOf_34 : decode cX3_closeOf 34 = .ok (.getfield 9, 3) := by decide +kernel
theorem dX3_closeOf_37 : decode cX3_closeOf 37 = .ok (.iload_n 3, 1) := by decide +kernel
theorem dX3_closeOf_38 : decode cX3_closeOf 38 = .ok (.iaload, 1) := by decide +kernel
theorem dX3_closeOf_39 : decode cX3_closeOf 39 = .ok (.bipush 41, 2) := by decide +kernel
theorem dX3_closeOf_41 : decode cX3_closeOf 41 = .ok (.if_icmp .ne 12, 3) := by decide +kernel
theorem dX3_closeOf_44 : decode cX3_closeOf 44 = .ok (.iinc 2 (-1), 3) := by decide +kernel
theorem dX3_closeOf_47 : decode cX3_closeOf 47 = .ok (.iload_n 2, 1) := by decide +kernel
theorem dX3_closeOf_48 : decode cX3_closeOf 48 = .ok (.ifCond .ne 5, 3) := by decide +kernel
theorem dX3_closeOf_51 : decode cX3_closeOf 51 = .ok (.iload_n 3, 1) := by decide +kernel
theorem dX3_closeOf_52 : decode cX3_closeOf 52 = .ok (.ireturn, 1) := by decide +kernel
theorem dX3_closeOf_53 : decode cX3_closeOf 53 = .ok (.iinc 3 1, 3) := by decide +kernel
theorem dX3_closeOf_56 : decode cX3_closeOf 56 = .ok (.goto (-48), 3) := by decide +kernel
theorem dX3_closeOf_59 : decode cX3_closeOf 59 = .ok (.iconst (-1), 1) := by decide +kernel
theorem dX3_closeOf_60 : decode cX3_closeOf 60 = .ok (.ireturn, 1) := by decide +kernel
end
section
/-! ===== decode rows (as printed) ===== -/
theorem dX2_faultKind_0 : decode cX2_faultKind 0 = .ok (.aload_n 0, 1) := by decide +kernel
theorem dX2_faultKind_1 : decode cX2_faultKind 1 = .ok (.getfield 33, 3) := by decide +kernel
theorem dX2_faultKind_4 : decode cX2_faultKind 4 = .ok (.ireturn, 1) := by decide +kernel
theorem dX2_faultPosition_0 : decode cX2_faultPosition 0 = .ok (.aload_n 0, 1) := by decide +kernel
theorem dX2_faultPosition_1 : decode cX2_faultPosition 1 = .ok (.getfield 37, 3) := by decide +kernel
theorem dX2_faultPosition_4 : decode cX2_faultPosition 4 = .ok (.ireturn, 1) := by decide +kernel
theorem dX2_reads_0 : decode cX2_reads 0 = .ok (.aload_n 0, 1) := by decide +kernel
theorem dX2_reads_1 : decode cX2_reads 1 = .ok (.invokevirtual 40, 3) := by decide +kernel
theorem dX2_reads_4 : decode cX2_reads 4 = .ok (.iconst 0, 1) := by decide +kernel
theorem dX2_reads_5 : decode cX2_reads 5 = .ok (.istore_n 1, 1) := by decide +kernel
theorem dX2_reads_6 : decode cX2_reads 6 = .ok (.iload_n 1, 1) := by decide +kernel
theorem dX2_reads_7 : decode cX2_reads 7 = .ok (.sipush 242, 3) := by decide +kernel
theorem dX2_reads_10 : decode cX2_reads 10 = .ok (.if_icmp .ge 34, 3) := by decide +kernel
theorem dX2_reads_13 : decode cX2_reads 13 = .ok (.aload_n 0, 1) := by decide +kernel
theorem dX2_reads_14 : decode cX2_reads 14 = .ok (.getfield 43, 3) := by decide +kernel
theorem dX2_reads_17 : decode cX2_reads 17 = .ok (.ifCond .ne 27, 3) := by decide +kernel
theorem dX2_reads_20 : decode cX2_reads 20 = .ok (.aload_n 0, 1) := by decide +kernel
theorem dX2_reads_21 : decode cX2_reads 21 = .ok (.getfield 47, 3) := by decide +kernel
theorem dX2_reads_24 : decode cX2_reads 24 = .ok (.ifCond .eq 10, 3) := by decide +kernel
theorem dX2_reads_27 : decode cX2_reads 27 = .ok (.aload_n 0, 1) := by decide +kernel
theorem dX2_reads_28 : decode cX2_reads 28 = .ok (.invokevirtual 50, 3) := by decide +kernel
theorem dX2_reads_31 : decode cX2_reads 31 = .ok (.goto 7, 3) := by decide +kernel
theorem dX2_reads_34 : decode cX2_reads 34 = .ok (.aload_n 0, 1) := by decide +kernel
theorem dX2_reads_35 : decode cX2_reads 35 = .ok (.invokevirtual 53, 3) := by decide +kernel
theorem dX2_reads_38 : decode cX2_reads 38 = .ok (.iinc 1 1, 3) := by decide +kernel
theorem dX2_reads_41 : decode cX2_reads 41 = .ok (.goto (-35), 3) := by decide +kernel
theorem dX2_reads_44 : decode cX2_reads 44 = .ok (.aload_n 0, 1) := by decide +kernel
theorem dX2_reads_45 : decode cX2_reads 45 = .ok (.getfield 43, 3) := by decide +kernel
theorem dX2_reads_48 : decode cX2_reads 48 = .ok (.ifCond .eq 16, 3) := by decide +kernel
theorem dX2_reads_51 : decode cX2_reads 51 = .ok (.aload_n 0, 1) := by decide +kernel
theorem dX2_reads_52 : decode cX2_reads 52 = .ok (.getfield 33, 3) := by decide +kernel
theorem dX2_reads_55 : decode cX2_reads 55 = .ok (.bipush (-10), 2) := by decide +kernel
theorem dX2_reads_57 : decode cX2_reads 57 = .ok (.if_icmp .ne 7, 3) := by decide +kernel
theorem dX2_reads_60 : decode cX2_reads 60 = .ok (.iconst 1, 1) := by decide +kernel
theorem dX2_reads_61 : decode cX2_reads 61 = .ok (.goto 4, 3) := by decide +kernel
theorem dX2_reads_64 : decode cX2_reads 64 = .ok (.iconst 0, 1) := by decide +kernel
theorem dX2_reads_65 : decode cX2_reads 65 = .ok (.ireturn, 1) := by decide +kernel
theorem dX2_start_0 : decode cX2_start 0 = .ok (.aload_n 0, 1) := by decide +kernel
theorem dX2_start_1 : decode cX2_start 1 = .ok (.getfield 25, 3) := by decide +kernel
theorem dX2_start_4 : decode cX2_start 4 = .ok (.invokevirtual 56, 3) := by decide +kernel
theorem dX2_start_7 : decode cX2_start 7 = .ok (.aload_n 0, 1) := by decide +kernel
theorem dX2_start_8 : decode cX2_start 8 = .ok (.iconst 0, 1) := by decide +kernel
theorem dX2_start_9 : decode cX2_start 9 = .ok (.putfield 61, 3) := by decide +kernel
theorem dX2_start_12 : decode cX2_start 12 = .ok (.aload_n 0, 1) := by decide +kernel
theorem dX2_start_13 : decode cX2_start 13 = .ok (.iconst 0, 1) := by decide +kernel
theorem dX2_start_14 : decode cX2_start 14 = .ok (.putfield 64, 3) := by decide +kernel
theorem dX2_start_17 : decode cX2_start 17 = .ok (.aload_n 0, 1) := by decide +kernel
theorem dX2_start_18 : decode cX2_start 18 = .ok (.iconst 1, 1) := by decide +kernel
theorem dX2_start_19 : decode cX2_start 19 = .ok (.putfield 47, 3) := by decide +kernel
theorem dX2_start_22 : decode cX2_start 22 = .ok (.aload_n 0, 1) := by decide +kernel
theorem dX2_start_23 : decode cX2_start 23 = .ok (.iconst (-1), 1) := by decide +kernel
theorem dX2_start_24 : decode cX2_start 24 = .ok (.putfield 67, 3) := by decide +kernel
theorem dX2_start_27 : decode cX2_start 27 = .ok (.aload_n 0, 1) := by decide +kernel
theorem dX2_start_28 : decode cX2_start 28 = .ok (.iconst 0, 1) := by decide +kernel
theorem dX2_start_29 : decode cX2_start 29 = .ok (.putfield 70, 3) := by decide +kernel
theorem dX2_start_32 : decode cX2_start 32 = .ok (.aload_n 0, 1) := by decide +kernel
theorem dX2_start_33 : decode cX2_start 33 = .ok (.iconst 0, 1) := by decide +kernel
theorem dX2_start_34 : decode cX2_start 34 = .ok (.putfield 43, 3) := by decide +kernel
theorem dX2_start_37 : decode cX2_start 37 = .ok (.aload_n 0, 1) := by decide +kernel
theorem dX2_start_38 : decode cX2_start 38 = .ok (.bipush (-10), 2) := by decide +kernel
theorem dX2_start_40 : decode cX2_start 40 = .ok (.putfield 33, 3) := by decide +kernel
theorem dX2_start_43 : decode cX2_start 43 = .ok (.aload_n 0, 1) := by decide +kernel
theorem dX2_start_44 : decode cX2_start 44 = .ok (.bipush (-10), 2) := by decide +kernel
theorem dX2_start_46 : decode cX2_start 46 = .ok (.putfield 37, 3) := by decide +kernel
theorem dX2_start_49 : decode cX2_start 49 = .ok (.return_, 1) := by decide +kernel
theorem dX2_readOperand_0 : decode cX2_readOperand 0 = .ok (.aload_n 0, 1) := by decide +kernel
theorem dX2_readOperand_1 : decode cX2_readOperand 1 = .ok (.getfield 29, 3) := by decide +kernel
theorem dX2_readOperand_4 : decode cX2_readOperand 4 = .ok (.aload_n 0, 1) := by decide +kernel
theorem dX2_readOperand_5 : decode cX2_readOperand 5 = .ok (.getfield 64, 3) := by decide +kernel
theorem dX2_readOperand_8 : decode cX2_readOperand 8 = .ok (.invokevirtual 73, 3) := by decide +kernel
theorem dX2_readOperand_11 : decode cX2_readOperand 11 = .ok (.istore_n 1, 1) := by decide +kernel
theorem dX2_readOperand_12 : decode cX2_readOperand 12 = .ok (.aload_n 0, 1) := by decide +kernel
theorem dX2_readOperand_13 : decode cX2_readOperand 13 = .ok (.getfield 21, 3) := by decide +kernel
theorem dX2_readOperand_16 : decode cX2_readOperand 16 = .ok (.iload_n 1, 1) := by decide +kernel
theorem dX2_readOperand_17 : decode cX2_readOperand 17 = .ok (.iconst 1, 1) := by decide +kernel
theorem dX2_readOperand_18 : decode cX2_readOperand 18 = .ok (.invokevirtual 79, 3) := by decide +kernel
theorem dX2_readOperand_21 : decode cX2_readOperand 21 = .ok (.istore_n 2, 1) := by decide +kernel
theorem dX2_readOperand_22 : decode cX2_readOperand 22 = .ok (.iload_n 1, 1) := by decide +kernel
theorem dX2_readOperand_23 : decode cX2_readOperand 23 = .ok (.invokestatic 85, 3) := by decide +kernel
theorem dX2_readOperand_26 : decode cX2_readOperand 26 = .ok (.ifCond .eq 31, 3) := by decide +kernel
theorem dX2_readOperand_29 : decode cX2_readOperand 29 = .ok (.aload_n 0, 1) := by decide +kernel
theorem dX2_readOperand_30 : decode cX2_readOperand 30 = .ok (.dup, 1) := by decide +kernel
theorem dX2_readOperand_31 : decode cX2_readOperand 31 = .ok (.getfield 64, 3) := by decide +kernel
theorem dX2_readOperand_34 : decode cX2_readOperand 34 = .ok (.iconst 1, 1) := by decide +kernel
theorem dX2_readOperand_35 : decode cX2_readOperand 35 = .ok (.iadd, 1) := by decide +kernel
theorem dX2_readOperand_36 : decode cX2_readOperand 36 = .ok (.putfield 64, 3) := by decide +kernel
theorem dX2_readOperand_39 : decode cX2_readOperand 39 = .ok (.aload_n 0, 1) := by decide +kernel
theorem dX2_readOperand_40 : decode cX2_readOperand 40 = .ok (.aload_n 0, 1) := by decide +kernel
theorem dX2_readOperand_41 : decode cX2_readOperand 41 = .ok (.getfield 25, 3) := by decide +kernel
theorem dX2_readOperand_44 : decode cX2_readOperand 44 = .ok (.iconst (-1), 1) := by decide +kernel
theorem dX2_readOperand_45 : decode cX2_readOperand 45 = .ok (.iload_n 1, 1) := by decide +kernel
theorem dX2_readOperand_46 : decode cX2_readOperand 46 = .ok (.iconst (-1), 1) := by decide +kernel
theorem dX2_readOperand_47 : decode cX2_readOperand 47 = .ok (.iconst (-1), 1) := by decide +kernel
theorem dX2_readOperand_48 : decode cX2_readOperand 48 = .ok (.invokevirtual 89, 3) := by decide +kernel
theorem dX2_readOperand_51 : decode cX2_readOperand 51 = .ok (.invokevirtual 93, 3) := by decide +kernel
theorem dX2_readOperand_54 : decode cX2_readOperand 54 = .ok (.goto 32, 3) := by decide +kernel
theorem dX2_readOperand_57 : decode cX2_readOperand 57 = .ok (.iload_n 1, 1) := by decide +kernel
theorem dX2_readOperand_58 : decode cX2_readOperand 58 = .ok (.bipush 40, 2) := by decide +kernel
theorem dX2_readOperand_60 : decode cX2_readOperand 60 = .ok (.if_icmp .eq 8, 3) := by decide +kernel
theorem dX2_readOperand_63 : decode cX2_readOperand 63 = .ok (.iload_n 2, 1) := by decide +kernel
theorem dX2_readOperand_64 : decode cX2_readOperand 64 = .ok (.iconst (-1), 1) := by decide +kernel
theorem dX2_readOperand_65 : decode cX2_readOperand 65 = .ok (.if_icmp .eq 12, 3) := by decide +kernel
theorem dX2_readOperand_68 : decode cX2_readOperand 68 = .ok (.aload_n 0, 1) := by decide +kernel
theorem dX2_readOperand_69 : decode cX2_readOperand 69 = .ok (.iload_n 2, 1) := by decide +kernel
theorem dX2_readOperand_70 : decode cX2_readOperand 70 = .ok (.iconst (-1), 1) := by decide +kernel
theorem dX2_readOperand_71 : decode cX2_readOperand 71 = .ok (.invokevirtual 97, 3) := by decide +kernel
theorem dX2_readOperand_74 : decode cX2_readOperand 74 = .ok (.goto 12, 3) := by decide +kernel
theorem dX2_readOperand_77 : decode cX2_readOperand 77 = .ok (.aload_n 0, 1) := by decide +kernel
theorem dX2_readOperand_78 : decode cX2_readOperand 78 = .ok (.iconst 1, 1) := by decide +kernel
theorem dX2_readOperand_79 : decode cX2_readOperand 79 = .ok (.aload_n 0, 1) := by decide +kernel
theorem dX2_readOperand_80 : decode cX2_readOperand 80 = .ok (.getfield 64, 3) := by decide +kernel
theorem dX2_readOperand_83 : decode cX2_readOperand 83 = .ok (.invokevirtual 101, 3) := by decide +kernel
theorem dX2_readOperand_86 : decode cX2_readOperand 86 = .ok (.return_, 1) := by decide +kernel
theorem dX2_readOperator_0 : decode cX2_readOperator 0 = .ok (.aload_n 0, 1) := by decide +kernel
theorem dX2_readOperator_1 : decode cX2_readOperator 1 = .ok (.getfield 29, 3) := by decide +kernel
theorem dX2_readOperator_4 : decode cX2_readOperator 4 = .ok (.aload_n 0, 1) := by decide +kernel
theorem dX2_readOperator_5 : decode cX2_readOperator 5 = .ok (.getfield 64, 3) := by decide +kernel
theorem dX2_readOperator_8 : decode cX2_readOperator 8 = .ok (.invokevirtual 73, 3) := by decide +kernel
theorem dX2_readOperator_11 : decode cX2_readOperator 11 = .ok (.istore_n 1, 1) := by decide +kernel
theorem dX2_readOperator_12 : decode cX2_readOperator 12 = .ok (.iload_n 1, 1) := by decide +kernel
theorem dX2_readOperator_13 : decode cX2_readOperator 13 = .ok (.iconst (-1), 1) := by decide +kernel
theorem dX2_readOperator_14 : decode cX2_readOperator 14 = .ok (.if_icmp .eq 9, 3) := by decide +kernel
theorem dX2_readOperator_17 : decode cX2_readOperator 17 = .ok (.iload_n 1, 1) := by decide +kernel
theorem dX2_readOperator_18 : decode cX2_readOperator 18 = .ok (.bipush 41, 2) := by decide +kernel
theorem dX2_readOperator_20 : decode cX2_readOperator 20 = .ok (.if_icmp .ne 8, 3) := by decide +kernel
theorem dX2_readOperator_23 : decode cX2_readOperator 23 = .ok (.aload_n 0, 1) := by decide +kernel
theorem dX2_readOperator_24 : decode cX2_readOperator 24 = .ok (.invokevirtual 104, 3) := by decide +kernel
theorem dX2_readOperator_27 : decode cX2_readOperator 27 = .ok (.return_, 1) := by decide +kernel
theorem dX2_readOperator_28 : decode cX2_readOperator 28 = .ok (.aload_n 0, 1) := by decide +kernel
theorem dX2_readOperator_29 : decode cX2_readOperator 29 = .ok (.getfield 21, 3) := by decide +kernel
theorem dX2_readOperator_32 : decode cX2_readOperator 32 = .ok (.iload_n 1, 1) := by decide +kernel
theorem dX2_readOperator_33 : decode cX2_readOperator 33 = .ok (.iconst 0, 1) := by decide +kernel
theorem dX2_readOperator_34 : decode cX2_readOperator 34 = .ok (.invokevirtual 79, 3) := by decide +kernel
theorem dX2_readOperator_37 : decode cX2_readOperator 37 = .ok (.istore_n 2, 1) := by decide +kernel
theorem dX2_readOperator_38 : decode cX2_readOperator 38 = .ok (.iload_n 2, 1) := by decide +kernel
theorem dX2_readOperator_39 : decode cX2_readOperator 39 = .ok (.iconst (-1), 1) := by decide +kernel
theorem dX2_readOperator_40 : decode cX2_readOperator 40 = .ok (.if_icmp .ne 15, 3) := by decide +kernel
theorem dX2_readOperator_43 : decode cX2_readOperator 43 = .ok (.aload_n 0, 1) := by decide +kernel
theorem dX2_readOperator_44 : decode cX2_readOperator 44 = .ok (.iconst 2, 1) := by decide +kernel
theorem dX2_readOperator_45 : decode cX2_readOperator 45 = .ok (.aload_n 0, 1) := by decide +kernel
theorem dX2_readOperator_46 : decode cX2_readOperator 46 = .ok (.getfield 64, 3) := by decide +kernel
theorem dX2_readOperator_49 : decode cX2_readOperator 49 = .ok (.invokevirtual 101, 3) := by decide +kernel
theorem dX2_readOperator_52 : decode cX2_readOperator 52 = .ok (.goto 30, 3) := by decide +kernel
theorem dX2_readOperator_55 : decode cX2_readOperator 55 = .ok (.aload_n 0, 1) := by decide +kernel
theorem dX2_readOperator_56 : decode cX2_readOperator 56 = .ok (.getfield 21, 3) := by decide +kernel
theorem dX2_readOperator_59 : decode cX2_readOperator 59 = .ok (.iload_n 2, 1) := by decide +kernel
theorem dX2_readOperator_60 : decode cX2_readOperator 60 = .ok (.invokevirtual 107, 3) := by decide +kernel
theorem dX2_readOperator_63 : decode cX2_readOperator 63 = .ok (.aload_n 0, 1) := by decide +kernel
theorem dX2_readOperator_64 : decode cX2_readOperator 64 = .ok (.invokevirtual 110, 3) := by decide +kernel
theorem dX2_readOperator_67 : decode cX2_readOperator 67 = .ok (.if_icmp .ge 10, 3) := by decide +kernel
theorem dX2_readOperator_70 : decode cX2_readOperator 70 = .ok (.aload_n 0, 1) := by decide +kernel
theorem dX2_readOperator_71 : decode cX2_readOperator 71 = .ok (.invokevirtual 104, 3) := by decide +kernel
theorem dX2_readOperator_74 : decode cX2_readOperator 74 = .ok (.goto 8, 3) := by decide +kernel
theorem dX2_readOperator_77 : decode cX2_readOperator 77 = .ok (.aload_n 0, 1) := by decide +kernel
theorem dX2_readOperator_78 : decode cX2_readOperator 78 = .ok (.iload_n 2, 1) := by decide +kernel
theorem dX2_readOperator_79 : decode cX2_readOperator 79 = .ok (.invokevirtual 114, 3) := by decide +kernel
theorem dX2_readOperator_82 : decode cX2_readOperator 82 = .ok (.return_, 1) := by decide +kernel
theorem dX2_joinLeftSide_0 : decode cX2_joinLeftSide 0 = .ok (.aload_n 0, 1) := by decide +kernel
theorem dX2_joinLeftSide_1 : decode cX2_joinLeftSide 1 = .ok (.getfield 70, 3) := by decide +kernel
theorem dX2_joinLeftSide_4 : decode cX2_joinLeftSide 4 = .ok (.ifCond .ne 37, 3) := by decide +kernel
theorem dX2_joinLeftSide_7 : decode cX2_joinLeftSide 7 = .ok (.aload_n 0, 1) := by decide +kernel
theorem dX2_joinLeftSide_8 : decode cX2_joinLeftSide 8 = .ok (.getfield 21, 3) := by decide +kernel
theorem dX2_joinLeftSide_11 : decode cX2_joinLeftSide 11 = .ok (.iload_n 1, 1) := by decide +kernel
theorem dX2_joinLeftSide_12 : decode cX2_joinLeftSide 12 = .ok (.aload_n 0, 1) := by decide +kernel
theorem dX2_joinLeftSide_13 : decode cX2_joinLeftSide 13 = .ok (.getfield 25, 3) := by decide +kernel
theorem dX2_joinLeftSide_16 : decode cX2_joinLeftSide 16 = .ok (.aload_n 0, 1) := by decide +kernel
theorem dX2_joinLeftSide_17 : decode cX2_joinLeftSide 17 = .ok (.getfield 67, 3) := by decide +kernel
theorem dX2_joinLeftSide_20 : decode cX2_joinLeftSide 20 = .ok (.invokevirtual 117, 3) := by decide +kernel
theorem dX2_joinLeftSide_23 : decode cX2_joinLeftSide 23 = .ok (.invokevirtual 120, 3) := by decide +kernel
theorem dX2_joinLeftSide_26 : decode cX2_joinLeftSide 26 = .ok (.ifCond .eq 15, 3) := by decide +kernel
theorem dX2_joinLeftSide_29 : decode cX2_joinLeftSide 29 = .ok (.aload_n 0, 1) := by decide +kernel
theorem dX2_joinLeftSide_30 : decode cX2_joinLeftSide 30 = .ok (.iconst 5, 1) := by decide +kernel
theorem dX2_joinLeftSide_31 : decode cX2_joinLeftSide 31 = .ok (.aload_n 0, 1) := by decide +kernel
theorem dX2_joinLeftSide_32 : decode cX2_joinLeftSide 32 = .ok (.getfield 64, 3) := by decide +kernel
theorem dX2_joinLeftSide_35 : decode cX2_joinLeftSide 35 = .ok (.invokevirtual 101, 3) := by decide +kernel
theorem dX2_joinLeftSide_38 : decode cX2_joinLeftSide 38 = .ok (.goto 76, 3) := by decide +kernel
theorem dX2_joinLeftSide_41 : decode cX2_joinLeftSide 41 = .ok (.aload_n 0, 1) := by decide +kernel
theorem dX2_joinLeftSide_42 : decode cX2_joinLeftSide 42 = .ok (.iload_n 1, 1) := by decide +kernel
theorem dX2_joinLeftSide_43 : decode cX2_joinLeftSide 43 = .ok (.invokevirtual 124, 3) := by decide +kernel
theorem dX2_joinLeftSide_46 : decode cX2_joinLeftSide 46 = .ok (.ifCond .eq 16, 3) := by decide +kernel
theorem dX2_joinLeftSide_49 : decode cX2_joinLeftSide 49 = .ok (.aload_n 0, 1) := by decide +kernel
theorem dX2_joinLeftSide_50 : decode cX2_joinLeftSide 50 = .ok (.bipush 6, 2) := by decide +kernel
theorem dX2_joinLeftSide_52 : decode cX2_joinLeftSide 52 = .ok (.aload_n 0, 1) := by decide +kernel
theorem dX2_joinLeftSide_53 : decode cX2_joinLeftSide 53 = .ok (.getfield 64, 3) := by decide +kernel
theorem dX2_joinLeftSide_56 : decode cX2_joinLeftSide 56 = .ok (.invokevirtual 101, 3) := by decide +kernel
theorem dX2_joinLeftSide_59 : decode cX2_joinLeftSide 59 = .ok (.goto 55, 3) := by decide +kernel
theorem dX2_joinLeftSide_62 : decode cX2_joinLeftSide 62 = .ok (.aload_n 0, 1) := by decide +kernel
theorem dX2_joinLeftSide_63 : decode cX2_joinLeftSide 63 = .ok (.getfield 21, 3) := by decide +kernel
theorem dX2_joinLeftSide_66 : decode cX2_joinLeftSide 66 = .ok (.iload_n 1, 1) := by decide +kernel
theorem dX2_joinLeftSide_67 : decode cX2_joinLeftSide 67 = .ok (.invokevirtual 127, 3) := by decide +kernel
theorem dX2_joinLeftSide_70 : decode cX2_joinLeftSide 70 = .ok (.iconst 2, 1) := by decide +kernel
theorem dX2_joinLeftSide_71 : decode cX2_joinLeftSide 71 = .ok (.if_icmp .ne 34, 3) := by decide +kernel
theorem dX2_joinLeftSide_74 : decode cX2_joinLeftSide 74 = .ok (.aload_n 0, 1) := by decide +kernel
theorem dX2_joinLeftSide_75 : decode cX2_joinLeftSide 75 = .ok (.dup, 1) := by decide +kernel
theorem dX2_joinLeftSide_76 : decode cX2_joinLeftSide 76 = .ok (.getfield 64, 3) := by decide +kernel
theorem dX2_joinLeftSide_79 : decode cX2_joinLeftSide 79 = .ok (.iconst 1, 1) := by decide +kernel
theorem dX2_joinLeftSide_80 : decode cX2_joinLeftSide 80 = .ok (.iadd, 1) := by decide +kernel
theorem dX2_joinLeftSide_81 : decode cX2_joinLeftSide 81 = .ok (.putfield 64, 3) := by decide +kernel
theorem dX2_joinLeftSide_84 : decode cX2_joinLeftSide 84 = .ok (.aload_n 0, 1) := by decide +kernel
theorem dX2_joinLeftSide_85 : decode cX2_joinLeftSide 85 = .ok (.aload_n 0, 1) := by decide +kernel
theorem dX2_joinLeftSide_86 : decode cX2_joinLeftSide 86 = .ok (.getfield 25, 3) := by decide +kernel
theorem dX2_joinLeftSide_89 : decode cX2_joinLeftSide 89 = .ok (.iload_n 1, 1) := by decide +kernel
theorem dX2_joinLeftSide_90 : decode cX2_joinLeftSide 90 = .ok (.iconst (-1), 1) := by decide +kernel
theorem dX2_joinLeftSide_91 : decode cX2_joinLeftSide 91 = .ok (.aload_n 0, 1) := by decide +kernel
theorem dX2_joinLeftSide_92 : decode cX2_joinLeftSide 92 = .ok (.getfield 67, 3) := by decide +kernel
theorem dX2_joinLeftSide_95 : decode cX2_joinLeftSide 95 = .ok (.iconst (-1), 1) := by decide +kernel
theorem dX2_joinLeftSide_96 : decode cX2_joinLeftSide 96 = .ok (.invokevirtual 89, 3) := by decide +kernel
theorem dX2_joinLeftSide_99 : decode cX2_joinLeftSide 99 = .ok (.invokevirtual 93, 3) := by decide +kernel
theorem dX2_joinLeftSide_102 : decode cX2_joinLeftSide 102 = .ok (.goto 12, 3) := by decide +kernel
theorem dX2_joinLeftSide_105 : decode cX2_joinLeftSide 105 = .ok (.aload_n 0, 1) := by decide +kernel
theorem dX2_joinLeftSide_106 : decode cX2_joinLeftSide 106 = .ok (.iload_n 1, 1) := by decide +kernel
theorem dX2_joinLeftSide_107 : decode cX2_joinLeftSide 107 = .ok (.aload_n 0, 1) := by decide +kernel
theorem dX2_joinLeftSide_108 : decode cX2_joinLeftSide 108 = .ok (.getfield 67, 3) := by decide +kernel
theorem dX2_joinLeftSide_111 : decode cX2_joinLeftSide 111 = .ok (.invokevirtual 97, 3) := by decide +kernel
theorem dX2_joinLeftSide_114 : decode cX2_joinLeftSide 114 = .ok (.return_, 1) := by decide +kernel
theorem dX2_openFrame_0 : decode cX2_openFrame 0 = .ok (.aload_n 0, 1) := by decide +kernel
theorem dX2_openFrame_1 : decode cX2_openFrame 1 = .ok (.getfield 61, 3) := by decide +kernel
theorem dX2_openFrame_4 : decode cX2_openFrame 4 = .ok (.bipush 120, 2) := by decide +kernel
theorem dX2_openFrame_6 : decode cX2_openFrame 6 = .ok (.if_icmp .ge 46, 3) := by decide +kernel
theorem dX2_openFrame_9 : decode cX2_openFrame 9 = .ok (.aload_n 0, 1) := by decide +kernel
theorem dX2_openFrame_10 : decode cX2_openFrame 10 = .ok (.getfield 9, 3) := by decide +kernel
theorem dX2_openFrame_13 : decode cX2_openFrame 13 = .ok (.aload_n 0, 1) := by decide +kernel
theorem dX2_openFrame_14 : decode cX2_openFrame 14 = .ok (.getfield 61, 3) := by decide +kernel
theorem dX2_openFrame_17 : decode cX2_openFrame 17 = .ok (.iload_n 1, 1) := by decide +kernel
theorem dX2_openFrame_18 : decode cX2_openFrame 18 = .ok (.iastore, 1) := by decide +kernel
theorem dX2_openFrame_19 : decode cX2_openFrame 19 = .ok (.aload_n 0, 1) := by decide +kernel
theorem dX2_openFrame_20 : decode cX2_openFrame 20 = .ok (.getfield 15, 3) := by decide +kernel
theorem dX2_openFrame_23 : decode cX2_openFrame 23 = .ok (.aload_n 0, 1) := by decide +kernel
theorem dX2_openFrame_24 : decode cX2_openFrame 24 = .ok (.getfield 61, 3) := by decide +kernel
theorem dX2_openFrame_27 : decode cX2_openFrame 27 = .ok (.aload_n 0, 1) := by decide +kernel
theorem dX2_openFrame_28 : decode cX2_openFrame 28 = .ok (.getfield 64, 3) := by decide +kernel
theorem dX2_openFrame_31 : decode cX2_openFrame 31 = .ok (.iastore, 1) := by decide +kernel
theorem dX2_openFrame_32 : decode cX2_openFrame 32 = .ok (.aload_n 0, 1) := by decide +kernel
theorem dX2_openFrame_33 : decode cX2_openFrame 33 = .ok (.getfield 18, 3) := by decide +kernel
theorem dX2_openFrame_36 : decode cX2_openFrame 36 = .ok (.aload_n 0, 1) := by decide +kernel
theorem dX2_openFrame_37 : decode cX2_openFrame 37 = .ok (.getfield 61, 3) := by decide +kernel
theorem dX2_openFrame_40 : decode cX2_openFrame 40 = .ok (.iload_n 2, 1) := by decide +kernel
theorem dX2_openFrame_41 : decode cX2_openFrame 41 = .ok (.iastore, 1) := by decide +kernel
theorem dX2_openFrame_42 : decode cX2_openFrame 42 = .ok (.aload_n 0, 1) := by decide +kernel
theorem dX2_openFrame_43 : decode cX2_openFrame 43 = .ok (.dup, 1) := by decide +kernel
theorem dX2_openFrame_44 : decode cX2_openFrame 44 = .ok (.getfield 61, 3) := by decide +kernel
theorem dX2_openFrame_47 : decode cX2_openFrame 47 = .ok (.iconst 1, 1) := by decide +kernel
theorem dX2_openFrame_48 : decode cX2_openFrame 48 = .ok (.iadd, 1) := by decide +kernel
theorem dX2_openFrame_49 : decode cX2_openFrame 49 = .ok (.putfield 61, 3) := by decide +kernel
theorem dX2_openFrame_52 : decode cX2_openFrame 52 = .ok (.aload_n 0, 1) := by decide +kernel
theorem dX2_openFrame_53 : decode cX2_openFrame 53 = .ok (.dup, 1) := by decide +kernel
theorem dX2_openFrame_54 : decode cX2_openFrame 54 = .ok (.getfield 64, 3) := by decide +kernel
theorem dX2_openFrame_57 : decode cX2_openFrame 57 = .ok (.iconst 1, 1) := by decide +kernel
theorem dX2_openFrame_58 : decode cX2_openFrame 58 = .ok (.iadd, 1) := by decide +kernel
theorem dX2_openFrame_59 : decode cX2_openFrame 59 = .ok (.putfield 64, 3) := by decide +kernel
theorem dX2_openFrame_62 : decode cX2_openFrame 62 = .ok (.aload_n 0, 1) := by decide +kernel
theorem dX2_openFrame_63 : decode cX2_openFrame 63 = .ok (.iconst 1, 1) := by decide +kernel
theorem dX2_openFrame_64 : decode cX2_openFrame 64 = .ok (.putfield 47, 3) := by decide +kernel
theorem dX2_openFrame_67 : decode cX2_openFrame 67 = .ok (.return_, 1) := by decide +kernel
theorem dX2_topFrame_0 : decode cX2_topFrame 0 = .ok (.aload_n 0, 1) := by decide +kernel
theorem dX2_topFrame_1 : decode cX2_topFrame 1 = .ok (.getfield 61, 3) := by decide +kernel
theorem dX2_topFrame_4 : decode cX2_topFrame 4 = .ok (.ifCond .le 21, 3) := by decide +kernel
theorem dX2_topFrame_7 : decode cX2_topFrame 7 = .ok (.aload_n 0, 1) := by decide +kernel
theorem dX2_topFrame_8 : decode cX2_topFrame 8 = .ok (.getfield 61, 3) := by decide +kernel
theorem dX2_topFrame_11 : decode cX2_topFrame 11 = .ok (.bipush 120, 2) := by decide +kernel
theorem dX2_topFrame_13 : decode cX2_topFrame 13 = .ok (.if_icmp .gt 12, 3) := by decide +kernel
theorem dX2_topFrame_16 : decode cX2_topFrame 16 = .ok (.aload_n 0, 1) := by decide +kernel
theorem dX2_topFrame_17 : decode cX2_topFrame 17 = .ok (.getfield 61, 3) := by decide +kernel
theorem dX2_topFrame_20 : decode cX2_topFrame 20 = .ok (.iconst 1, 1) := by decide +kernel
theorem dX2_topFrame_21 : decode cX2_topFrame 21 = .ok (.isub, 1) := by decide +kernel
theorem dX2_topFrame_22 : decode cX2_topFrame 22 = .ok (.goto 4, 3) := by decide +kernel
theorem dX2_topFrame_25 : decode cX2_topFrame 25 = .ok (.iconst (-1), 1) := by decide +kernel
theorem dX2_topFrame_26 : decode cX2_topFrame 26 = .ok (.ireturn, 1) := by decide +kernel
theorem dX2_frameMin_0 : decode cX2_frameMin 0 = .ok (.aload_n 0, 1) := by decide +kernel
theorem dX2_frameMin_1 : decode cX2_frameMin 1 = .ok (.invokevirtual 130, 3) := by decide +kernel
theorem dX2_frameMin_4 : decode cX2_frameMin 4 = .ok (.istore_n 1, 1) := by decide +kernel
theorem dX2_frameMin_5 : decode cX2_frameMin 5 = .ok (.iload_n 1, 1) := by decide +kernel
theorem dX2_frameMin_6 : decode cX2_frameMin 6 = .ok (.iconst (-1), 1) := by decide +kernel
theorem dX2_frameMin_7 : decode cX2_frameMin 7 = .ok (.if_icmp .ne 7, 3) := by decide +kernel
theorem dX2_frameMin_10 : decode cX2_frameMin 10 = .ok (.iconst 0, 1) := by decide +kernel
theorem dX2_frameMin_11 : decode cX2_frameMin 11 = .ok (.goto 16, 3) := by decide +kernel
theorem dX2_frameMin_14 : decode cX2_frameMin 14 = .ok (.aload_n 0, 1) := by decide +kernel
theorem dX2_frameMin_15 : decode cX2_frameMin 15 = .ok (.getfield 21, 3) := by decide +kernel
theorem dX2_frameMin_18 : decode cX2_frameMin 18 = .ok (.aload_n 0, 1) := by decide +kernel
theorem dX2_frameMin_19 : decode cX2_frameMin 19 = .ok (.getfield 9, 3) := by decide +kernel
theorem dX2_frameMin_22 : decode cX2_frameMin 22 = .ok (.iload_n 1, 1) := by decide +kernel
theorem dX2_frameMin_23 : decode cX2_frameMin 23 = .ok (.iaload, 1) := by decide +kernel
theorem dX2_frameMin_24 : decode cX2_frameMin 24 = .ok (.invokevirtual 133, 3) := by decide +kernel
theorem dX2_frameMin_27 : decode cX2_frameMin 27 = .ok (.ireturn, 1) := by decide +kernel
theorem dX2_endFrame_0 : decode cX2_endFrame 0 = .ok (.aload_n 0, 1) := by decide +kernel
theorem dX2_endFrame_1 : decode cX2_endFrame 1 = .ok (.invokevirtual 130, 3) := by decide +kernel
theorem dX2_endFrame_4 : decode cX2_endFrame 4 = .ok (.istore_n 1, 1) := by decide +kernel
theorem dX2_endFrame_5 : decode cX2_endFrame 5 = .ok (.iload_n 1, 1) := by decide +kernel
theorem dX2_endFrame_6 : decode cX2_endFrame 6 = .ok (.iconst (-1), 1) := by decide +kernel
theorem dX2_endFrame_7 : decode cX2_endFrame 7 = .ok (.if_icmp .ne 10, 3) := by decide +kernel
theorem dX2_endFrame_10 : decode cX2_endFrame 10 = .ok (.aload_n 0, 1) := by decide +kernel
theorem dX2_endFrame_11 : decode cX2_endFrame 11 = .ok (.invokevirtual 136, 3) := by decide +kernel
theorem dX2_endFrame_14 : decode cX2_endFrame 14 = .ok (.goto 25, 3) := by decide +kernel
theorem dX2_endFrame_17 : decode cX2_endFrame 17 = .ok (.aload_n 0, 1) := by decide +kernel
theorem dX2_endFrame_18 : decode cX2_endFrame 18 = .ok (.getfield 9, 3) := by decide +kernel
theorem dX2_endFrame_21 : decode cX2_endFrame 21 = .ok (.iload_n 1, 1) := by decide +kernel
theorem dX2_endFrame_22 : decode cX2_endFrame 22 = .ok (.iaload, 1) := by decide +kernel
theorem dX2_endFrame_23 : decode cX2_endFrame 23 = .ok (.iconst (-1), 1) := by decide +kernel
theorem dX2_endFrame_24 : decode cX2_endFrame 24 = .ok (.if_icmp .ne 10, 3) := by decide +kernel
theorem dX2_endFrame_27 : decode cX2_endFrame 27 = .ok (.aload_n 0, 1) := by decide +kernel
theorem dX2_endFrame_28 : decode cX2_endFrame 28 = .ok (.invokevirtual 139, 3) := by decide +kernel
theorem dX2_endFrame_31 : decode cX2_endFrame 31 = .ok (.goto 8, 3) := by decide +kernel
theorem dX2_endFrame_34 : decode cX2_endFrame 34 = .ok (.aload_n 0, 1) := by decide +kernel
theorem dX2_endFrame_35 : decode cX2_endFrame 35 = .ok (.iload_n 1, 1) := by decide +kernel
theorem dX2_endFrame_36 : decode cX2_endFrame 36 = .ok (.invokevirtual 142, 3) := by decide +kernel
theorem dX2_endFrame_39 : decode cX2_endFrame 39 = .ok (.return_, 1) := by decide +kernel
theorem dX2_endText_0 : decode cX2_endText 0 = .ok (.aload_n 0, 1) := by decide +kernel
theorem dX2_endText_1 : decode cX2_endText 1 = .ok (.getfield 29, 3) := by decide +kernel
theorem dX2_endText_4 : decode cX2_endText 4 = .ok (.aload_n 0, 1) := by decide +kernel
theorem dX2_endText_5 : decode cX2_endText 5 = .ok (.getfield 64, 3) := by decide +kernel
theorem dX2_endText_8 : decode cX2_endText 8 = .ok (.invokevirtual 73, 3) := by decide +kernel
theorem dX2_endText_11 : decode cX2_endText 11 = .ok (.bipush 41, 2) := by decide +kernel
theorem dX2_endText_13 : decode cX2_endText 13 = .ok (.if_icmp .ne 12, 3) := by decide +kernel
theorem dX2_endText_16 : decode cX2_endText 16 = .ok (.aload_n 0, 1) := by decide +kernel
theorem dX2_endText_17 : decode cX2_endText 17 = .ok (.iconst 4, 1) := by decide +kernel
theorem dX2_endText_18 : decode cX2_endText 18 = .ok (.aload_n 0, 1) := by decide +kernel
theorem dX2_endText_19 : decode cX2_endText 19 = .ok (.getfield 64, 3) := by decide +kernel
theorem dX2_endText_22 : decode cX2_endText 22 = .ok (.invokevirtual 101, 3) := by decide +kernel
theorem dX2_endText_25 : decode cX2_endText 25 = .ok (.aload_n 0, 1) := by decide +kernel
theorem dX2_endText_26 : decode cX2_endText 26 = .ok (.iconst 1, 1) := by decide +kernel
theorem dX2_endText_27 : decode cX2_endText 27 = .ok (.putfield 43, 3) := by decide +kernel
theorem dX2_endText_30 : decode cX2_endText 30 = .ok (.return_, 1) := by decide +kernel
theorem dX2_endBracket_0 : decode cX2_endBracket 0 = .ok (.aload_n 0, 1) := by decide +kernel
theorem dX2_endBracket_1 : decode cX2_endBracket 1 = .ok (.getfield 29, 3) := by decide +kernel
theorem dX2_endBracket_4 : decode cX2_endBracket 4 = .ok (.aload_n 0, 1) := by decide +kernel
theorem dX2_endBracket_5 : decode cX2_endBracket 5 = .ok (.getfield 64, 3) := by decide +kernel
theorem dX2_endBracket_8 : decode cX2_endBracket 8 = .ok (.invokevirtual 73, 3) := by decide +kernel
theorem dX2_endBracket_11 : decode cX2_endBracket 11 = .ok (.bipush 41, 2) := by decide +kernel
theorem dX2_endBracket_13 : decode cX2_endBracket 13 = .ok (.if_icmp .ne 31, 3) := by decide +kernel
theorem dX2_endBracket_16 : decode cX2_endBracket 16 = .ok (.aload_n 0, 1) := by decide +kernel
theorem dX2_endBracket_17 : decode cX2_endBracket 17 = .ok (.dup, 1) := by decide +kernel
theorem dX2_endBracket_18 : decode cX2_endBracket 18 = .ok (.getfield 64, 3) := by decide +kernel
theorem dX2_endBracket_21 : decode cX2_endBracket 21 = .ok (.iconst 1, 1) := by decide +kernel
theorem dX2_endBracket_22 : decode cX2_endBracket 22 = .ok (.iadd, 1) := by decide +kernel
theorem dX2_endBracket_23 : decode cX2_endBracket 23 = .ok (.putfield 64, 3) := by decide +kernel
theorem dX2_endBracket_26 : decode cX2_endBracket 26 = .ok (.aload_n 0, 1) := by decide +kernel
theorem dX2_endBracket_27 : decode cX2_endBracket 27 = .ok (.dup, 1) := by decide +kernel
theorem dX2_endBracket_28 : decode cX2_endBracket 28 = .ok (.getfield 61, 3) := by decide +kernel
theorem dX2_endBracket_31 : decode cX2_endBracket 31 = .ok (.iconst 1, 1) := by decide +kernel
theorem dX2_endBracket_32 : decode cX2_endBracket 32 = .ok (.isub, 1) := by decide +kernel
theorem dX2_endBracket_33 : decode cX2_endBracket 33 = .ok (.putfield 61, 3) := by decide +kernel
theorem dX2_endBracket_36 : decode cX2_endBracket 36 = .ok (.aload_n 0, 1) := by decide +kernel
theorem dX2_endBracket_37 : decode cX2_endBracket 37 = .ok (.iconst 1, 1) := by decide +kernel
theorem dX2_endBracket_38 : decode cX2_endBracket 38 = .ok (.putfield 70, 3) := by decide +kernel
theorem dX2_endBracket_41 : decode cX2_endBracket 41 = .ok (.goto 12, 3) := by decide +kernel
theorem dX2_endBracket_44 : decode cX2_endBracket 44 = .ok (.aload_n 0, 1) := by decide +kernel
theorem dX2_endBracket_45 : decode cX2_endBracket 45 = .ok (.iconst 3, 1) := by decide +kernel
theorem dX2_endBracket_46 : decode cX2_endBracket 46 = .ok (.aload_n 0, 1) := by decide +kernel
theorem dX2_endBracket_47 : decode cX2_endBracket 47 = .ok (.getfield 64, 3) := by decide +kernel
theorem dX2_endBracket_50 : decode cX2_endBracket 50 = .ok (.invokevirtual 101, 3) := by decide +kernel
theorem dX2_endBracket_53 : decode cX2_endBracket 53 = .ok (.return_, 1) := by decide +kernel
theorem dX2_completeNode_0 : decode cX2_completeNode 0 = .ok (.aload_n 0, 1) := by decide +kernel
theorem dX2_completeNode_1 : decode cX2_completeNode 1 = .ok (.getfield 9, 3) := by decide +kernel
theorem dX2_completeNode_4 : decode cX2_completeNode 4 = .ok (.iload_n 1, 1) := by decide +kernel
theorem dX2_completeNode_5 : decode cX2_completeNode 5 = .ok (.iaload, 1) := by decide +kernel
theorem dX2_completeNode_6 : decode cX2_completeNode 6 = .ok (.istore_n 2, 1) := by decide +kernel
theorem dX2_completeNode_7 : decode cX2_completeNode 7 = .ok (.aload_n 0, 1) := by decide +kernel
theorem dX2_completeNode_8 : decode cX2_completeNode 8 = .ok (.iload_n 2, 1) := by decide +kernel
theorem dX2_completeNode_9 : decode cX2_completeNode 9 = .ok (.invokevirtual 124, 3) := by decide +kernel
theorem dX2_completeNode_12 : decode cX2_completeNode 12 = .ok (.ifCond .eq 16, 3) := by decide +kernel
theorem dX2_completeNode_15 : decode cX2_completeNode 15 = .ok (.aload_n 0, 1) := by decide +kernel
theorem dX2_completeNode_16 : decode cX2_completeNode 16 = .ok (.bipush 6, 2) := by decide +kernel
theorem dX2_completeNode_18 : decode cX2_completeNode 18 = .ok (.aload_n 0, 1) := by decide +kernel
theorem dX2_completeNode_19 : decode cX2_completeNode 19 = .ok (.getfield 15, 3) := by decide +kernel
theorem dX2_completeNode_22 : decode cX2_completeNode 22 = .ok (.iload_n 1, 1) := by decide +kernel
theorem dX2_completeNode_23 : decode cX2_completeNode 23 = .ok (.iaload, 1) := by decide +kernel
theorem dX2_completeNode_24 : decode cX2_completeNode 24 = .ok (.invokevirtual 101, 3) := by decide +kernel
theorem dX2_completeNode_27 : decode cX2_completeNode 27 = .ok (.return_, 1) := by decide +kernel
theorem dX2_completeNode_28 : decode cX2_completeNode 28 = .ok (.aload_n 0, 1) := by decide +kernel
theorem dX2_completeNode_29 : decode cX2_completeNode 29 = .ok (.dup, 1) := by decide +kernel
theorem dX2_completeNode_30 : decode cX2_completeNode 30 = .ok (.getfield 61, 3) := by decide +kernel
theorem dX2_completeNode_33 : decode cX2_completeNode 33 = .ok (.iconst 1, 1) := by decide +kernel
theorem dX2_completeNode_34 : decode cX2_completeNode 34 = .ok (.isub, 1) := by decide +kernel
theorem dX2_completeNode_35 : decode cX2_completeNode 35 = .ok (.putfield 61, 3) := by decide +kernel
theorem dX2_completeNode_38 : decode cX2_completeNode 38 = .ok (.aload_n 0, 1) := by decide +kernel
theorem dX2_completeNode_39 : decode cX2_completeNode 39 = .ok (.aload_n 0, 1) := by decide +kernel
theorem dX2_completeNode_40 : decode cX2_completeNode 40 = .ok (.getfield 25, 3) := by decide +kernel
theorem dX2_completeNode_43 : decode cX2_completeNode 43 = .ok (.iload_n 2, 1) := by decide +kernel
theorem dX2_completeNode_44 : decode cX2_completeNode 44 = .ok (.iconst (-1), 1) := by decide +kernel
theorem dX2_completeNode_45 : decode cX2_completeNode 45 = .ok (.aload_n 0, 1) := by decide +kernel
theorem dX2_completeNode_46 : decode cX2_completeNode 46 = .ok (.getfield 18, 3) := by decide +kernel
theorem dX2_completeNode_49 : decode cX2_completeNode 49 = .ok (.iload_n 1, 1) := by decide +kernel
theorem dX2_completeNode_50 : decode cX2_completeNode 50 = .ok (.iaload, 1) := by decide +kernel
theorem dX2_completeNode_51 : decode cX2_completeNode 51 = .ok (.aload_n 0, 1) := by decide +kernel
theorem dX2_completeNode_52 : decode cX2_completeNode 52 = .ok (.getfield 67, 3) := by decide +kernel
theorem dX2_completeNode_55 : decode cX2_completeNode 55 = .ok (.invokevirtual 89, 3) := by decide +kernel
theorem dX2_completeNode_58 : decode cX2_completeNode 58 = .ok (.invokevirtual 93, 3) := by decide +kernel
theorem dX2_completeNode_61 : decode cX2_completeNode 61 = .ok (.return_, 1) := by decide +kernel
theorem dX2_isForbiddenUnder_0 : decode cX2_isForbiddenUnder 0 = .ok (.aload_n 0, 1) := by decide +kernel
theorem dX2_isForbiddenUnder_1 : decode cX2_isForbiddenUnder 1 = .ok (.getfield 70, 3) := by decide +kernel
theorem dX2_isForbiddenUnder_4 : decode cX2_isForbiddenUnder 4 = .ok (.ifCond .ne 29, 3) := by decide +kernel
theorem dX2_isForbiddenUnder_7 : decode cX2_isForbiddenUnder 7 = .ok (.aload_n 0, 1) := by decide +kernel
theorem dX2_isForbiddenUnder_8 : decode cX2_isForbiddenUnder 8 = .ok (.getfield 21, 3) := by decide +kernel
theorem dX2_isForbiddenUnder_11 : decode cX2_isForbiddenUnder 11 = .ok (.iload_n 1, 1) := by decide +kernel
theorem dX2_isForbiddenUnder_12 : decode cX2_isForbiddenUnder 12 = .ok (.aload_n 0, 1) := by decide +kernel
theorem dX2_isForbiddenUnder_13 : decode cX2_isForbiddenUnder 13 = .ok (.getfield 25, 3) := by decide +kernel
theorem dX2_isForbiddenUnder_16 : decode cX2_isForbiddenUnder 16 = .ok (.aload_n 0, 1) := by decide +kernel
theorem dX2_isForbiddenUnder_17 : decode cX2_isForbiddenUnder 17 = .ok (.getfield 67, 3) := by decide +kernel
theorem dX2_isForbiddenUnder_20 : decode cX2_isForbiddenUnder 20 = .ok (.invokevirtual 117, 3) := by decide +kernel
theorem dX2_isForbiddenUnder_23 : decode cX2_isForbiddenUnder 23 = .ok (.invokevirtual 145, 3) := by decide +kernel
theorem dX2_isForbiddenUnder_26 : decode cX2_isForbiddenUnder 26 = .ok (.ifCond .eq 7, 3) := by decide +kernel
theorem dX2_isForbiddenUnder_29 : decode cX2_isForbiddenUnder 29 = .ok (.iconst 1, 1) := by decide +kernel
theorem dX2_isForbiddenUnder_30 : decode cX2_isForbiddenUnder 30 = .ok (.goto 4, 3) := by decide +kernel
theorem dX2_isForbiddenUnder_33 : decode cX2_isForbiddenUnder 33 = .ok (.iconst 0, 1) := by decide +kernel
theorem dX2_isForbiddenUnder_34 : decode cX2_isForbiddenUnder 34 = .ok (.ireturn, 1) := by decide +kernel
theorem dX2_takeLeftSide_0 : decode cX2_takeLeftSide 0 = .ok (.aload_n 0, 1) := by decide +kernel
theorem dX2_takeLeftSide_1 : decode cX2_takeLeftSide 1 = .ok (.iload_n 1, 1) := by decide +kernel
theorem dX2_takeLeftSide_2 : decode cX2_takeLeftSide 2 = .ok (.putfield 67, 3) := by decide +kernel
theorem dX2_takeLeftSide_5 : decode cX2_takeLeftSide 5 = .ok (.aload_n 0, 1) := by decide +kernel
theorem dX2_takeLeftSide_6 : decode cX2_takeLeftSide 6 = .ok (.iconst 0, 1) := by decide +kernel
theorem dX2_takeLeftSide_7 : decode cX2_takeLeftSide 7 = .ok (.putfield 70, 3) := by decide +kernel
theorem dX2_takeLeftSide_10 : decode cX2_takeLeftSide 10 = .ok (.aload_n 0, 1) := by decide +kernel
theorem dX2_takeLeftSide_11 : decode cX2_takeLeftSide 11 = .ok (.iconst 0, 1) := by decide +kernel
theorem dX2_takeLeftSide_12 : decode cX2_takeLeftSide 12 = .ok (.putfield 47, 3) := by decide +kernel
theorem dX2_takeLeftSide_15 : decode cX2_takeLeftSide 15 = .ok (.return_, 1) := by decide +kernel
theorem dX2_fail_0 : decode cX2_fail 0 = .ok (.aload_n 0, 1) := by decide +kernel
theorem dX2_fail_1 : decode cX2_fail 1 = .ok (.iload_n 1, 1) := by decide +kernel
theorem dX2_fail_2 : decode cX2_fail 2 = .ok (.putfield 33, 3) := by decide +kernel
theorem dX2_fail_5 : decode cX2_fail 5 = .ok (.aload_n 0, 1) := by decide +kernel
theorem dX2_fail_6 : decode cX2_fail 6 = .ok (.iload_n 2, 1) := by decide +kernel
theorem dX2_fail_7 : decode cX2_fail 7 = .ok (.putfield 37, 3) := by decide +kernel
theorem dX2_fail_10 : decode cX2_fail 10 = .ok (.aload_n 0, 1) := by decide +kernel
theorem dX2_fail_11 : decode cX2_fail 11 = .ok (.iconst 1, 1) := by decide +kernel
theorem dX2_fail_12 : decode cX2_fail 12 = .ok (.putfield 43, 3) := by decide +kernel
theorem dX2_fail_15 : decode cX2_fail 15 = .ok (.return_, 1) := by decide +kernel
theorem dX4_prepare_0 : decode cX4_prepare 0 = .ok (.aload_n 0, 1) := by decide +kernel
theorem dX4_prepare_1 : decode cX4_prepare 1 = .ok (.iload_n 2, 1) := by decide +kernel
theorem dX4_prepare_2 : decode cX4_prepare 2 = .ok (.putfield 27, 3) := by decide +kernel
theorem dX4_prepare_5 : decode cX4_prepare 5 = .ok (.aload_n 0, 1) := by decide +kernel
theorem dX4_prepare_6 : decode cX4_prepare 6 = .ok (.getfield 27, 3) := by decide +kernel
theorem dX4_prepare_9 : decode cX4_prepare 9 = .ok (.ifCond .ne 13, 3) := by decide +kernel
theorem dX4_prepare_12 : decode cX4_prepare 12 = .ok (.aload_n 0, 1) := by decide +kernel
theorem dX4_prepare_13 : decode cX4_prepare 13 = .ok (.iload_n 1, 1) := by decide +kernel
theorem dX4_prepare_14 : decode cX4_prepare 14 = .ok (.invokevirtual 31, 3) := by decide +kernel
theorem dX4_prepare_17 : decode cX4_prepare 17 = .ok (.aload_n 0, 1) := by decide +kernel
theorem dX4_prepare_18 : decode cX4_prepare 18 = .ok (.iload_n 1, 1) := by decide +kernel
theorem dX4_prepare_19 : decode cX4_prepare 19 = .ok (.invokevirtual 35, 3) := by decide +kernel
theorem dX4_prepare_22 : decode cX4_prepare 22 = .ok (.return_, 1) := by decide +kernel
theorem dX4_markNeeded_0 : decode cX4_markNeeded 0 = .ok (.aload_n 0, 1) := by decide +kernel
theorem dX4_markNeeded_1 : decode cX4_markNeeded 1 = .ok (.iload_n 1, 1) := by decide +kernel
theorem dX4_markNeeded_2 : decode cX4_markNeeded 2 = .ok (.invokevirtual 38, 3) := by decide +kernel
theorem dX4_markNeeded_5 : decode cX4_markNeeded 5 = .ok (.iload_n 1, 1) := by decide +kernel
theorem dX4_markNeeded_6 : decode cX4_markNeeded 6 = .ok (.bipush 99, 2) := by decide +kernel
theorem dX4_markNeeded_8 : decode cX4_markNeeded 8 = .ok (.invokestatic 41, 3) := by decide +kernel
theorem dX4_markNeeded_11 : decode cX4_markNeeded 11 = .ok (.istore_n 2, 1) := by decide +kernel
theorem dX4_markNeeded_12 : decode cX4_markNeeded 12 = .ok (.iload_n 2, 1) := by decide +kernel
theorem dX4_markNeeded_13 : decode cX4_markNeeded 13 = .ok (.ifCond .lt 43, 3) := by decide +kernel
theorem dX4_markNeeded_16 : decode cX4_markNeeded 16 = .ok (.aload_n 0, 1) := by decide +kernel
theorem dX4_markNeeded_17 : decode cX4_markNeeded 17 = .ok (.getfield 9, 3) := by decide +kernel
theorem dX4_markNeeded_20 : decode cX4_markNeeded 20 = .ok (.iload_n 2, 1) := by decide +kernel
theorem dX4_markNeeded_21 : decode cX4_markNeeded 21 = .ok (.iaload, 1) := by decide +kernel
theorem dX4_markNeeded_22 : decode cX4_markNeeded 22 = .ok (.iconst (-1), 1) := by decide +kernel
theorem dX4_markNeeded_23 : decode cX4_markNeeded 23 = .ok (.if_icmp .ne 27, 3) := by decide +kernel
theorem dX4_markNeeded_26 : decode cX4_markNeeded 26 = .ok (.aload_n 0, 1) := by decide +kernel
theorem dX4_markNeeded_27 : decode cX4_markNeeded 27 = .ok (.aload_n 0, 1) := by decide +kernel
theorem dX4_markNeeded_28 : decode cX4_markNeeded 28 = .ok (.getfield 19, 3) := by decide +kernel
theorem dX4_markNeeded_31 : decode cX4_markNeeded 31 = .ok (.iload_n 2, 1) := by decide +kernel
theorem dX4_markNeeded_32 : decode cX4_markNeeded 32 = .ok (.invokevirtual 47, 3) := by decide +kernel
theorem dX4_markNeeded_35 : decode cX4_markNeeded 35 = .ok (.invokevirtual 38, 3) := by decide +kernel
theorem dX4_markNeeded_38 : decode cX4_markNeeded 38 = .ok (.aload_n 0, 1) := by decide +kernel
theorem dX4_markNeeded_39 : decode cX4_markNeeded 39 = .ok (.aload_n 0, 1) := by decide +kernel
theorem dX4_markNeeded_40 : decode cX4_markNeeded 40 = .ok (.getfield 19, 3) := by decide +kernel
theorem dX4_markNeeded_43 : decode cX4_markNeeded 43 = .ok (.iload_n 2, 1) := by decide +kernel
theorem dX4_markNeeded_44 : decode cX4_markNeeded 44 = .ok (.invokevirtual 53, 3) := by decide +kernel
theorem dX4_markNeeded_47 : decode cX4_markNeeded 47 = .ok (.invokevirtual 38, 3) := by decide +kernel
theorem dX4_markNeeded_50 : decode cX4_markNeeded 50 = .ok (.iinc 2 (-1), 3) := by decide +kernel
theorem dX4_markNeeded_53 : decode cX4_markNeeded 53 = .ok (.goto (-41), 3) := by decide +kernel
theorem dX4_markNeeded_56 : decode cX4_markNeeded 56 = .ok (.return_, 1) := by decide +kernel
theorem dX4_mark_0 : decode cX4_mark 0 = .ok (.iload_n 1, 1) := by decide +kernel
theorem dX4_mark_1 : decode cX4_mark 1 = .ok (.ifCond .lt 16, 3) := by decide +kernel
theorem dX4_mark_4 : decode cX4_mark 4 = .ok (.iload_n 1, 1) := by decide +kernel
theorem dX4_mark_5 : decode cX4_mark 5 = .ok (.bipush 100, 2) := by decide +kernel
theorem dX4_mark_7 : decode cX4_mark 7 = .ok (.if_icmp .ge 10, 3) := by decide +kernel
theorem dX4_mark_10 : decode cX4_mark 10 = .ok (.aload_n 0, 1) := by decide +kernel
theorem dX4_mark_11 : decode cX4_mark 11 = .ok (.getfield 9, 3) := by decide +kernel
theorem dX4_mark_14 : decode cX4_mark 14 = .ok (.iload_n 1, 1) := by decide +kernel
theorem dX4_mark_15 : decode cX4_mark 15 = .ok (.iconst (-1), 1) := by decide +kernel
theorem dX4_mark_16 : decode cX4_mark 16 = .ok (.iastore, 1) := by decide +kernel
theorem dX4_mark_17 : decode cX4_mark 17 = .ok (.return_, 1) := by decide +kernel
theorem dX4_countNeeded_0 : decode cX4_countNeeded 0 = .ok (.iconst 0, 1) := by decide +kernel
theorem dX4_countNeeded_1 : decode cX4_countNeeded 1 = .ok (.istore_n 2, 1) := by decide +kernel
theorem dX4_countNeeded_2 : decode cX4_countNeeded 2 = .ok (.iload_n 2, 1) := by decide +kernel
theorem dX4_countNeeded_3 : decode cX4_countNeeded 3 = .ok (.iload_n 1, 1) := by decide +kernel
theorem dX4_countNeeded_4 : decode cX4_countNeeded 4 = .ok (.if_icmp .gt 39, 3) := by decide +kernel
theorem dX4_countNeeded_7 : decode cX4_countNeeded 7 = .ok (.iload_n 2, 1) := by decide +kernel
theorem dX4_countNeeded_8 : decode cX4_countNeeded 8 = .ok (.bipush 100, 2) := by decide +kernel
theorem dX4_countNeeded_10 : decode cX4_countNeeded 10 = .ok (.if_icmp .ge 33, 3) := by decide +kernel
theorem dX4_countNeeded_13 : decode cX4_countNeeded 13 = .ok (.aload_n 0, 1) := by decide +kernel
theorem dX4_countNeeded_14 : decode cX4_countNeeded 14 = .ok (.getfield 9, 3) := by decide +kernel
theorem dX4_countNeeded_17 : decode cX4_countNeeded 17 = .ok (.iload_n 2, 1) := by decide +kernel
theorem dX4_countNeeded_18 : decode cX4_countNeeded 18 = .ok (.iaload, 1) := by decide +kernel
theorem dX4_countNeeded_19 : decode cX4_countNeeded 19 = .ok (.iconst (-1), 1) := by decide +kernel
theorem dX4_countNeeded_20 : decode cX4_countNeeded 20 = .ok (.if_icmp .ne 17, 3) := by decide +kernel
theorem dX4_countNeeded_23 : decode cX4_countNeeded 23 = .ok (.aload_n 0, 1) := by decide +kernel
theorem dX4_countNeeded_24 : decode cX4_countNeeded 24 = .ok (.getfield 9, 3) := by decide +kernel
theorem dX4_countNeeded_27 : decode cX4_countNeeded 27 = .ok (.iload_n 2, 1) := by decide +kernel
theorem dX4_countNeeded_28 : decode cX4_countNeeded 28 = .ok (.aload_n 0, 1) := by decide +kernel
theorem dX4_countNeeded_29 : decode cX4_countNeeded 29 = .ok (.iload_n 2, 1) := by decide +kernel
theorem dX4_countNeeded_30 : decode cX4_countNeeded 30 = .ok (.iconst 0, 1) := by decide +kernel
theorem dX4_countNeeded_31 : decode cX4_countNeeded 31 = .ok (.iconst 0, 1) := by decide +kernel
theorem dX4_countNeeded_32 : decode cX4_countNeeded 32 = .ok (.iconst 0, 1) := by decide +kernel
theorem dX4_countNeeded_33 : decode cX4_countNeeded 33 = .ok (.invokevirtual 56, 3) := by decide +kernel
theorem dX4_countNeeded_36 : decode cX4_countNeeded 36 = .ok (.iastore, 1) := by decide +kernel
theorem dX4_countNeeded_37 : decode cX4_countNeeded 37 = .ok (.iinc 2 1, 3) := by decide +kernel
theorem dX4_countNeeded_40 : decode cX4_countNeeded 40 = .ok (.goto (-38), 3) := by decide +kernel
theorem dX4_countNeeded_43 : decode cX4_countNeeded 43 = .ok (.return_, 1) := by decide +kernel
theorem dX4_pairsInside_0 : decode cX4_pairsInside 0 = .ok (.aload_n 0, 1) := by decide +kernel
theorem dX4_pairsInside_1 : decode cX4_pairsInside 1 = .ok (.getfield 19, 3) := by decide +kernel
theorem dX4_pairsInside_4 : decode cX4_pairsInside 4 = .ok (.iload_n 1, 1) := by decide +kernel
theorem dX4_pairsInside_5 : decode cX4_pairsInside 5 = .ok (.invokevirtual 60, 3) := by decide +kernel
theorem dX4_pairsInside_8 : decode cX4_pairsInside 8 = .ok (.istore 5, 2) := by decide +kernel
theorem dX4_pairsInside_10 : decode cX4_pairsInside 10 = .ok (.iload 5, 2) := by decide +kernel
theorem dX4_pairsInside_12 : decode cX4_pairsInside 12 = .ok (.iconst (-1), 1) := by decide +kernel
theorem dX4_pairsInside_13 : decode cX4_pairsInside 13 = .ok (.if_icmp .ne 5, 3) := by decide +kernel
theorem dX4_pairsInside_16 : decode cX4_pairsInside 16 = .ok (.iconst 0, 1) := by decide +kernel
theorem dX4_pairsInside_17 : decode cX4_pairsInside 17 = .ok (.ireturn, 1) := by decide +kernel
theorem dX4_pairsInside_18 : decode cX4_pairsInside 18 = .ok (.iload 4, 2) := by decide +kernel
theorem dX4_pairsInside_20 : decode cX4_pairsInside 20 = .ok (.bipush 40, 2) := by decide +kernel
theorem dX4_pairsInside_22 : decode cX4_pairsInside 22 = .ok (.if_icmp .ge 14, 3) := by decide +kernel
theorem dX4_pairsInside_25 : decode cX4_pairsInside 25 = .ok (.aload_n 0, 1) := by decide +kernel
theorem dX4_pairsInside_26 : decode cX4_pairsInside 26 = .ok (.iload 5, 2) := by decide +kernel
theorem dX4_pairsInside_28 : decode cX4_pairsInside 28 = .ok (.iload_n 2, 1) := by decide +kernel
theorem dX4_pairsInside_29 : decode cX4_pairsInside 29 = .ok (.iload_n 3, 1) := by decide +kernel
theorem dX4_pairsInside_30 : decode cX4_pairsInside 30 = .ok (.invokevirtual 63, 3) := by decide +kernel
theorem dX4_pairsInside_33 : decode cX4_pairsInside 33 = .ok (.ifCond .ne 7, 3) := by decide +kernel
theorem dX4_pairsInside_36 : decode cX4_pairsInside 36 = .ok (.sipush 1000, 3) := by decide +kernel
theorem dX4_pairsInside_39 : decode cX4_pairsInside 39 = .ok (.ireturn, 1) := by decide +kernel
theorem dX4_pairsInside_40 : decode cX4_pairsInside 40 = .ok (.aload_n 0, 1) := by decide +kernel
theorem dX4_pairsInside_41 : decode cX4_pairsInside 41 = .ok (.iload 5, 2) := by decide +kernel
theorem dX4_pairsInside_43 : decode cX4_pairsInside 43 = .ok (.aload_n 0, 1) := by decide +kernel
theorem dX4_pairsInside_44 : decode cX4_pairsInside 44 = .ok (.getfield 19, 3) := by decide +kernel
theorem dX4_pairsInside_47 : decode cX4_pairsInside 47 = .ok (.iload_n 1, 1) := by decide +kernel
theorem dX4_pairsInside_48 : decode cX4_pairsInside 48 = .ok (.invokevirtual 47, 3) := by decide +kernel
theorem dX4_pairsInside_51 : decode cX4_pairsInside 51 = .ok (.iload_n 2, 1) := by decide +kernel
theorem dX4_pairsInside_52 : decode cX4_pairsInside 52 = .ok (.aload_n 0, 1) := by decide +kernel
theorem dX4_pairsInside_53 : decode cX4_pairsInside 53 = .ok (.getfield 15, 3) := by decide +kernel
theorem dX4_pairsInside_56 : decode cX4_pairsInside 56 = .ok (.iload 5, 2) := by decide +kernel
theorem dX4_pairsInside_58 : decode cX4_pairsInside 58 = .ok (.invokevirtual 67, 3) := by decide +kernel
theorem dX4_pairsInside_61 : decode cX4_pairsInside 61 = .ok (.iload 4, 2) := by decide +kernel
theorem dX4_pairsInside_63 : decode cX4_pairsInside 63 = .ok (.iconst 1, 1) := by decide +kernel
theorem dX4_pairsInside_64 : decode cX4_pairsInside 64 = .ok (.iadd, 1) := by decide +kernel
theorem dX4_pairsInside_65 : decode cX4_pairsInside 65 = .ok (.invokevirtual 72, 3) := by decide +kernel
theorem dX4_pairsInside_68 : decode cX4_pairsInside 68 = .ok (.aload_n 0, 1) := by decide +kernel
theorem dX4_pairsInside_69 : decode cX4_pairsInside 69 = .ok (.iload 5, 2) := by decide +kernel
theorem dX4_pairsInside_71 : decode cX4_pairsInside 71 = .ok (.aload_n 0, 1) := by decide +kernel
theorem dX4_pairsInside_72 : decode cX4_pairsInside 72 = .ok (.getfield 19, 3) := by decide +kernel
theorem dX4_pairsInside_75 : decode cX4_pairsInside 75 = .ok (.iload_n 1, 1) := by decide +kernel
theorem dX4_pairsInside_76 : decode cX4_pairsInside 76 = .ok (.invokevirtual 53, 3) := by decide +kernel
theorem dX4_pairsInside_79 : decode cX4_pairsInside 79 = .ok (.aload_n 0, 1) := by decide +kernel
theorem dX4_pairsInside_80 : decode cX4_pairsInside 80 = .ok (.getfield 15, 3) := by decide +kernel
theorem dX4_pairsInside_83 : decode cX4_pairsInside 83 = .ok (.iload 5, 2) := by decide +kernel
theorem dX4_pairsInside_85 : decode cX4_pairsInside 85 = .ok (.invokevirtual 76, 3) := by decide +kernel
theorem dX4_pairsInside_88 : decode cX4_pairsInside 88 = .ok (.iload_n 3, 1) := by decide +kernel
theorem dX4_pairsInside_89 : decode cX4_pairsInside 89 = .ok (.iload 4, 2) := by decide +kernel
theorem dX4_pairsInside_91 : decode cX4_pairsInside 91 = .ok (.iconst 1, 1) := by decide +kernel
theorem dX4_pairsInside_92 : decode cX4_pairsInside 92 = .ok (.iadd, 1) := by decide +kernel
theorem dX4_pairsInside_93 : decode cX4_pairsInside 93 = .ok (.invokevirtual 72, 3) := by decide +kernel
theorem dX4_pairsInside_96 : decode cX4_pairsInside 96 = .ok (.iadd, 1) := by decide +kernel
theorem dX4_pairsInside_97 : decode cX4_pairsInside 97 = .ok (.ireturn, 1) := by decide +kernel
theorem dX4_isReadWhole_0 : decode cX4_isReadWhole 0 = .ok (.aload_n 0, 1) := by decide +kernel
theorem dX4_isReadWhole_1 : decode cX4_isReadWhole 1 = .ok (.getfield 15, 3) := by decide +kernel
theorem dX4_isReadWhole_4 : decode cX4_isReadWhole 4 = .ok (.iload_n 1, 1) := by decide +kernel
theorem dX4_isReadWhole_5 : decode cX4_isReadWhole 5 = .ok (.invokevirtual 79, 3) := by decide +kernel
theorem dX4_isReadWhole_8 : decode cX4_isReadWhole 8 = .ok (.istore 4, 2) := by decide +kernel
theorem dX4_isReadWhole_10 : decode cX4_isReadWhole 10 = .ok (.iload 4, 2) := by decide +kernel
theorem dX4_isReadWhole_12 : decode cX4_isReadWhole 12 = .ok (.iconst 1, 1) := by decide +kernel
theorem dX4_isReadWhole_13 : decode cX4_isReadWhole 13 = .ok (.if_icmp .eq 15, 3) := by decide +kernel
theorem dX4_isReadWhole_16 : decode cX4_isReadWhole 16 = .ok (.aload_n 0, 1) := by decide +kernel
theorem dX4_isReadWhole_17 : decode cX4_isReadWhole 17 = .ok (.getfield 15, 3) := by decide +kernel
theorem dX4_isReadWhole_20 : decode cX4_isReadWhole 20 = .ok (.iload_n 1, 1) := by decide +kernel
theorem dX4_isReadWhole_21 : decode cX4_isReadWhole 21 = .ok (.invokevirtual 67, 3) := by decide +kernel
theorem dX4_isReadWhole_24 : decode cX4_isReadWhole 24 = .ok (.iload_n 2, 1) := by decide +kernel
theorem dX4_isReadWhole_25 : decode cX4_isReadWhole 25 = .ok (.if_icmp .lt 7, 3) := by decide +kernel
theorem dX4_isReadWhole_28 : decode cX4_isReadWhole 28 = .ok (.iconst 1, 1) := by decide +kernel
theorem dX4_isReadWhole_29 : decode cX4_isReadWhole 29 = .ok (.goto 4, 3) := by decide +kernel
theorem dX4_isReadWhole_32 : decode cX4_isReadWhole 32 = .ok (.iconst 0, 1) := by decide +kernel
theorem dX4_isReadWhole_33 : decode cX4_isReadWhole 33 = .ok (.istore 5, 2) := by decide +kernel
theorem dX4_isReadWhole_35 : decode cX4_isReadWhole 35 = .ok (.iload 4, 2) := by decide +kernel
theorem dX4_isReadWhole_37 : decode cX4_isReadWhole 37 = .ok (.iconst 2, 1) := by decide +kernel
theorem dX4_isReadWhole_38 : decode cX4_isReadWhole 38 = .ok (.if_icmp .eq 15, 3) := by decide +kernel
theorem dX4_isReadWhole_41 : decode cX4_isReadWhole 41 = .ok (.aload_n 0, 1) := by decide +kernel
theorem dX4_isReadWhole_42 : decode cX4_isReadWhole 42 = .ok (.getfield 15, 3) := by decide +kernel
theorem dX4_isReadWhole_45 : decode cX4_isReadWhole 45 = .ok (.iload_n 1, 1) := by decide +kernel
theorem dX4_isReadWhole_46 : decode cX4_isReadWhole 46 = .ok (.invokevirtual 76, 3) := by decide +kernel
theorem dX4_isReadWhole_49 : decode cX4_isReadWhole 49 = .ok (.iload_n 3, 1) := by decide +kernel
theorem dX4_isReadWhole_50 : decode cX4_isReadWhole 50 = .ok (.if_icmp .le 7, 3) := by decide +kernel
theorem dX4_isReadWhole_53 : decode cX4_isReadWhole 53 = .ok (.iconst 1, 1) := by decide +kernel
theorem dX4_isReadWhole_54 : decode cX4_isReadWhole 54 = .ok (.goto 4, 3) := by decide +kernel
theorem dX4_isReadWhole_57 : decode cX4_isReadWhole 57 = .ok (.iconst 0, 1) := by decide +kernel
theorem dX4_isReadWhole_58 : decode cX4_isReadWhole 58 = .ok (.istore 6, 2) := by decide +kernel
theorem dX4_isReadWhole_60 : decode cX4_isReadWhole 60 = .ok (.iload 5, 2) := by decide +kernel
theorem dX4_isReadWhole_62 : decode cX4_isReadWhole 62 = .ok (.ifCond .eq 12, 3) := by decide +kernel
theorem dX4_isReadWhole_65 : decode cX4_isReadWhole 65 = .ok (.iload 6, 2) := by decide +kernel
theorem dX4_isReadWhole_67 : decode cX4_isReadWhole 67 = .ok (.ifCond .eq 7, 3) := by decide +kernel
theorem dX4_isReadWhole_70 : decode cX4_isReadWhole 70 = .ok (.iconst 1, 1) := by decide +kernel
theorem dX4_isReadWhole_71 : decode cX4_isReadWhole 71 = .ok (.goto 4, 3) := by decide +kernel
theorem dX4_isReadWhole_74 : decode cX4_isReadWhole 74 = .ok (.iconst 0, 1) := by decide +kernel
theorem dX4_isReadWhole_75 : decode cX4_isReadWhole 75 = .ok (.ireturn, 1) := by decide +kernel
theorem dX4_pairsOfOperand_0 : decode cX4_pairsOfOperand 0 = .ok (.aload_n 0, 1) := by decide +kernel
theorem dX4_pairsOfOperand_1 : decode cX4_pairsOfOperand 1 = .ok (.getfield 19, 3) := by decide +kernel
theorem dX4_pairsOfOperand_4 : decode cX4_pairsOfOperand 4 = .ok (.iload_n 2, 1) := by decide +kernel
theorem dX4_pairsOfOperand_5 : decode cX4_pairsOfOperand 5 = .ok (.invokevirtual 60, 3) := by decide +kernel
theorem dX4_pairsOfOperand_8 : decode cX4_pairsOfOperand 8 = .ok (.iconst (-1), 1) := by decide +kernel
theorem dX4_pairsOfOperand_9 : decode cX4_pairsOfOperand 9 = .ok (.if_icmp .ne 5, 3) := by decide +kernel
theorem dX4_pairsOfOperand_12 : decode cX4_pairsOfOperand 12 = .ok (.iconst 0, 1) := by decide +kernel
theorem dX4_pairsOfOperand_13 : decode cX4_pairsOfOperand 13 = .ok (.ireturn, 1) := by decide +kernel
theorem dX4_pairsOfOperand_14 : decode cX4_pairsOfOperand 14 = .ok (.aload_n 0, 1) := by decide +kernel
theorem dX4_pairsOfOperand_15 : decode cX4_pairsOfOperand 15 = .ok (.iload_n 1, 1) := by decide +kernel
theorem dX4_pairsOfOperand_16 : decode cX4_pairsOfOperand 16 = .ok (.iload_n 2, 1) := by decide +kernel
theorem dX4_pairsOfOperand_17 : decode cX4_pairsOfOperand 17 = .ok (.iload_n 3, 1) := by decide +kernel
theorem dX4_pairsOfOperand_18 : decode cX4_pairsOfOperand 18 = .ok (.iload 4, 2) := by decide +kernel
theorem dX4_pairsOfOperand_20 : decode cX4_pairsOfOperand 20 = .ok (.iload 5, 2) := by decide +kernel
theorem dX4_pairsOfOperand_22 : decode cX4_pairsOfOperand 22 = .ok (.invokevirtual 82, 3) := by decide +kernel
theorem dX4_pairsOfOperand_25 : decode cX4_pairsOfOperand 25 = .ok (.aload_n 0, 1) := by decide +kernel
theorem dX4_pairsOfOperand_26 : decode cX4_pairsOfOperand 26 = .ok (.iload_n 2, 1) := by decide +kernel
theorem dX4_pairsOfOperand_27 : decode cX4_pairsOfOperand 27 = .ok (.invokevirtual 85, 3) := by decide +kernel
theorem dX4_pairsOfOperand_30 : decode cX4_pairsOfOperand 30 = .ok (.invokestatic 41, 3) := by decide +kernel
theorem dX4_pairsOfOperand_33 : decode cX4_pairsOfOperand 33 = .ok (.ireturn, 1) := by decide +kernel
theorem dX4_pairsIfBracketed_0 : decode cX4_pairsIfBracketed 0 = .ok (.iload_n 1, 1) := by decide +kernel
theorem dX4_pairsIfBracketed_1 : decode cX4_pairsIfBracketed 1 = .ok (.ifCond .lt 20, 3) := by decide +kernel
theorem dX4_pairsIfBracketed_4 : decode cX4_pairsIfBracketed 4 = .ok (.iload_n 1, 1) := by decide +kernel
theorem dX4_pairsIfBracketed_5 : decode cX4_pairsIfBracketed 5 = .ok (.bipush 100, 2) := by decide +kernel
theorem dX4_pairsIfBracketed_7 : decode cX4_pairsIfBracketed 7 = .ok (.if_icmp .ge 14, 3) := by decide +kernel
theorem dX4_pairsIfBracketed_10 : decode cX4_pairsIfBracketed 10 = .ok (.iconst 1, 1) := by decide +kernel
theorem dX4_pairsIfBracketed_11 : decode cX4_pairsIfBracketed 11 = .ok (.aload_n 0, 1) := by decide +kernel
theorem dX4_pairsIfBracketed_12 : decode cX4_pairsIfBracketed 12 = .ok (.getfield 9, 3) := by decide +kernel
theorem dX4_pairsIfBracketed_15 : decode cX4_pairsIfBracketed 15 = .ok (.iload_n 1, 1) := by decide +kernel
theorem dX4_pairsIfBracketed_16 : decode cX4_pairsIfBracketed 16 = .ok (.iaload, 1) := by decide +kernel
theorem dX4_pairsIfBracketed_17 : decode cX4_pairsIfBracketed 17 = .ok (.iadd, 1) := by decide +kernel
theorem dX4_pairsIfBracketed_18 : decode cX4_pairsIfBracketed 18 = .ok (.goto 6, 3) := by decide +kernel
theorem dX4_pairsIfBracketed_21 : decode cX4_pairsIfBracketed 21 = .ok (.sipush 1000, 3) := by decide +kernel
theorem dX4_pairsIfBracketed_24 : decode cX4_pairsIfBracketed 24 = .ok (.ireturn, 1) := by decide +kernel
theorem dX4_pairsIfOpen_0 : decode cX4_pairsIfOpen 0 = .ok (.aload_n 0, 1) := by decide +kernel
theorem dX4_pairsIfOpen_1 : decode cX4_pairsIfOpen 1 = .ok (.getfield 19, 3) := by decide +kernel
theorem dX4_pairsIfOpen_4 : decode cX4_pairsIfOpen 4 = .ok (.iload_n 2, 1) := by decide +kernel
theorem dX4_pairsIfOpen_5 : decode cX4_pairsIfOpen 5 = .ok (.invokevirtual 60, 3) := by decide +kernel
theorem dX4_pairsIfOpen_8 : decode cX4_pairsIfOpen 8 = .ok (.istore 6, 2) := by decide +kernel
theorem dX4_pairsIfOpen_10 : decode cX4_pairsIfOpen 10 = .ok (.aload_n 0, 1) := by decide +kernel
theorem dX4_pairsIfOpen_11 : decode cX4_pairsIfOpen 11 = .ok (.getfield 15, 3) := by decide +kernel
theorem dX4_pairsIfOpen_14 : decode cX4_pairsIfOpen 14 = .ok (.iload_n 1, 1) := by decide +kernel
theorem dX4_pairsIfOpen_15 : decode cX4_pairsIfOpen 15 = .ok (.iload 6, 2) := by decide +kernel
theorem dX4_pairsIfOpen_17 : decode cX4_pairsIfOpen 17 = .ok (.invokevirtual 88, 3) := by decide +kernel
theorem dX4_pairsIfOpen_20 : decode cX4_pairsIfOpen 20 = .ok (.ifCond .ne 16, 3) := by decide +kernel
theorem dX4_pairsIfOpen_23 : decode cX4_pairsIfOpen 23 = .ok (.aload_n 0, 1) := by decide +kernel
theorem dX4_pairsIfOpen_24 : decode cX4_pairsIfOpen 24 = .ok (.getfield 15, 3) := by decide +kernel
theorem dX4_pairsIfOpen_27 : decode cX4_pairsIfOpen 27 = .ok (.iload_n 1, 1) := by decide +kernel
theorem dX4_pairsIfOpen_28 : decode cX4_pairsIfOpen 28 = .ok (.iload 6, 2) := by decide +kernel
theorem dX4_pairsIfOpen_30 : decode cX4_pairsIfOpen 30 = .ok (.invokevirtual 92, 3) := by decide +kernel
theorem dX4_pairsIfOpen_33 : decode cX4_pairsIfOpen 33 = .ok (.ifCond .eq 7, 3) := by decide +kernel
theorem dX4_pairsIfOpen_36 : decode cX4_pairsIfOpen 36 = .ok (.sipush 1000, 3) := by decide +kernel
theorem dX4_pairsIfOpen_39 : decode cX4_pairsIfOpen 39 = .ok (.ireturn, 1) := by decide +kernel
theorem dX4_pairsIfOpen_40 : decode cX4_pairsIfOpen 40 = .ok (.aload_n 0, 1) := by decide +kernel
theorem dX4_pairsIfOpen_41 : decode cX4_pairsIfOpen 41 = .ok (.iload_n 2, 1) := by decide +kernel
theorem dX4_pairsIfOpen_42 : decode cX4_pairsIfOpen 42 = .ok (.iload_n 3, 1) := by decide +kernel
theorem dX4_pairsIfOpen_43 : decode cX4_pairsIfOpen 43 = .ok (.iload 4, 2) := by decide +kernel
theorem dX4_pairsIfOpen_45 : decode cX4_pairsIfOpen 45 = .ok (.iload 5, 2) := by decide +kernel
theorem dX4_pairsIfOpen_47 : decode cX4_pairsIfOpen 47 = .ok (.invokevirtual 56, 3) := by decide +kernel
theorem dX4_pairsIfOpen_50 : decode cX4_pairsIfOpen 50 = .ok (.ireturn, 1) := by decide +kernel
theorem dX4_writeNode_0 : decode cX4_writeNode 0 = .ok (.iload 4, 2) := by decide +kernel
theorem dX4_writeNode_2 : decode cX4_writeNode 2 = .ok (.bipush 40, 2) := by decide +kernel
theorem dX4_writeNode_4 : decode cX4_writeNode 4 = .ok (.if_icmp .lt 4, 3) := by decide +kernel
theorem dX4_writeNode_7 : decode cX4_writeNode 7 = .ok (.return_, 1) := by decide +kernel
theorem dX4_writeNode_8 : decode cX4_writeNode 8 = .ok (.aload_n 0, 1) := by decide +kernel
theorem dX4_writeNode_9 : decode cX4_writeNode 9 = .ok (.getfield 19, 3) := by decide +kernel
theorem dX4_writeNode_12 : decode cX4_writeNode 12 = .ok (.iload_n 1, 1) := by decide +kernel
theorem dX4_writeNode_13 : decode cX4_writeNode 13 = .ok (.invokevirtual 60, 3) := by decide +kernel
theorem dX4_writeNode_16 : decode cX4_writeNode 16 = .ok (.istore 5, 2) := by decide +kernel
theorem dX4_writeNode_18 : decode cX4_writeNode 18 = .ok (.iload 5, 2) := by decide +kernel
theorem dX4_writeNode_20 : decode cX4_writeNode 20 = .ok (.iconst (-1), 1) := by decide +kernel
theorem dX4_writeNode_21 : decode cX4_writeNode 21 = .ok (.if_icmp .ne 20, 3) := by decide +kernel
theorem dX4_writeNode_24 : decode cX4_writeNode 24 = .ok (.aload_n 0, 1) := by decide +kernel
theorem dX4_writeNode_25 : decode cX4_writeNode 25 = .ok (.getfield 23, 3) := by decide +kernel
theorem dX4_writeNode_28 : decode cX4_writeNode 28 = .ok (.aload_n 0, 1) := by decide +kernel
theorem dX4_writeNode_29 : decode cX4_writeNode 29 = .ok (.getfield 19, 3) := by decide +kernel
theorem dX4_writeNode_32 : decode cX4_writeNode 32 = .ok (.iload_n 1, 1) := by decide +kernel
theorem dX4_writeNode_33 : decode cX4_writeNode 33 = .ok (.invokevirtual 95, 3) := by decide +kernel
theorem dX4_writeNode_36 : decode cX4_writeNode 36 = .ok (.invokevirtual 98, 3) := by decide +kernel
theorem dX4_writeNode_39 : decode cX4_writeNode 39 = .ok (.pop, 1) := by decide +kernel
theorem dX4_writeNode_40 : decode cX4_writeNode 40 = .ok (.return_, 1) := by decide +kernel
theorem dX4_writeNode_41 : decode cX4_writeNode 41 = .ok (.aload_n 0, 1) := by decide +kernel
theorem dX4_writeNode_42 : decode cX4_writeNode 42 = .ok (.iload 5, 2) := by decide +kernel
theorem dX4_writeNode_44 : decode cX4_writeNode 44 = .ok (.aload_n 0, 1) := by decide +kernel
theorem dX4_writeNode_45 : decode cX4_writeNode 45 = .ok (.getfield 19, 3) := by decide +kernel
theorem dX4_writeNode_48 : decode cX4_writeNode 48 = .ok (.iload_n 1, 1) := by decide +kernel
theorem dX4_writeNode_49 : decode cX4_writeNode 49 = .ok (.invokevirtual 47, 3) := by decide +kernel
theorem dX4_writeNode_52 : decode cX4_writeNode 52 = .ok (.iload_n 2, 1) := by decide +kernel
theorem dX4_writeNode_53 : decode cX4_writeNode 53 = .ok (.aload_n 0, 1) := by decide +kernel
theorem dX4_writeNode_54 : decode cX4_writeNode 54 = .ok (.getfield 15, 3) := by decide +kernel
theorem dX4_writeNode_57 : decode cX4_writeNode 57 = .ok (.iload 5, 2) := by decide +kernel
theorem dX4_writeNode_59 : decode cX4_writeNode 59 = .ok (.invokevirtual 67, 3) := by decide +kernel
theorem dX4_writeNode_62 : decode cX4_writeNode 62 = .ok (.iload 4, 2) := by decide +kernel
theorem dX4_writeNode_64 : decode cX4_writeNode 64 = .ok (.iconst 1, 1) := by decide +kernel
theorem dX4_writeNode_65 : decode cX4_writeNode 65 = .ok (.iadd, 1) := by decide +kernel
theorem dX4_writeNode_66 : decode cX4_writeNode 66 = .ok (.invokevirtual 104, 3) := by decide +kernel
theorem dX4_writeNode_69 : decode cX4_writeNode 69 = .ok (.aload_n 0, 1) := by decide +kernel
theorem dX4_writeNode_70 : decode cX4_writeNode 70 = .ok (.getfield 23, 3) := by decide +kernel
theorem dX4_writeNode_73 : decode cX4_writeNode 73 = .ok (.aload_n 0, 1) := by decide +kernel
theorem dX4_writeNode_74 : decode cX4_writeNode 74 = .ok (.getfield 15, 3) := by decide +kernel
theorem dX4_writeNode_77 : decode cX4_writeNode 77 = .ok (.iload 5, 2) := by decide +kernel
theorem dX4_writeNode_79 : decode cX4_writeNode 79 = .ok (.invokevirtual 108, 3) := by decide +kernel
theorem dX4_writeNode_82 : decode cX4_writeNode 82 = .ok (.invokevirtual 98, 3) := by decide +kernel
theorem dX4_writeNode_85 : decode cX4_writeNode 85 = .ok (.pop, 1) := by decide +kernel
theorem dX4_writeNode_86 : decode cX4_writeNode 86 = .ok (.aload_n 0, 1) := by decide +kernel
theorem dX4_writeNode_87 : decode cX4_writeNode 87 = .ok (.iload 5, 2) := by decide +kernel
theorem dX4_writeNode_89 : decode cX4_writeNode 89 = .ok (.aload_n 0, 1) := by decide +kernel
theorem dX4_writeNode_90 : decode cX4_writeNode 90 = .ok (.getfield 19, 3) := by decide +kernel
theorem dX4_writeNode_93 : decode cX4_writeNode 93 = .ok (.iload_n 1, 1) := by decide +kernel
theorem dX4_writeNode_94 : decode cX4_writeNode 94 = .ok (.invokevirtual 53, 3) := by decide +kernel
theorem dX4_writeNode_97 : decode cX4_writeNode 97 = .ok (.aload_n 0, 1) := by decide +kernel
theorem dX4_writeNode_98 : decode cX4_writeNode 98 = .ok (.getfield 15, 3) := by decide +kernel
theorem dX4_writeNode_101 : decode cX4_writeNode 101 = .ok (.iload 5, 2) := by decide +kernel
theorem dX4_writeNode_103 : decode cX4_writeNode 103 = .ok (.invokevirtual 76, 3) := by decide +kernel
theorem dX4_writeNode_106 : decode cX4_writeNode 106 = .ok (.iload_n 3, 1) := by decide +kernel
theorem dX4_writeNode_107 : decode cX4_writeNode 107 = .ok (.iload 4, 2) := by decide +kernel
theorem dX4_writeNode_109 : decode cX4_writeNode 109 = .ok (.iconst 1, 1) := by decide +kernel
theorem dX4_writeNode_110 : decode cX4_writeNode 110 = .ok (.iadd, 1) := by decide +kernel
theorem dX4_writeNode_111 : decode cX4_writeNode 111 = .ok (.invokevirtual 104, 3) := by decide +kernel
theorem dX4_writeNode_114 : decode cX4_writeNode 114 = .ok (.return_, 1) := by decide +kernel
theorem dX4_writeOperand_0 : decode cX4_writeOperand 0 = .ok (.iload_n 2, 1) := by decide +kernel
theorem dX4_writeOperand_1 : decode cX4_writeOperand 1 = .ok (.iconst (-1), 1) := by decide +kernel
theorem dX4_writeOperand_2 : decode cX4_writeOperand 2 = .ok (.if_icmp .ne 4, 3) := by decide +kernel
theorem dX4_writeOperand_5 : decode cX4_writeOperand 5 = .ok (.return_, 1) := by decide +kernel
theorem dX4_writeOperand_6 : decode cX4_writeOperand 6 = .ok (.aload_n 0, 1) := by decide +kernel
theorem dX4_writeOperand_7 : decode cX4_writeOperand 7 = .ok (.getfield 19, 3) := by decide +kernel
theorem dX4_writeOperand_10 : decode cX4_writeOperand 10 = .ok (.iload_n 2, 1) := by decide +kernel
theorem dX4_writeOperand_11 : decode cX4_writeOperand 11 = .ok (.invokevirtual 60, 3) := by decide +kernel
theorem dX4_writeOperand_14 : decode cX4_writeOperand 14 = .ok (.iconst (-1), 1) := by decide +kernel
theorem dX4_writeOperand_15 : decode cX4_writeOperand 15 = .ok (.if_icmp .eq 33, 3) := by decide +kernel
theorem dX4_writeOperand_18 : decode cX4_writeOperand 18 = .ok (.aload_n 0, 1) := by decide +kernel
theorem dX4_writeOperand_19 : decode cX4_writeOperand 19 = .ok (.getfield 27, 3) := by decide +kernel
theorem dX4_writeOperand_22 : decode cX4_writeOperand 22 = .ok (.ifCond .ne 22, 3) := by decide +kernel
theorem dX4_writeOperand_25 : decode cX4_writeOperand 25 = .ok (.aload_n 0, 1) := by decide +kernel
theorem dX4_writeOperand_26 : decode cX4_writeOperand 26 = .ok (.iload_n 1, 1) := by decide +kernel
theorem dX4_writeOperand_27 : decode cX4_writeOperand 27 = .ok (.iload_n 2, 1) := by decide +kernel
theorem dX4_writeOperand_28 : decode cX4_writeOperand 28 = .ok (.iload_n 3, 1) := by decide +kernel
theorem dX4_writeOperand_29 : decode cX4_writeOperand 29 = .ok (.iload 4, 2) := by decide +kernel
theorem dX4_writeOperand_31 : decode cX4_writeOperand 31 = .ok (.iload 5, 2) := by decide +kernel
theorem dX4_writeOperand_33 : decode cX4_writeOperand 33 = .ok (.invokevirtual 82, 3) := by decide +kernel
theorem dX4_writeOperand_36 : decode cX4_writeOperand 36 = .ok (.aload_n 0, 1) := by decide +kernel
theorem dX4_writeOperand_37 : decode cX4_writeOperand 37 = .ok (.iload_n 2, 1) := by decide +kernel
theorem dX4_writeOperand_38 : decode cX4_writeOperand 38 = .ok (.invokevirtual 85, 3) := by decide +kernel
theorem dX4_writeOperand_41 : decode cX4_writeOperand 41 = .ok (.if_icmp .le 7, 3) := by decide +kernel
theorem dX4_writeOperand_44 : decode cX4_writeOperand 44 = .ok (.iconst 1, 1) := by decide +kernel
theorem dX4_writeOperand_45 : decode cX4_writeOperand 45 = .ok (.goto 4, 3) := by decide +kernel
theorem dX4_writeOperand_48 : decode cX4_writeOperand 48 = .ok (.iconst 0, 1) := by decide +kernel
theorem dX4_writeOperand_49 : decode cX4_writeOperand 49 = .ok (.istore 6, 2) := by decide +kernel
theorem dX4_writeOperand_51 : decode cX4_writeOperand 51 = .ok (.iload 6, 2) := by decide +kernel
theorem dX4_writeOperand_53 : decode cX4_writeOperand 53 = .ok (.ifCond .eq 35, 3) := by decide +kernel
theorem dX4_writeOperand_56 : decode cX4_writeOperand 56 = .ok (.aload_n 0, 1) := by decide +kernel
theorem dX4_writeOperand_57 : decode cX4_writeOperand 57 = .ok (.getfield 23, 3) := by decide +kernel
theorem dX4_writeOperand_60 : decode cX4_writeOperand 60 = .ok (.bipush 40, 2) := by decide +kernel
theorem dX4_writeOperand_62 : decode cX4_writeOperand 62 = .ok (.invokevirtual 98, 3) := by decide +kernel
theorem dX4_writeOperand_65 : decode cX4_writeOperand 65 = .ok (.pop, 1) := by decide +kernel
theorem dX4_writeOperand_66 : decode cX4_writeOperand 66 = .ok (.aload_n 0, 1) := by decide +kernel
theorem dX4_writeOperand_67 : decode cX4_writeOperand 67 = .ok (.iload_n 2, 1) := by decide +kernel
theorem dX4_writeOperand_68 : decode cX4_writeOperand 68 = .ok (.iconst 0, 1) := by decide +kernel
theorem dX4_writeOperand_69 : decode cX4_writeOperand 69 = .ok (.iconst 0, 1) := by decide +kernel
theorem dX4_writeOperand_70 : decode cX4_writeOperand 70 = .ok (.iload 5, 2) := by decide +kernel
theorem dX4_writeOperand_72 : decode cX4_writeOperand 72 = .ok (.invokevirtual 111, 3) := by decide +kernel
theorem dX4_writeOperand_75 : decode cX4_writeOperand 75 = .ok (.aload_n 0, 1) := by decide +kernel
theorem dX4_writeOperand_76 : decode cX4_writeOperand 76 = .ok (.getfield 23, 3) := by decide +kernel
theorem dX4_writeOperand_79 : decode cX4_writeOperand 79 = .ok (.bipush 41, 2) := by decide +kernel
theorem dX4_writeOperand_81 : decode cX4_writeOperand 81 = .ok (.invokevirtual 98, 3) := by decide +kernel
theorem dX4_writeOperand_84 : decode cX4_writeOperand 84 = .ok (.pop, 1) := by decide +kernel
theorem dX4_writeOperand_85 : decode cX4_writeOperand 85 = .ok (.goto 13, 3) := by decide +kernel
theorem dX4_writeOperand_88 : decode cX4_writeOperand 88 = .ok (.aload_n 0, 1) := by decide +kernel
theorem dX4_writeOperand_89 : decode cX4_writeOperand 89 = .ok (.iload_n 2, 1) := by decide +kernel
theorem dX4_writeOperand_90 : decode cX4_writeOperand 90 = .ok (.iload_n 3, 1) := by decide +kernel
theorem dX4_writeOperand_91 : decode cX4_writeOperand 91 = .ok (.iload 4, 2) := by decide +kernel
theorem dX4_writeOperand_93 : decode cX4_writeOperand 93 = .ok (.iload 5, 2) := by decide +kernel
theorem dX4_writeOperand_95 : decode cX4_writeOperand 95 = .ok (.invokevirtual 111, 3) := by decide +kernel
theorem dX4_writeOperand_98 : decode cX4_writeOperand 98 = .ok (.return_, 1) := by decide +kernel
theorem dX5_defineInfix_0 : decode cX5_defineInfix 0 = .ok (.aload_n 0, 1) := by decide +kernel
theorem dX5_defineInfix_1 : decode cX5_defineInfix 1 = .ok (.iload_n 1, 1) := by decide +kernel
theorem dX5_defineInfix_2 : decode cX5_defineInfix 2 = .ok (.iconst 0, 1) := by decide +kernel
theorem dX5_defineInfix_3 : decode cX5_defineInfix 3 = .ok (.iload_n 2, 1) := by decide +kernel
theorem dX5_defineInfix_4 : decode cX5_defineInfix 4 = .ok (.invokevirtual 65, 3) := by decide +kernel
theorem dX5_defineInfix_7 : decode cX5_defineInfix 7 = .ok (.ireturn, 1) := by decide +kernel
theorem dX5_definePrefix_0 : decode cX5_definePrefix 0 = .ok (.aload_n 0, 1) := by decide +kernel
theorem dX5_definePrefix_1 : decode cX5_definePrefix 1 = .ok (.iload_n 1, 1) := by decide +kernel
theorem dX5_definePrefix_2 : decode cX5_definePrefix 2 = .ok (.iconst 1, 1) := by decide +kernel
theorem dX5_definePrefix_3 : decode cX5_definePrefix 3 = .ok (.iload_n 2, 1) := by decide +kernel
theorem dX5_definePrefix_4 : decode cX5_definePrefix 4 = .ok (.invokevirtual 65, 3) := by decide +kernel
theorem dX5_definePrefix_7 : decode cX5_definePrefix 7 = .ok (.ireturn, 1) := by decide +kernel
theorem dX5_definePostfix_0 : decode cX5_definePostfix 0 = .ok (.aload_n 0, 1) := by decide +kernel
theorem dX5_definePostfix_1 : decode cX5_definePostfix 1 = .ok (.iload_n 1, 1) := by decide +kernel
theorem dX5_definePostfix_2 : decode cX5_definePostfix 2 = .ok (.iconst 2, 1) := by decide +kernel
theorem dX5_definePostfix_3 : decode cX5_definePostfix 3 = .ok (.iload_n 2, 1) := by decide +kernel
theorem dX5_definePostfix_4 : decode cX5_definePostfix 4 = .ok (.invokevirtual 65, 3) := by decide +kernel
theorem dX5_definePostfix_7 : decode cX5_definePostfix 7 = .ok (.ireturn, 1) := by decide +kernel
theorem dX5_defineOperator_0 : decode cX5_defineOperator 0 = .ok (.iload_n 1, 1) := by decide +kernel
theorem dX5_defineOperator_1 : decode cX5_defineOperator 1 = .ok (.invokestatic 69, 3) := by decide +kernel
theorem dX5_defineOperator_4 : decode cX5_defineOperator 4 = .ok (.ifCond .ne 6, 3) := by decide +kernel
theorem dX5_defineOperator_7 : decode cX5_defineOperator 7 = .ok (.bipush (-3), 2) := by decide +kernel
theorem dX5_defineOperator_9 : decode cX5_defineOperator 9 = .ok (.ireturn, 1) := by decide +kernel
theorem dX5_defineOperator_10 : decode cX5_defineOperator 10 = .ok (.iload_n 3, 1) := by decide +kernel
theorem dX5_defineOperator_11 : decode cX5_defineOperator 11 = .ok (.invokestatic 73, 3) := by decide +kernel
theorem dX5_defineOperator_14 : decode cX5_defineOperator 14 = .ok (.ifCond .ne 6, 3) := by decide +kernel
theorem dX5_defineOperator_17 : decode cX5_defineOperator 17 = .ok (.bipush (-4), 2) := by decide +kernel
theorem dX5_defineOperator_19 : decode cX5_defineOperator 19 = .ok (.ireturn, 1) := by decide +kernel
theorem dX5_defineOperator_20 : decode cX5_defineOperator 20 = .ok (.aload_n 0, 1) := by decide +kernel
theorem dX5_defineOperator_21 : decode cX5_defineOperator 21 = .ok (.getfield 10, 3) := by decide +kernel
theorem dX5_defineOperator_24 : decode cX5_defineOperator 24 = .ok (.iload_n 1, 1) := by decide +kernel
theorem dX5_defineOperator_25 : decode cX5_defineOperator 25 = .ok (.iload_n 2, 1) := by decide +kernel
theorem dX5_defineOperator_26 : decode cX5_defineOperator 26 = .ok (.iconst 1, 1) := by decide +kernel
theorem dX5_defineOperator_27 : decode cX5_defineOperator 27 = .ok (.if_icmp .ne 7, 3) := by decide +kernel
theorem dX5_defineOperator_30 : decode cX5_defineOperator 30 = .ok (.iconst 1, 1) := by decide +kernel
theorem dX5_defineOperator_31 : decode cX5_defineOperator 31 = .ok (.goto 4, 3) := by decide +kernel
theorem dX5_defineOperator_34 : decode cX5_defineOperator 34 = .ok (.iconst 0, 1) := by decide +kernel
theorem dX5_defineOperator_35 : decode cX5_defineOperator 35 = .ok (.invokevirtual 76, 3) := by decide +kernel
theorem dX5_defineOperator_38 : decode cX5_defineOperator 38 = .ok (.iconst (-1), 1) := by decide +kernel
theorem dX5_defineOperator_39 : decode cX5_defineOperator 39 = .ok (.if_icmp .eq 6, 3) := by decide +kernel
theorem dX5_defineOperator_42 : decode cX5_defineOperator 42 = .ok (.bipush (-5), 2) := by decide +kernel
theorem dX5_defineOperator_44 : decode cX5_defineOperator 44 = .ok (.ireturn, 1) := by decide +kernel
theorem dX5_defineOperator_45 : decode cX5_defineOperator 45 = .ok (.aload_n 0, 1) := by decide +kernel
theorem dX5_defineOperator_46 : decode cX5_defineOperator 46 = .ok (.getfield 10, 3) := by decide +kernel
theorem dX5_defineOperator_49 : decode cX5_defineOperator 49 = .ok (.iload_n 1, 1) := by decide +kernel
theorem dX5_defineOperator_50 : decode cX5_defineOperator 50 = .ok (.iload_n 2, 1) := by decide +kernel
theorem dX5_defineOperator_51 : decode cX5_defineOperator 51 = .ok (.iload_n 3, 1) := by decide +kernel
theorem dX5_defineOperator_52 : decode cX5_defineOperator 52 = .ok (.invokevirtual 80, 3) := by decide +kernel
theorem dX5_defineOperator_55 : decode cX5_defineOperator 55 = .ok (.istore 4, 2) := by decide +kernel
theorem dX5_defineOperator_57 : decode cX5_defineOperator 57 = .ok (.iload 4, 2) := by decide +kernel
theorem dX5_defineOperator_59 : decode cX5_defineOperator 59 = .ok (.iconst (-1), 1) := by decide +kernel
theorem dX5_defineOperator_60 : decode cX5_defineOperator 60 = .ok (.if_icmp .ne 8, 3) := by decide +kernel
theorem dX5_defineOperator_63 : decode cX5_defineOperator 63 = .ok (.bipush (-6), 2) := by decide +kernel
theorem dX5_defineOperator_65 : decode cX5_defineOperator 65 = .ok (.goto 5, 3) := by decide +kernel
theorem dX5_defineOperator_68 : decode cX5_defineOperator 68 = .ok (.iload 4, 2) := by decide +kernel
theorem dX5_defineOperator_70 : decode cX5_defineOperator 70 = .ok (.ireturn, 1) := by decide +kernel
theorem dX5_operatorCount_0 : decode cX5_operatorCount 0 = .ok (.aload_n 0, 1) := by decide +kernel
theorem dX5_operatorCount_1 : decode cX5_operatorCount 1 = .ok (.getfield 10, 3) := by decide +kernel
theorem dX5_operatorCount_4 : decode cX5_operatorCount 4 = .ok (.invokevirtual 83, 3) := by decide +kernel
theorem dX5_operatorCount_7 : decode cX5_operatorCount 7 = .ok (.ireturn, 1) := by decide +kernel
theorem dX5_symbol_0 : decode cX5_symbol 0 = .ok (.aload_n 0, 1) := by decide +kernel
theorem dX5_symbol_1 : decode cX5_symbol 1 = .ok (.getfield 10, 3) := by decide +kernel
theorem dX5_symbol_4 : decode cX5_symbol 4 = .ok (.iload_n 1, 1) := by decide +kernel
theorem dX5_symbol_5 : decode cX5_symbol 5 = .ok (.invokevirtual 87, 3) := by decide +kernel
theorem dX5_symbol_8 : decode cX5_symbol 8 = .ok (.ifCond .eq 14, 3) := by decide +kernel
theorem dX5_symbol_11 : decode cX5_symbol 11 = .ok (.aload_n 0, 1) := by decide +kernel
theorem dX5_symbol_12 : decode cX5_symbol 12 = .ok (.getfield 10, 3) := by decide +kernel
theorem dX5_symbol_15 : decode cX5_symbol 15 = .ok (.iload_n 1, 1) := by decide +kernel
theorem dX5_symbol_16 : decode cX5_symbol 16 = .ok (.invokevirtual 90, 3) := by decide +kernel
theorem dX5_symbol_19 : decode cX5_symbol 19 = .ok (.goto 5, 3) := by decide +kernel
theorem dX5_symbol_22 : decode cX5_symbol 22 = .ok (.bipush (-2), 2) := by decide +kernel
theorem dX5_symbol_24 : decode cX5_symbol 24 = .ok (.ireturn, 1) := by decide +kernel
theorem dX5_kind_0 : decode cX5_kind 0 = .ok (.aload_n 0, 1) := by decide +kernel
theorem dX5_kind_1 : decode cX5_kind 1 = .ok (.getfield 10, 3) := by decide +kernel
theorem dX5_kind_4 : decode cX5_kind 4 = .ok (.iload_n 1, 1) := by decide +kernel
theorem dX5_kind_5 : decode cX5_kind 5 = .ok (.invokevirtual 87, 3) := by decide +kernel
theorem dX5_kind_8 : decode cX5_kind 8 = .ok (.ifCond .eq 14, 3) := by decide +kernel
theorem dX5_kind_11 : decode cX5_kind 11 = .ok (.aload_n 0, 1) := by decide +kernel
theorem dX5_kind_12 : decode cX5_kind 12 = .ok (.getfield 10, 3) := by decide +kernel
theorem dX5_kind_15 : decode cX5_kind 15 = .ok (.iload_n 1, 1) := by decide +kernel
theorem dX5_kind_16 : decode cX5_kind 16 = .ok (.invokevirtual 94, 3) := by decide +kernel
theorem dX5_kind_19 : decode cX5_kind 19 = .ok (.goto 5, 3) := by decide +kernel
theorem dX5_kind_22 : decode cX5_kind 22 = .ok (.bipush (-2), 2) := by decide +kernel
theorem dX5_kind_24 : decode cX5_kind 24 = .ok (.ireturn, 1) := by decide +kernel
theorem dX5_setLevel_0 : decode cX5_setLevel 0 = .ok (.aload_n 0, 1) := by decide +kernel
theorem dX5_setLevel_1 : decode cX5_setLevel 1 = .ok (.getfield 10, 3) := by decide +kernel
theorem dX5_setLevel_4 : decode cX5_setLevel 4 = .ok (.iload_n 1, 1) := by decide +kernel
theorem dX5_setLevel_5 : decode cX5_setLevel 5 = .ok (.invokevirtual 87, 3) := by decide +kernel
theorem dX5_setLevel_8 : decode cX5_setLevel 8 = .ok (.ifCond .ne 6, 3) := by decide +kernel
theorem dX5_setLevel_11 : decode cX5_setLevel 11 = .ok (.bipush (-2), 2) := by decide +kernel
theorem dX5_setLevel_13 : decode cX5_setLevel 13 = .ok (.ireturn, 1) := by decide +kernel
theorem dX5_setLevel_14 : decode cX5_setLevel 14 = .ok (.iload_n 2, 1) := by decide +kernel
theorem dX5_setLevel_15 : decode cX5_setLevel 15 = .ok (.invokestatic 73, 3) := by decide +kernel
theorem dX5_setLevel_18 : decode cX5_setLevel 18 = .ok (.ifCond .ne 6, 3) := by decide +kernel
theorem dX5_setLevel_21 : decode cX5_setLevel 21 = .ok (.bipush (-4), 2) := by decide +kernel
theorem dX5_setLevel_23 : decode cX5_setLevel 23 = .ok (.ireturn, 1) := by decide +kernel
theorem dX5_setLevel_24 : decode cX5_setLevel 24 = .ok (.aload_n 0, 1) := by decide +kernel
theorem dX5_setLevel_25 : decode cX5_setLevel 25 = .ok (.getfield 10, 3) := by decide +kernel
theorem dX5_setLevel_28 : decode cX5_setLevel 28 = .ok (.iload_n 1, 1) := by decide +kernel
theorem dX5_setLevel_29 : decode cX5_setLevel 29 = .ok (.iload_n 2, 1) := by decide +kernel
theorem dX5_setLevel_30 : decode cX5_setLevel 30 = .ok (.invokevirtual 97, 3) := by decide +kernel
theorem dX5_setLevel_33 : decode cX5_setLevel 33 = .ok (.ireturn, 1) := by decide +kernel
theorem dX5_setAssociativity_0 : decode cX5_setAssociativity 0 = .ok (.iload_n 1, 1) := by decide +kernel
theorem dX5_setAssociativity_1 : decode cX5_setAssociativity 1 = .ok (.invokestatic 73, 3) := by decide +kernel
theorem dX5_setAssociativity_4 : decode cX5_setAssociativity 4 = .ok (.ifCond .eq 12, 3) := by decide +kernel
theorem dX5_setAssociativity_7 : decode cX5_setAssociativity 7 = .ok (.iload_n 2, 1) := by decide +kernel
theorem dX5_setAssociativity_8 : decode cX5_setAssociativity 8 = .ok (.ifCond .lt 8, 3) := by decide +kernel
theorem dX5_setAssociativity_11 : decode cX5_setAssociativity 11 = .ok (.iload_n 2, 1) := by decide +kernel
theorem dX5_setAssociativity_12 : decode cX5_setAssociativity 12 = .ok (.iconst 2, 1) := by decide +kernel
theorem dX5_setAssociativity_13 : decode cX5_setAssociativity 13 = .ok (.if_icmp .le 6, 3) := by decide +kernel
theorem dX5_setAssociativity_16 : decode cX5_setAssociativity 16 = .ok (.bipush (-4), 2) := by decide +kernel
theorem dX5_setAssociativity_18 : decode cX5_setAssociativity 18 = .ok (.ireturn, 1) := by decide +kernel
theorem dX5_setAssociativity_19 : decode cX5_setAssociativity 19 = .ok (.aload_n 0, 1) := by decide +kernel
theorem dX5_setAssociativity_20 : decode cX5_setAssociativity 20 = .ok (.getfield 10, 3) := by decide +kernel
theorem dX5_setAssociativity_23 : decode cX5_setAssociativity 23 = .ok (.iload_n 1, 1) := by decide +kernel
theorem dX5_setAssociativity_24 : decode cX5_setAssociativity 24 = .ok (.iload_n 2, 1) := by decide +kernel
theorem dX5_setAssociativity_25 : decode cX5_setAssociativity 25 = .ok (.invokevirtual 101, 3) := by decide +kernel
theorem dX5_setAssociativity_28 : decode cX5_setAssociativity 28 = .ok (.ireturn, 1) := by decide +kernel
theorem dX5_setForbidden_0 : decode cX5_setForbidden 0 = .ok (.aload_n 0, 1) := by decide +kernel
theorem dX5_setForbidden_1 : decode cX5_setForbidden 1 = .ok (.getfield 10, 3) := by decide +kernel
theorem dX5_setForbidden_4 : decode cX5_setForbidden 4 = .ok (.iload_n 1, 1) := by decide +kernel
theorem dX5_setForbidden_5 : decode cX5_setForbidden 5 = .ok (.invokevirtual 87, 3) := by decide +kernel
theorem dX5_setForbidden_8 : decode cX5_setForbidden 8 = .ok (.ifCond .eq 14, 3) := by decide +kernel
theorem dX5_setForbidden_11 : decode cX5_setForbidden 11 = .ok (.aload_n 0, 1) := by decide +kernel
theorem dX5_setForbidden_12 : decode cX5_setForbidden 12 = .ok (.getfield 10, 3) := by decide +kernel
theorem dX5_setForbidden_15 : decode cX5_setForbidden 15 = .ok (.iload_n 2, 1) := by decide +kernel
theorem dX5_setForbidden_16 : decode cX5_setForbidden 16 = .ok (.invokevirtual 87, 3) := by decide +kernel
theorem dX5_setForbidden_19 : decode cX5_setForbidden 19 = .ok (.ifCond .ne 6, 3) := by decide +kernel
theorem dX5_setForbidden_22 : decode cX5_setForbidden 22 = .ok (.bipush (-2), 2) := by decide +kernel
theorem dX5_setForbidden_24 : decode cX5_setForbidden 24 = .ok (.ireturn, 1) := by decide +kernel
theorem dX5_setForbidden_25 : decode cX5_setForbidden 25 = .ok (.aload_n 0, 1) := by decide +kernel
theorem dX5_setForbidden_26 : decode cX5_setForbidden 26 = .ok (.getfield 10, 3) := by decide +kernel
theorem dX5_setForbidden_29 : decode cX5_setForbidden 29 = .ok (.iload_n 1, 1) := by decide +kernel
theorem dX5_setForbidden_30 : decode cX5_setForbidden 30 = .ok (.iload_n 2, 1) := by decide +kernel
theorem dX5_setForbidden_31 : decode cX5_setForbidden 31 = .ok (.iload_n 3, 1) := by decide +kernel
theorem dX5_setForbidden_32 : decode cX5_setForbidden 32 = .ok (.invokevirtual 104, 3) := by decide +kernel
theorem dX5_setForbidden_35 : decode cX5_setForbidden 35 = .ok (.ifCond .eq 7, 3) := by decide +kernel
theorem dX5_setForbidden_38 : decode cX5_setForbidden 38 = .ok (.iconst 1, 1) := by decide +kernel
theorem dX5_setForbidden_39 : decode cX5_setForbidden 39 = .ok (.goto 4, 3) := by decide +kernel
theorem dX5_setForbidden_42 : decode cX5_setForbidden 42 = .ok (.iconst 0, 1) := by decide +kernel
theorem dX5_setForbidden_43 : decode cX5_setForbidden 43 = .ok (.ireturn, 1) := by decide +kernel
theorem dX5_leaf_0 : decode cX5_leaf 0 = .ok (.iload_n 1, 1) := by decide +kernel
theorem dX5_leaf_1 : decode cX5_leaf 1 = .ok (.invokestatic 108, 3) := by decide +kernel
theorem dX5_leaf_4 : decode cX5_leaf 4 = .ok (.ifCond .ne 6, 3) := by decide +kernel
theorem dX5_leaf_7 : decode cX5_leaf 7 = .ok (.bipush (-3), 2) := by decide +kernel
theorem dX5_leaf_9 : decode cX5_leaf 9 = .ok (.ireturn, 1) := by decide +kernel
theorem dX5_leaf_10 : decode cX5_leaf 10 = .ok (.aload_n 0, 1) := by decide +kernel
theorem dX5_leaf_11 : decode cX5_leaf 11 = .ok (.getfield 19, 3) := by decide +kernel
theorem dX5_leaf_14 : decode cX5_leaf 14 = .ok (.invokevirtual 111, 3) := by decide +kernel
theorem dX5_leaf_17 : decode cX5_leaf 17 = .ok (.bipush 100, 2) := by decide +kernel
theorem dX5_leaf_19 : decode cX5_leaf 19 = .ok (.if_icmp .lt 6, 3) := by decide +kernel
theorem dX5_leaf_22 : decode cX5_leaf 22 = .ok (.bipush (-6), 2) := by decide +kernel
theorem dX5_leaf_24 : decode cX5_leaf 24 = .ok (.ireturn, 1) := by decide +kernel
theorem dX5_leaf_25 : decode cX5_leaf 25 = .ok (.aload_n 0, 1) := by decide +kernel
theorem dX5_leaf_26 : decode cX5_leaf 26 = .ok (.getfield 19, 3) := by decide +kernel
theorem dX5_leaf_29 : decode cX5_leaf 29 = .ok (.iconst (-1), 1) := by decide +kernel
theorem dX5_leaf_30 : decode cX5_leaf 30 = .ok (.iload_n 1, 1) := by decide +kernel
theorem dX5_leaf_31 : decode cX5_leaf 31 = .ok (.iconst (-1), 1) := by decide +kernel
theorem dX5_leaf_32 : decode cX5_leaf 32 = .ok (.iconst (-1), 1) := by decide +kernel
theorem dX5_leaf_33 : decode cX5_leaf 33 = .ok (.invokevirtual 112, 3) := by decide +kernel
theorem dX5_leaf_36 : decode cX5_leaf 36 = .ok (.ireturn, 1) := by decide +kernel
theorem dX5_unary_0 : decode cX5_unary 0 = .ok (.aload_n 0, 1) := by decide +kernel
theorem dX5_unary_1 : decode cX5_unary 1 = .ok (.getfield 10, 3) := by decide +kernel
theorem dX5_unary_4 : decode cX5_unary 4 = .ok (.iload_n 1, 1) := by decide +kernel
theorem dX5_unary_5 : decode cX5_unary 5 = .ok (.invokevirtual 87, 3) := by decide +kernel
theorem dX5_unary_8 : decode cX5_unary 8 = .ok (.ifCond .ne 6, 3) := by decide +kernel
theorem dX5_unary_11 : decode cX5_unary 11 = .ok (.bipush (-2), 2) := by decide +kernel
theorem dX5_unary_13 : decode cX5_unary 13 = .ok (.ireturn, 1) := by decide +kernel
theorem dX5_unary_14 : decode cX5_unary 14 = .ok (.aload_n 0, 1) := by decide +kernel
theorem dX5_unary_15 : decode cX5_unary 15 = .ok (.getfield 10, 3) := by decide +kernel
theorem dX5_unary_18 : decode cX5_unary 18 = .ok (.iload_n 1, 1) := by decide +kernel
theorem dX5_unary_19 : decode cX5_unary 19 = .ok (.invokevirtual 94, 3) := by decide +kernel
theorem dX5_unary_22 : decode cX5_unary 22 = .ok (.istore_n 3, 1) := by decide +kernel
theorem dX5_unary_23 : decode cX5_unary 23 = .ok (.iload_n 3, 1) := by decide +kernel
theorem dX5_unary_24 : decode cX5_unary 24 = .ok (.ifCond .ne 6, 3) := by decide +kernel
theorem dX5_unary_27 : decode cX5_unary 27 = .ok (.bipush (-8), 2) := by decide +kernel
theorem dX5_unary_29 : decode cX5_unary 29 = .ok (.ireturn, 1) := by decide +kernel
theorem dX5_unary_30 : decode cX5_unary 30 = .ok (.aload_n 0, 1) := by decide +kernel
theorem dX5_unary_31 : decode cX5_unary 31 = .ok (.getfield 19, 3) := by decide +kernel
theorem dX5_unary_34 : decode cX5_unary 34 = .ok (.iload_n 2, 1) := by decide +kernel
theorem dX5_unary_35 : decode cX5_unary 35 = .ok (.invokevirtual 115, 3) := by decide +kernel
theorem dX5_unary_38 : decode cX5_unary 38 = .ok (.ifCond .ne 5, 3) := by decide +kernel
theorem dX5_unary_41 : decode cX5_unary 41 = .ok (.iconst (-1), 1) := by decide +kernel
theorem dX5_unary_42 : decode cX5_unary 42 = .ok (.ireturn, 1) := by decide +kernel
theorem dX5_unary_43 : decode cX5_unary 43 = .ok (.iload_n 3, 1) := by decide +kernel
theorem dX5_unary_44 : decode cX5_unary 44 = .ok (.iconst 1, 1) := by decide +kernel
theorem dX5_unary_45 : decode cX5_unary 45 = .ok (.if_icmp .ne 13, 3) := by decide +kernel
theorem dX5_unary_48 : decode cX5_unary 48 = .ok (.aload_n 0, 1) := by decide +kernel
theorem dX5_unary_49 : decode cX5_unary 49 = .ok (.iload_n 1, 1) := by decide +kernel
theorem dX5_unary_50 : decode cX5_unary 50 = .ok (.iconst (-1), 1) := by decide +kernel
theorem dX5_unary_51 : decode cX5_unary 51 = .ok (.iload_n 2, 1) := by decide +kernel
theorem dX5_unary_52 : decode cX5_unary 52 = .ok (.invokevirtual 116, 3) := by decide +kernel
theorem dX5_unary_55 : decode cX5_unary 55 = .ok (.goto 10, 3) := by decide +kernel
theorem dX5_unary_58 : decode cX5_unary 58 = .ok (.aload_n 0, 1) := by decide +kernel
theorem dX5_unary_59 : decode cX5_unary 59 = .ok (.iload_n 1, 1) := by decide +kernel
theorem dX5_unary_60 : decode cX5_unary 60 = .ok (.iload_n 2, 1) := by decide +kernel
theorem dX5_unary_61 : decode cX5_unary 61 = .ok (.iconst (-1), 1) := by decide +kernel
theorem dX5_unary_62 : decode cX5_unary 62 = .ok (.invokevirtual 116, 3) := by decide +kernel
theorem dX5_unary_65 : decode cX5_unary 65 = .ok (.ireturn, 1) := by decide +kernel
theorem dX5_binary_0 : decode cX5_binary 0 = .ok (.aload_n 0, 1) := by decide +kernel
theorem dX5_binary_1 : decode cX5_binary 1 = .ok (.getfield 10, 3) := by decide +kernel
theorem dX5_binary_4 : decode cX5_binary 4 = .ok (.iload_n 1, 1) := by decide +kernel
theorem dX5_binary_5 : decode cX5_binary 5 = .ok (.invokevirtual 87, 3) := by decide +kernel
theorem dX5_binary_8 : decode cX5_binary 8 = .ok (.ifCond .ne 6, 3) := by decide +kernel
theorem dX5_binary_11 : decode cX5_binary 11 = .ok (.bipush (-2), 2) := by decide +kernel
theorem dX5_binary_13 : decode cX5_binary 13 = .ok (.ireturn, 1) := by decide +kernel
theorem dX5_binary_14 : decode cX5_binary 14 = .ok (.aload_n 0, 1) := by decide +kernel
theorem dX5_binary_15 : decode cX5_binary 15 = .ok (.getfield 10, 3) := by decide +kernel
theorem dX5_binary_18 : decode cX5_binary 18 = .ok (.iload_n 1, 1) := by decide +kernel
theorem dX5_binary_19 : decode cX5_binary 19 = .ok (.invokevirtual 94, 3) := by decide +kernel
theorem dX5_binary_22 : decode cX5_binary 22 = .ok (.ifCond .eq 6, 3) := by decide +kernel
theorem dX5_binary_25 : decode cX5_binary 25 = .ok (.bipush (-8), 2) := by decide +kernel
theorem dX5_binary_27 : decode cX5_binary 27 = .ok (.ireturn, 1) := by decide +kernel
theorem dX5_binary_28 : decode cX5_binary 28 = .ok (.aload_n 0, 1) := by decide +kernel
theorem dX5_binary_29 : decode cX5_binary 29 = .ok (.getfield 19, 3) := by decide +kernel
theorem dX5_binary_32 : decode cX5_binary 32 = .ok (.iload_n 2, 1) := by decide +kernel
theorem dX5_binary_33 : decode cX5_binary 33 = .ok (.invokevirtual 115, 3) := by decide +kernel
theorem dX5_binary_36 : decode cX5_binary 36 = .ok (.ifCond .eq 14, 3) := by decide +kernel
theorem dX5_binary_39 : decode cX5_binary 39 = .ok (.aload_n 0, 1) := by decide +kernel
theorem dX5_binary_40 : decode cX5_binary 40 = .ok (.getfield 19, 3) := by decide +kernel
theorem dX5_binary_43 : decode cX5_binary 43 = .ok (.iload_n 3, 1) := by decide +kernel
theorem dX5_binary_44 : decode cX5_binary 44 = .ok (.invokevirtual 115, 3) := by decide +kernel
theorem dX5_binary_47 : decode cX5_binary 47 = .ok (.ifCond .ne 5, 3) := by decide +kernel
theorem dX5_binary_50 : decode cX5_binary 50 = .ok (.iconst (-1), 1) := by decide +kernel
theorem dX5_binary_51 : decode cX5_binary 51 = .ok (.ireturn, 1) := by decide +kernel
theorem dX5_binary_52 : decode cX5_binary 52 = .ok (.aload_n 0, 1) := by decide +kernel
theorem dX5_binary_53 : decode cX5_binary 53 = .ok (.iload_n 1, 1) := by decide +kernel
theorem dX5_binary_54 : decode cX5_binary 54 = .ok (.iload_n 2, 1) := by decide +kernel
theorem dX5_binary_55 : decode cX5_binary 55 = .ok (.iload_n 3, 1) := by decide +kernel
theorem dX5_binary_56 : decode cX5_binary 56 = .ok (.invokevirtual 116, 3) := by decide +kernel
theorem dX5_binary_59 : decode cX5_binary 59 = .ok (.ireturn, 1) := by decide +kernel
theorem dX5_addOperatorNode_0 : decode cX5_addOperatorNode 0 = .ok (.iconst 1, 1) := by decide +kernel
theorem dX5_addOperatorNode_1 : decode cX5_addOperatorNode 1 = .ok (.aload_n 0, 1) := by decide +kernel
theorem dX5_addOperatorNode_2 : decode cX5_addOperatorNode 2 = .ok (.getfield 19, 3) := by decide +kernel
theorem dX5_addOperatorNode_5 : decode cX5_addOperatorNode 5 = .ok (.iload_n 2, 1) := by decide +kernel
theorem dX5_addOperatorNode_6 : decode cX5_addOperatorNode 6 = .ok (.invokevirtual 119, 3) := by decide +kernel
theorem dX5_addOperatorNode_9 : decode cX5_addOperatorNode 9 = .ok (.iadd, 1) := by decide +kernel
theorem dX5_addOperatorNode_10 : decode cX5_addOperatorNode 10 = .ok (.aload_n 0, 1) := by decide +kernel
theorem dX5_addOperatorNode_11 : decode cX5_addOperatorNode 11 = .ok (.getfield 19, 3) := by decide +kernel
theorem dX5_addOperatorNode_14 : decode cX5_addOperatorNode 14 = .ok (.iload_n 3, 1) := by decide +kernel
theorem dX5_addOperatorNode_15 : decode cX5_addOperatorNode 15 = .ok (.invokevirtual 119, 3) := by decide +kernel
theorem dX5_addOperatorNode_18 : decode cX5_addOperatorNode 18 = .ok (.iadd, 1) := by decide +kernel
theorem dX5_addOperatorNode_19 : decode cX5_addOperatorNode 19 = .ok (.bipush 40, 2) := by decide +kernel
theorem dX5_addOperatorNode_21 : decode cX5_addOperatorNode 21 = .ok (.if_icmp .le 6, 3) := by decide +kernel
theorem dX5_addOperatorNode_24 : decode cX5_addOperatorNode 24 = .ok (.bipush (-7), 2) := by decide +kernel
theorem dX5_addOperatorNode_26 : decode cX5_addOperatorNode 26 = .ok (.ireturn, 1) := by decide +kernel
theorem dX5_addOperatorNode_27 : decode cX5_addOperatorNode 27 = .ok (.aload_n 0, 1) := by decide +kernel
theorem dX5_addOperatorNode_28 : decode cX5_addOperatorNode 28 = .ok (.getfield 19, 3) := by decide +kernel
theorem dX5_addOperatorNode_31 : decode cX5_addOperatorNode 31 = .ok (.invokevirtual 111, 3) := by decide +kernel
theorem dX5_addOperatorNode_34 : decode cX5_addOperatorNode 34 = .ok (.bipush 100, 2) := by decide +kernel
theorem dX5_addOperatorNode_36 : decode cX5_addOperatorNode 36 = .ok (.if_icmp .lt 6, 3) := by decide +kernel
theorem dX5_addOperatorNode_39 : decode cX5_addOperatorNode 39 = .ok (.bipush (-6), 2) := by decide +kernel
theorem dX5_addOperatorNode_41 : decode cX5_addOperatorNode 41 = .ok (.ireturn, 1) := by decide +kernel
theorem dX5_addOperatorNode_42 : decode cX5_addOperatorNode 42 = .ok (.aload_n 0, 1) := by decide +kernel
theorem dX5_addOperatorNode_43 : decode cX5_addOperatorNode 43 = .ok (.getfield 19, 3) := by decide +kernel
theorem dX5_addOperatorNode_46 : decode cX5_addOperatorNode 46 = .ok (.iload_n 1, 1) := by decide +kernel
theorem dX5_addOperatorNode_47 : decode cX5_addOperatorNode 47 = .ok (.iconst (-1), 1) := by decide +kernel
theorem dX5_addOperatorNode_48 : decode cX5_addOperatorNode 48 = .ok (.iload_n 2, 1) := by decide +kernel
theorem dX5_addOperatorNode_49 : decode cX5_addOperatorNode 49 = .ok (.iload_n 3, 1) := by decide +kernel
theorem dX5_addOperatorNode_50 : decode cX5_addOperatorNode 50 = .ok (.invokevirtual 112, 3) := by decide +kernel
theorem dX5_addOperatorNode_53 : decode cX5_addOperatorNode 53 = .ok (.ireturn, 1) := by decide +kernel
theorem dX5_nodeCount_0 : decode cX5_nodeCount 0 = .ok (.aload_n 0, 1) := by decide +kernel
theorem dX5_nodeCount_1 : decode cX5_nodeCount 1 = .ok (.getfield 19, 3) := by decide +kernel
theorem dX5_nodeCount_4 : decode cX5_nodeCount 4 = .ok (.invokevirtual 111, 3) := by decide +kernel
theorem dX5_nodeCount_7 : decode cX5_nodeCount 7 = .ok (.ireturn, 1) := by decide +kernel
theorem dX5_operatorOf_0 : decode cX5_operatorOf 0 = .ok (.aload_n 0, 1) := by decide +kernel
theorem dX5_operatorOf_1 : decode cX5_operatorOf 1 = .ok (.getfield 19, 3) := by decide +kernel
theorem dX5_operatorOf_4 : decode cX5_operatorOf 4 = .ok (.iload_n 1, 1) := by decide +kernel
theorem dX5_operatorOf_5 : decode cX5_operatorOf 5 = .ok (.invokevirtual 115, 3) := by decide +kernel
theorem dX5_operatorOf_8 : decode cX5_operatorOf 8 = .ok (.ifCond .ne 5, 3) := by decide +kernel
theorem dX5_operatorOf_11 : decode cX5_operatorOf 11 = .ok (.iconst (-1), 1) := by decide +kernel
theorem dX5_operatorOf_12 : decode cX5_operatorOf 12 = .ok (.ireturn, 1) := by decide +kernel
theorem dX5_operatorOf_13 : decode cX5_operatorOf 13 = .ok (.aload_n 0, 1) := by decide +kernel
theorem dX5_operatorOf_14 : decode cX5_operatorOf 14 = .ok (.getfield 19, 3) := by decide +kernel
theorem dX5_operatorOf_17 : decode cX5_operatorOf 17 = .ok (.iload_n 1, 1) := by decide +kernel
theorem dX5_operatorOf_18 : decode cX5_operatorOf 18 = .ok (.invokevirtual 122, 3) := by decide +kernel
theorem dX5_operatorOf_21 : decode cX5_operatorOf 21 = .ok (.istore_n 2, 1) := by decide +kernel
theorem dX5_operatorOf_22 : decode cX5_operatorOf 22 = .ok (.iload_n 2, 1) := by decide +kernel
theorem dX5_operatorOf_23 : decode cX5_operatorOf 23 = .ok (.iconst (-1), 1) := by decide +kernel
theorem dX5_operatorOf_24 : decode cX5_operatorOf 24 = .ok (.if_icmp .ne 8, 3) := by decide +kernel
theorem dX5_operatorOf_27 : decode cX5_operatorOf 27 = .ok (.bipush (-10), 2) := by decide +kernel
theorem dX5_operatorOf_29 : decode cX5_operatorOf 29 = .ok (.goto 4, 3) := by decide +kernel
theorem dX5_operatorOf_32 : decode cX5_operatorOf 32 = .ok (.iload_n 2, 1) := by decide +kernel
theorem dX5_operatorOf_33 : decode cX5_operatorOf 33 = .ok (.ireturn, 1) := by decide +kernel
theorem dX5_letterOf_0 : decode cX5_letterOf 0 = .ok (.aload_n 0, 1) := by decide +kernel
theorem dX5_letterOf_1 : decode cX5_letterOf 1 = .ok (.getfield 19, 3) := by decide +kernel
theorem dX5_letterOf_4 : decode cX5_letterOf 4 = .ok (.iload_n 1, 1) := by decide +kernel
theorem dX5_letterOf_5 : decode cX5_letterOf 5 = .ok (.invokevirtual 115, 3) := by decide +kernel
theorem dX5_letterOf_8 : decode cX5_letterOf 8 = .ok (.ifCond .ne 5, 3) := by decide +kernel
theorem dX5_letterOf_11 : decode cX5_letterOf 11 = .ok (.iconst (-1), 1) := by decide +kernel
theorem dX5_letterOf_12 : decode cX5_letterOf 12 = .ok (.ireturn, 1) := by decide +kernel
theorem dX5_letterOf_13 : decode cX5_letterOf 13 = .ok (.aload_n 0, 1) := by decide +kernel
theorem dX5_letterOf_14 : decode cX5_letterOf 14 = .ok (.getfield 19, 3) := by decide +kernel
theorem dX5_letterOf_17 : decode cX5_letterOf 17 = .ok (.iload_n 1, 1) := by decide +kernel
theorem dX5_letterOf_18 : decode cX5_letterOf 18 = .ok (.invokevirtual 125, 3) := by decide +kernel
theorem dX5_letterOf_21 : decode cX5_letterOf 21 = .ok (.istore_n 2, 1) := by decide +kernel
theorem dX5_letterOf_22 : decode cX5_letterOf 22 = .ok (.iload_n 2, 1) := by decide +kernel
theorem dX5_letterOf_23 : decode cX5_letterOf 23 = .ok (.iconst (-1), 1) := by decide +kernel
theorem dX5_letterOf_24 : decode cX5_letterOf 24 = .ok (.if_icmp .ne 8, 3) := by decide +kernel
theorem dX5_letterOf_27 : decode cX5_letterOf 27 = .ok (.bipush (-10), 2) := by decide +kernel
theorem dX5_letterOf_29 : decode cX5_letterOf 29 = .ok (.goto 4, 3) := by decide +kernel
theorem dX5_letterOf_32 : decode cX5_letterOf 32 = .ok (.iload_n 2, 1) := by decide +kernel
theorem dX5_letterOf_33 : decode cX5_letterOf 33 = .ok (.ireturn, 1) := by decide +kernel
theorem dX5_operand_0 : decode cX5_operand 0 = .ok (.aload_n 0, 1) := by decide +kernel
theorem dX5_operand_1 : decode cX5_operand 1 = .ok (.getfield 19, 3) := by decide +kernel
theorem dX5_operand_4 : decode cX5_operand 4 = .ok (.iload_n 1, 1) := by decide +kernel
theorem dX5_operand_5 : decode cX5_operand 5 = .ok (.invokevirtual 115, 3) := by decide +kernel
theorem dX5_operand_8 : decode cX5_operand 8 = .ok (.ifCond .ne 5, 3) := by decide +kernel
theorem dX5_operand_11 : decode cX5_operand 11 = .ok (.iconst (-1), 1) := by decide +kernel
theorem dX5_operand_12 : decode cX5_operand 12 = .ok (.ireturn, 1) := by decide +kernel
theorem dX5_operand_13 : decode cX5_operand 13 = .ok (.aload_n 0, 1) := by decide +kernel
theorem dX5_operand_14 : decode cX5_operand 14 = .ok (.getfield 19, 3) := by decide +kernel
theorem dX5_operand_17 : decode cX5_operand 17 = .ok (.iload_n 1, 1) := by decide +kernel
theorem dX5_operand_18 : decode cX5_operand 18 = .ok (.iload_n 2, 1) := by decide +kernel
theorem dX5_operand_19 : decode cX5_operand 19 = .ok (.invokevirtual 128, 3) := by decide +kernel
theorem dX5_operand_22 : decode cX5_operand 22 = .ok (.istore_n 3, 1) := by decide +kernel
theorem dX5_operand_23 : decode cX5_operand 23 = .ok (.iload_n 3, 1) := by decide +kernel
theorem dX5_operand_24 : decode cX5_operand 24 = .ok (.iconst (-1), 1) := by decide +kernel
theorem dX5_operand_25 : decode cX5_operand 25 = .ok (.if_icmp .ne 8, 3) := by decide +kernel
theorem dX5_operand_28 : decode cX5_operand 28 = .ok (.bipush (-10), 2) := by decide +kernel
theorem dX5_operand_30 : decode cX5_operand 30 = .ok (.goto 4, 3) := by decide +kernel
theorem dX5_operand_33 : decode cX5_operand 33 = .ok (.iload_n 3, 1) := by decide +kernel
theorem dX5_operand_34 : decode cX5_operand 34 = .ok (.ireturn, 1) := by decide +kernel
theorem dX5_size_0 : decode cX5_size 0 = .ok (.aload_n 0, 1) := by decide +kernel
theorem dX5_size_1 : decode cX5_size 1 = .ok (.getfield 19, 3) := by decide +kernel
theorem dX5_size_4 : decode cX5_size 4 = .ok (.iload_n 1, 1) := by decide +kernel
theorem dX5_size_5 : decode cX5_size 5 = .ok (.invokevirtual 115, 3) := by decide +kernel
theorem dX5_size_8 : decode cX5_size 8 = .ok (.ifCond .eq 14, 3) := by decide +kernel
theorem dX5_size_11 : decode cX5_size 11 = .ok (.aload_n 0, 1) := by decide +kernel
theorem dX5_size_12 : decode cX5_size 12 = .ok (.getfield 19, 3) := by decide +kernel
theorem dX5_size_15 : decode cX5_size 15 = .ok (.iload_n 1, 1) := by decide +kernel
theorem dX5_size_16 : decode cX5_size 16 = .ok (.invokevirtual 119, 3) := by decide +kernel
theorem dX5_size_19 : decode cX5_size 19 = .ok (.goto 4, 3) := by decide +kernel
theorem dX5_size_22 : decode cX5_size 22 = .ok (.iconst (-1), 1) := by decide +kernel
theorem dX5_size_23 : decode cX5_size 23 = .ok (.ireturn, 1) := by decide +kernel
theorem dX5_areEqual_0 : decode cX5_areEqual 0 = .ok (.aload_n 0, 1) := by decide +kernel
theorem dX5_areEqual_1 : decode cX5_areEqual 1 = .ok (.getfield 19, 3) := by decide +kernel
theorem dX5_areEqual_4 : decode cX5_areEqual 4 = .ok (.iload_n 1, 1) := by decide +kernel
theorem dX5_areEqual_5 : decode cX5_areEqual 5 = .ok (.invokevirtual 115, 3) := by decide +kernel
theorem dX5_areEqual_8 : decode cX5_areEqual 8 = .ok (.ifCond .eq 14, 3) := by decide +kernel
theorem dX5_areEqual_11 : decode cX5_areEqual 11 = .ok (.aload_n 0, 1) := by decide +kernel
theorem dX5_areEqual_12 : decode cX5_areEqual 12 = .ok (.getfield 19, 3) := by decide +kernel
theorem dX5_areEqual_15 : decode cX5_areEqual 15 = .ok (.iload_n 2, 1) := by decide +kernel
theorem dX5_areEqual_16 : decode cX5_areEqual 16 = .ok (.invokevirtual 115, 3) := by decide +kernel
theorem dX5_areEqual_19 : decode cX5_areEqual 19 = .ok (.ifCond .ne 5, 3) := by decide +kernel
theorem dX5_areEqual_22 : decode cX5_areEqual 22 = .ok (.iconst (-1), 1) := by decide +kernel
theorem dX5_areEqual_23 : decode cX5_areEqual 23 = .ok (.ireturn, 1) := by decide +kernel
theorem dX5_areEqual_24 : decode cX5_areEqual 24 = .ok (.aload_n 0, 1) := by decide +kernel
theorem dX5_areEqual_25 : decode cX5_areEqual 25 = .ok (.getfield 19, 3) := by decide +kernel
theorem dX5_areEqual_28 : decode cX5_areEqual 28 = .ok (.iload_n 1, 1) := by decide +kernel
theorem dX5_areEqual_29 : decode cX5_areEqual 29 = .ok (.aload_n 0, 1) := by decide +kernel
theorem dX5_areEqual_30 : decode cX5_areEqual 30 = .ok (.getfield 19, 3) := by decide +kernel
theorem dX5_areEqual_33 : decode cX5_areEqual 33 = .ok (.iload_n 2, 1) := by decide +kernel
theorem dX5_areEqual_34 : decode cX5_areEqual 34 = .ok (.iconst 0, 1) := by decide +kernel
theorem dX5_areEqual_35 : decode cX5_areEqual 35 = .ok (.invokestatic 131, 3) := by decide +kernel
theorem dX5_areEqual_38 : decode cX5_areEqual 38 = .ok (.ifCond .eq 7, 3) := by decide +kernel
theorem dX5_areEqual_41 : decode cX5_areEqual 41 = .ok (.iconst 1, 1) := by decide +kernel
theorem dX5_areEqual_42 : decode cX5_areEqual 42 = .ok (.goto 4, 3) := by decide +kernel
theorem dX5_areEqual_45 : decode cX5_areEqual 45 = .ok (.iconst 0, 1) := by decide +kernel
theorem dX5_areEqual_46 : decode cX5_areEqual 46 = .ok (.ireturn, 1) := by decide +kernel
theorem dX5_sameTree_0 : decode cX5_sameTree 0 = .ok (.iload_n 1, 1) := by decide +kernel
theorem dX5_sameTree_1 : decode cX5_sameTree 1 = .ok (.iconst (-1), 1) := by decide +kernel
theorem dX5_sameTree_2 : decode cX5_sameTree 2 = .ok (.if_icmp .eq 8, 3) := by decide +kernel
theorem dX5_sameTree_5 : decode cX5_sameTree 5 = .ok (.iload_n 3, 1) := by decide +kernel
theorem dX5_sameTree_6 : decode cX5_sameTree 6 = .ok (.iconst (-1), 1) := by decide +kernel
theorem dX5_sameTree_7 : decode cX5_sameTree 7 = .ok (.if_icmp .ne 14, 3) := by decide +kernel
theorem dX5_sameTree_10 : decode cX5_sameTree 10 = .ok (.iload_n 1, 1) := by decide +kernel
theorem dX5_sameTree_11 : decode cX5_sameTree 11 = .ok (.iload_n 3, 1) := by decide +kernel
theorem dX5_sameTree_12 : decode cX5_sameTree 12 = .ok (.if_icmp .ne 7, 3) := by decide +kernel
theorem dX5_sameTree_15 : decode cX5_sameTree 15 = .ok (.iconst 1, 1) := by decide +kernel
theorem dX5_sameTree_16 : decode cX5_sameTree 16 = .ok (.goto 4, 3) := by decide +kernel
theorem dX5_sameTree_19 : decode cX5_sameTree 19 = .ok (.iconst 0, 1) := by decide +kernel
theorem dX5_sameTree_20 : decode cX5_sameTree 20 = .ok (.ireturn, 1) := by decide +kernel
theorem dX5_sameTree_21 : decode cX5_sameTree 21 = .ok (.iload 4, 2) := by decide +kernel
theorem dX5_sameTree_23 : decode cX5_sameTree 23 = .ok (.bipush 40, 2) := by decide +kernel
theorem dX5_sameTree_25 : decode cX5_sameTree 25 = .ok (.if_icmp .ge 29, 3) := by decide +kernel
theorem dX5_sameTree_28 : decode cX5_sameTree 28 = .ok (.aload_n 0, 1) := by decide +kernel
theorem dX5_sameTree_29 : decode cX5_sameTree 29 = .ok (.iload_n 1, 1) := by decide +kernel
theorem dX5_sameTree_30 : decode cX5_sameTree 30 = .ok (.invokevirtual 122, 3) := by decide +kernel
theorem dX5_sameTree_33 : decode cX5_sameTree 33 = .ok (.aload_n 2, 1) := by decide +kernel
theorem dX5_sameTree_34 : decode cX5_sameTree 34 = .ok (.iload_n 3, 1) := by decide +kernel
theorem dX5_sameTree_35 : decode cX5_sameTree 35 = .ok (.invokevirtual 122, 3) := by decide +kernel
theorem dX5_sameTree_38 : decode cX5_sameTree 38 = .ok (.if_icmp .ne 16, 3) := by decide +kernel
theorem dX5_sameTree_41 : decode cX5_sameTree 41 = .ok (.aload_n 0, 1) := by decide +kernel
theorem dX5_sameTree_42 : decode cX5_sameTree 42 = .ok (.iload_n 1, 1) := by decide +kernel
theorem dX5_sameTree_43 : decode cX5_sameTree 43 = .ok (.invokevirtual 125, 3) := by decide +kernel
theorem dX5_sameTree_46 : decode cX5_sameTree 46 = .ok (.aload_n 2, 1) := by decide +kernel
theorem dX5_sameTree_47 : decode cX5_sameTree 47 = .ok (.iload_n 3, 1) := by decide +kernel
theorem dX5_sameTree_48 : decode cX5_sameTree 48 = .ok (.invokevirtual 125, 3) := by decide +kernel
theorem dX5_sameTree_51 : decode cX5_sameTree 51 = .ok (.if_icmp .eq 5, 3) := by decide +kernel
theorem dX5_sameTree_54 : decode cX5_sameTree 54 = .ok (.iconst 0, 1) := by decide +kernel
theorem dX5_sameTree_55 : decode cX5_sameTree 55 = .ok (.ireturn, 1) := by decide +kernel
theorem dX5_sameTree_56 : decode cX5_sameTree 56 = .ok (.aload_n 0, 1) := by decide +kernel
theorem dX5_sameTree_57 : decode cX5_sameTree 57 = .ok (.aload_n 0, 1) := by decide +kernel
theorem dX5_sameTree_58 : decode cX5_sameTree 58 = .ok (.iload_n 1, 1) := by decide +kernel
theorem dX5_sameTree_59 : decode cX5_sameTree 59 = .ok (.invokevirtual 135, 3) := by decide +kernel
theorem dX5_sameTree_62 : decode cX5_sameTree 62 = .ok (.aload_n 2, 1) := by decide +kernel
theorem dX5_sameTree_63 : decode cX5_sameTree 63 = .ok (.aload_n 2, 1) := by decide +kernel
theorem dX5_sameTree_64 : decode cX5_sameTree 64 = .ok (.iload_n 3, 1) := by decide +kernel
theorem dX5_sameTree_65 : decode cX5_sameTree 65 = .ok (.invokevirtual 135, 3) := by decide +kernel
theorem dX5_sameTree_68 : decode cX5_sameTree 68 = .ok (.iload 4, 2) := by decide +kernel
theorem dX5_sameTree_70 : decode cX5_sameTree 70 = .ok (.iconst 1, 1) := by decide +kernel
theorem dX5_sameTree_71 : decode cX5_sameTree 71 = .ok (.iadd, 1) := by decide +kernel
theorem dX5_sameTree_72 : decode cX5_sameTree 72 = .ok (.invokestatic 131, 3) := by decide +kernel
theorem dX5_sameTree_75 : decode cX5_sameTree 75 = .ok (.ifCond .eq 29, 3) := by decide +kernel
theorem dX5_sameTree_78 : decode cX5_sameTree 78 = .ok (.aload_n 0, 1) := by decide +kernel
theorem dX5_sameTree_79 : decode cX5_sameTree 79 = .ok (.aload_n 0, 1) := by decide +kernel
theorem dX5_sameTree_80 : decode cX5_sameTree 80 = .ok (.iload_n 1, 1) := by decide +kernel
theorem dX5_sameTree_81 : decode cX5_sameTree 81 = .ok (.invokevirtual 138, 3) := by decide +kernel
theorem dX5_sameTree_84 : decode cX5_sameTree 84 = .ok (.aload_n 2, 1) := by decide +kernel
theorem dX5_sameTree_85 : decode cX5_sameTree 85 = .ok (.aload_n 2, 1) := by decide +kernel
theorem dX5_sameTree_86 : decode cX5_sameTree 86 = .ok (.iload_n 3, 1) := by decide +kernel
theorem dX5_sameTree_87 : decode cX5_sameTree 87 = .ok (.invokevirtual 138, 3) := by decide +kernel
theorem dX5_sameTree_90 : decode cX5_sameTree 90 = .ok (.iload 4, 2) := by decide +kernel
theorem dX5_sameTree_92 : decode cX5_sameTree 92 = .ok (.iconst 1, 1) := by decide +kernel
theorem dX5_sameTree_93 : decode cX5_sameTree 93 = .ok (.iadd, 1) := by decide +kernel
theorem dX5_sameTree_94 : decode cX5_sameTree 94 = .ok (.invokestatic 131, 3) := by decide +kernel
theorem dX5_sameTree_97 : decode cX5_sameTree 97 = .ok (.ifCond .eq 7, 3) := by decide +kernel
theorem dX5_sameTree_100 : decode cX5_sameTree 100 = .ok (.iconst 1, 1) := by decide +kernel
theorem dX5_sameTree_101 : decode cX5_sameTree 101 = .ok (.goto 4, 3) := by decide +kernel
theorem dX5_sameTree_104 : decode cX5_sameTree 104 = .ok (.iconst 0, 1) := by decide +kernel
theorem dX5_sameTree_105 : decode cX5_sameTree 105 = .ok (.ireturn, 1) := by decide +kernel
theorem dX5_print_0 : decode cX5_print 0 = .ok (.aload_n 0, 1) := by decide +kernel
theorem dX5_print_1 : decode cX5_print 1 = .ok (.iload_n 1, 1) := by decide +kernel
theorem dX5_print_2 : decode cX5_print 2 = .ok (.iconst 0, 1) := by decide +kernel
theorem dX5_print_3 : decode cX5_print 3 = .ok (.invokevirtual 141, 3) := by decide +kernel
theorem dX5_print_6 : decode cX5_print 6 = .ok (.ireturn, 1) := by decide +kernel
theorem dX5_printFull_0 : decode cX5_printFull 0 = .ok (.aload_n 0, 1) := by decide +kernel
theorem dX5_printFull_1 : decode cX5_printFull 1 = .ok (.iload_n 1, 1) := by decide +kernel
theorem dX5_printFull_2 : decode cX5_printFull 2 = .ok (.iconst 1, 1) := by decide +kernel
theorem dX5_printFull_3 : decode cX5_printFull 3 = .ok (.invokevirtual 141, 3) := by decide +kernel
theorem dX5_printFull_6 : decode cX5_printFull 6 = .ok (.ireturn, 1) := by decide +kernel
theorem dX5_writeTree_0 : decode cX5_writeTree 0 = .ok (.aload_n 0, 1) := by decide +kernel
theorem dX5_writeTree_1 : decode cX5_writeTree 1 = .ok (.getfield 19, 3) := by decide +kernel
theorem dX5_writeTree_4 : decode cX5_writeTree 4 = .ok (.iload_n 1, 1) := by decide +kernel
theorem dX5_writeTree_5 : decode cX5_writeTree 5 = .ok (.invokevirtual 115, 3) := by decide +kernel
theorem dX5_writeTree_8 : decode cX5_writeTree 8 = .ok (.ifCond .ne 5, 3) := by decide +kernel
theorem dX5_writeTree_11 : decode cX5_writeTree 11 = .ok (.iconst (-1), 1) := by decide +kernel
theorem dX5_writeTree_12 : decode cX5_writeTree 12 = .ok (.ireturn, 1) := by decide +kernel
theorem dX5_writeTree_13 : decode cX5_writeTree 13 = .ok (.aload_n 0, 1) := by decide +kernel
theorem dX5_writeTree_14 : decode cX5_writeTree 14 = .ok (.getfield 33, 3) := by decide +kernel
theorem dX5_writeTree_17 : decode cX5_writeTree 17 = .ok (.invokevirtual 144, 3) := by decide +kernel
theorem dX5_writeTree_20 : decode cX5_writeTree 20 = .ok (.aload_n 0, 1) := by decide +kernel
theorem dX5_writeTree_21 : decode cX5_writeTree 21 = .ok (.getfield 51, 3) := by decide +kernel
theorem dX5_writeTree_24 : decode cX5_writeTree 24 = .ok (.iload_n 1, 1) := by decide +kernel
theorem dX5_writeTree_25 : decode cX5_writeTree 25 = .ok (.iload_n 2, 1) := by decide +kernel
theorem dX5_writeTree_26 : decode cX5_writeTree 26 = .ok (.invokevirtual 147, 3) := by decide +kernel
theorem dX5_writeTree_29 : decode cX5_writeTree 29 = .ok (.aload_n 0, 1) := by decide +kernel
theorem dX5_writeTree_30 : decode cX5_writeTree 30 = .ok (.getfield 51, 3) := by decide +kernel
theorem dX5_writeTree_33 : decode cX5_writeTree 33 = .ok (.iload_n 1, 1) := by decide +kernel
theorem dX5_writeTree_34 : decode cX5_writeTree 34 = .ok (.iconst 0, 1) := by decide +kernel
theorem dX5_writeTree_35 : decode cX5_writeTree 35 = .ok (.iconst 0, 1) := by decide +kernel
theorem dX5_writeTree_36 : decode cX5_writeTree 36 = .ok (.iconst 0, 1) := by decide +kernel
theorem dX5_writeTree_37 : decode cX5_writeTree 37 = .ok (.invokevirtual 151, 3) := by decide +kernel
theorem dX5_writeTree_40 : decode cX5_writeTree 40 = .ok (.aload_n 0, 1) := by decide +kernel
theorem dX5_writeTree_41 : decode cX5_writeTree 41 = .ok (.iload_n 1, 1) := by decide +kernel
theorem dX5_writeTree_42 : decode cX5_writeTree 42 = .ok (.putfield 55, 3) := by decide +kernel
theorem dX5_writeTree_45 : decode cX5_writeTree 45 = .ok (.aload_n 0, 1) := by decide +kernel
theorem dX5_writeTree_46 : decode cX5_writeTree 46 = .ok (.getfield 33, 3) := by decide +kernel
theorem dX5_writeTree_49 : decode cX5_writeTree 49 = .ok (.invokevirtual 155, 3) := by decide +kernel
theorem dX5_writeTree_52 : decode cX5_writeTree 52 = .ok (.ireturn, 1) := by decide +kernel
theorem dX5_outputAt_0 : decode cX5_outputAt 0 = .ok (.aload_n 0, 1) := by decide +kernel
theorem dX5_outputAt_1 : decode cX5_outputAt 1 = .ok (.getfield 33, 3) := by decide +kernel
theorem dX5_outputAt_4 : decode cX5_outputAt 4 = .ok (.iload_n 1, 1) := by decide +kernel
theorem dX5_outputAt_5 : decode cX5_outputAt 5 = .ok (.invokevirtual 158, 3) := by decide +kernel
theorem dX5_outputAt_8 : decode cX5_outputAt 8 = .ok (.istore_n 2, 1) := by decide +kernel
theorem dX5_outputAt_9 : decode cX5_outputAt 9 = .ok (.iload_n 2, 1) := by decide +kernel
theorem dX5_outputAt_10 : decode cX5_outputAt 10 = .ok (.iconst (-1), 1) := by decide +kernel
theorem dX5_outputAt_11 : decode cX5_outputAt 11 = .ok (.if_icmp .ne 8, 3) := by decide +kernel
theorem dX5_outputAt_14 : decode cX5_outputAt 14 = .ok (.bipush (-9), 2) := by decide +kernel
theorem dX5_outputAt_16 : decode cX5_outputAt 16 = .ok (.goto 4, 3) := by decide +kernel
theorem dX5_outputAt_19 : decode cX5_outputAt 19 = .ok (.iload_n 2, 1) := by decide +kernel
theorem dX5_outputAt_20 : decode cX5_outputAt 20 = .ok (.ireturn, 1) := by decide +kernel
theorem dX5_bracketPairs_0 : decode cX5_bracketPairs 0 = .ok (.aload_n 0, 1) := by decide +kernel
theorem dX5_bracketPairs_1 : decode cX5_bracketPairs 1 = .ok (.getfield 33, 3) := by decide +kernel
theorem dX5_bracketPairs_4 : decode cX5_bracketPairs 4 = .ok (.invokevirtual 161, 3) := by decide +kernel
theorem dX5_bracketPairs_7 : decode cX5_bracketPairs 7 = .ok (.ireturn, 1) := by decide +kernel
theorem dX5_readWithout_0 : decode cX5_readWithout 0 = .ok (.aload_n 0, 1) := by decide +kernel
theorem dX5_readWithout_1 : decode cX5_readWithout 1 = .ok (.getfield 55, 3) := by decide +kernel
theorem dX5_readWithout_4 : decode cX5_readWithout 4 = .ok (.iconst (-1), 1) := by decide +kernel
theorem dX5_readWithout_5 : decode cX5_readWithout 5 = .ok (.if_icmp .ne 6, 3) := by decide +kernel
theorem dX5_readWithout_8 : decode cX5_readWithout 8 = .ok (.bipush (-11), 2) := by decide +kernel
theorem dX5_readWithout_10 : decode cX5_readWithout 10 = .ok (.ireturn, 1) := by decide +kernel
theorem dX5_readWithout_11 : decode cX5_readWithout 11 = .ok (.iload_n 1, 1) := by decide +kernel
theorem dX5_readWithout_12 : decode cX5_readWithout 12 = .ok (.ifCond .lt 14, 3) := by decide +kernel
theorem dX5_readWithout_15 : decode cX5_readWithout 15 = .ok (.iload_n 1, 1) := by decide +kernel
theorem dX5_readWithout_16 : decode cX5_readWithout 16 = .ok (.aload_n 0, 1) := by decide +kernel
theorem dX5_readWithout_17 : decode cX5_readWithout 17 = .ok (.getfield 33, 3) := by decide +kernel
theorem dX5_readWithout_20 : decode cX5_readWithout 20 = .ok (.invokevirtual 161, 3) := by decide +kernel
theorem dX5_readWithout_23 : decode cX5_readWithout 23 = .ok (.if_icmp .lt 6, 3) := by decide +kernel
theorem dX5_readWithout_26 : decode cX5_readWithout 26 = .ok (.bipush (-9), 2) := by decide +kernel
theorem dX5_readWithout_28 : decode cX5_readWithout 28 = .ok (.ireturn, 1) := by decide +kernel
theorem dX5_readWithout_29 : decode cX5_readWithout 29 = .ok (.aload_n 0, 1) := by decide +kernel
theorem dX5_readWithout_30 : decode cX5_readWithout 30 = .ok (.getfield 36, 3) := by decide +kernel
theorem dX5_readWithout_33 : decode cX5_readWithout 33 = .ok (.aload_n 0, 1) := by decide +kernel
theorem dX5_readWithout_34 : decode cX5_readWithout 34 = .ok (.getfield 33, 3) := by decide +kernel
theorem dX5_readWithout_37 : decode cX5_readWithout 37 = .ok (.iload_n 1, 1) := by decide +kernel
theorem dX5_readWithout_38 : decode cX5_readWithout 38 = .ok (.invokevirtual 164, 3) := by decide +kernel
theorem dX5_readWithout_41 : decode cX5_readWithout 41 = .ok (.aload_n 0, 1) := by decide +kernel
theorem dX5_readWithout_42 : decode cX5_readWithout 42 = .ok (.getfield 44, 3) := by decide +kernel
theorem dX5_readWithout_45 : decode cX5_readWithout 45 = .ok (.invokevirtual 168, 3) := by decide +kernel
theorem dX5_readWithout_48 : decode cX5_readWithout 48 = .ok (.ifCond .ne 5, 3) := by decide +kernel
theorem dX5_readWithout_51 : decode cX5_readWithout 51 = .ok (.iconst 2, 1) := by decide +kernel
theorem dX5_readWithout_52 : decode cX5_readWithout 52 = .ok (.ireturn, 1) := by decide +kernel
theorem dX5_readWithout_53 : decode cX5_readWithout 53 = .ok (.aload_n 0, 1) := by decide +kernel
theorem dX5_readWithout_54 : decode cX5_readWithout 54 = .ok (.getfield 23, 3) := by decide +kernel
theorem dX5_readWithout_57 : decode cX5_readWithout 57 = .ok (.aload_n 0, 1) := by decide +kernel
theorem dX5_readWithout_58 : decode cX5_readWithout 58 = .ok (.getfield 23, 3) := by decide +kernel
theorem dX5_readWithout_61 : decode cX5_readWithout 61 = .ok (.invokevirtual 172, 3) := by decide +kernel
theorem dX5_readWithout_64 : decode cX5_readWithout 64 = .ok (.aload_n 0, 1) := by decide +kernel
theorem dX5_readWithout_65 : decode cX5_readWithout 65 = .ok (.getfield 19, 3) := by decide +kernel
theorem dX5_readWithout_68 : decode cX5_readWithout 68 = .ok (.aload_n 0, 1) := by decide +kernel
theorem dX5_readWithout_69 : decode cX5_readWithout 69 = .ok (.getfield 55, 3) := by decide +kernel
theorem dX5_readWithout_72 : decode cX5_readWithout 72 = .ok (.iconst 0, 1) := by decide +kernel
theorem dX5_readWithout_73 : decode cX5_readWithout 73 = .ok (.invokestatic 131, 3) := by decide +kernel
theorem dX5_readWithout_76 : decode cX5_readWithout 76 = .ok (.ifCond .eq 7, 3) := by decide +kernel
theorem dX5_readWithout_79 : decode cX5_readWithout 79 = .ok (.iconst 0, 1) := by decide +kernel
theorem dX5_readWithout_80 : decode cX5_readWithout 80 = .ok (.goto 4, 3) := by decide +kernel
theorem dX5_readWithout_83 : decode cX5_readWithout 83 = .ok (.iconst 1, 1) := by decide +kernel
theorem dX5_readWithout_84 : decode cX5_readWithout 84 = .ok (.ireturn, 1) := by decide +kernel
theorem dX5_append_0 : decode cX5_append 0 = .ok (.iload_n 1, 1) := by decide +kernel
theorem dX5_append_1 : decode cX5_append 1 = .ok (.bipush 33, 2) := by decide +kernel
theorem dX5_append_3 : decode cX5_append 3 = .ok (.if_icmp .lt 9, 3) := by decide +kernel
theorem dX5_append_6 : decode cX5_append 6 = .ok (.iload_n 1, 1) := by decide +kernel
theorem dX5_append_7 : decode cX5_append 7 = .ok (.bipush 126, 2) := by decide +kernel
theorem dX5_append_9 : decode cX5_append 9 = .ok (.if_icmp .le 6, 3) := by decide +kernel
theorem dX5_append_12 : decode cX5_append 12 = .ok (.bipush (-3), 2) := by decide +kernel
theorem dX5_append_14 : decode cX5_append 14 = .ok (.ireturn, 1) := by decide +kernel
theorem dX5_append_15 : decode cX5_append 15 = .ok (.aload_n 0, 1) := by decide +kernel
theorem dX5_append_16 : decode cX5_append 16 = .ok (.getfield 29, 3) := by decide +kernel
theorem dX5_append_19 : decode cX5_append 19 = .ok (.iload_n 1, 1) := by decide +kernel
theorem dX5_append_20 : decode cX5_append 20 = .ok (.invokevirtual 175, 3) := by decide +kernel
theorem dX5_append_23 : decode cX5_append 23 = .ok (.ifCond .eq 13, 3) := by decide +kernel
theorem dX5_append_26 : decode cX5_append 26 = .ok (.aload_n 0, 1) := by decide +kernel
theorem dX5_append_27 : decode cX5_append 27 = .ok (.getfield 29, 3) := by decide +kernel
theorem dX5_append_30 : decode cX5_append 30 = .ok (.invokevirtual 155, 3) := by decide +kernel
theorem dX5_append_33 : decode cX5_append 33 = .ok (.goto 5, 3) := by decide +kernel
theorem dX5_append_36 : decode cX5_append 36 = .ok (.bipush (-7), 2) := by decide +kernel
theorem dX5_append_38 : decode cX5_append 38 = .ok (.ireturn, 1) := by decide +kernel
theorem dX5_copyOutput_0 : decode cX5_copyOutput 0 = .ok (.aload_n 0, 1) := by decide +kernel
theorem dX5_copyOutput_1 : decode cX5_copyOutput 1 = .ok (.getfield 29, 3) := by decide +kernel
theorem dX5_copyOutput_4 : decode cX5_copyOutput 4 = .ok (.aload_n 0, 1) := by decide +kernel
theorem dX5_copyOutput_5 : decode cX5_copyOutput 5 = .ok (.getfield 33, 3) := by decide +kernel
theorem dX5_copyOutput_8 : decode cX5_copyOutput 8 = .ok (.invokevirtual 178, 3) := by decide +kernel
theorem dX5_copyOutput_11 : decode cX5_copyOutput 11 = .ok (.aload_n 0, 1) := by decide +kernel
theorem dX5_copyOutput_12 : decode cX5_copyOutput 12 = .ok (.getfield 29, 3) := by decide +kernel
theorem dX5_copyOutput_15 : decode cX5_copyOutput 15 = .ok (.invokevirtual 155, 3) := by decide +kernel
theorem dX5_copyOutput_18 : decode cX5_copyOutput 18 = .ok (.ireturn, 1) := by decide +kernel
theorem dX5_clearInput_0 : decode cX5_clearInput 0 = .ok (.aload_n 0, 1) := by decide +kernel
theorem dX5_clearInput_1 : decode cX5_clearInput 1 = .ok (.getfield 29, 3) := by decide +kernel
theorem dX5_clearInput_4 : decode cX5_clearInput 4 = .ok (.invokevirtual 155, 3) := by decide +kernel
theorem dX5_clearInput_7 : decode cX5_clearInput 7 = .ok (.istore_n 1, 1) := by decide +kernel
theorem dX5_clearInput_8 : decode cX5_clearInput 8 = .ok (.aload_n 0, 1) := by decide +kernel
theorem dX5_clearInput_9 : decode cX5_clearInput 9 = .ok (.getfield 29, 3) := by decide +kernel
theorem dX5_clearInput_12 : decode cX5_clearInput 12 = .ok (.invokevirtual 144, 3) := by decide +kernel
theorem dX5_clearInput_15 : decode cX5_clearInput 15 = .ok (.iload_n 1, 1) := by decide +kernel
theorem dX5_clearInput_16 : decode cX5_clearInput 16 = .ok (.ireturn, 1) := by decide +kernel
theorem dX5_parse_0 : decode cX5_parse 0 = .ok (.aload_n 0, 1) := by decide +kernel
theorem dX5_parse_1 : decode cX5_parse 1 = .ok (.getfield 36, 3) := by decide +kernel
theorem dX5_parse_4 : decode cX5_parse 4 = .ok (.aload_n 0, 1) := by decide +kernel
theorem dX5_parse_5 : decode cX5_parse 5 = .ok (.getfield 29, 3) := by decide +kernel
theorem dX5_parse_8 : decode cX5_parse 8 = .ok (.invokevirtual 178, 3) := by decide +kernel
theorem dX5_parse_11 : decode cX5_parse 11 = .ok (.aload_n 0, 1) := by decide +kernel
theorem dX5_parse_12 : decode cX5_parse 12 = .ok (.getfield 44, 3) := by decide +kernel
theorem dX5_parse_15 : decode cX5_parse 15 = .ok (.invokevirtual 168, 3) := by decide +kernel
theorem dX5_parse_18 : decode cX5_parse 18 = .ok (.ifCond .ne 28, 3) := by decide +kernel
theorem dX5_parse_21 : decode cX5_parse 21 = .ok (.aload_n 0, 1) := by decide +kernel
theorem dX5_parse_22 : decode cX5_parse 22 = .ok (.aload_n 0, 1) := by decide +kernel
theorem dX5_parse_23 : decode cX5_parse 23 = .ok (.getfield 44, 3) := by decide +kernel
theorem dX5_parse_26 : decode cX5_parse 26 = .ok (.invokevirtual 182, 3) := by decide +kernel
theorem dX5_parse_29 : decode cX5_parse 29 = .ok (.putfield 59, 3) := by decide +kernel
theorem dX5_parse_32 : decode cX5_parse 32 = .ok (.aload_n 0, 1) := by decide +kernel
theorem dX5_parse_33 : decode cX5_parse 33 = .ok (.aload_n 0, 1) := by decide +kernel
theorem dX5_parse_34 : decode cX5_parse 34 = .ok (.getfield 44, 3) := by decide +kernel
theorem dX5_parse_37 : decode cX5_parse 37 = .ok (.invokevirtual 185, 3) := by decide +kernel
theorem dX5_parse_40 : decode cX5_parse 40 = .ok (.putfield 62, 3) := by decide +kernel
theorem dX5_parse_43 : decode cX5_parse 43 = .ok (.bipush (-12), 2) := by decide +kernel
theorem dX5_parse_45 : decode cX5_parse 45 = .ok (.ireturn, 1) := by decide +kernel
theorem dX5_parse_46 : decode cX5_parse 46 = .ok (.aload_n 0, 1) := by decide +kernel
theorem dX5_parse_47 : decode cX5_parse 47 = .ok (.getfield 23, 3) := by decide +kernel
theorem dX5_parse_50 : decode cX5_parse 50 = .ok (.invokevirtual 111, 3) := by decide +kernel
theorem dX5_parse_53 : decode cX5_parse 53 = .ok (.bipush 40, 2) := by decide +kernel
theorem dX5_parse_55 : decode cX5_parse 55 = .ok (.if_icmp .le 6, 3) := by decide +kernel
theorem dX5_parse_58 : decode cX5_parse 58 = .ok (.bipush (-7), 2) := by decide +kernel
theorem dX5_parse_60 : decode cX5_parse 60 = .ok (.ireturn, 1) := by decide +kernel
theorem dX5_parse_61 : decode cX5_parse 61 = .ok (.aload_n 0, 1) := by decide +kernel
theorem dX5_parse_62 : decode cX5_parse 62 = .ok (.getfield 19, 3) := by decide +kernel
theorem dX5_parse_65 : decode cX5_parse 65 = .ok (.invokevirtual 111, 3) := by decide +kernel
theorem dX5_parse_68 : decode cX5_parse 68 = .ok (.aload_n 0, 1) := by decide +kernel
theorem dX5_parse_69 : decode cX5_parse 69 = .ok (.getfield 23, 3) := by decide +kernel
theorem dX5_parse_72 : decode cX5_parse 72 = .ok (.invokevirtual 111, 3) := by decide +kernel
theorem dX5_parse_75 : decode cX5_parse 75 = .ok (.iadd, 1) := by decide +kernel
theorem dX5_parse_76 : decode cX5_parse 76 = .ok (.bipush 100, 2) := by decide +kernel
theorem dX5_parse_78 : decode cX5_parse 78 = .ok (.if_icmp .le 6, 3) := by decide +kernel
theorem dX5_parse_81 : decode cX5_parse 81 = .ok (.bipush (-6), 2) := by decide +kernel
theorem dX5_parse_83 : decode cX5_parse 83 = .ok (.ireturn, 1) := by decide +kernel
theorem dX5_parse_84 : decode cX5_parse 84 = .ok (.aload_n 0, 1) := by decide +kernel
theorem dX5_parse_85 : decode cX5_parse 85 = .ok (.getfield 19, 3) := by decide +kernel
theorem dX5_parse_88 : decode cX5_parse 88 = .ok (.aload_n 0, 1) := by decide +kernel
theorem dX5_parse_89 : decode cX5_parse 89 = .ok (.getfield 23, 3) := by decide +kernel
theorem dX5_parse_92 : decode cX5_parse 92 = .ok (.invokevirtual 188, 3) := by decide +kernel
theorem dX5_parse_95 : decode cX5_parse 95 = .ok (.aload_n 0, 1) := by decide +kernel
theorem dX5_parse_96 : decode cX5_parse 96 = .ok (.getfield 19, 3) := by decide +kernel
theorem dX5_parse_99 : decode cX5_parse 99 = .ok (.invokevirtual 172, 3) := by decide +kernel
theorem dX5_parse_102 : decode cX5_parse 102 = .ok (.ireturn, 1) := by decide +kernel
theorem dX5_errorKind_0 : decode cX5_errorKind 0 = .ok (.aload_n 0, 1) := by decide +kernel
theorem dX5_errorKind_1 : decode cX5_errorKind 1 = .ok (.getfield 59, 3) := by decide +kernel
theorem dX5_errorKind_4 : decode cX5_errorKind 4 = .ok (.ireturn, 1) := by decide +kernel
theorem dX5_errorPosition_0 : decode cX5_errorPosition 0 = .ok (.aload_n 0, 1) := by decide +kernel
theorem dX5_errorPosition_1 : decode cX5_errorPosition 1 = .ok (.getfield 62, 3) := by decide +kernel
theorem dX5_errorPosition_4 : decode cX5_errorPosition 4 = .ok (.ireturn, 1) := by decide +kernel
theorem dX5_isLetter_0 : decode cX5_isLetter 0 = .ok (.iload_n 0, 1) := by decide +kernel
theorem dX5_isLetter_1 : decode cX5_isLetter 1 = .ok (.bipush 97, 2) := by decide +kernel
theorem dX5_isLetter_3 : decode cX5_isLetter 3 = .ok (.if_icmp .lt 13, 3) := by decide +kernel
theorem dX5_isLetter_6 : decode cX5_isLetter 6 = .ok (.iload_n 0, 1) := by decide +kernel
theorem dX5_isLetter_7 : decode cX5_isLetter 7 = .ok (.bipush 122, 2) := by decide +kernel
theorem dX5_isLetter_9 : decode cX5_isLetter 9 = .ok (.if_icmp .gt 7, 3) := by decide +kernel
theorem dX5_isLetter_12 : decode cX5_isLetter 12 = .ok (.iconst 1, 1) := by decide +kernel
theorem dX5_isLetter_13 : decode cX5_isLetter 13 = .ok (.goto 4, 3) := by decide +kernel
theorem dX5_isLetter_16 : decode cX5_isLetter 16 = .ok (.iconst 0, 1) := by decide +kernel
theorem dX5_isLetter_17 : decode cX5_isLetter 17 = .ok (.ireturn, 1) := by decide +kernel
theorem dX5_canBeSymbol_0 : decode cX5_canBeSymbol 0 = .ok (.iload_n 0, 1) := by decide +kernel
theorem dX5_canBeSymbol_1 : decode cX5_canBeSymbol 1 = .ok (.bipush 33, 2) := by decide +kernel
theorem dX5_canBeSymbol_3 : decode cX5_canBeSymbol 3 = .ok (.if_icmp .lt 32, 3) := by decide +kernel
theorem dX5_canBeSymbol_6 : decode cX5_canBeSymbol 6 = .ok (.iload_n 0, 1) := by decide +kernel
theorem dX5_canBeSymbol_7 : decode cX5_canBeSymbol 7 = .ok (.bipush 126, 2) := by decide +kernel
theorem dX5_canBeSymbol_9 : decode cX5_canBeSymbol 9 = .ok (.if_icmp .gt 26, 3) := by decide +kernel
theorem dX5_canBeSymbol_12 : decode cX5_canBeSymbol 12 = .ok (.iload_n 0, 1) := by decide +kernel
theorem dX5_canBeSymbol_13 : decode cX5_canBeSymbol 13 = .ok (.invokestatic 108, 3) := by decide +kernel
theorem dX5_canBeSymbol_16 : decode cX5_canBeSymbol 16 = .ok (.ifCond .ne 19, 3) := by decide +kernel
theorem dX5_canBeSymbol_19 : decode cX5_canBeSymbol 19 = .ok (.iload_n 0, 1) := by decide +kernel
theorem dX5_canBeSymbol_20 : decode cX5_canBeSymbol 20 = .ok (.bipush 40, 2) := by decide +kernel
theorem dX5_canBeSymbol_22 : decode cX5_canBeSymbol 22 = .ok (.if_icmp .eq 13, 3) := by decide +kernel
theorem dX5_canBeSymbol_25 : decode cX5_canBeSymbol 25 = .ok (.iload_n 0, 1) := by decide +kernel
theorem dX5_canBeSymbol_26 : decode cX5_canBeSymbol 26 = .ok (.bipush 41, 2) := by decide +kernel
theorem dX5_canBeSymbol_28 : decode cX5_canBeSymbol 28 = .ok (.if_icmp .eq 7, 3) := by decide +kernel
theorem dX5_canBeSymbol_31 : decode cX5_canBeSymbol 31 = .ok (.iconst 1, 1) := by decide +kernel
theorem dX5_canBeSymbol_32 : decode cX5_canBeSymbol 32 = .ok (.goto 4, 3) := by decide +kernel
theorem dX5_canBeSymbol_35 : decode cX5_canBeSymbol 35 = .ok (.iconst 0, 1) := by decide +kernel
theorem dX5_canBeSymbol_36 : decode cX5_canBeSymbol 36 = .ok (.ireturn, 1) := by decide +kernel
theorem dX5_isLevel_0 : decode cX5_isLevel 0 = .ok (.iload_n 0, 1) := by decide +kernel
theorem dX5_isLevel_1 : decode cX5_isLevel 1 = .ok (.iconst 1, 1) := by decide +kernel
theorem dX5_isLevel_2 : decode cX5_isLevel 2 = .ok (.if_icmp .lt 13, 3) := by decide +kernel
theorem dX5_isLevel_5 : decode cX5_isLevel 5 = .ok (.iload_n 0, 1) := by decide +kernel
theorem dX5_isLevel_6 : decode cX5_isLevel 6 = .ok (.bipush 9, 2) := by decide +kernel
theorem dX5_isLevel_8 : decode cX5_isLevel 8 = .ok (.if_icmp .gt 7, 3) := by decide +kernel
theorem dX5_isLevel_11 : decode cX5_isLevel 11 = .ok (.iconst 1, 1) := by decide +kernel
theorem dX5_isLevel_12 : decode cX5_isLevel 12 = .ok (.goto 4, 3) := by decide +kernel
theorem dX5_isLevel_15 : decode cX5_isLevel 15 = .ok (.iconst 0, 1) := by decide +kernel
theorem dX5_isLevel_16 : decode cX5_isLevel 16 = .ok (.ireturn, 1) := by decide +kernel
end
section
/-! ===== decode rows (as printed) ===== -/
theorem dX6_in_0 : decode cX6_in 0 = .ok (.iload_n 0, 1) := by decide +kernel
theorem dX6_in_1 : decode cX6_in 1 = .ok (.iload_n 1, 1) := by decide +kernel
theorem dX6_in_2 : decode cX6_in 2 = .ok (.if_icmp .lt 12, 3) := by decide +kernel
theorem dX6_in_5 : decode cX6_in 5 = .ok (.iload_n 0, 1) := by decide +kernel
theorem dX6_in_6 : decode cX6_in 6 = .ok (.iload_n 2, 1) := by decide +kernel
theorem dX6_in_7 : decode cX6_in 7 = .ok (.if_icmp .gt 7, 3) := by decide +kernel
theorem dX6_in_10 : decode cX6_in 10 = .ok (.iconst 1, 1) := by decide +kernel
theorem dX6_in_11 : decode cX6_in 11 = .ok (.goto 4, 3) := by decide +kernel
theorem dX6_in_14 : decode cX6_in 14 = .ok (.iconst 0, 1) := by decide +kernel
theorem dX6_in_15 : decode cX6_in 15 = .ok (.ireturn, 1) := by decide +kernel
theorem dX6_isOperator_0 : decode cX6_isOperator 0 = .ok (.iload_n 1, 1) := by decide +kernel
theorem dX6_isOperator_1 : decode cX6_isOperator 1 = .ok (.iconst 0, 1) := by decide +kernel
theorem dX6_isOperator_2 : decode cX6_isOperator 2 = .ok (.aload_n 0, 1) := by decide +kernel
theorem dX6_isOperator_3 : decode cX6_isOperator 3 = .ok (.getfield 87, 3) := by decide +kernel
theorem dX6_isOperator_6 : decode cX6_isOperator 6 = .ok (.iconst 1, 1) := by decide +kernel
theorem dX6_isOperator_7 : decode cX6_isOperator 7 = .ok (.isub, 1) := by decide +kernel
theorem dX6_isOperator_8 : decode cX6_isOperator 8 = .ok (.invokestatic 90, 3) := by decide +kernel
theorem dX6_isOperator_11 : decode cX6_isOperator 11 = .ok (.ireturn, 1) := by decide +kernel
theorem dX6_isNode_0 : decode cX6_isNode 0 = .ok (.iload_n 1, 1) := by decide +kernel
theorem dX6_isNode_1 : decode cX6_isNode 1 = .ok (.iconst 0, 1) := by decide +kernel
theorem dX6_isNode_2 : decode cX6_isNode 2 = .ok (.aload_n 0, 1) := by decide +kernel
theorem dX6_isNode_3 : decode cX6_isNode 3 = .ok (.getfield 94, 3) := by decide +kernel
theorem dX6_isNode_6 : decode cX6_isNode 6 = .ok (.iconst 1, 1) := by decide +kernel
theorem dX6_isNode_7 : decode cX6_isNode 7 = .ok (.isub, 1) := by decide +kernel
theorem dX6_isNode_8 : decode cX6_isNode 8 = .ok (.invokestatic 90, 3) := by decide +kernel
theorem dX6_isNode_11 : decode cX6_isNode 11 = .ok (.ireturn, 1) := by decide +kernel
theorem dX6_isLetter_0 : decode cX6_isLetter 0 = .ok (.iload_n 0, 1) := by decide +kernel
theorem dX6_isLetter_1 : decode cX6_isLetter 1 = .ok (.bipush 97, 2) := by decide +kernel
theorem dX6_isLetter_3 : decode cX6_isLetter 3 = .ok (.bipush 122, 2) := by decide +kernel
theorem dX6_isLetter_5 : decode cX6_isLetter 5 = .ok (.invokestatic 90, 3) := by decide +kernel
theorem dX6_isLetter_8 : decode cX6_isLetter 8 = .ok (.ireturn, 1) := by decide +kernel
theorem dX6_operatorFor_0 : decode cX6_operatorFor 0 = .ok (.iconst 0, 1) := by decide +kernel
theorem dX6_operatorFor_1 : decode cX6_operatorFor 1 = .ok (.istore_n 3, 1) := by decide +kernel
theorem dX6_operatorFor_2 : decode cX6_operatorFor 2 = .ok (.iload_n 3, 1) := by decide +kernel
theorem dX6_operatorFor_3 : decode cX6_operatorFor 3 = .ok (.aload_n 0, 1) := by decide +kernel
theorem dX6_operatorFor_4 : decode cX6_operatorFor 4 = .ok (.getfield 87, 3) := by decide +kernel
theorem dX6_operatorFor_7 : decode cX6_operatorFor 7 = .ok (.if_icmp .ge 40, 3) := by decide +kernel
theorem dX6_operatorFor_10 : decode cX6_operatorFor 10 = .ok (.aload_n 0, 1) := by decide +kernel
theorem dX6_operatorFor_11 : decode cX6_operatorFor 11 = .ok (.getfield 7, 3) := by decide +kernel
theorem dX6_operatorFor_14 : decode cX6_operatorFor 14 = .ok (.iload_n 3, 1) := by decide +kernel
theorem dX6_operatorFor_15 : decode cX6_operatorFor 15 = .ok (.iaload, 1) := by decide +kernel
theorem dX6_operatorFor_16 : decode cX6_operatorFor 16 = .ok (.iload_n 1, 1) := by decide +kernel
theorem dX6_operatorFor_17 : decode cX6_operatorFor 17 = .ok (.if_icmp .ne 24, 3) := by decide +kernel
theorem dX6_operatorFor_20 : decode cX6_operatorFor 20 = .ok (.aload_n 0, 1) := by decide +kernel
theorem dX6_operatorFor_21 : decode cX6_operatorFor 21 = .ok (.getfield 13, 3) := by decide +kernel
theorem dX6_operatorFor_24 : decode cX6_operatorFor 24 = .ok (.iload_n 3, 1) := by decide +kernel
theorem dX6_operatorFor_25 : decode cX6_operatorFor 25 = .ok (.iaload, 1) := by decide +kernel
theorem dX6_operatorFor_26 : decode cX6_operatorFor 26 = .ok (.iconst 1, 1) := by decide +kernel
theorem dX6_operatorFor_27 : decode cX6_operatorFor 27 = .ok (.if_icmp .ne 7, 3) := by decide +kernel
theorem dX6_operatorFor_30 : decode cX6_operatorFor 30 = .ok (.iconst 1, 1) := by decide +kernel
theorem dX6_operatorFor_31 : decode cX6_operatorFor 31 = .ok (.goto 4, 3) := by decide +kernel
theorem dX6_operatorFor_34 : decode cX6_operatorFor 34 = .ok (.iconst 0, 1) := by decide +kernel
theorem dX6_operatorFor_35 : decode cX6_operatorFor 35 = .ok (.iload_n 2, 1) := by decide +kernel
theorem dX6_operatorFor_36 : decode cX6_operatorFor 36 = .ok (.if_icmp .ne 5, 3) := by decide +kernel
theorem dX6_operatorFor_39 : decode cX6_operatorFor 39 = .ok (.iload_n 3, 1) := by decide +kernel
theorem dX6_operatorFor_40 : decode cX6_operatorFor 40 = .ok (.ireturn, 1) := by decide +kernel
theorem dX6_operatorFor_41 : decode cX6_operatorFor 41 = .ok (.iinc 3 1, 3) := by decide +kernel
theorem dX6_operatorFor_44 : decode cX6_operatorFor 44 = .ok (.goto (-42), 3) := by decide +kernel
theorem dX6_operatorFor_47 : decode cX6_operatorFor 47 = .ok (.bipush (-10), 2) := by decide +kernel
theorem dX6_operatorFor_49 : decode cX6_operatorFor 49 = .ok (.ireturn, 1) := by decide +kernel
theorem dX6_define_0 : decode cX6_define 0 = .ok (.iload_n 1, 1) := by decide +kernel
theorem dX6_define_1 : decode cX6_define 1 = .ok (.bipush 33, 2) := by decide +kernel
theorem dX6_define_3 : decode cX6_define 3 = .ok (.bipush 126, 2) := by decide +kernel
theorem dX6_define_5 : decode cX6_define 5 = .ok (.invokestatic 90, 3) := by decide +kernel
theorem dX6_define_8 : decode cX6_define 8 = .ok (.ifCond .eq 22, 3) := by decide +kernel
theorem dX6_define_11 : decode cX6_define 11 = .ok (.iload_n 1, 1) := by decide +kernel
theorem dX6_define_12 : decode cX6_define 12 = .ok (.invokestatic 97, 3) := by decide +kernel
theorem dX6_define_15 : decode cX6_define 15 = .ok (.ifCond .ne 15, 3) := by decide +kernel
theorem dX6_define_18 : decode cX6_define 18 = .ok (.iload_n 1, 1) := by decide +kernel
theorem dX6_define_19 : decode cX6_define 19 = .ok (.bipush 40, 2) := by decide +kernel
theorem dX6_define_21 : decode cX6_define 21 = .ok (.if_icmp .eq 9, 3) := by decide +kernel
theorem dX6_define_24 : decode cX6_define 24 = .ok (.iload_n 1, 1) := by decide +kernel
theorem dX6_define_25 : decode cX6_define 25 = .ok (.bipush 41, 2) := by decide +kernel
theorem dX6_define_27 : decode cX6_define 27 = .ok (.if_icmp .ne 6, 3) := by decide +kernel
theorem dX6_define_30 : decode cX6_define 30 = .ok (.bipush (-3), 2) := by decide +kernel
theorem dX6_define_32 : decode cX6_define 32 = .ok (.ireturn, 1) := by decide +kernel
theorem dX6_define_33 : decode cX6_define 33 = .ok (.iload_n 3, 1) := by decide +kernel
theorem dX6_define_34 : decode cX6_define 34 = .ok (.iconst 1, 1) := by decide +kernel
theorem dX6_define_35 : decode cX6_define 35 = .ok (.bipush 9, 2) := by decide +kernel
theorem dX6_define_37 : decode cX6_define 37 = .ok (.invokestatic 90, 3) := by decide +kernel
theorem dX6_define_40 : decode cX6_define 40 = .ok (.ifCond .ne 6, 3) := by decide +kernel
theorem dX6_define_43 : decode cX6_define 43 = .ok (.bipush (-4), 2) := by decide +kernel
theorem dX6_define_45 : decode cX6_define 45 = .ok (.ireturn, 1) := by decide +kernel
theorem dX6_define_46 : decode cX6_define 46 = .ok (.aload_n 0, 1) := by decide +kernel
theorem dX6_define_47 : decode cX6_define 47 = .ok (.iload_n 1, 1) := by decide +kernel
theorem dX6_define_48 : decode cX6_define 48 = .ok (.iload_n 2, 1) := by decide +kernel
theorem dX6_define_49 : decode cX6_define 49 = .ok (.iconst 1, 1) := by decide +kernel
theorem dX6_define_50 : decode cX6_define 50 = .ok (.if_icmp .ne 7, 3) := by decide +kernel
theorem dX6_define_53 : decode cX6_define 53 = .ok (.iconst 1, 1) := by decide +kernel
theorem dX6_define_54 : decode cX6_define 54 = .ok (.goto 4, 3) := by decide +kernel
theorem dX6_define_57 : decode cX6_define 57 = .ok (.iconst 0, 1) := by decide +kernel
theorem dX6_define_58 : decode cX6_define 58 = .ok (.invokevirtual 101, 3) := by decide +kernel
theorem dX6_define_61 : decode cX6_define 61 = .ok (.ifCond .lt 6, 3) := by decide +kernel
theorem dX6_define_64 : decode cX6_define 64 = .ok (.bipush (-5), 2) := by decide +kernel
theorem dX6_define_66 : decode cX6_define 66 = .ok (.ireturn, 1) := by decide +kernel
theorem dX6_define_67 : decode cX6_define 67 = .ok (.aload_n 0, 1) := by decide +kernel
theorem dX6_define_68 : decode cX6_define 68 = .ok (.getfield 87, 3) := by decide +kernel
theorem dX6_define_71 : decode cX6_define 71 = .ok (.bipush 16, 2) := by decide +kernel
theorem dX6_define_73 : decode cX6_define 73 = .ok (.if_icmp .ne 6, 3) := by decide +kernel
theorem dX6_define_76 : decode cX6_define 76 = .ok (.bipush (-6), 2) := by decide +kernel
theorem dX6_define_78 : decode cX6_define 78 = .ok (.ireturn, 1) := by decide +kernel
theorem dX6_define_79 : decode cX6_define 79 = .ok (.aload_n 0, 1) := by decide +kernel
theorem dX6_define_80 : decode cX6_define 80 = .ok (.getfield 7, 3) := by decide +kernel
theorem dX6_define_83 : decode cX6_define 83 = .ok (.aload_n 0, 1) := by decide +kernel
theorem dX6_define_84 : decode cX6_define 84 = .ok (.getfield 87, 3) := by decide +kernel
theorem dX6_define_87 : decode cX6_define 87 = .ok (.iload_n 1, 1) := by decide +kernel
theorem dX6_define_88 : decode cX6_define 88 = .ok (.iastore, 1) := by decide +kernel
theorem dX6_define_89 : decode cX6_define 89 = .ok (.aload_n 0, 1) := by decide +kernel
theorem dX6_define_90 : decode cX6_define 90 = .ok (.getfield 13, 3) := by decide +kernel
theorem dX6_define_93 : decode cX6_define 93 = .ok (.aload_n 0, 1) := by decide +kernel
theorem dX6_define_94 : decode cX6_define 94 = .ok (.getfield 87, 3) := by decide +kernel
theorem dX6_define_97 : decode cX6_define 97 = .ok (.iload_n 2, 1) := by decide +kernel
theorem dX6_define_98 : decode cX6_define 98 = .ok (.iastore, 1) := by decide +kernel
theorem dX6_define_99 : decode cX6_define 99 = .ok (.aload_n 0, 1) := by decide +kernel
theorem dX6_define_100 : decode cX6_define 100 = .ok (.getfield 16, 3) := by decide +kernel
theorem dX6_define_103 : decode cX6_define 103 = .ok (.aload_n 0, 1) := by decide +kernel
theorem dX6_define_104 : decode cX6_define 104 = .ok (.getfield 87, 3) := by decide +kernel
theorem dX6_define_107 : decode cX6_define 107 = .ok (.iload_n 3, 1) := by decide +kernel
theorem dX6_define_108 : decode cX6_define 108 = .ok (.iastore, 1) := by decide +kernel
theorem dX6_define_109 : decode cX6_define 109 = .ok (.aload_n 0, 1) := by decide +kernel
theorem dX6_define_110 : decode cX6_define 110 = .ok (.dup, 1) := by decide +kernel
theorem dX6_define_111 : decode cX6_define 111 = .ok (.getfield 87, 3) := by decide +kernel
theorem dX6_define_114 : decode cX6_define 114 = .ok (.iconst 1, 1) := by decide +kernel
theorem dX6_define_115 : decode cX6_define 115 = .ok (.iadd, 1) := by decide +kernel
theorem dX6_define_116 : decode cX6_define 116 = .ok (.putfield 87, 3) := by decide +kernel
theorem dX6_define_119 : decode cX6_define 119 = .ok (.aload_n 0, 1) := by decide +kernel
theorem dX6_define_120 : decode cX6_define 120 = .ok (.getfield 87, 3) := by decide +kernel
theorem dX6_define_123 : decode cX6_define 123 = .ok (.iconst 1, 1) := by decide +kernel
theorem dX6_define_124 : decode cX6_define 124 = .ok (.isub, 1) := by decide +kernel
theorem dX6_define_125 : decode cX6_define 125 = .ok (.ireturn, 1) := by decide +kernel
theorem dX6_defineInfix_0 : decode cX6_defineInfix 0 = .ok (.aload_n 0, 1) := by decide +kernel
theorem dX6_defineInfix_1 : decode cX6_defineInfix 1 = .ok (.iload_n 1, 1) := by decide +kernel
theorem dX6_defineInfix_2 : decode cX6_defineInfix 2 = .ok (.iconst 0, 1) := by decide +kernel
theorem dX6_defineInfix_3 : decode cX6_defineInfix 3 = .ok (.iload_n 2, 1) := by decide +kernel
theorem dX6_defineInfix_4 : decode cX6_defineInfix 4 = .ok (.invokevirtual 105, 3) := by decide +kernel
theorem dX6_defineInfix_7 : decode cX6_defineInfix 7 = .ok (.ireturn, 1) := by decide +kernel
theorem dX6_definePrefix_0 : decode cX6_definePrefix 0 = .ok (.aload_n 0, 1) := by decide +kernel
theorem dX6_definePrefix_1 : decode cX6_definePrefix 1 = .ok (.iload_n 1, 1) := by decide +kernel
theorem dX6_definePrefix_2 : decode cX6_definePrefix 2 = .ok (.iconst 1, 1) := by decide +kernel
theorem dX6_definePrefix_3 : decode cX6_definePrefix 3 = .ok (.iload_n 2, 1) := by decide +kernel
theorem dX6_definePrefix_4 : decode cX6_definePrefix 4 = .ok (.invokevirtual 105, 3) := by decide +kernel
theorem dX6_definePrefix_7 : decode cX6_definePrefix 7 = .ok (.ireturn, 1) := by decide +kernel
theorem dX6_definePostfix_0 : decode cX6_definePostfix 0 = .ok (.aload_n 0, 1) := by decide +kernel
theorem dX6_definePostfix_1 : decode cX6_definePostfix 1 = .ok (.iload_n 1, 1) := by decide +kernel
theorem dX6_definePostfix_2 : decode cX6_definePostfix 2 = .ok (.iconst 2, 1) := by decide +kernel
theorem dX6_definePostfix_3 : decode cX6_definePostfix 3 = .ok (.iload_n 2, 1) := by decide +kernel
theorem dX6_definePostfix_4 : decode cX6_definePostfix 4 = .ok (.invokevirtual 105, 3) := by decide +kernel
theorem dX6_definePostfix_7 : decode cX6_definePostfix 7 = .ok (.ireturn, 1) := by decide +kernel
theorem dX6_operatorCount_0 : decode cX6_operatorCount 0 = .ok (.aload_n 0, 1) := by decide +kernel
theorem dX6_operatorCount_1 : decode cX6_operatorCount 1 = .ok (.getfield 87, 3) := by decide +kernel
theorem dX6_operatorCount_4 : decode cX6_operatorCount 4 = .ok (.ireturn, 1) := by decide +kernel
theorem dX6_symbol_0 : decode cX6_symbol 0 = .ok (.aload_n 0, 1) := by decide +kernel
theorem dX6_symbol_1 : decode cX6_symbol 1 = .ok (.iload_n 1, 1) := by decide +kernel
theorem dX6_symbol_2 : decode cX6_symbol 2 = .ok (.invokevirtual 109, 3) := by decide +kernel
theorem dX6_symbol_5 : decode cX6_symbol 5 = .ok (.ifCond .eq 12, 3) := by decide +kernel
theorem dX6_symbol_8 : decode cX6_symbol 8 = .ok (.aload_n 0, 1) := by decide +kernel
theorem dX6_symbol_9 : decode cX6_symbol 9 = .ok (.getfield 7, 3) := by decide +kernel
theorem dX6_symbol_12 : decode cX6_symbol 12 = .ok (.iload_n 1, 1) := by decide +kernel
theorem dX6_symbol_13 : decode cX6_symbol 13 = .ok (.iaload, 1) := by decide +kernel
theorem dX6_symbol_14 : decode cX6_symbol 14 = .ok (.goto 5, 3) := by decide +kernel
theorem dX6_symbol_17 : decode cX6_symbol 17 = .ok (.bipush (-2), 2) := by decide +kernel
theorem dX6_symbol_19 : decode cX6_symbol 19 = .ok (.ireturn, 1) := by decide +kernel
theorem dX6_kind_0 : decode cX6_kind 0 = .ok (.aload_n 0, 1) := by decide +kernel
theorem dX6_kind_1 : decode cX6_kind 1 = .ok (.iload_n 1, 1) := by decide +kernel
theorem dX6_kind_2 : decode cX6_kind 2 = .ok (.invokevirtual 109, 3) := by decide +kernel
theorem dX6_kind_5 : decode cX6_kind 5 = .ok (.ifCond .eq 12, 3) := by decide +kernel
theorem dX6_kind_8 : decode cX6_kind 8 = .ok (.aload_n 0, 1) := by decide +kernel
theorem dX6_kind_9 : decode cX6_kind 9 = .ok (.getfield 13, 3) := by decide +kernel
theorem dX6_kind_12 : decode cX6_kind 12 = .ok (.iload_n 1, 1) := by decide +kernel
theorem dX6_kind_13 : decode cX6_kind 13 = .ok (.iaload, 1) := by decide +kernel
theorem dX6_kind_14 : decode cX6_kind 14 = .ok (.goto 5, 3) := by decide +kernel
theorem dX6_kind_17 : decode cX6_kind 17 = .ok (.bipush (-2), 2) := by decide +kernel
theorem dX6_kind_19 : decode cX6_kind 19 = .ok (.ireturn, 1) := by decide +kernel
theorem dX6_setLevel_0 : decode cX6_setLevel 0 = .ok (.aload_n 0, 1) := by decide +kernel
theorem dX6_setLevel_1 : decode cX6_setLevel 1 = .ok (.iload_n 1, 1) := by decide +kernel
theorem dX6_setLevel_2 : decode cX6_setLevel 2 = .ok (.invokevirtual 109, 3) := by decide +kernel
theorem dX6_setLevel_5 : decode cX6_setLevel 5 = .ok (.ifCond .ne 6, 3) := by decide +kernel
theorem dX6_setLevel_8 : decode cX6_setLevel 8 = .ok (.bipush (-2), 2) := by decide +kernel
theorem dX6_setLevel_10 : decode cX6_setLevel 10 = .ok (.ireturn, 1) := by decide +kernel
theorem dX6_setLevel_11 : decode cX6_setLevel 11 = .ok (.iload_n 2, 1) := by decide +kernel
theorem dX6_setLevel_12 : decode cX6_setLevel 12 = .ok (.iconst 1, 1) := by decide +kernel
theorem dX6_setLevel_13 : decode cX6_setLevel 13 = .ok (.bipush 9, 2) := by decide +kernel
theorem dX6_setLevel_15 : decode cX6_setLevel 15 = .ok (.invokestatic 90, 3) := by decide +kernel
theorem dX6_setLevel_18 : decode cX6_setLevel 18 = .ok (.ifCond .ne 6, 3) := by decide +kernel
theorem dX6_setLevel_21 : decode cX6_setLevel 21 = .ok (.bipush (-4), 2) := by decide +kernel
theorem dX6_setLevel_23 : decode cX6_setLevel 23 = .ok (.ireturn, 1) := by decide +kernel
theorem dX6_setLevel_24 : decode cX6_setLevel 24 = .ok (.aload_n 0, 1) := by decide +kernel
theorem dX6_setLevel_25 : decode cX6_setLevel 25 = .ok (.getfield 16, 3) := by decide +kernel
theorem dX6_setLevel_28 : decode cX6_setLevel 28 = .ok (.iload_n 1, 1) := by decide +kernel
theorem dX6_setLevel_29 : decode cX6_setLevel 29 = .ok (.iaload, 1) := by decide +kernel
theorem dX6_setLevel_30 : decode cX6_setLevel 30 = .ok (.istore_n 3, 1) := by decide +kernel
theorem dX6_setLevel_31 : decode cX6_setLevel 31 = .ok (.aload_n 0, 1) := by decide +kernel
theorem dX6_setLevel_32 : decode cX6_setLevel 32 = .ok (.getfield 16, 3) := by decide +kernel
theorem dX6_setLevel_35 : decode cX6_setLevel 35 = .ok (.iload_n 1, 1) := by decide +kernel
theorem dX6_setLevel_36 : decode cX6_setLevel 36 = .ok (.iload_n 2, 1) := by decide +kernel
theorem dX6_setLevel_37 : decode cX6_setLevel 37 = .ok (.iastore, 1) := by decide +kernel
theorem dX6_setLevel_38 : decode cX6_setLevel 38 = .ok (.iload_n 3, 1) := by decide +kernel
theorem dX6_setLevel_39 : decode cX6_setLevel 39 = .ok (.ireturn, 1) := by decide +kernel
theorem dX6_setAssociativity_0 : decode cX6_setAssociativity 0 = .ok (.iload_n 1, 1) := by decide +kernel
theorem dX6_setAssociativity_1 : decode cX6_setAssociativity 1 = .ok (.iconst 1, 1) := by decide +kernel
theorem dX6_setAssociativity_2 : decode cX6_setAssociativity 2 = .ok (.bipush 9, 2) := by decide +kernel
theorem dX6_setAssociativity_4 : decode cX6_setAssociativity 4 = .ok (.invokestatic 90, 3) := by decide +kernel
theorem dX6_setAssociativity_7 : decode cX6_setAssociativity 7 = .ok (.ifCond .eq 12, 3) := by decide +kernel
theorem dX6_setAssociativity_10 : decode cX6_setAssociativity 10 = .ok (.iload_n 2, 1) := by decide +kernel
theorem dX6_setAssociativity_11 : decode cX6_setAssociativity 11 = .ok (.iconst 0, 1) := by decide +kernel
theorem dX6_setAssociativity_12 : decode cX6_setAssociativity 12 = .ok (.iconst 2, 1) := by decide +kernel
theorem dX6_setAssociativity_13 : decode cX6_setAssociativity 13 = .ok (.invokestatic 90, 3) := by decide +kernel
theorem dX6_setAssociativity_16 : decode cX6_setAssociativity 16 = .ok (.ifCond .ne 6, 3) := by decide +kernel
theorem dX6_setAssociativity_19 : decode cX6_setAssociativity 19 = .ok (.bipush (-4), 2) := by decide +kernel
theorem dX6_setAssociativity_21 : decode cX6_setAssociativity 21 = .ok (.ireturn, 1) := by decide +kernel
theorem dX6_setAssociativity_22 : decode cX6_setAssociativity 22 = .ok (.aload_n 0, 1) := by decide +kernel
theorem dX6_setAssociativity_23 : decode cX6_setAssociativity 23 = .ok (.getfield 19, 3) := by decide +kernel
theorem dX6_setAssociativity_26 : decode cX6_setAssociativity 26 = .ok (.iload_n 1, 1) := by decide +kernel
theorem dX6_setAssociativity_27 : decode cX6_setAssociativity 27 = .ok (.iaload, 1) := by decide +kernel
theorem dX6_setAssociativity_28 : decode cX6_setAssociativity 28 = .ok (.istore_n 3, 1) := by decide +kernel
theorem dX6_setAssociativity_29 : decode cX6_setAssociativity 29 = .ok (.aload_n 0, 1) := by decide +kernel
theorem dX6_setAssociativity_30 : decode cX6_setAssociativity 30 = .ok (.getfield 19, 3) := by decide +kernel
theorem dX6_setAssociativity_33 : decode cX6_setAssociativity 33 = .ok (.iload_n 1, 1) := by decide +kernel
theorem dX6_setAssociativity_34 : decode cX6_setAssociativity 34 = .ok (.iload_n 2, 1) := by decide +kernel
theorem dX6_setAssociativity_35 : decode cX6_setAssociativity 35 = .ok (.iastore, 1) := by decide +kernel
theorem dX6_setAssociativity_36 : decode cX6_setAssociativity 36 = .ok (.iload_n 3, 1) := by decide +kernel
theorem dX6_setAssociativity_37 : decode cX6_setAssociativity 37 = .ok (.ireturn, 1) := by decide +kernel
theorem dX6_setForbidden_0 : decode cX6_setForbidden 0 = .ok (.aload_n 0, 1) := by decide +kernel
theorem dX6_setForbidden_1 : decode cX6_setForbidden 1 = .ok (.iload_n 1, 1) := by decide +kernel
theorem dX6_setForbidden_2 : decode cX6_setForbidden 2 = .ok (.invokevirtual 109, 3) := by decide +kernel
theorem dX6_setForbidden_5 : decode cX6_setForbidden 5 = .ok (.ifCond .eq 11, 3) := by decide +kernel
theorem dX6_setForbidden_8 : decode cX6_setForbidden 8 = .ok (.aload_n 0, 1) := by decide +kernel
theorem dX6_setForbidden_9 : decode cX6_setForbidden 9 = .ok (.iload_n 2, 1) := by decide +kernel
theorem dX6_setForbidden_10 : decode cX6_setForbidden 10 = .ok (.invokevirtual 109, 3) := by decide +kernel
theorem dX6_setForbidden_13 : decode cX6_setForbidden 13 = .ok (.ifCond .ne 6, 3) := by decide +kernel
theorem dX6_setForbidden_16 : decode cX6_setForbidden 16 = .ok (.bipush (-2), 2) := by decide +kernel
theorem dX6_setForbidden_18 : decode cX6_setForbidden 18 = .ok (.ireturn, 1) := by decide +kernel
theorem dX6_setForbidden_19 : decode cX6_setForbidden 19 = .ok (.aload_n 0, 1) := by decide +kernel
theorem dX6_setForbidden_20 : decode cX6_setForbidden 20 = .ok (.getfield 22, 3) := by decide +kernel
theorem dX6_setForbidden_23 : decode cX6_setForbidden 23 = .ok (.bipush 16, 2) := by decide +kernel
theorem dX6_setForbidden_25 : decode cX6_setForbidden 25 = .ok (.iload_n 1, 1) := by decide +kernel
theorem dX6_setForbidden_26 : decode cX6_setForbidden 26 = .ok (.imul, 1) := by decide +kernel
theorem dX6_setForbidden_27 : decode cX6_setForbidden 27 = .ok (.iload_n 2, 1) := by decide +kernel
theorem dX6_setForbidden_28 : decode cX6_setForbidden 28 = .ok (.iadd, 1) := by decide +kernel
theorem dX6_setForbidden_29 : decode cX6_setForbidden 29 = .ok (.baload, 1) := by decide +kernel
theorem dX6_setForbidden_30 : decode cX6_setForbidden 30 = .ok (.istore 4, 2) := by decide +kernel
theorem dX6_setForbidden_32 : decode cX6_setForbidden 32 = .ok (.aload_n 0, 1) := by decide +kernel
theorem dX6_setForbidden_33 : decode cX6_setForbidden 33 = .ok (.getfield 22, 3) := by decide +kernel
theorem dX6_setForbidden_36 : decode cX6_setForbidden 36 = .ok (.bipush 16, 2) := by decide +kernel
theorem dX6_setForbidden_38 : decode cX6_setForbidden 38 = .ok (.iload_n 1, 1) := by decide +kernel
theorem dX6_setForbidden_39 : decode cX6_setForbidden 39 = .ok (.imul, 1) := by decide +kernel
theorem dX6_setForbidden_40 : decode cX6_setForbidden 40 = .ok (.iload_n 2, 1) := by decide +kernel
theorem dX6_setForbidden_41 : decode cX6_setForbidden 41 = .ok (.iadd, 1) := by decide +kernel
theorem dX6_setForbidden_42 : decode cX6_setForbidden 42 = .ok (.iload_n 3, 1) := by decide +kernel
theorem dX6_setForbidden_43 : decode cX6_setForbidden 43 = .ok (.bastore, 1) := by decide +kernel
theorem dX6_setForbidden_44 : decode cX6_setForbidden 44 = .ok (.iload 4, 2) := by decide +kernel
theorem dX6_setForbidden_46 : decode cX6_setForbidden 46 = .ok (.ifCond .eq 7, 3) := by decide +kernel
theorem dX6_setForbidden_49 : decode cX6_setForbidden 49 = .ok (.iconst 1, 1) := by decide +kernel
theorem dX6_setForbidden_50 : decode cX6_setForbidden 50 = .ok (.goto 4, 3) := by decide +kernel
theorem dX6_setForbidden_53 : decode cX6_setForbidden 53 = .ok (.iconst 0, 1) := by decide +kernel
theorem dX6_setForbidden_54 : decode cX6_setForbidden 54 = .ok (.ireturn, 1) := by decide +kernel
theorem dX6_rightLevel_0 : decode cX6_rightLevel 0 = .ok (.aload_n 0, 1) := by decide +kernel
theorem dX6_rightLevel_1 : decode cX6_rightLevel 1 = .ok (.getfield 19, 3) := by decide +kernel
theorem dX6_rightLevel_4 : decode cX6_rightLevel 4 = .ok (.aload_n 0, 1) := by decide +kernel
theorem dX6_rightLevel_5 : decode cX6_rightLevel 5 = .ok (.getfield 16, 3) := by decide +kernel
theorem dX6_rightLevel_8 : decode cX6_rightLevel 8 = .ok (.iload_n 1, 1) := by decide +kernel
theorem dX6_rightLevel_9 : decode cX6_rightLevel 9 = .ok (.iaload, 1) := by decide +kernel
theorem dX6_rightLevel_10 : decode cX6_rightLevel 10 = .ok (.iaload, 1) := by decide +kernel
theorem dX6_rightLevel_11 : decode cX6_rightLevel 11 = .ok (.iconst 1, 1) := by decide +kernel
theorem dX6_rightLevel_12 : decode cX6_rightLevel 12 = .ok (.if_icmp .ne 12, 3) := by decide +kernel
theorem dX6_rightLevel_15 : decode cX6_rightLevel 15 = .ok (.aload_n 0, 1) := by decide +kernel
theorem dX6_rightLevel_16 : decode cX6_rightLevel 16 = .ok (.getfield 16, 3) := by decide +kernel
theorem dX6_rightLevel_19 : decode cX6_rightLevel 19 = .ok (.iload_n 1, 1) := by decide +kernel
theorem dX6_rightLevel_20 : decode cX6_rightLevel 20 = .ok (.iaload, 1) := by decide +kernel
theorem dX6_rightLevel_21 : decode cX6_rightLevel 21 = .ok (.goto 11, 3) := by decide +kernel
theorem dX6_rightLevel_24 : decode cX6_rightLevel 24 = .ok (.aload_n 0, 1) := by decide +kernel
theorem dX6_rightLevel_25 : decode cX6_rightLevel 25 = .ok (.getfield 16, 3) := by decide +kernel
theorem dX6_rightLevel_28 : decode cX6_rightLevel 28 = .ok (.iload_n 1, 1) := by decide +kernel
theorem dX6_rightLevel_29 : decode cX6_rightLevel 29 = .ok (.iaload, 1) := by decide +kernel
theorem dX6_rightLevel_30 : decode cX6_rightLevel 30 = .ok (.iconst 1, 1) := by decide +kernel
theorem dX6_rightLevel_31 : decode cX6_rightLevel 31 = .ok (.iadd, 1) := by decide +kernel
theorem dX6_rightLevel_32 : decode cX6_rightLevel 32 = .ok (.ireturn, 1) := by decide +kernel
theorem dX6_isClash_0 : decode cX6_isClash 0 = .ok (.iload_n 2, 1) := by decide +kernel
theorem dX6_isClash_1 : decode cX6_isClash 1 = .ok (.ifCond .lt 46, 3) := by decide +kernel
theorem dX6_isClash_4 : decode cX6_isClash 4 = .ok (.aload_n 0, 1) := by decide +kernel
theorem dX6_isClash_5 : decode cX6_isClash 5 = .ok (.getfield 13, 3) := by decide +kernel
theorem dX6_isClash_8 : decode cX6_isClash 8 = .ok (.iload_n 2, 1) := by decide +kernel
theorem dX6_isClash_9 : decode cX6_isClash 9 = .ok (.iaload, 1) := by decide +kernel
theorem dX6_isClash_10 : decode cX6_isClash 10 = .ok (.ifCond .ne 37, 3) := by decide +kernel
theorem dX6_isClash_13 : decode cX6_isClash 13 = .ok (.aload_n 0, 1) := by decide +kernel
theorem dX6_isClash_14 : decode cX6_isClash 14 = .ok (.getfield 16, 3) := by decide +kernel
theorem dX6_isClash_17 : decode cX6_isClash 17 = .ok (.iload_n 2, 1) := by decide +kernel
theorem dX6_isClash_18 : decode cX6_isClash 18 = .ok (.iaload, 1) := by decide +kernel
theorem dX6_isClash_19 : decode cX6_isClash 19 = .ok (.aload_n 0, 1) := by decide +kernel
theorem dX6_isClash_20 : decode cX6_isClash 20 = .ok (.getfield 16, 3) := by decide +kernel
theorem dX6_isClash_23 : decode cX6_isClash 23 = .ok (.iload_n 1, 1) := by decide +kernel
theorem dX6_isClash_24 : decode cX6_isClash 24 = .ok (.iaload, 1) := by decide +kernel
theorem dX6_isClash_25 : decode cX6_isClash 25 = .ok (.if_icmp .ne 22, 3) := by decide +kernel
theorem dX6_isClash_28 : decode cX6_isClash 28 = .ok (.aload_n 0, 1) := by decide +kernel
theorem dX6_isClash_29 : decode cX6_isClash 29 = .ok (.getfield 19, 3) := by decide +kernel
theorem dX6_isClash_32 : decode cX6_isClash 32 = .ok (.aload_n 0, 1) := by decide +kernel
theorem dX6_isClash_33 : decode cX6_isClash 33 = .ok (.getfield 16, 3) := by decide +kernel
theorem dX6_isClash_36 : decode cX6_isClash 36 = .ok (.iload_n 1, 1) := by decide +kernel
theorem dX6_isClash_37 : decode cX6_isClash 37 = .ok (.iaload, 1) := by decide +kernel
theorem dX6_isClash_38 : decode cX6_isClash 38 = .ok (.iaload, 1) := by decide +kernel
theorem dX6_isClash_39 : decode cX6_isClash 39 = .ok (.iconst 2, 1) := by decide +kernel
theorem dX6_isClash_40 : decode cX6_isClash 40 = .ok (.if_icmp .ne 7, 3) := by decide +kernel
theorem dX6_isClash_43 : decode cX6_isClash 43 = .ok (.iconst 1, 1) := by decide +kernel
theorem dX6_isClash_44 : decode cX6_isClash 44 = .ok (.goto 4, 3) := by decide +kernel
theorem dX6_isClash_47 : decode cX6_isClash 47 = .ok (.iconst 0, 1) := by decide +kernel
theorem dX6_isClash_48 : decode cX6_isClash 48 = .ok (.ireturn, 1) := by decide +kernel
theorem dX6_isBarred_0 : decode cX6_isBarred 0 = .ok (.iload_n 2, 1) := by decide +kernel
theorem dX6_isBarred_1 : decode cX6_isBarred 1 = .ok (.ifCond .lt 21, 3) := by decide +kernel
theorem dX6_isBarred_4 : decode cX6_isBarred 4 = .ok (.aload_n 0, 1) := by decide +kernel
theorem dX6_isBarred_5 : decode cX6_isBarred 5 = .ok (.getfield 22, 3) := by decide +kernel
theorem dX6_isBarred_8 : decode cX6_isBarred 8 = .ok (.bipush 16, 2) := by decide +kernel
theorem dX6_isBarred_10 : decode cX6_isBarred 10 = .ok (.iload_n 1, 1) := by decide +kernel
theorem dX6_isBarred_11 : decode cX6_isBarred 11 = .ok (.imul, 1) := by decide +kernel
theorem dX6_isBarred_12 : decode cX6_isBarred 12 = .ok (.iload_n 2, 1) := by decide +kernel
theorem dX6_isBarred_13 : decode cX6_isBarred 13 = .ok (.iadd, 1) := by decide +kernel
theorem dX6_isBarred_14 : decode cX6_isBarred 14 = .ok (.baload, 1) := by decide +kernel
theorem dX6_isBarred_15 : decode cX6_isBarred 15 = .ok (.ifCond .eq 7, 3) := by decide +kernel
theorem dX6_isBarred_18 : decode cX6_isBarred 18 = .ok (.iconst 1, 1) := by decide +kernel
theorem dX6_isBarred_19 : decode cX6_isBarred 19 = .ok (.goto 4, 3) := by decide +kernel
theorem dX6_isBarred_22 : decode cX6_isBarred 22 = .ok (.iconst 0, 1) := by decide +kernel
theorem dX6_isBarred_23 : decode cX6_isBarred 23 = .ok (.ireturn, 1) := by decide +kernel
theorem dX6_addNode_0 : decode cX6_addNode 0 = .ok (.aload_n 0, 1) := by decide +kernel
theorem dX6_addNode_1 : decode cX6_addNode 1 = .ok (.getfield 26, 3) := by decide +kernel
theorem dX6_addNode_4 : decode cX6_addNode 4 = .ok (.aload_n 0, 1) := by decide +kernel
theorem dX6_addNode_5 : decode cX6_addNode 5 = .ok (.getfield 94, 3) := by decide +kernel
theorem dX6_addNode_8 : decode cX6_addNode 8 = .ok (.iload_n 1, 1) := by decide +kernel
theorem dX6_addNode_9 : decode cX6_addNode 9 = .ok (.iastore, 1) := by decide +kernel
theorem dX6_addNode_10 : decode cX6_addNode 10 = .ok (.aload_n 0, 1) := by decide +kernel
theorem dX6_addNode_11 : decode cX6_addNode 11 = .ok (.getfield 29, 3) := by decide +kernel
theorem dX6_addNode_14 : decode cX6_addNode 14 = .ok (.aload_n 0, 1) := by decide +kernel
theorem dX6_addNode_15 : decode cX6_addNode 15 = .ok (.getfield 94, 3) := by decide +kernel
theorem dX6_addNode_18 : decode cX6_addNode 18 = .ok (.iload_n 2, 1) := by decide +kernel
theorem dX6_addNode_19 : decode cX6_addNode 19 = .ok (.iastore, 1) := by decide +kernel
theorem dX6_addNode_20 : decode cX6_addNode 20 = .ok (.aload_n 0, 1) := by decide +kernel
theorem dX6_addNode_21 : decode cX6_addNode 21 = .ok (.getfield 32, 3) := by decide +kernel
theorem dX6_addNode_24 : decode cX6_addNode 24 = .ok (.aload_n 0, 1) := by decide +kernel
theorem dX6_addNode_25 : decode cX6_addNode 25 = .ok (.getfield 94, 3) := by decide +kernel
theorem dX6_addNode_28 : decode cX6_addNode 28 = .ok (.iload_n 3, 1) := by decide +kernel
theorem dX6_addNode_29 : decode cX6_addNode 29 = .ok (.iastore, 1) := by decide +kernel
theorem dX6_addNode_30 : decode cX6_addNode 30 = .ok (.aload_n 0, 1) := by decide +kernel
theorem dX6_addNode_31 : decode cX6_addNode 31 = .ok (.getfield 35, 3) := by decide +kernel
theorem dX6_addNode_34 : decode cX6_addNode 34 = .ok (.aload_n 0, 1) := by decide +kernel
theorem dX6_addNode_35 : decode cX6_addNode 35 = .ok (.getfield 94, 3) := by decide +kernel
theorem dX6_addNode_38 : decode cX6_addNode 38 = .ok (.iload 4, 2) := by decide +kernel
theorem dX6_addNode_40 : decode cX6_addNode 40 = .ok (.iastore, 1) := by decide +kernel
theorem dX6_addNode_41 : decode cX6_addNode 41 = .ok (.aload_n 0, 1) := by decide +kernel
theorem dX6_addNode_42 : decode cX6_addNode 42 = .ok (.getfield 38, 3) := by decide +kernel
theorem dX6_addNode_45 : decode cX6_addNode 45 = .ok (.aload_n 0, 1) := by decide +kernel
theorem dX6_addNode_46 : decode cX6_addNode 46 = .ok (.getfield 94, 3) := by decide +kernel
theorem dX6_addNode_49 : decode cX6_addNode 49 = .ok (.iconst 1, 1) := by decide +kernel
theorem dX6_addNode_50 : decode cX6_addNode 50 = .ok (.iload_n 3, 1) := by decide +kernel
theorem dX6_addNode_51 : decode cX6_addNode 51 = .ok (.ifCond .lt 12, 3) := by decide +kernel
theorem dX6_addNode_54 : decode cX6_addNode 54 = .ok (.aload_n 0, 1) := by decide +kernel
theorem dX6_addNode_55 : decode cX6_addNode 55 = .ok (.getfield 38, 3) := by decide +kernel
theorem dX6_addNode_58 : decode cX6_addNode 58 = .ok (.iload_n 3, 1) := by decide +kernel
theorem dX6_addNode_59 : decode cX6_addNode 59 = .ok (.iaload, 1) := by decide +kernel
theorem dX6_addNode_60 : decode cX6_addNode 60 = .ok (.goto 4, 3) := by decide +kernel
theorem dX6_addNode_63 : decode cX6_addNode 63 = .ok (.iconst 0, 1) := by decide +kernel
theorem dX6_addNode_64 : decode cX6_addNode 64 = .ok (.iadd, 1) := by decide +kernel
theorem dX6_addNode_65 : decode cX6_addNode 65 = .ok (.iload 4, 2) := by decide +kernel
theorem dX6_addNode_67 : decode cX6_addNode 67 = .ok (.ifCond .lt 13, 3) := by decide +kernel
theorem dX6_addNode_70 : decode cX6_addNode 70 = .ok (.aload_n 0, 1) := by decide +kernel
theorem dX6_addNode_71 : decode cX6_addNode 71 = .ok (.getfield 38, 3) := by decide +kernel
theorem dX6_addNode_74 : decode cX6_addNode 74 = .ok (.iload 4, 2) := by decide +kernel
theorem dX6_addNode_76 : decode cX6_addNode 76 = .ok (.iaload, 1) := by decide +kernel
theorem dX6_addNode_77 : decode cX6_addNode 77 = .ok (.goto 4, 3) := by decide +kernel
theorem dX6_addNode_80 : decode cX6_addNode 80 = .ok (.iconst 0, 1) := by decide +kernel
theorem dX6_addNode_81 : decode cX6_addNode 81 = .ok (.iadd, 1) := by decide +kernel
theorem dX6_addNode_82 : decode cX6_addNode 82 = .ok (.iastore, 1) := by decide +kernel
theorem dX6_addNode_83 : decode cX6_addNode 83 = .ok (.aload_n 0, 1) := by decide +kernel
theorem dX6_addNode_84 : decode cX6_addNode 84 = .ok (.dup, 1) := by decide +kernel
theorem dX6_addNode_85 : decode cX6_addNode 85 = .ok (.getfield 94, 3) := by decide +kernel
theorem dX6_addNode_88 : decode cX6_addNode 88 = .ok (.iconst 1, 1) := by decide +kernel
theorem dX6_addNode_89 : decode cX6_addNode 89 = .ok (.iadd, 1) := by decide +kernel
theorem dX6_addNode_90 : decode cX6_addNode 90 = .ok (.putfield 94, 3) := by decide +kernel
theorem dX6_addNode_93 : decode cX6_addNode 93 = .ok (.aload_n 0, 1) := by decide +kernel
theorem dX6_addNode_94 : decode cX6_addNode 94 = .ok (.getfield 94, 3) := by decide +kernel
theorem dX6_addNode_97 : decode cX6_addNode 97 = .ok (.iconst 1, 1) := by decide +kernel
theorem dX6_addNode_98 : decode cX6_addNode 98 = .ok (.isub, 1) := by decide +kernel
theorem dX6_addNode_99 : decode cX6_addNode 99 = .ok (.ireturn, 1) := by decide +kernel
theorem dX6_leaf_0 : decode cX6_leaf 0 = .ok (.iload_n 1, 1) := by decide +kernel
theorem dX6_leaf_1 : decode cX6_leaf 1 = .ok (.invokestatic 97, 3) := by decide +kernel
theorem dX6_leaf_4 : decode cX6_leaf 4 = .ok (.ifCond .ne 6, 3) := by decide +kernel
theorem dX6_leaf_7 : decode cX6_leaf 7 = .ok (.bipush (-3), 2) := by decide +kernel
theorem dX6_leaf_9 : decode cX6_leaf 9 = .ok (.ireturn, 1) := by decide +kernel
theorem dX6_leaf_10 : decode cX6_leaf 10 = .ok (.aload_n 0, 1) := by decide +kernel
theorem dX6_leaf_11 : decode cX6_leaf 11 = .ok (.getfield 94, 3) := by decide +kernel
theorem dX6_leaf_14 : decode cX6_leaf 14 = .ok (.bipush 100, 2) := by decide +kernel
theorem dX6_leaf_16 : decode cX6_leaf 16 = .ok (.if_icmp .ne 8, 3) := by decide +kernel
theorem dX6_leaf_19 : decode cX6_leaf 19 = .ok (.bipush (-6), 2) := by decide +kernel
theorem dX6_leaf_21 : decode cX6_leaf 21 = .ok (.goto 14, 3) := by decide +kernel
theorem dX6_leaf_24 : decode cX6_leaf 24 = .ok (.aload_n 0, 1) := by decide +kernel
theorem dX6_leaf_25 : decode cX6_leaf 25 = .ok (.bipush (-10), 2) := by decide +kernel
theorem dX6_leaf_27 : decode cX6_leaf 27 = .ok (.iload_n 1, 1) := by decide +kernel
theorem dX6_leaf_28 : decode cX6_leaf 28 = .ok (.bipush (-10), 2) := by decide +kernel
theorem dX6_leaf_30 : decode cX6_leaf 30 = .ok (.bipush (-10), 2) := by decide +kernel
theorem dX6_leaf_32 : decode cX6_leaf 32 = .ok (.invokevirtual 112, 3) := by decide +kernel
theorem dX6_leaf_35 : decode cX6_leaf 35 = .ok (.ireturn, 1) := by decide +kernel
theorem dX6_unary_0 : decode cX6_unary 0 = .ok (.aload_n 0, 1) := by decide +kernel
theorem dX6_unary_1 : decode cX6_unary 1 = .ok (.iload_n 1, 1) := by decide +kernel
theorem dX6_unary_2 : decode cX6_unary 2 = .ok (.invokevirtual 109, 3) := by decide +kernel
theorem dX6_unary_5 : decode cX6_unary 5 = .ok (.ifCond .ne 6, 3) := by decide +kernel
theorem dX6_unary_8 : decode cX6_unary 8 = .ok (.bipush (-2), 2) := by decide +kernel
theorem dX6_unary_10 : decode cX6_unary 10 = .ok (.ireturn, 1) := by decide +kernel
theorem dX6_unary_11 : decode cX6_unary 11 = .ok (.aload_n 0, 1) := by decide +kernel
theorem dX6_unary_12 : decode cX6_unary 12 = .ok (.getfield 13, 3) := by decide +kernel
theorem dX6_unary_15 : decode cX6_unary 15 = .ok (.iload_n 1, 1) := by decide +kernel
theorem dX6_unary_16 : decode cX6_unary 16 = .ok (.iaload, 1) := by decide +kernel
theorem dX6_unary_17 : decode cX6_unary 17 = .ok (.ifCond .ne 6, 3) := by decide +kernel
theorem dX6_unary_20 : decode cX6_unary 20 = .ok (.bipush (-8), 2) := by decide +kernel
theorem dX6_unary_22 : decode cX6_unary 22 = .ok (.ireturn, 1) := by decide +kernel
theorem dX6_unary_23 : decode cX6_unary 23 = .ok (.aload_n 0, 1) := by decide +kernel
theorem dX6_unary_24 : decode cX6_unary 24 = .ok (.iload_n 2, 1) := by decide +kernel
theorem dX6_unary_25 : decode cX6_unary 25 = .ok (.invokevirtual 116, 3) := by decide +kernel
theorem dX6_unary_28 : decode cX6_unary 28 = .ok (.ifCond .ne 5, 3) := by decide +kernel
theorem dX6_unary_31 : decode cX6_unary 31 = .ok (.iconst (-1), 1) := by decide +kernel
theorem dX6_unary_32 : decode cX6_unary 32 = .ok (.ireturn, 1) := by decide +kernel
theorem dX6_unary_33 : decode cX6_unary 33 = .ok (.aload_n 0, 1) := by decide +kernel
theorem dX6_unary_34 : decode cX6_unary 34 = .ok (.getfield 38, 3) := by decide +kernel
theorem dX6_unary_37 : decode cX6_unary 37 = .ok (.iload_n 2, 1) := by decide +kernel
theorem dX6_unary_38 : decode cX6_unary 38 = .ok (.iaload, 1) := by decide +kernel
theorem dX6_unary_39 : decode cX6_unary 39 = .ok (.iconst 1, 1) := by decide +kernel
theorem dX6_unary_40 : decode cX6_unary 40 = .ok (.iadd, 1) := by decide +kernel
theorem dX6_unary_41 : decode cX6_unary 41 = .ok (.bipush 40, 2) := by decide +kernel
theorem dX6_unary_43 : decode cX6_unary 43 = .ok (.if_icmp .le 6, 3) := by decide +kernel
theorem dX6_unary_46 : decode cX6_unary 46 = .ok (.bipush (-7), 2) := by decide +kernel
theorem dX6_unary_48 : decode cX6_unary 48 = .ok (.ireturn, 1) := by decide +kernel
theorem dX6_unary_49 : decode cX6_unary 49 = .ok (.aload_n 0, 1) := by decide +kernel
theorem dX6_unary_50 : decode cX6_unary 50 = .ok (.getfield 94, 3) := by decide +kernel
theorem dX6_unary_53 : decode cX6_unary 53 = .ok (.bipush 100, 2) := by decide +kernel
theorem dX6_unary_55 : decode cX6_unary 55 = .ok (.if_icmp .ne 8, 3) := by decide +kernel
theorem dX6_unary_58 : decode cX6_unary 58 = .ok (.bipush (-6), 2) := by decide +kernel
theorem dX6_unary_60 : decode cX6_unary 60 = .ok (.goto 13, 3) := by decide +kernel
theorem dX6_unary_63 : decode cX6_unary 63 = .ok (.aload_n 0, 1) := by decide +kernel
theorem dX6_unary_64 : decode cX6_unary 64 = .ok (.iload_n 1, 1) := by decide +kernel
theorem dX6_unary_65 : decode cX6_unary 65 = .ok (.bipush (-10), 2) := by decide +kernel
theorem dX6_unary_67 : decode cX6_unary 67 = .ok (.iload_n 2, 1) := by decide +kernel
theorem dX6_unary_68 : decode cX6_unary 68 = .ok (.bipush (-10), 2) := by decide +kernel
theorem dX6_unary_70 : decode cX6_unary 70 = .ok (.invokevirtual 112, 3) := by decide +kernel
theorem dX6_unary_73 : decode cX6_unary 73 = .ok (.ireturn, 1) := by decide +kernel
theorem dX6_binary_0 : decode cX6_binary 0 = .ok (.aload_n 0, 1) := by decide +kernel
theorem dX6_binary_1 : decode cX6_binary 1 = .ok (.iload_n 1, 1) := by decide +kernel
theorem dX6_binary_2 : decode cX6_binary 2 = .ok (.invokevirtual 109, 3) := by decide +kernel
theorem dX6_binary_5 : decode cX6_binary 5 = .ok (.ifCond .ne 6, 3) := by decide +kernel
theorem dX6_binary_8 : decode cX6_binary 8 = .ok (.bipush (-2), 2) := by decide +kernel
theorem dX6_binary_10 : decode cX6_binary 10 = .ok (.ireturn, 1) := by decide +kernel
theorem dX6_binary_11 : decode cX6_binary 11 = .ok (.aload_n 0, 1) := by decide +kernel
theorem dX6_binary_12 : decode cX6_binary 12 = .ok (.getfield 13, 3) := by decide +kernel
theorem dX6_binary_15 : decode cX6_binary 15 = .ok (.iload_n 1, 1) := by decide +kernel
theorem dX6_binary_16 : decode cX6_binary 16 = .ok (.iaload, 1) := by decide +kernel
theorem dX6_binary_17 : decode cX6_binary 17 = .ok (.ifCond .eq 6, 3) := by decide +kernel
theorem dX6_binary_20 : decode cX6_binary 20 = .ok (.bipush (-8), 2) := by decide +kernel
theorem dX6_binary_22 : decode cX6_binary 22 = .ok (.ireturn, 1) := by decide +kernel
theorem dX6_binary_23 : decode cX6_binary 23 = .ok (.aload_n 0, 1) := by decide +kernel
theorem dX6_binary_24 : decode cX6_binary 24 = .ok (.iload_n 2, 1) := by decide +kernel
theorem dX6_binary_25 : decode cX6_binary 25 = .ok (.invokevirtual 116, 3) := by decide +kernel
theorem dX6_binary_28 : decode cX6_binary 28 = .ok (.ifCond .eq 11, 3) := by decide +kernel
theorem dX6_binary_31 : decode cX6_binary 31 = .ok (.aload_n 0, 1) := by decide +kernel
theorem dX6_binary_32 : decode cX6_binary 32 = .ok (.iload_n 3, 1) := by decide +kernel
theorem dX6_binary_33 : decode cX6_binary 33 = .ok (.invokevirtual 116, 3) := by decide +kernel
theorem dX6_binary_36 : decode cX6_binary 36 = .ok (.ifCond .ne 5, 3) := by decide +kernel
theorem dX6_binary_39 : decode cX6_binary 39 = .ok (.iconst (-1), 1) := by decide +kernel
theorem dX6_binary_40 : decode cX6_binary 40 = .ok (.ireturn, 1) := by decide +kernel
theorem dX6_binary_41 : decode cX6_binary 41 = .ok (.aload_n 0, 1) := by decide +kernel
theorem dX6_binary_42 : decode cX6_binary 42 = .ok (.getfield 38, 3) := by decide +kernel
theorem dX6_binary_45 : decode cX6_binary 45 = .ok (.iload_n 2, 1) := by decide +kernel
theorem dX6_binary_46 : decode cX6_binary 46 = .ok (.iaload, 1) := by decide +kernel
theorem dX6_binary_47 : decode cX6_binary 47 = .ok (.aload_n 0, 1) := by decide +kernel
theorem dX6_binary_48 : decode cX6_binary 48 = .ok (.getfield 38, 3) := by decide +kernel
theorem dX6_binary_51 : decode cX6_binary 51 = .ok (.iload_n 3, 1) := by decide +kernel
theorem dX6_binary_52 : decode cX6_binary 52 = .ok (.iaload, 1) := by decide +kernel
theorem dX6_binary_53 : decode cX6_binary 53 = .ok (.iadd, 1) := by decide +kernel
theorem dX6_binary_54 : decode cX6_binary 54 = .ok (.iconst 1, 1) := by decide +kernel
theorem dX6_binary_55 : decode cX6_binary 55 = .ok (.iadd, 1) := by decide +kernel
theorem dX6_binary_56 : decode cX6_binary 56 = .ok (.bipush 40, 2) := by decide +kernel
theorem dX6_binary_58 : decode cX6_binary 58 = .ok (.if_icmp .le 6, 3) := by decide +kernel
theorem dX6_binary_61 : decode cX6_binary 61 = .ok (.bipush (-7), 2) := by decide +kernel
theorem dX6_binary_63 : decode cX6_binary 63 = .ok (.ireturn, 1) := by decide +kernel
theorem dX6_binary_64 : decode cX6_binary 64 = .ok (.aload_n 0, 1) := by decide +kernel
theorem dX6_binary_65 : decode cX6_binary 65 = .ok (.getfield 94, 3) := by decide +kernel
theorem dX6_binary_68 : decode cX6_binary 68 = .ok (.bipush 100, 2) := by decide +kernel
theorem dX6_binary_70 : decode cX6_binary 70 = .ok (.if_icmp .ne 8, 3) := by decide +kernel
theorem dX6_binary_73 : decode cX6_binary 73 = .ok (.bipush (-6), 2) := by decide +kernel
theorem dX6_binary_75 : decode cX6_binary 75 = .ok (.goto 12, 3) := by decide +kernel
theorem dX6_binary_78 : decode cX6_binary 78 = .ok (.aload_n 0, 1) := by decide +kernel
theorem dX6_binary_79 : decode cX6_binary 79 = .ok (.iload_n 1, 1) := by decide +kernel
theorem dX6_binary_80 : decode cX6_binary 80 = .ok (.bipush (-10), 2) := by decide +kernel
theorem dX6_binary_82 : decode cX6_binary 82 = .ok (.iload_n 2, 1) := by decide +kernel
theorem dX6_binary_83 : decode cX6_binary 83 = .ok (.iload_n 3, 1) := by decide +kernel
theorem dX6_binary_84 : decode cX6_binary 84 = .ok (.invokevirtual 112, 3) := by decide +kernel
theorem dX6_binary_87 : decode cX6_binary 87 = .ok (.ireturn, 1) := by decide +kernel
theorem dX6_nodeCount_0 : decode cX6_nodeCount 0 = .ok (.aload_n 0, 1) := by decide +kernel
theorem dX6_nodeCount_1 : decode cX6_nodeCount 1 = .ok (.getfield 94, 3) := by decide +kernel
theorem dX6_nodeCount_4 : decode cX6_nodeCount 4 = .ok (.ireturn, 1) := by decide +kernel
theorem dX6_operatorOf_0 : decode cX6_operatorOf 0 = .ok (.aload_n 0, 1) := by decide +kernel
theorem dX6_operatorOf_1 : decode cX6_operatorOf 1 = .ok (.iload_n 1, 1) := by decide +kernel
theorem dX6_operatorOf_2 : decode cX6_operatorOf 2 = .ok (.invokevirtual 116, 3) := by decide +kernel
theorem dX6_operatorOf_5 : decode cX6_operatorOf 5 = .ok (.ifCond .eq 12, 3) := by decide +kernel
theorem dX6_operatorOf_8 : decode cX6_operatorOf 8 = .ok (.aload_n 0, 1) := by decide +kernel
theorem dX6_operatorOf_9 : decode cX6_operatorOf 9 = .ok (.getfield 26, 3) := by decide +kernel
theorem dX6_operatorOf_12 : decode cX6_operatorOf 12 = .ok (.iload_n 1, 1) := by decide +kernel
theorem dX6_operatorOf_13 : decode cX6_operatorOf 13 = .ok (.iaload, 1) := by decide +kernel
theorem dX6_operatorOf_14 : decode cX6_operatorOf 14 = .ok (.goto 4, 3) := by decide +kernel
theorem dX6_operatorOf_17 : decode cX6_operatorOf 17 = .ok (.iconst (-1), 1) := by decide +kernel
theorem dX6_operatorOf_18 : decode cX6_operatorOf 18 = .ok (.ireturn, 1) := by decide +kernel
theorem dX6_letterOf_0 : decode cX6_letterOf 0 = .ok (.aload_n 0, 1) := by decide +kernel
theorem dX6_letterOf_1 : decode cX6_letterOf 1 = .ok (.iload_n 1, 1) := by decide +kernel
theorem dX6_letterOf_2 : decode cX6_letterOf 2 = .ok (.invokevirtual 116, 3) := by decide +kernel
theorem dX6_letterOf_5 : decode cX6_letterOf 5 = .ok (.ifCond .eq 12, 3) := by decide +kernel
theorem dX6_letterOf_8 : decode cX6_letterOf 8 = .ok (.aload_n 0, 1) := by decide +kernel
theorem dX6_letterOf_9 : decode cX6_letterOf 9 = .ok (.getfield 29, 3) := by decide +kernel
theorem dX6_letterOf_12 : decode cX6_letterOf 12 = .ok (.iload_n 1, 1) := by decide +kernel
theorem dX6_letterOf_13 : decode cX6_letterOf 13 = .ok (.iaload, 1) := by decide +kernel
theorem dX6_letterOf_14 : decode cX6_letterOf 14 = .ok (.goto 4, 3) := by decide +kernel
theorem dX6_letterOf_17 : decode cX6_letterOf 17 = .ok (.iconst (-1), 1) := by decide +kernel
theorem dX6_letterOf_18 : decode cX6_letterOf 18 = .ok (.ireturn, 1) := by decide +kernel
theorem dX6_operand_0 : decode cX6_operand 0 = .ok (.aload_n 0, 1) := by decide +kernel
theorem dX6_operand_1 : decode cX6_operand 1 = .ok (.iload_n 1, 1) := by decide +kernel
theorem dX6_operand_2 : decode cX6_operand 2 = .ok (.invokevirtual 116, 3) := by decide +kernel
theorem dX6_operand_5 : decode cX6_operand 5 = .ok (.ifCond .ne 5, 3) := by decide +kernel
theorem dX6_operand_8 : decode cX6_operand 8 = .ok (.iconst (-1), 1) := by decide +kernel
theorem dX6_operand_9 : decode cX6_operand 9 = .ok (.ireturn, 1) := by decide +kernel
theorem dX6_operand_10 : decode cX6_operand 10 = .ok (.iload_n 2, 1) := by decide +kernel
theorem dX6_operand_11 : decode cX6_operand 11 = .ok (.ifCond .ne 12, 3) := by decide +kernel
theorem dX6_operand_14 : decode cX6_operand 14 = .ok (.aload_n 0, 1) := by decide +kernel
theorem dX6_operand_15 : decode cX6_operand 15 = .ok (.getfield 32, 3) := by decide +kernel
theorem dX6_operand_18 : decode cX6_operand 18 = .ok (.iload_n 1, 1) := by decide +kernel
theorem dX6_operand_19 : decode cX6_operand 19 = .ok (.iaload, 1) := by decide +kernel
theorem dX6_operand_20 : decode cX6_operand 20 = .ok (.goto 19, 3) := by decide +kernel
theorem dX6_operand_23 : decode cX6_operand 23 = .ok (.iload_n 2, 1) := by decide +kernel
theorem dX6_operand_24 : decode cX6_operand 24 = .ok (.iconst 1, 1) := by decide +kernel
theorem dX6_operand_25 : decode cX6_operand 25 = .ok (.if_icmp .ne 12, 3) := by decide +kernel
theorem dX6_operand_28 : decode cX6_operand 28 = .ok (.aload_n 0, 1) := by decide +kernel
theorem dX6_operand_29 : decode cX6_operand 29 = .ok (.getfield 35, 3) := by decide +kernel
theorem dX6_operand_32 : decode cX6_operand 32 = .ok (.iload_n 1, 1) := by decide +kernel
theorem dX6_operand_33 : decode cX6_operand 33 = .ok (.iaload, 1) := by decide +kernel
theorem dX6_operand_34 : decode cX6_operand 34 = .ok (.goto 5, 3) := by decide +kernel
theorem dX6_operand_37 : decode cX6_operand 37 = .ok (.bipush (-10), 2) := by decide +kernel
theorem dX6_operand_39 : decode cX6_operand 39 = .ok (.ireturn, 1) := by decide +kernel
theorem dX6_size_0 : decode cX6_size 0 = .ok (.aload_n 0, 1) := by decide +kernel
theorem dX6_size_1 : decode cX6_size 1 = .ok (.iload_n 1, 1) := by decide +kernel
theorem dX6_size_2 : decode cX6_size 2 = .ok (.invokevirtual 116, 3) := by decide +kernel
theorem dX6_size_5 : decode cX6_size 5 = .ok (.ifCond .eq 12, 3) := by decide +kernel
theorem dX6_size_8 : decode cX6_size 8 = .ok (.aload_n 0, 1) := by decide +kernel
theorem dX6_size_9 : decode cX6_size 9 = .ok (.getfield 38, 3) := by decide +kernel
theorem dX6_size_12 : decode cX6_size 12 = .ok (.iload_n 1, 1) := by decide +kernel
theorem dX6_size_13 : decode cX6_size 13 = .ok (.iaload, 1) := by decide +kernel
theorem dX6_size_14 : decode cX6_size 14 = .ok (.goto 4, 3) := by decide +kernel
theorem dX6_size_17 : decode cX6_size 17 = .ok (.iconst (-1), 1) := by decide +kernel
theorem dX6_size_18 : decode cX6_size 18 = .ok (.ireturn, 1) := by decide +kernel
theorem dX6_areEqual_0 : decode cX6_areEqual 0 = .ok (.aload_n 0, 1) := by decide +kernel
theorem dX6_areEqual_1 : decode cX6_areEqual 1 = .ok (.iload_n 1, 1) := by decide +kernel
theorem dX6_areEqual_2 : decode cX6_areEqual 2 = .ok (.invokevirtual 116, 3) := by decide +kernel
theorem dX6_areEqual_5 : decode cX6_areEqual 5 = .ok (.ifCond .eq 11, 3) := by decide +kernel
theorem dX6_areEqual_8 : decode cX6_areEqual 8 = .ok (.aload_n 0, 1) := by decide +kernel
theorem dX6_areEqual_9 : decode cX6_areEqual 9 = .ok (.iload_n 2, 1) := by decide +kernel
theorem dX6_areEqual_10 : decode cX6_areEqual 10 = .ok (.invokevirtual 116, 3) := by decide +kernel
theorem dX6_areEqual_13 : decode cX6_areEqual 13 = .ok (.ifCond .ne 5, 3) := by decide +kernel
theorem dX6_areEqual_16 : decode cX6_areEqual 16 = .ok (.iconst (-1), 1) := by decide +kernel
theorem dX6_areEqual_17 : decode cX6_areEqual 17 = .ok (.ireturn, 1) := by decide +kernel
theorem dX6_areEqual_18 : decode cX6_areEqual 18 = .ok (.iconst 1, 1) := by decide +kernel
theorem dX6_areEqual_19 : decode cX6_areEqual 19 = .ok (.istore_n 3, 1) := by decide +kernel
theorem dX6_areEqual_20 : decode cX6_areEqual 20 = .ok (.aload_n 0, 1) := by decide +kernel
theorem dX6_areEqual_21 : decode cX6_areEqual 21 = .ok (.getfield 57, 3) := by decide +kernel
theorem dX6_areEqual_24 : decode cX6_areEqual 24 = .ok (.iconst 0, 1) := by decide +kernel
theorem dX6_areEqual_25 : decode cX6_areEqual 25 = .ok (.iload_n 1, 1) := by decide +kernel
theorem dX6_areEqual_26 : decode cX6_areEqual 26 = .ok (.iastore, 1) := by decide +kernel
theorem dX6_areEqual_27 : decode cX6_areEqual 27 = .ok (.aload_n 0, 1) := by decide +kernel
theorem dX6_areEqual_28 : decode cX6_areEqual 28 = .ok (.getfield 60, 3) := by decide +kernel
theorem dX6_areEqual_31 : decode cX6_areEqual 31 = .ok (.iconst 0, 1) := by decide +kernel
theorem dX6_areEqual_32 : decode cX6_areEqual 32 = .ok (.iload_n 2, 1) := by decide +kernel
theorem dX6_areEqual_33 : decode cX6_areEqual 33 = .ok (.iastore, 1) := by decide +kernel
theorem dX6_areEqual_34 : decode cX6_areEqual 34 = .ok (.iload_n 3, 1) := by decide +kernel
theorem dX6_areEqual_35 : decode cX6_areEqual 35 = .ok (.ifCond .le 139, 3) := by decide +kernel
theorem dX6_areEqual_38 : decode cX6_areEqual 38 = .ok (.iinc 3 (-1), 3) := by decide +kernel
theorem dX6_areEqual_41 : decode cX6_areEqual 41 = .ok (.aload_n 0, 1) := by decide +kernel
theorem dX6_areEqual_42 : decode cX6_areEqual 42 = .ok (.getfield 57, 3) := by decide +kernel
theorem dX6_areEqual_45 : decode cX6_areEqual 45 = .ok (.iload_n 3, 1) := by decide +kernel
theorem dX6_areEqual_46 : decode cX6_areEqual 46 = .ok (.iaload, 1) := by decide +kernel
theorem dX6_areEqual_47 : decode cX6_areEqual 47 = .ok (.istore 4, 2) := by decide +kernel
theorem dX6_areEqual_49 : decode cX6_areEqual 49 = .ok (.aload_n 0, 1) := by decide +kernel
theorem dX6_areEqual_50 : decode cX6_areEqual 50 = .ok (.getfield 60, 3) := by decide +kernel
theorem dX6_areEqual_53 : decode cX6_areEqual 53 = .ok (.iload_n 3, 1) := by decide +kernel
theorem dX6_areEqual_54 : decode cX6_areEqual 54 = .ok (.iaload, 1) := by decide +kernel
theorem dX6_areEqual_55 : decode cX6_areEqual 55 = .ok (.istore 5, 2) := by decide +kernel
theorem dX6_areEqual_57 : decode cX6_areEqual 57 = .ok (.aload_n 0, 1) := by decide +kernel
theorem dX6_areEqual_58 : decode cX6_areEqual 58 = .ok (.getfield 26, 3) := by decide +kernel
theorem dX6_areEqual_61 : decode cX6_areEqual 61 = .ok (.iload 4, 2) := by decide +kernel
theorem dX6_areEqual_63 : decode cX6_areEqual 63 = .ok (.iaload, 1) := by decide +kernel
theorem dX6_areEqual_64 : decode cX6_areEqual 64 = .ok (.aload_n 0, 1) := by decide +kernel
theorem dX6_areEqual_65 : decode cX6_areEqual 65 = .ok (.getfield 26, 3) := by decide +kernel
theorem dX6_areEqual_68 : decode cX6_areEqual 68 = .ok (.iload 5, 2) := by decide +kernel
theorem dX6_areEqual_70 : decode cX6_areEqual 70 = .ok (.iaload, 1) := by decide +kernel
theorem dX6_areEqual_71 : decode cX6_areEqual 71 = .ok (.if_icmp .ne 20, 3) := by decide +kernel
theorem dX6_areEqual_74 : decode cX6_areEqual 74 = .ok (.aload_n 0, 1) := by decide +kernel
theorem dX6_areEqual_75 : decode cX6_areEqual 75 = .ok (.getfield 29, 3) := by decide +kernel
theorem dX6_areEqual_78 : decode cX6_areEqual 78 = .ok (.iload 4, 2) := by decide +kernel
theorem dX6_areEqual_80 : decode cX6_areEqual 80 = .ok (.iaload, 1) := by decide +kernel
theorem dX6_areEqual_81 : decode cX6_areEqual 81 = .ok (.aload_n 0, 1) := by decide +kernel
theorem dX6_areEqual_82 : decode cX6_areEqual 82 = .ok (.getfield 29, 3) := by decide +kernel
theorem dX6_areEqual_85 : decode cX6_areEqual 85 = .ok (.iload 5, 2) := by decide +kernel
theorem dX6_areEqual_87 : decode cX6_areEqual 87 = .ok (.iaload, 1) := by decide +kernel
theorem dX6_areEqual_88 : decode cX6_areEqual 88 = .ok (.if_icmp .eq 5, 3) := by decide +kernel
theorem dX6_areEqual_91 : decode cX6_areEqual 91 = .ok (.iconst 0, 1) := by decide +kernel
theorem dX6_areEqual_92 : decode cX6_areEqual 92 = .ok (.ireturn, 1) := by decide +kernel
theorem dX6_areEqual_93 : decode cX6_areEqual 93 = .ok (.aload_n 0, 1) := by decide +kernel
theorem dX6_areEqual_94 : decode cX6_areEqual 94 = .ok (.getfield 32, 3) := by decide +kernel
theorem dX6_areEqual_97 : decode cX6_areEqual 97 = .ok (.iload 4, 2) := by decide +kernel
theorem dX6_areEqual_99 : decode cX6_areEqual 99 = .ok (.iaload, 1) := by decide +kernel
theorem dX6_areEqual_100 : decode cX6_areEqual 100 = .ok (.ifCond .lt 32, 3) := by decide +kernel
theorem dX6_areEqual_103 : decode cX6_areEqual 103 = .ok (.aload_n 0, 1) := by decide +kernel
theorem dX6_areEqual_104 : decode cX6_areEqual 104 = .ok (.getfield 57, 3) := by decide +kernel
theorem dX6_areEqual_107 : decode cX6_areEqual 107 = .ok (.iload_n 3, 1) := by decide +kernel
theorem dX6_areEqual_108 : decode cX6_areEqual 108 = .ok (.aload_n 0, 1) := by decide +kernel
theorem dX6_areEqual_109 : decode cX6_areEqual 109 = .ok (.getfield 32, 3) := by decide +kernel
theorem dX6_areEqual_112 : decode cX6_areEqual 112 = .ok (.iload 4, 2) := by decide +kernel
theorem dX6_areEqual_114 : decode cX6_areEqual 114 = .ok (.iaload, 1) := by decide +kernel
theorem dX6_areEqual_115 : decode cX6_areEqual 115 = .ok (.iastore, 1) := by decide +kernel
theorem dX6_areEqual_116 : decode cX6_areEqual 116 = .ok (.aload_n 0, 1) := by decide +kernel
theorem dX6_areEqual_117 : decode cX6_areEqual 117 = .ok (.getfield 60, 3) := by decide +kernel
theorem dX6_areEqual_120 : decode cX6_areEqual 120 = .ok (.iload_n 3, 1) := by decide +kernel
theorem dX6_areEqual_121 : decode cX6_areEqual 121 = .ok (.aload_n 0, 1) := by decide +kernel
theorem dX6_areEqual_122 : decode cX6_areEqual 122 = .ok (.getfield 32, 3) := by decide +kernel
theorem dX6_areEqual_125 : decode cX6_areEqual 125 = .ok (.iload 5, 2) := by decide +kernel
theorem dX6_areEqual_127 : decode cX6_areEqual 127 = .ok (.iaload, 1) := by decide +kernel
theorem dX6_areEqual_128 : decode cX6_areEqual 128 = .ok (.iastore, 1) := by decide +kernel
theorem dX6_areEqual_129 : decode cX6_areEqual 129 = .ok (.iinc 3 1, 3) := by decide +kernel
theorem dX6_areEqual_132 : decode cX6_areEqual 132 = .ok (.aload_n 0, 1) := by decide +kernel
theorem dX6_areEqual_133 : decode cX6_areEqual 133 = .ok (.getfield 35, 3) := by decide +kernel
theorem dX6_areEqual_136 : decode cX6_areEqual 136 = .ok (.iload 4, 2) := by decide +kernel
theorem dX6_areEqual_138 : decode cX6_areEqual 138 = .ok (.iaload, 1) := by decide +kernel
theorem dX6_areEqual_139 : decode cX6_areEqual 139 = .ok (.ifCond .lt 32, 3) := by decide +kernel
theorem dX6_areEqual_142 : decode cX6_areEqual 142 = .ok (.aload_n 0, 1) := by decide +kernel
theorem dX6_areEqual_143 : decode cX6_areEqual 143 = .ok (.getfield 57, 3) := by decide +kernel
theorem dX6_areEqual_146 : decode cX6_areEqual 146 = .ok (.iload_n 3, 1) := by decide +kernel
theorem dX6_areEqual_147 : decode cX6_areEqual 147 = .ok (.aload_n 0, 1) := by decide +kernel
theorem dX6_areEqual_148 : decode cX6_areEqual 148 = .ok (.getfield 35, 3) := by decide +kernel
theorem dX6_areEqual_151 : decode cX6_areEqual 151 = .ok (.iload 4, 2) := by decide +kernel
theorem dX6_areEqual_153 : decode cX6_areEqual 153 = .ok (.iaload, 1) := by decide +kernel
theorem dX6_areEqual_154 : decode cX6_areEqual 154 = .ok (.iastore, 1) := by decide +kernel
theorem dX6_areEqual_155 : decode cX6_areEqual 155 = .ok (.aload_n 0, 1) := by decide +kernel
theorem dX6_areEqual_156 : decode cX6_areEqual 156 = .ok (.getfield 60, 3) := by decide +kernel
theorem dX6_areEqual_159 : decode cX6_areEqual 159 = .ok (.iload_n 3, 1) := by decide +kernel
theorem dX6_areEqual_160 : decode cX6_areEqual 160 = .ok (.aload_n 0, 1) := by decide +kernel
theorem dX6_areEqual_161 : decode cX6_areEqual 161 = .ok (.getfield 35, 3) := by decide +kernel
theorem dX6_areEqual_164 : decode cX6_areEqual 164 = .ok (.iload 5, 2) := by decide +kernel
theorem dX6_areEqual_166 : decode cX6_areEqual 166 = .ok (.iaload, 1) := by decide +kernel
theorem dX6_areEqual_167 : decode cX6_areEqual 167 = .ok (.iastore, 1) := by decide +kernel
theorem dX6_areEqual_168 : decode cX6_areEqual 168 = .ok (.iinc 3 1, 3) := by decide +kernel
theorem dX6_areEqual_171 : decode cX6_areEqual 171 = .ok (.goto (-137), 3) := by decide +kernel
theorem dX6_areEqual_174 : decode cX6_areEqual 174 = .ok (.iconst 1, 1) := by decide +kernel
theorem dX6_areEqual_175 : decode cX6_areEqual 175 = .ok (.ireturn, 1) := by decide +kernel
theorem dX6_cell_0 : decode cX6_cell 0 = .ok (.bipush 121, 2) := by decide +kernel
theorem dX6_cell_2 : decode cX6_cell 2 = .ok (.iload_n 0, 1) := by decide +kernel
theorem dX6_cell_3 : decode cX6_cell 3 = .ok (.imul, 1) := by decide +kernel
theorem dX6_cell_4 : decode cX6_cell 4 = .ok (.bipush 11, 2) := by decide +kernel
theorem dX6_cell_6 : decode cX6_cell 6 = .ok (.iload_n 1, 1) := by decide +kernel
theorem dX6_cell_7 : decode cX6_cell 7 = .ok (.imul, 1) := by decide +kernel
theorem dX6_cell_8 : decode cX6_cell 8 = .ok (.iadd, 1) := by decide +kernel
theorem dX6_cell_9 : decode cX6_cell 9 = .ok (.iload_n 2, 1) := by decide +kernel
theorem dX6_cell_10 : decode cX6_cell 10 = .ok (.iadd, 1) := by decide +kernel
theorem dX6_cell_11 : decode cX6_cell 11 = .ok (.ireturn, 1) := by decide +kernel
theorem dX6_mayBeBare_0 : decode cX6_mayBeBare 0 = .ok (.aload_n 0, 1) := by decide +kernel
theorem dX6_mayBeBare_1 : decode cX6_mayBeBare 1 = .ok (.getfield 26, 3) := by decide +kernel
theorem dX6_mayBeBare_4 : decode cX6_mayBeBare 4 = .ok (.iload_n 2, 1) := by decide +kernel
theorem dX6_mayBeBare_5 : decode cX6_mayBeBare 5 = .ok (.iaload, 1) := by decide +kernel
theorem dX6_mayBeBare_6 : decode cX6_mayBeBare 6 = .ok (.istore 4, 2) := by decide +kernel
theorem dX6_mayBeBare_8 : decode cX6_mayBeBare 8 = .ok (.aload_n 0, 1) := by decide +kernel
theorem dX6_mayBeBare_9 : decode cX6_mayBeBare 9 = .ok (.iload_n 1, 1) := by decide +kernel
theorem dX6_mayBeBare_10 : decode cX6_mayBeBare 10 = .ok (.iload 4, 2) := by decide +kernel
theorem dX6_mayBeBare_12 : decode cX6_mayBeBare 12 = .ok (.invokevirtual 119, 3) := by decide +kernel
theorem dX6_mayBeBare_15 : decode cX6_mayBeBare 15 = .ok (.ifCond .ne 30, 3) := by decide +kernel
theorem dX6_mayBeBare_18 : decode cX6_mayBeBare 18 = .ok (.iload_n 3, 1) := by decide +kernel
theorem dX6_mayBeBare_19 : decode cX6_mayBeBare 19 = .ok (.ifCond .eq 22, 3) := by decide +kernel
theorem dX6_mayBeBare_22 : decode cX6_mayBeBare 22 = .ok (.aload_n 0, 1) := by decide +kernel
theorem dX6_mayBeBare_23 : decode cX6_mayBeBare 23 = .ok (.getfield 13, 3) := by decide +kernel
theorem dX6_mayBeBare_26 : decode cX6_mayBeBare 26 = .ok (.iload_n 1, 1) := by decide +kernel
theorem dX6_mayBeBare_27 : decode cX6_mayBeBare 27 = .ok (.iaload, 1) := by decide +kernel
theorem dX6_mayBeBare_28 : decode cX6_mayBeBare 28 = .ok (.ifCond .ne 13, 3) := by decide +kernel
theorem dX6_mayBeBare_31 : decode cX6_mayBeBare 31 = .ok (.aload_n 0, 1) := by decide +kernel
theorem dX6_mayBeBare_32 : decode cX6_mayBeBare 32 = .ok (.iload_n 1, 1) := by decide +kernel
theorem dX6_mayBeBare_33 : decode cX6_mayBeBare 33 = .ok (.iload 4, 2) := by decide +kernel
theorem dX6_mayBeBare_35 : decode cX6_mayBeBare 35 = .ok (.invokevirtual 123, 3) := by decide +kernel
theorem dX6_mayBeBare_38 : decode cX6_mayBeBare 38 = .ok (.ifCond .ne 7, 3) := by decide +kernel
theorem dX6_mayBeBare_41 : decode cX6_mayBeBare 41 = .ok (.iconst 1, 1) := by decide +kernel
theorem dX6_mayBeBare_42 : decode cX6_mayBeBare 42 = .ok (.goto 4, 3) := by decide +kernel
theorem dX6_mayBeBare_45 : decode cX6_mayBeBare 45 = .ok (.iconst 0, 1) := by decide +kernel
theorem dX6_mayBeBare_46 : decode cX6_mayBeBare 46 = .ok (.ireturn, 1) := by decide +kernel
theorem dX6_bareCost_0 : decode cX6_bareCost 0 = .ok (.aload_n 0, 1) := by decide +kernel
theorem dX6_bareCost_1 : decode cX6_bareCost 1 = .ok (.iload_n 1, 1) := by decide +kernel
theorem dX6_bareCost_2 : decode cX6_bareCost 2 = .ok (.iload_n 2, 1) := by decide +kernel
theorem dX6_bareCost_3 : decode cX6_bareCost 3 = .ok (.iload 5, 2) := by decide +kernel
theorem dX6_bareCost_5 : decode cX6_bareCost 5 = .ok (.invokevirtual 126, 3) := by decide +kernel
theorem dX6_bareCost_8 : decode cX6_bareCost 8 = .ok (.ifCond .eq 18, 3) := by decide +kernel
theorem dX6_bareCost_11 : decode cX6_bareCost 11 = .ok (.aload_n 0, 1) := by decide +kernel
theorem dX6_bareCost_12 : decode cX6_bareCost 12 = .ok (.getfield 63, 3) := by decide +kernel
theorem dX6_bareCost_15 : decode cX6_bareCost 15 = .ok (.iload_n 2, 1) := by decide +kernel
theorem dX6_bareCost_16 : decode cX6_bareCost 16 = .ok (.iload_n 3, 1) := by decide +kernel
theorem dX6_bareCost_17 : decode cX6_bareCost 17 = .ok (.iload 4, 2) := by decide +kernel
theorem dX6_bareCost_19 : decode cX6_bareCost 19 = .ok (.invokestatic 130, 3) := by decide +kernel
theorem dX6_bareCost_22 : decode cX6_bareCost 22 = .ok (.iaload, 1) := by decide +kernel
theorem dX6_bareCost_23 : decode cX6_bareCost 23 = .ok (.goto 6, 3) := by decide +kernel
theorem dX6_bareCost_26 : decode cX6_bareCost 26 = .ok (.sipush 1000, 3) := by decide +kernel
theorem dX6_bareCost_29 : decode cX6_bareCost 29 = .ok (.ireturn, 1) := by decide +kernel
theorem dX6_operandCost_0 : decode cX6_operandCost 0 = .ok (.aload_n 0, 1) := by decide +kernel
theorem dX6_operandCost_1 : decode cX6_operandCost 1 = .ok (.getfield 26, 3) := by decide +kernel
theorem dX6_operandCost_4 : decode cX6_operandCost 4 = .ok (.iload_n 2, 1) := by decide +kernel
theorem dX6_operandCost_5 : decode cX6_operandCost 5 = .ok (.iaload, 1) := by decide +kernel
theorem dX6_operandCost_6 : decode cX6_operandCost 6 = .ok (.ifCond .ge 5, 3) := by decide +kernel
theorem dX6_operandCost_9 : decode cX6_operandCost 9 = .ok (.iconst 0, 1) := by decide +kernel
theorem dX6_operandCost_10 : decode cX6_operandCost 10 = .ok (.ireturn, 1) := by decide +kernel
theorem dX6_operandCost_11 : decode cX6_operandCost 11 = .ok (.aload_n 0, 1) := by decide +kernel
theorem dX6_operandCost_12 : decode cX6_operandCost 12 = .ok (.iload_n 1, 1) := by decide +kernel
theorem dX6_operandCost_13 : decode cX6_operandCost 13 = .ok (.iload_n 2, 1) := by decide +kernel
theorem dX6_operandCost_14 : decode cX6_operandCost 14 = .ok (.iload_n 3, 1) := by decide +kernel
theorem dX6_operandCost_15 : decode cX6_operandCost 15 = .ok (.iload 4, 2) := by decide +kernel
theorem dX6_operandCost_17 : decode cX6_operandCost 17 = .ok (.iload 5, 2) := by decide +kernel
theorem dX6_operandCost_19 : decode cX6_operandCost 19 = .ok (.invokevirtual 133, 3) := by decide +kernel
theorem dX6_operandCost_22 : decode cX6_operandCost 22 = .ok (.istore 6, 2) := by decide +kernel
theorem dX6_operandCost_24 : decode cX6_operandCost 24 = .ok (.iconst 1, 1) := by decide +kernel
theorem dX6_operandCost_25 : decode cX6_operandCost 25 = .ok (.aload_n 0, 1) := by decide +kernel
theorem dX6_operandCost_26 : decode cX6_operandCost 26 = .ok (.getfield 63, 3) := by decide +kernel
theorem dX6_operandCost_29 : decode cX6_operandCost 29 = .ok (.iload_n 2, 1) := by decide +kernel
theorem dX6_operandCost_30 : decode cX6_operandCost 30 = .ok (.iconst 0, 1) := by decide +kernel
theorem dX6_operandCost_31 : decode cX6_operandCost 31 = .ok (.iconst 0, 1) := by decide +kernel
theorem dX6_operandCost_32 : decode cX6_operandCost 32 = .ok (.invokestatic 130, 3) := by decide +kernel
theorem dX6_operandCost_35 : decode cX6_operandCost 35 = .ok (.iaload, 1) := by decide +kernel
theorem dX6_operandCost_36 : decode cX6_operandCost 36 = .ok (.iadd, 1) := by decide +kernel
theorem dX6_operandCost_37 : decode cX6_operandCost 37 = .ok (.istore 7, 2) := by decide +kernel
theorem dX6_operandCost_39 : decode cX6_operandCost 39 = .ok (.iload 6, 2) := by decide +kernel
theorem dX6_operandCost_41 : decode cX6_operandCost 41 = .ok (.iload 7, 2) := by decide +kernel
theorem dX6_operandCost_43 : decode cX6_operandCost 43 = .ok (.if_icmp .ge 8, 3) := by decide +kernel
theorem dX6_operandCost_46 : decode cX6_operandCost 46 = .ok (.iload 6, 2) := by decide +kernel
theorem dX6_operandCost_48 : decode cX6_operandCost 48 = .ok (.goto 5, 3) := by decide +kernel
theorem dX6_operandCost_51 : decode cX6_operandCost 51 = .ok (.iload 7, 2) := by decide +kernel
theorem dX6_operandCost_53 : decode cX6_operandCost 53 = .ok (.ireturn, 1) := by decide +kernel
theorem dX6_costOf_0 : decode cX6_costOf 0 = .ok (.aload_n 0, 1) := by decide +kernel
theorem dX6_costOf_1 : decode cX6_costOf 1 = .ok (.getfield 26, 3) := by decide +kernel
theorem dX6_costOf_4 : decode cX6_costOf 4 = .ok (.iload_n 1, 1) := by decide +kernel
theorem dX6_costOf_5 : decode cX6_costOf 5 = .ok (.iaload, 1) := by decide +kernel
theorem dX6_costOf_6 : decode cX6_costOf 6 = .ok (.istore 4, 2) := by decide +kernel
theorem dX6_costOf_8 : decode cX6_costOf 8 = .ok (.iload 4, 2) := by decide +kernel
theorem dX6_costOf_10 : decode cX6_costOf 10 = .ok (.ifCond .ge 5, 3) := by decide +kernel
theorem dX6_costOf_13 : decode cX6_costOf 13 = .ok (.iconst 0, 1) := by decide +kernel
theorem dX6_costOf_14 : decode cX6_costOf 14 = .ok (.ireturn, 1) := by decide +kernel
theorem dX6_costOf_15 : decode cX6_costOf 15 = .ok (.aload_n 0, 1) := by decide +kernel
theorem dX6_costOf_16 : decode cX6_costOf 16 = .ok (.getfield 13, 3) := by decide +kernel
theorem dX6_costOf_19 : decode cX6_costOf 19 = .ok (.iload 4, 2) := by decide +kernel
theorem dX6_costOf_21 : decode cX6_costOf 21 = .ok (.iaload, 1) := by decide +kernel
theorem dX6_costOf_22 : decode cX6_costOf 22 = .ok (.iconst 1, 1) := by decide +kernel
theorem dX6_costOf_23 : decode cX6_costOf 23 = .ok (.if_icmp .ne 42, 3) := by decide +kernel
theorem dX6_costOf_26 : decode cX6_costOf 26 = .ok (.iload_n 3, 1) := by decide +kernel
theorem dX6_costOf_27 : decode cX6_costOf 27 = .ok (.aload_n 0, 1) := by decide +kernel
theorem dX6_costOf_28 : decode cX6_costOf 28 = .ok (.getfield 16, 3) := by decide +kernel
theorem dX6_costOf_31 : decode cX6_costOf 31 = .ok (.iload 4, 2) := by decide +kernel
theorem dX6_costOf_33 : decode cX6_costOf 33 = .ok (.iaload, 1) := by decide +kernel
theorem dX6_costOf_34 : decode cX6_costOf 34 = .ok (.if_icmp .lt 9, 3) := by decide +kernel
theorem dX6_costOf_37 : decode cX6_costOf 37 = .ok (.sipush 1000, 3) := by decide +kernel
theorem dX6_costOf_40 : decode cX6_costOf 40 = .ok (.goto 24, 3) := by decide +kernel
theorem dX6_costOf_43 : decode cX6_costOf 43 = .ok (.aload_n 0, 1) := by decide +kernel
theorem dX6_costOf_44 : decode cX6_costOf 44 = .ok (.iload 4, 2) := by decide +kernel
theorem dX6_costOf_46 : decode cX6_costOf 46 = .ok (.aload_n 0, 1) := by decide +kernel
theorem dX6_costOf_47 : decode cX6_costOf 47 = .ok (.getfield 32, 3) := by decide +kernel
theorem dX6_costOf_50 : decode cX6_costOf 50 = .ok (.iload_n 1, 1) := by decide +kernel
theorem dX6_costOf_51 : decode cX6_costOf 51 = .ok (.iaload, 1) := by decide +kernel
theorem dX6_costOf_52 : decode cX6_costOf 52 = .ok (.aload_n 0, 1) := by decide +kernel
theorem dX6_costOf_53 : decode cX6_costOf 53 = .ok (.getfield 16, 3) := by decide +kernel
theorem dX6_costOf_56 : decode cX6_costOf 56 = .ok (.iload 4, 2) := by decide +kernel
theorem dX6_costOf_58 : decode cX6_costOf 58 = .ok (.iaload, 1) := by decide +kernel
theorem dX6_costOf_59 : decode cX6_costOf 59 = .ok (.iload_n 3, 1) := by decide +kernel
theorem dX6_costOf_60 : decode cX6_costOf 60 = .ok (.iconst 0, 1) := by decide +kernel
theorem dX6_costOf_61 : decode cX6_costOf 61 = .ok (.invokevirtual 137, 3) := by decide +kernel
theorem dX6_costOf_64 : decode cX6_costOf 64 = .ok (.ireturn, 1) := by decide +kernel
theorem dX6_costOf_65 : decode cX6_costOf 65 = .ok (.aload_n 0, 1) := by decide +kernel
theorem dX6_costOf_66 : decode cX6_costOf 66 = .ok (.getfield 16, 3) := by decide +kernel
theorem dX6_costOf_69 : decode cX6_costOf 69 = .ok (.iload 4, 2) := by decide +kernel
theorem dX6_costOf_71 : decode cX6_costOf 71 = .ok (.iaload, 1) := by decide +kernel
theorem dX6_costOf_72 : decode cX6_costOf 72 = .ok (.iload_n 2, 1) := by decide +kernel
theorem dX6_costOf_73 : decode cX6_costOf 73 = .ok (.if_icmp .ge 7, 3) := by decide +kernel
theorem dX6_costOf_76 : decode cX6_costOf 76 = .ok (.sipush 1000, 3) := by decide +kernel
theorem dX6_costOf_79 : decode cX6_costOf 79 = .ok (.ireturn, 1) := by decide +kernel
theorem dX6_costOf_80 : decode cX6_costOf 80 = .ok (.aload_n 0, 1) := by decide +kernel
theorem dX6_costOf_81 : decode cX6_costOf 81 = .ok (.iload 4, 2) := by decide +kernel
theorem dX6_costOf_83 : decode cX6_costOf 83 = .ok (.aload_n 0, 1) := by decide +kernel
theorem dX6_costOf_84 : decode cX6_costOf 84 = .ok (.getfield 32, 3) := by decide +kernel
theorem dX6_costOf_87 : decode cX6_costOf 87 = .ok (.iload_n 1, 1) := by decide +kernel
theorem dX6_costOf_88 : decode cX6_costOf 88 = .ok (.iaload, 1) := by decide +kernel
theorem dX6_costOf_89 : decode cX6_costOf 89 = .ok (.iload_n 2, 1) := by decide +kernel
theorem dX6_costOf_90 : decode cX6_costOf 90 = .ok (.aload_n 0, 1) := by decide +kernel
theorem dX6_costOf_91 : decode cX6_costOf 91 = .ok (.getfield 16, 3) := by decide +kernel
theorem dX6_costOf_94 : decode cX6_costOf 94 = .ok (.iload 4, 2) := by decide +kernel
theorem dX6_costOf_96 : decode cX6_costOf 96 = .ok (.iaload, 1) := by decide +kernel
theorem dX6_costOf_97 : decode cX6_costOf 97 = .ok (.iconst 1, 1) := by decide +kernel
theorem dX6_costOf_98 : decode cX6_costOf 98 = .ok (.invokevirtual 137, 3) := by decide +kernel
theorem dX6_costOf_101 : decode cX6_costOf 101 = .ok (.istore 5, 2) := by decide +kernel
theorem dX6_costOf_103 : decode cX6_costOf 103 = .ok (.aload_n 0, 1) := by decide +kernel
theorem dX6_costOf_104 : decode cX6_costOf 104 = .ok (.getfield 13, 3) := by decide +kernel
theorem dX6_costOf_107 : decode cX6_costOf 107 = .ok (.iload 4, 2) := by decide +kernel
theorem dX6_costOf_109 : decode cX6_costOf 109 = .ok (.iaload, 1) := by decide +kernel
theorem dX6_costOf_110 : decode cX6_costOf 110 = .ok (.iconst 2, 1) := by decide +kernel
theorem dX6_costOf_111 : decode cX6_costOf 111 = .ok (.if_icmp .ne 6, 3) := by decide +kernel
theorem dX6_costOf_114 : decode cX6_costOf 114 = .ok (.iload 5, 2) := by decide +kernel
theorem dX6_costOf_116 : decode cX6_costOf 116 = .ok (.ireturn, 1) := by decide +kernel
theorem dX6_costOf_117 : decode cX6_costOf 117 = .ok (.aload_n 0, 1) := by decide +kernel
theorem dX6_costOf_118 : decode cX6_costOf 118 = .ok (.iload 4, 2) := by decide +kernel
theorem dX6_costOf_120 : decode cX6_costOf 120 = .ok (.invokevirtual 140, 3) := by decide +kernel
theorem dX6_costOf_123 : decode cX6_costOf 123 = .ok (.istore 6, 2) := by decide +kernel
theorem dX6_costOf_125 : decode cX6_costOf 125 = .ok (.iload_n 3, 1) := by decide +kernel
theorem dX6_costOf_126 : decode cX6_costOf 126 = .ok (.iload 6, 2) := by decide +kernel
theorem dX6_costOf_128 : decode cX6_costOf 128 = .ok (.if_icmp .lt 9, 3) := by decide +kernel
theorem dX6_costOf_131 : decode cX6_costOf 131 = .ok (.sipush 1000, 3) := by decide +kernel
theorem dX6_costOf_134 : decode cX6_costOf 134 = .ok (.goto 22, 3) := by decide +kernel
theorem dX6_costOf_137 : decode cX6_costOf 137 = .ok (.iload 5, 2) := by decide +kernel
theorem dX6_costOf_139 : decode cX6_costOf 139 = .ok (.aload_n 0, 1) := by decide +kernel
theorem dX6_costOf_140 : decode cX6_costOf 140 = .ok (.iload 4, 2) := by decide +kernel
theorem dX6_costOf_142 : decode cX6_costOf 142 = .ok (.aload_n 0, 1) := by decide +kernel
theorem dX6_costOf_143 : decode cX6_costOf 143 = .ok (.getfield 35, 3) := by decide +kernel
theorem dX6_costOf_146 : decode cX6_costOf 146 = .ok (.iload_n 1, 1) := by decide +kernel
theorem dX6_costOf_147 : decode cX6_costOf 147 = .ok (.iaload, 1) := by decide +kernel
theorem dX6_costOf_148 : decode cX6_costOf 148 = .ok (.iload 6, 2) := by decide +kernel
theorem dX6_costOf_150 : decode cX6_costOf 150 = .ok (.iload_n 3, 1) := by decide +kernel
theorem dX6_costOf_151 : decode cX6_costOf 151 = .ok (.iconst 0, 1) := by decide +kernel
theorem dX6_costOf_152 : decode cX6_costOf 152 = .ok (.invokevirtual 137, 3) := by decide +kernel
theorem dX6_costOf_155 : decode cX6_costOf 155 = .ok (.iadd, 1) := by decide +kernel
theorem dX6_costOf_156 : decode cX6_costOf 156 = .ok (.ireturn, 1) := by decide +kernel
theorem dX6_layCosts_0 : decode cX6_layCosts 0 = .ok (.iconst 0, 1) := by decide +kernel
theorem dX6_layCosts_1 : decode cX6_layCosts 1 = .ok (.istore_n 2, 1) := by decide +kernel
theorem dX6_layCosts_2 : decode cX6_layCosts 2 = .ok (.iload_n 2, 1) := by decide +kernel
theorem dX6_layCosts_3 : decode cX6_layCosts 3 = .ok (.iload_n 1, 1) := by decide +kernel
theorem dX6_layCosts_4 : decode cX6_layCosts 4 = .ok (.if_icmp .gt 77, 3) := by decide +kernel
theorem dX6_layCosts_7 : decode cX6_layCosts 7 = .ok (.iconst 0, 1) := by decide +kernel
theorem dX6_layCosts_8 : decode cX6_layCosts 8 = .ok (.istore_n 3, 1) := by decide +kernel
theorem dX6_layCosts_9 : decode cX6_layCosts 9 = .ok (.iload_n 3, 1) := by decide +kernel
theorem dX6_layCosts_10 : decode cX6_layCosts 10 = .ok (.bipush 11, 2) := by decide +kernel
theorem dX6_layCosts_12 : decode cX6_layCosts 12 = .ok (.if_icmp .ge 63, 3) := by decide +kernel
theorem dX6_layCosts_15 : decode cX6_layCosts 15 = .ok (.iconst 0, 1) := by decide +kernel
theorem dX6_layCosts_16 : decode cX6_layCosts 16 = .ok (.istore 4, 2) := by decide +kernel
theorem dX6_layCosts_18 : decode cX6_layCosts 18 = .ok (.iload 4, 2) := by decide +kernel
theorem dX6_layCosts_20 : decode cX6_layCosts 20 = .ok (.bipush 11, 2) := by decide +kernel
theorem dX6_layCosts_22 : decode cX6_layCosts 22 = .ok (.if_icmp .ge 47, 3) := by decide +kernel
theorem dX6_layCosts_25 : decode cX6_layCosts 25 = .ok (.aload_n 0, 1) := by decide +kernel
theorem dX6_layCosts_26 : decode cX6_layCosts 26 = .ok (.iload_n 2, 1) := by decide +kernel
theorem dX6_layCosts_27 : decode cX6_layCosts 27 = .ok (.iload_n 3, 1) := by decide +kernel
theorem dX6_layCosts_28 : decode cX6_layCosts 28 = .ok (.iload 4, 2) := by decide +kernel
theorem dX6_layCosts_30 : decode cX6_layCosts 30 = .ok (.invokevirtual 144, 3) := by decide +kernel
theorem dX6_layCosts_33 : decode cX6_layCosts 33 = .ok (.istore 5, 2) := by decide +kernel
theorem dX6_layCosts_35 : decode cX6_layCosts 35 = .ok (.aload_n 0, 1) := by decide +kernel
theorem dX6_layCosts_36 : decode cX6_layCosts 36 = .ok (.getfield 63, 3) := by decide +kernel
theorem dX6_layCosts_39 : decode cX6_layCosts 39 = .ok (.iload_n 2, 1) := by decide +kernel
theorem dX6_layCosts_40 : decode cX6_layCosts 40 = .ok (.iload_n 3, 1) := by decide +kernel
theorem dX6_layCosts_41 : decode cX6_layCosts 41 = .ok (.iload 4, 2) := by decide +kernel
theorem dX6_layCosts_43 : decode cX6_layCosts 43 = .ok (.invokestatic 130, 3) := by decide +kernel
theorem dX6_layCosts_46 : decode cX6_layCosts 46 = .ok (.iload 5, 2) := by decide +kernel
theorem dX6_layCosts_48 : decode cX6_layCosts 48 = .ok (.sipush 1000, 3) := by decide +kernel
theorem dX6_layCosts_51 : decode cX6_layCosts 51 = .ok (.if_icmp .le 9, 3) := by decide +kernel
theorem dX6_layCosts_54 : decode cX6_layCosts 54 = .ok (.sipush 1000, 3) := by decide +kernel
theorem dX6_layCosts_57 : decode cX6_layCosts 57 = .ok (.goto 5, 3) := by decide +kernel
theorem dX6_layCosts_60 : decode cX6_layCosts 60 = .ok (.iload 5, 2) := by decide +kernel
theorem dX6_layCosts_62 : decode cX6_layCosts 62 = .ok (.iastore, 1) := by decide +kernel
theorem dX6_layCosts_63 : decode cX6_layCosts 63 = .ok (.iinc 4 1, 3) := by decide +kernel
theorem dX6_layCosts_66 : decode cX6_layCosts 66 = .ok (.goto (-48), 3) := by decide +kernel
theorem dX6_layCosts_69 : decode cX6_layCosts 69 = .ok (.iinc 3 1, 3) := by decide +kernel
theorem dX6_layCosts_72 : decode cX6_layCosts 72 = .ok (.goto (-63), 3) := by decide +kernel
theorem dX6_layCosts_75 : decode cX6_layCosts 75 = .ok (.iinc 2 1, 3) := by decide +kernel
theorem dX6_layCosts_78 : decode cX6_layCosts 78 = .ok (.goto (-76), 3) := by decide +kernel
theorem dX6_layCosts_81 : decode cX6_layCosts 81 = .ok (.return_, 1) := by decide +kernel
theorem dX6_push_0 : decode cX6_push 0 = .ok (.aload_n 0, 1) := by decide +kernel
theorem dX6_push_1 : decode cX6_push 1 = .ok (.getfield 66, 3) := by decide +kernel
theorem dX6_push_4 : decode cX6_push 4 = .ok (.iconst 4, 1) := by decide +kernel
theorem dX6_push_5 : decode cX6_push 5 = .ok (.aload_n 0, 1) := by decide +kernel
theorem dX6_push_6 : decode cX6_push 6 = .ok (.getfield 147, 3) := by decide +kernel
theorem dX6_push_9 : decode cX6_push 9 = .ok (.imul, 1) := by decide +kernel
theorem dX6_push_10 : decode cX6_push 10 = .ok (.iload_n 1, 1) := by decide +kernel
theorem dX6_push_11 : decode cX6_push 11 = .ok (.iastore, 1) := by decide +kernel
theorem dX6_push_12 : decode cX6_push 12 = .ok (.aload_n 0, 1) := by decide +kernel
theorem dX6_push_13 : decode cX6_push 13 = .ok (.getfield 66, 3) := by decide +kernel
theorem dX6_push_16 : decode cX6_push 16 = .ok (.iconst 4, 1) := by decide +kernel
theorem dX6_push_17 : decode cX6_push 17 = .ok (.aload_n 0, 1) := by decide +kernel
theorem dX6_push_18 : decode cX6_push 18 = .ok (.getfield 147, 3) := by decide +kernel
theorem dX6_push_21 : decode cX6_push 21 = .ok (.imul, 1) := by decide +kernel
theorem dX6_push_22 : decode cX6_push 22 = .ok (.iconst 1, 1) := by decide +kernel
theorem dX6_push_23 : decode cX6_push 23 = .ok (.iadd, 1) := by decide +kernel
theorem dX6_push_24 : decode cX6_push 24 = .ok (.iload_n 2, 1) := by decide +kernel
theorem dX6_push_25 : decode cX6_push 25 = .ok (.iastore, 1) := by decide +kernel
theorem dX6_push_26 : decode cX6_push 26 = .ok (.aload_n 0, 1) := by decide +kernel
theorem dX6_push_27 : decode cX6_push 27 = .ok (.getfield 66, 3) := by decide +kernel
theorem dX6_push_30 : decode cX6_push 30 = .ok (.iconst 4, 1) := by decide +kernel
theorem dX6_push_31 : decode cX6_push 31 = .ok (.aload_n 0, 1) := by decide +kernel
theorem dX6_push_32 : decode cX6_push 32 = .ok (.getfield 147, 3) := by decide +kernel
theorem dX6_push_35 : decode cX6_push 35 = .ok (.imul, 1) := by decide +kernel
theorem dX6_push_36 : decode cX6_push 36 = .ok (.iconst 2, 1) := by decide +kernel
theorem dX6_push_37 : decode cX6_push 37 = .ok (.iadd, 1) := by decide +kernel
theorem dX6_push_38 : decode cX6_push 38 = .ok (.iload_n 3, 1) := by decide +kernel
theorem dX6_push_39 : decode cX6_push 39 = .ok (.iastore, 1) := by decide +kernel
theorem dX6_push_40 : decode cX6_push 40 = .ok (.aload_n 0, 1) := by decide +kernel
theorem dX6_push_41 : decode cX6_push 41 = .ok (.getfield 66, 3) := by decide +kernel
theorem dX6_push_44 : decode cX6_push 44 = .ok (.iconst 4, 1) := by decide +kernel
theorem dX6_push_45 : decode cX6_push 45 = .ok (.aload_n 0, 1) := by decide +kernel
theorem dX6_push_46 : decode cX6_push 46 = .ok (.getfield 147, 3) := by decide +kernel
theorem dX6_push_49 : decode cX6_push 49 = .ok (.imul, 1) := by decide +kernel
theorem dX6_push_50 : decode cX6_push 50 = .ok (.iconst 3, 1) := by decide +kernel
theorem dX6_push_51 : decode cX6_push 51 = .ok (.iadd, 1) := by decide +kernel
theorem dX6_push_52 : decode cX6_push 52 = .ok (.iload 4, 2) := by decide +kernel
theorem dX6_push_54 : decode cX6_push 54 = .ok (.iastore, 1) := by decide +kernel
theorem dX6_push_55 : decode cX6_push 55 = .ok (.aload_n 0, 1) := by decide +kernel
theorem dX6_push_56 : decode cX6_push 56 = .ok (.dup, 1) := by decide +kernel
theorem dX6_push_57 : decode cX6_push 57 = .ok (.getfield 147, 3) := by decide +kernel
theorem dX6_push_60 : decode cX6_push 60 = .ok (.iconst 1, 1) := by decide +kernel
theorem dX6_push_61 : decode cX6_push 61 = .ok (.iadd, 1) := by decide +kernel
theorem dX6_push_62 : decode cX6_push 62 = .ok (.putfield 147, 3) := by decide +kernel
theorem dX6_push_65 : decode cX6_push 65 = .ok (.return_, 1) := by decide +kernel
theorem dX6_pushOperand_0 : decode cX6_pushOperand 0 = .ok (.aload_n 0, 1) := by decide +kernel
theorem dX6_pushOperand_1 : decode cX6_pushOperand 1 = .ok (.getfield 26, 3) := by decide +kernel
theorem dX6_pushOperand_4 : decode cX6_pushOperand 4 = .ok (.iload_n 2, 1) := by decide +kernel
theorem dX6_pushOperand_5 : decode cX6_pushOperand 5 = .ok (.iaload, 1) := by decide +kernel
theorem dX6_pushOperand_6 : decode cX6_pushOperand 6 = .ok (.ifCond .ge 13, 3) := by decide +kernel
theorem dX6_pushOperand_9 : decode cX6_pushOperand 9 = .ok (.aload_n 0, 1) := by decide +kernel
theorem dX6_pushOperand_10 : decode cX6_pushOperand 10 = .ok (.iload_n 2, 1) := by decide +kernel
theorem dX6_pushOperand_11 : decode cX6_pushOperand 11 = .ok (.bipush (-10), 2) := by decide +kernel
theorem dX6_pushOperand_13 : decode cX6_pushOperand 13 = .ok (.iconst 0, 1) := by decide +kernel
theorem dX6_pushOperand_14 : decode cX6_pushOperand 14 = .ok (.iconst 0, 1) := by decide +kernel
theorem dX6_pushOperand_15 : decode cX6_pushOperand 15 = .ok (.invokevirtual 150, 3) := by decide +kernel
theorem dX6_pushOperand_18 : decode cX6_pushOperand 18 = .ok (.return_, 1) := by decide +kernel
theorem dX6_pushOperand_19 : decode cX6_pushOperand 19 = .ok (.iload 6, 2) := by decide +kernel
theorem dX6_pushOperand_21 : decode cX6_pushOperand 21 = .ok (.ifCond .ne 34, 3) := by decide +kernel
theorem dX6_pushOperand_24 : decode cX6_pushOperand 24 = .ok (.aload_n 0, 1) := by decide +kernel
theorem dX6_pushOperand_25 : decode cX6_pushOperand 25 = .ok (.iload_n 1, 1) := by decide +kernel
theorem dX6_pushOperand_26 : decode cX6_pushOperand 26 = .ok (.iload_n 2, 1) := by decide +kernel
theorem dX6_pushOperand_27 : decode cX6_pushOperand 27 = .ok (.iload_n 3, 1) := by decide +kernel
theorem dX6_pushOperand_28 : decode cX6_pushOperand 28 = .ok (.iload 4, 2) := by decide +kernel
theorem dX6_pushOperand_30 : decode cX6_pushOperand 30 = .ok (.iload 5, 2) := by decide +kernel
theorem dX6_pushOperand_32 : decode cX6_pushOperand 32 = .ok (.invokevirtual 133, 3) := by decide +kernel
theorem dX6_pushOperand_35 : decode cX6_pushOperand 35 = .ok (.iconst 1, 1) := by decide +kernel
theorem dX6_pushOperand_36 : decode cX6_pushOperand 36 = .ok (.aload_n 0, 1) := by decide +kernel
theorem dX6_pushOperand_37 : decode cX6_pushOperand 37 = .ok (.getfield 63, 3) := by decide +kernel
theorem dX6_pushOperand_40 : decode cX6_pushOperand 40 = .ok (.iload_n 2, 1) := by decide +kernel
theorem dX6_pushOperand_41 : decode cX6_pushOperand 41 = .ok (.iconst 0, 1) := by decide +kernel
theorem dX6_pushOperand_42 : decode cX6_pushOperand 42 = .ok (.iconst 0, 1) := by decide +kernel
theorem dX6_pushOperand_43 : decode cX6_pushOperand 43 = .ok (.invokestatic 130, 3) := by decide +kernel
theorem dX6_pushOperand_46 : decode cX6_pushOperand 46 = .ok (.iaload, 1) := by decide +kernel
theorem dX6_pushOperand_47 : decode cX6_pushOperand 47 = .ok (.iadd, 1) := by decide +kernel
theorem dX6_pushOperand_48 : decode cX6_pushOperand 48 = .ok (.if_icmp .gt 7, 3) := by decide +kernel
theorem dX6_pushOperand_51 : decode cX6_pushOperand 51 = .ok (.iconst 1, 1) := by decide +kernel
theorem dX6_pushOperand_52 : decode cX6_pushOperand 52 = .ok (.goto 4, 3) := by decide +kernel
theorem dX6_pushOperand_55 : decode cX6_pushOperand 55 = .ok (.iconst 0, 1) := by decide +kernel
theorem dX6_pushOperand_56 : decode cX6_pushOperand 56 = .ok (.istore 7, 2) := by decide +kernel
theorem dX6_pushOperand_58 : decode cX6_pushOperand 58 = .ok (.iload 7, 2) := by decide +kernel
theorem dX6_pushOperand_60 : decode cX6_pushOperand 60 = .ok (.ifCond .eq 16, 3) := by decide +kernel
theorem dX6_pushOperand_63 : decode cX6_pushOperand 63 = .ok (.aload_n 0, 1) := by decide +kernel
theorem dX6_pushOperand_64 : decode cX6_pushOperand 64 = .ok (.iload_n 2, 1) := by decide +kernel
theorem dX6_pushOperand_65 : decode cX6_pushOperand 65 = .ok (.bipush (-10), 2) := by decide +kernel
theorem dX6_pushOperand_67 : decode cX6_pushOperand 67 = .ok (.iload_n 3, 1) := by decide +kernel
theorem dX6_pushOperand_68 : decode cX6_pushOperand 68 = .ok (.iload 4, 2) := by decide +kernel
theorem dX6_pushOperand_70 : decode cX6_pushOperand 70 = .ok (.invokevirtual 150, 3) := by decide +kernel
theorem dX6_pushOperand_73 : decode cX6_pushOperand 73 = .ok (.goto 32, 3) := by decide +kernel
theorem dX6_pushOperand_76 : decode cX6_pushOperand 76 = .ok (.aload_n 0, 1) := by decide +kernel
theorem dX6_pushOperand_77 : decode cX6_pushOperand 77 = .ok (.bipush (-10), 2) := by decide +kernel
theorem dX6_pushOperand_79 : decode cX6_pushOperand 79 = .ok (.bipush 41, 2) := by decide +kernel
theorem dX6_pushOperand_81 : decode cX6_pushOperand 81 = .ok (.iconst 0, 1) := by decide +kernel
theorem dX6_pushOperand_82 : decode cX6_pushOperand 82 = .ok (.iconst 0, 1) := by decide +kernel
theorem dX6_pushOperand_83 : decode cX6_pushOperand 83 = .ok (.invokevirtual 150, 3) := by decide +kernel
theorem dX6_pushOperand_86 : decode cX6_pushOperand 86 = .ok (.aload_n 0, 1) := by decide +kernel
theorem dX6_pushOperand_87 : decode cX6_pushOperand 87 = .ok (.iload_n 2, 1) := by decide +kernel
theorem dX6_pushOperand_88 : decode cX6_pushOperand 88 = .ok (.bipush (-10), 2) := by decide +kernel
theorem dX6_pushOperand_90 : decode cX6_pushOperand 90 = .ok (.iconst 0, 1) := by decide +kernel
theorem dX6_pushOperand_91 : decode cX6_pushOperand 91 = .ok (.iconst 0, 1) := by decide +kernel
theorem dX6_pushOperand_92 : decode cX6_pushOperand 92 = .ok (.invokevirtual 150, 3) := by decide +kernel
theorem dX6_pushOperand_95 : decode cX6_pushOperand 95 = .ok (.aload_n 0, 1) := by decide +kernel
theorem dX6_pushOperand_96 : decode cX6_pushOperand 96 = .ok (.bipush (-10), 2) := by decide +kernel
theorem dX6_pushOperand_98 : decode cX6_pushOperand 98 = .ok (.bipush 40, 2) := by decide +kernel
theorem dX6_pushOperand_100 : decode cX6_pushOperand 100 = .ok (.iconst 0, 1) := by decide +kernel
theorem dX6_pushOperand_101 : decode cX6_pushOperand 101 = .ok (.iconst 0, 1) := by decide +kernel
theorem dX6_pushOperand_102 : decode cX6_pushOperand 102 = .ok (.invokevirtual 150, 3) := by decide +kernel
theorem dX6_pushOperand_105 : decode cX6_pushOperand 105 = .ok (.return_, 1) := by decide +kernel
theorem dX6_write_0 : decode cX6_write 0 = .ok (.aload_n 0, 1) := by decide +kernel
theorem dX6_write_1 : decode cX6_write 1 = .ok (.getfield 41, 3) := by decide +kernel
theorem dX6_write_4 : decode cX6_write 4 = .ok (.aload_n 0, 1) := by decide +kernel
theorem dX6_write_5 : decode cX6_write 5 = .ok (.getfield 154, 3) := by decide +kernel
theorem dX6_write_8 : decode cX6_write 8 = .ok (.iload_n 1, 1) := by decide +kernel
theorem dX6_write_9 : decode cX6_write 9 = .ok (.iastore, 1) := by decide +kernel
theorem dX6_write_10 : decode cX6_write 10 = .ok (.aload_n 0, 1) := by decide +kernel
theorem dX6_write_11 : decode cX6_write 11 = .ok (.dup, 1) := by decide +kernel
theorem dX6_write_12 : decode cX6_write 12 = .ok (.getfield 154, 3) := by decide +kernel
theorem dX6_write_15 : decode cX6_write 15 = .ok (.iconst 1, 1) := by decide +kernel
theorem dX6_write_16 : decode cX6_write 16 = .ok (.iadd, 1) := by decide +kernel
theorem dX6_write_17 : decode cX6_write 17 = .ok (.putfield 154, 3) := by decide +kernel
theorem dX6_write_20 : decode cX6_write 20 = .ok (.return_, 1) := by decide +kernel
end
section
/-! ===== decode rows (as printed) ===== -/
theorem dX6_pushParts_0 : decode cX6_pushParts 0 = .ok (.aload_n 0, 1) := by decide +kernel
theorem dX6_pushParts_1 : decode cX6_pushParts 1 = .ok (.getfield 26, 3) := by decide +kernel
theorem dX6_pushParts_4 : decode cX6_pushParts 4 = .ok (.iload_n 1, 1) := by decide +kernel
theorem dX6_pushParts_5 : decode cX6_pushParts 5 = .ok (.iaload, 1) := by decide +kernel
theorem dX6_pushParts_6 : decode cX6_pushParts 6 = .ok (.istore 5, 2) := by decide +kernel
theorem dX6_pushParts_8 : decode cX6_pushParts 8 = .ok (.aload_n 0, 1) := by decide +kernel
theorem dX6_pushParts_9 : decode cX6_pushParts 9 = .ok (.getfield 13, 3) := by decide +kernel
theorem dX6_pushParts_12 : decode cX6_pushParts 12 = .ok (.iload 5, 2) := by decide +kernel
theorem dX6_pushParts_14 : decode cX6_pushParts 14 = .ok (.iaload, 1) := by decide +kernel
theorem dX6_pushParts_15 : decode cX6_pushParts 15 = .ok (.iconst 1, 1) := by decide +kernel
theorem dX6_pushParts_16 : decode cX6_pushParts 16 = .ok (.if_icmp .ne 44, 3) := by decide +kernel
theorem dX6_pushParts_19 : decode cX6_pushParts 19 = .ok (.aload_n 0, 1) := by decide +kernel
theorem dX6_pushParts_20 : decode cX6_pushParts 20 = .ok (.iload 5, 2) := by decide +kernel
theorem dX6_pushParts_22 : decode cX6_pushParts 22 = .ok (.aload_n 0, 1) := by decide +kernel
theorem dX6_pushParts_23 : decode cX6_pushParts 23 = .ok (.getfield 32, 3) := by decide +kernel
theorem dX6_pushParts_26 : decode cX6_pushParts 26 = .ok (.iload_n 1, 1) := by decide +kernel
theorem dX6_pushParts_27 : decode cX6_pushParts 27 = .ok (.iaload, 1) := by decide +kernel
theorem dX6_pushParts_28 : decode cX6_pushParts 28 = .ok (.aload_n 0, 1) := by decide +kernel
theorem dX6_pushParts_29 : decode cX6_pushParts 29 = .ok (.getfield 16, 3) := by decide +kernel
theorem dX6_pushParts_32 : decode cX6_pushParts 32 = .ok (.iload 5, 2) := by decide +kernel
theorem dX6_pushParts_34 : decode cX6_pushParts 34 = .ok (.iaload, 1) := by decide +kernel
theorem dX6_pushParts_35 : decode cX6_pushParts 35 = .ok (.iload_n 3, 1) := by decide +kernel
theorem dX6_pushParts_36 : decode cX6_pushParts 36 = .ok (.iconst 0, 1) := by decide +kernel
theorem dX6_pushParts_37 : decode cX6_pushParts 37 = .ok (.iload 4, 2) := by decide +kernel
theorem dX6_pushParts_39 : decode cX6_pushParts 39 = .ok (.invokevirtual 157, 3) := by decide +kernel
theorem dX6_pushParts_42 : decode cX6_pushParts 42 = .ok (.aload_n 0, 1) := by decide +kernel
theorem dX6_pushParts_43 : decode cX6_pushParts 43 = .ok (.bipush (-10), 2) := by decide +kernel
theorem dX6_pushParts_45 : decode cX6_pushParts 45 = .ok (.aload_n 0, 1) := by decide +kernel
theorem dX6_pushParts_46 : decode cX6_pushParts 46 = .ok (.getfield 7, 3) := by decide +kernel
theorem dX6_pushParts_49 : decode cX6_pushParts 49 = .ok (.iload 5, 2) := by decide +kernel
theorem dX6_pushParts_51 : decode cX6_pushParts 51 = .ok (.iaload, 1) := by decide +kernel
theorem dX6_pushParts_52 : decode cX6_pushParts 52 = .ok (.iconst 0, 1) := by decide +kernel
theorem dX6_pushParts_53 : decode cX6_pushParts 53 = .ok (.iconst 0, 1) := by decide +kernel
theorem dX6_pushParts_54 : decode cX6_pushParts 54 = .ok (.invokevirtual 150, 3) := by decide +kernel
theorem dX6_pushParts_57 : decode cX6_pushParts 57 = .ok (.goto 73, 3) := by decide +kernel
theorem dX6_pushParts_60 : decode cX6_pushParts 60 = .ok (.aload_n 0, 1) := by decide +kernel
theorem dX6_pushParts_61 : decode cX6_pushParts 61 = .ok (.getfield 13, 3) := by decide +kernel
theorem dX6_pushParts_64 : decode cX6_pushParts 64 = .ok (.iload 5, 2) := by decide +kernel
theorem dX6_pushParts_66 : decode cX6_pushParts 66 = .ok (.iaload, 1) := by decide +kernel
theorem dX6_pushParts_67 : decode cX6_pushParts 67 = .ok (.ifCond .ne 25, 3) := by decide +kernel
theorem dX6_pushParts_70 : decode cX6_pushParts 70 = .ok (.aload_n 0, 1) := by decide +kernel
theorem dX6_pushParts_71 : decode cX6_pushParts 71 = .ok (.iload 5, 2) := by decide +kernel
theorem dX6_pushParts_73 : decode cX6_pushParts 73 = .ok (.aload_n 0, 1) := by decide +kernel
theorem dX6_pushParts_74 : decode cX6_pushParts 74 = .ok (.getfield 35, 3) := by decide +kernel
theorem dX6_pushParts_77 : decode cX6_pushParts 77 = .ok (.iload_n 1, 1) := by decide +kernel
theorem dX6_pushParts_78 : decode cX6_pushParts 78 = .ok (.iaload, 1) := by decide +kernel
theorem dX6_pushParts_79 : decode cX6_pushParts 79 = .ok (.aload_n 0, 1) := by decide +kernel
theorem dX6_pushParts_80 : decode cX6_pushParts 80 = .ok (.iload 5, 2) := by decide +kernel
theorem dX6_pushParts_82 : decode cX6_pushParts 82 = .ok (.invokevirtual 140, 3) := by decide +kernel
theorem dX6_pushParts_85 : decode cX6_pushParts 85 = .ok (.iload_n 3, 1) := by decide +kernel
theorem dX6_pushParts_86 : decode cX6_pushParts 86 = .ok (.iconst 0, 1) := by decide +kernel
theorem dX6_pushParts_87 : decode cX6_pushParts 87 = .ok (.iload 4, 2) := by decide +kernel
theorem dX6_pushParts_89 : decode cX6_pushParts 89 = .ok (.invokevirtual 157, 3) := by decide +kernel
theorem dX6_pushParts_92 : decode cX6_pushParts 92 = .ok (.aload_n 0, 1) := by decide +kernel
theorem dX6_pushParts_93 : decode cX6_pushParts 93 = .ok (.bipush (-10), 2) := by decide +kernel
theorem dX6_pushParts_95 : decode cX6_pushParts 95 = .ok (.aload_n 0, 1) := by decide +kernel
theorem dX6_pushParts_96 : decode cX6_pushParts 96 = .ok (.getfield 7, 3) := by decide +kernel
theorem dX6_pushParts_99 : decode cX6_pushParts 99 = .ok (.iload 5, 2) := by decide +kernel
theorem dX6_pushParts_101 : decode cX6_pushParts 101 = .ok (.iaload, 1) := by decide +kernel
theorem dX6_pushParts_102 : decode cX6_pushParts 102 = .ok (.iconst 0, 1) := by decide +kernel
theorem dX6_pushParts_103 : decode cX6_pushParts 103 = .ok (.iconst 0, 1) := by decide +kernel
theorem dX6_pushParts_104 : decode cX6_pushParts 104 = .ok (.invokevirtual 150, 3) := by decide +kernel
theorem dX6_pushParts_107 : decode cX6_pushParts 107 = .ok (.aload_n 0, 1) := by decide +kernel
theorem dX6_pushParts_108 : decode cX6_pushParts 108 = .ok (.iload 5, 2) := by decide +kernel
theorem dX6_pushParts_110 : decode cX6_pushParts 110 = .ok (.aload_n 0, 1) := by decide +kernel
theorem dX6_pushParts_111 : decode cX6_pushParts 111 = .ok (.getfield 32, 3) := by decide +kernel
theorem dX6_pushParts_114 : decode cX6_pushParts 114 = .ok (.iload_n 1, 1) := by decide +kernel
theorem dX6_pushParts_115 : decode cX6_pushParts 115 = .ok (.iaload, 1) := by decide +kernel
theorem dX6_pushParts_116 : decode cX6_pushParts 116 = .ok (.iload_n 2, 1) := by decide +kernel
theorem dX6_pushParts_117 : decode cX6_pushParts 117 = .ok (.aload_n 0, 1) := by decide +kernel
theorem dX6_pushParts_118 : decode cX6_pushParts 118 = .ok (.getfield 16, 3) := by decide +kernel
theorem dX6_pushParts_121 : decode cX6_pushParts 121 = .ok (.iload 5, 2) := by decide +kernel
theorem dX6_pushParts_123 : decode cX6_pushParts 123 = .ok (.iaload, 1) := by decide +kernel
theorem dX6_pushParts_124 : decode cX6_pushParts 124 = .ok (.iconst 1, 1) := by decide +kernel
theorem dX6_pushParts_125 : decode cX6_pushParts 125 = .ok (.iload 4, 2) := by decide +kernel
theorem dX6_pushParts_127 : decode cX6_pushParts 127 = .ok (.invokevirtual 157, 3) := by decide +kernel
theorem dX6_pushParts_130 : decode cX6_pushParts 130 = .ok (.return_, 1) := by decide +kernel
theorem dX6_printTree_0 : decode cX6_printTree 0 = .ok (.aload_n 0, 1) := by decide +kernel
theorem dX6_printTree_1 : decode cX6_printTree 1 = .ok (.iload_n 1, 1) := by decide +kernel
theorem dX6_printTree_2 : decode cX6_printTree 2 = .ok (.invokevirtual 161, 3) := by decide +kernel
theorem dX6_printTree_5 : decode cX6_printTree 5 = .ok (.aload_n 0, 1) := by decide +kernel
theorem dX6_printTree_6 : decode cX6_printTree 6 = .ok (.iconst 0, 1) := by decide +kernel
theorem dX6_printTree_7 : decode cX6_printTree 7 = .ok (.putfield 154, 3) := by decide +kernel
theorem dX6_printTree_10 : decode cX6_printTree 10 = .ok (.aload_n 0, 1) := by decide +kernel
theorem dX6_printTree_11 : decode cX6_printTree 11 = .ok (.iconst 0, 1) := by decide +kernel
theorem dX6_printTree_12 : decode cX6_printTree 12 = .ok (.putfield 147, 3) := by decide +kernel
theorem dX6_printTree_15 : decode cX6_printTree 15 = .ok (.aload_n 0, 1) := by decide +kernel
theorem dX6_printTree_16 : decode cX6_printTree 16 = .ok (.iload_n 1, 1) := by decide +kernel
theorem dX6_printTree_17 : decode cX6_printTree 17 = .ok (.bipush (-10), 2) := by decide +kernel
theorem dX6_printTree_19 : decode cX6_printTree 19 = .ok (.iconst 0, 1) := by decide +kernel
theorem dX6_printTree_20 : decode cX6_printTree 20 = .ok (.iconst 0, 1) := by decide +kernel
theorem dX6_printTree_21 : decode cX6_printTree 21 = .ok (.invokevirtual 150, 3) := by decide +kernel
theorem dX6_printTree_24 : decode cX6_printTree 24 = .ok (.aload_n 0, 1) := by decide +kernel
theorem dX6_printTree_25 : decode cX6_printTree 25 = .ok (.getfield 147, 3) := by decide +kernel
theorem dX6_printTree_28 : decode cX6_printTree 28 = .ok (.ifCond .le 110, 3) := by decide +kernel
theorem dX6_printTree_31 : decode cX6_printTree 31 = .ok (.aload_n 0, 1) := by decide +kernel
theorem dX6_printTree_32 : decode cX6_printTree 32 = .ok (.dup, 1) := by decide +kernel
theorem dX6_printTree_33 : decode cX6_printTree 33 = .ok (.getfield 147, 3) := by decide +kernel
theorem dX6_printTree_36 : decode cX6_printTree 36 = .ok (.iconst 1, 1) := by decide +kernel
theorem dX6_printTree_37 : decode cX6_printTree 37 = .ok (.isub, 1) := by decide +kernel
theorem dX6_printTree_38 : decode cX6_printTree 38 = .ok (.putfield 147, 3) := by decide +kernel
theorem dX6_printTree_41 : decode cX6_printTree 41 = .ok (.aload_n 0, 1) := by decide +kernel
theorem dX6_printTree_42 : decode cX6_printTree 42 = .ok (.getfield 66, 3) := by decide +kernel
theorem dX6_printTree_45 : decode cX6_printTree 45 = .ok (.iconst 4, 1) := by decide +kernel
theorem dX6_printTree_46 : decode cX6_printTree 46 = .ok (.aload_n 0, 1) := by decide +kernel
theorem dX6_printTree_47 : decode cX6_printTree 47 = .ok (.getfield 147, 3) := by decide +kernel
theorem dX6_printTree_50 : decode cX6_printTree 50 = .ok (.imul, 1) := by decide +kernel
theorem dX6_printTree_51 : decode cX6_printTree 51 = .ok (.iaload, 1) := by decide +kernel
theorem dX6_printTree_52 : decode cX6_printTree 52 = .ok (.istore_n 3, 1) := by decide +kernel
theorem dX6_printTree_53 : decode cX6_printTree 53 = .ok (.aload_n 0, 1) := by decide +kernel
theorem dX6_printTree_54 : decode cX6_printTree 54 = .ok (.getfield 66, 3) := by decide +kernel
theorem dX6_printTree_57 : decode cX6_printTree 57 = .ok (.iconst 4, 1) := by decide +kernel
theorem dX6_printTree_58 : decode cX6_printTree 58 = .ok (.aload_n 0, 1) := by decide +kernel
theorem dX6_printTree_59 : decode cX6_printTree 59 = .ok (.getfield 147, 3) := by decide +kernel
theorem dX6_printTree_62 : decode cX6_printTree 62 = .ok (.imul, 1) := by decide +kernel
theorem dX6_printTree_63 : decode cX6_printTree 63 = .ok (.iconst 1, 1) := by decide +kernel
theorem dX6_printTree_64 : decode cX6_printTree 64 = .ok (.iadd, 1) := by decide +kernel
theorem dX6_printTree_65 : decode cX6_printTree 65 = .ok (.iaload, 1) := by decide +kernel
theorem dX6_printTree_66 : decode cX6_printTree 66 = .ok (.istore 4, 2) := by decide +kernel
theorem dX6_printTree_68 : decode cX6_printTree 68 = .ok (.iload_n 3, 1) := by decide +kernel
theorem dX6_printTree_69 : decode cX6_printTree 69 = .ok (.ifCond .ge 12, 3) := by decide +kernel
theorem dX6_printTree_72 : decode cX6_printTree 72 = .ok (.aload_n 0, 1) := by decide +kernel
theorem dX6_printTree_73 : decode cX6_printTree 73 = .ok (.iload 4, 2) := by decide +kernel
theorem dX6_printTree_75 : decode cX6_printTree 75 = .ok (.invokevirtual 165, 3) := by decide +kernel
theorem dX6_printTree_78 : decode cX6_printTree 78 = .ok (.goto 57, 3) := by decide +kernel
theorem dX6_printTree_81 : decode cX6_printTree 81 = .ok (.aload_n 0, 1) := by decide +kernel
theorem dX6_printTree_82 : decode cX6_printTree 82 = .ok (.getfield 26, 3) := by decide +kernel
theorem dX6_printTree_85 : decode cX6_printTree 85 = .ok (.iload_n 3, 1) := by decide +kernel
theorem dX6_printTree_86 : decode cX6_printTree 86 = .ok (.iaload, 1) := by decide +kernel
theorem dX6_printTree_87 : decode cX6_printTree 87 = .ok (.ifCond .ge 16, 3) := by decide +kernel
theorem dX6_printTree_90 : decode cX6_printTree 90 = .ok (.aload_n 0, 1) := by decide +kernel
theorem dX6_printTree_91 : decode cX6_printTree 91 = .ok (.aload_n 0, 1) := by decide +kernel
theorem dX6_printTree_92 : decode cX6_printTree 92 = .ok (.getfield 29, 3) := by decide +kernel
theorem dX6_printTree_95 : decode cX6_printTree 95 = .ok (.iload_n 3, 1) := by decide +kernel
theorem dX6_printTree_96 : decode cX6_printTree 96 = .ok (.iaload, 1) := by decide +kernel
theorem dX6_printTree_97 : decode cX6_printTree 97 = .ok (.invokevirtual 165, 3) := by decide +kernel
theorem dX6_printTree_100 : decode cX6_printTree 100 = .ok (.goto 35, 3) := by decide +kernel
theorem dX6_printTree_103 : decode cX6_printTree 103 = .ok (.aload_n 0, 1) := by decide +kernel
theorem dX6_printTree_104 : decode cX6_printTree 104 = .ok (.iload_n 3, 1) := by decide +kernel
theorem dX6_printTree_105 : decode cX6_printTree 105 = .ok (.aload_n 0, 1) := by decide +kernel
theorem dX6_printTree_106 : decode cX6_printTree 106 = .ok (.getfield 66, 3) := by decide +kernel
theorem dX6_printTree_109 : decode cX6_printTree 109 = .ok (.iconst 4, 1) := by decide +kernel
theorem dX6_printTree_110 : decode cX6_printTree 110 = .ok (.aload_n 0, 1) := by decide +kernel
theorem dX6_printTree_111 : decode cX6_printTree 111 = .ok (.getfield 147, 3) := by decide +kernel
theorem dX6_printTree_114 : decode cX6_printTree 114 = .ok (.imul, 1) := by decide +kernel
theorem dX6_printTree_115 : decode cX6_printTree 115 = .ok (.iconst 2, 1) := by decide +kernel
theorem dX6_printTree_116 : decode cX6_printTree 116 = .ok (.iadd, 1) := by decide +kernel
theorem dX6_printTree_117 : decode cX6_printTree 117 = .ok (.iaload, 1) := by decide +kernel
theorem dX6_printTree_118 : decode cX6_printTree 118 = .ok (.aload_n 0, 1) := by decide +kernel
theorem dX6_printTree_119 : decode cX6_printTree 119 = .ok (.getfield 66, 3) := by decide +kernel
theorem dX6_printTree_122 : decode cX6_printTree 122 = .ok (.iconst 4, 1) := by decide +kernel
theorem dX6_printTree_123 : decode cX6_printTree 123 = .ok (.aload_n 0, 1) := by decide +kernel
theorem dX6_printTree_124 : decode cX6_printTree 124 = .ok (.getfield 147, 3) := by decide +kernel
theorem dX6_printTree_127 : decode cX6_printTree 127 = .ok (.imul, 1) := by decide +kernel
theorem dX6_printTree_128 : decode cX6_printTree 128 = .ok (.iconst 3, 1) := by decide +kernel
theorem dX6_printTree_129 : decode cX6_printTree 129 = .ok (.iadd, 1) := by decide +kernel
theorem dX6_printTree_130 : decode cX6_printTree 130 = .ok (.iaload, 1) := by decide +kernel
theorem dX6_printTree_131 : decode cX6_printTree 131 = .ok (.iload_n 2, 1) := by decide +kernel
theorem dX6_printTree_132 : decode cX6_printTree 132 = .ok (.invokevirtual 168, 3) := by decide +kernel
theorem dX6_printTree_135 : decode cX6_printTree 135 = .ok (.goto (-111), 3) := by decide +kernel
theorem dX6_printTree_138 : decode cX6_printTree 138 = .ok (.aload_n 0, 1) := by decide +kernel
theorem dX6_printTree_139 : decode cX6_printTree 139 = .ok (.iload_n 1, 1) := by decide +kernel
theorem dX6_printTree_140 : decode cX6_printTree 140 = .ok (.putfield 44, 3) := by decide +kernel
theorem dX6_printTree_143 : decode cX6_printTree 143 = .ok (.aload_n 0, 1) := by decide +kernel
theorem dX6_printTree_144 : decode cX6_printTree 144 = .ok (.getfield 154, 3) := by decide +kernel
theorem dX6_printTree_147 : decode cX6_printTree 147 = .ok (.ireturn, 1) := by decide +kernel
theorem dX6_print_0 : decode cX6_print 0 = .ok (.aload_n 0, 1) := by decide +kernel
theorem dX6_print_1 : decode cX6_print 1 = .ok (.iload_n 1, 1) := by decide +kernel
theorem dX6_print_2 : decode cX6_print 2 = .ok (.invokevirtual 116, 3) := by decide +kernel
theorem dX6_print_5 : decode cX6_print 5 = .ok (.ifCond .eq 12, 3) := by decide +kernel
theorem dX6_print_8 : decode cX6_print 8 = .ok (.aload_n 0, 1) := by decide +kernel
theorem dX6_print_9 : decode cX6_print 9 = .ok (.iload_n 1, 1) := by decide +kernel
theorem dX6_print_10 : decode cX6_print 10 = .ok (.iconst 0, 1) := by decide +kernel
theorem dX6_print_11 : decode cX6_print 11 = .ok (.invokevirtual 172, 3) := by decide +kernel
theorem dX6_print_14 : decode cX6_print 14 = .ok (.goto 4, 3) := by decide +kernel
theorem dX6_print_17 : decode cX6_print 17 = .ok (.iconst (-1), 1) := by decide +kernel
theorem dX6_print_18 : decode cX6_print 18 = .ok (.ireturn, 1) := by decide +kernel
theorem dX6_printFull_0 : decode cX6_printFull 0 = .ok (.aload_n 0, 1) := by decide +kernel
theorem dX6_printFull_1 : decode cX6_printFull 1 = .ok (.iload_n 1, 1) := by decide +kernel
theorem dX6_printFull_2 : decode cX6_printFull 2 = .ok (.invokevirtual 116, 3) := by decide +kernel
theorem dX6_printFull_5 : decode cX6_printFull 5 = .ok (.ifCond .eq 12, 3) := by decide +kernel
theorem dX6_printFull_8 : decode cX6_printFull 8 = .ok (.aload_n 0, 1) := by decide +kernel
theorem dX6_printFull_9 : decode cX6_printFull 9 = .ok (.iload_n 1, 1) := by decide +kernel
theorem dX6_printFull_10 : decode cX6_printFull 10 = .ok (.iconst 1, 1) := by decide +kernel
theorem dX6_printFull_11 : decode cX6_printFull 11 = .ok (.invokevirtual 172, 3) := by decide +kernel
theorem dX6_printFull_14 : decode cX6_printFull 14 = .ok (.goto 4, 3) := by decide +kernel
theorem dX6_printFull_17 : decode cX6_printFull 17 = .ok (.iconst (-1), 1) := by decide +kernel
theorem dX6_printFull_18 : decode cX6_printFull 18 = .ok (.ireturn, 1) := by decide +kernel
theorem dX6_outputAt_0 : decode cX6_outputAt 0 = .ok (.iload_n 1, 1) := by decide +kernel
theorem dX6_outputAt_1 : decode cX6_outputAt 1 = .ok (.iconst 0, 1) := by decide +kernel
theorem dX6_outputAt_2 : decode cX6_outputAt 2 = .ok (.aload_n 0, 1) := by decide +kernel
theorem dX6_outputAt_3 : decode cX6_outputAt 3 = .ok (.getfield 154, 3) := by decide +kernel
theorem dX6_outputAt_6 : decode cX6_outputAt 6 = .ok (.iconst 1, 1) := by decide +kernel
theorem dX6_outputAt_7 : decode cX6_outputAt 7 = .ok (.isub, 1) := by decide +kernel
theorem dX6_outputAt_8 : decode cX6_outputAt 8 = .ok (.invokestatic 90, 3) := by decide +kernel
theorem dX6_outputAt_11 : decode cX6_outputAt 11 = .ok (.ifCond .eq 12, 3) := by decide +kernel
theorem dX6_outputAt_14 : decode cX6_outputAt 14 = .ok (.aload_n 0, 1) := by decide +kernel
theorem dX6_outputAt_15 : decode cX6_outputAt 15 = .ok (.getfield 41, 3) := by decide +kernel
theorem dX6_outputAt_18 : decode cX6_outputAt 18 = .ok (.iload_n 1, 1) := by decide +kernel
theorem dX6_outputAt_19 : decode cX6_outputAt 19 = .ok (.iaload, 1) := by decide +kernel
theorem dX6_outputAt_20 : decode cX6_outputAt 20 = .ok (.goto 5, 3) := by decide +kernel
theorem dX6_outputAt_23 : decode cX6_outputAt 23 = .ok (.bipush (-9), 2) := by decide +kernel
theorem dX6_outputAt_25 : decode cX6_outputAt 25 = .ok (.ireturn, 1) := by decide +kernel
theorem dX6_bracketPairs_0 : decode cX6_bracketPairs 0 = .ok (.iconst 0, 1) := by decide +kernel
theorem dX6_bracketPairs_1 : decode cX6_bracketPairs 1 = .ok (.istore_n 1, 1) := by decide +kernel
theorem dX6_bracketPairs_2 : decode cX6_bracketPairs 2 = .ok (.iconst 0, 1) := by decide +kernel
theorem dX6_bracketPairs_3 : decode cX6_bracketPairs 3 = .ok (.istore_n 2, 1) := by decide +kernel
theorem dX6_bracketPairs_4 : decode cX6_bracketPairs 4 = .ok (.iload_n 2, 1) := by decide +kernel
theorem dX6_bracketPairs_5 : decode cX6_bracketPairs 5 = .ok (.aload_n 0, 1) := by decide +kernel
theorem dX6_bracketPairs_6 : decode cX6_bracketPairs 6 = .ok (.getfield 154, 3) := by decide +kernel
theorem dX6_bracketPairs_9 : decode cX6_bracketPairs 9 = .ok (.if_icmp .ge 28, 3) := by decide +kernel
theorem dX6_bracketPairs_12 : decode cX6_bracketPairs 12 = .ok (.iload_n 1, 1) := by decide +kernel
theorem dX6_bracketPairs_13 : decode cX6_bracketPairs 13 = .ok (.aload_n 0, 1) := by decide +kernel
theorem dX6_bracketPairs_14 : decode cX6_bracketPairs 14 = .ok (.getfield 41, 3) := by decide +kernel
theorem dX6_bracketPairs_17 : decode cX6_bracketPairs 17 = .ok (.iload_n 2, 1) := by decide +kernel
theorem dX6_bracketPairs_18 : decode cX6_bracketPairs 18 = .ok (.iaload, 1) := by decide +kernel
theorem dX6_bracketPairs_19 : decode cX6_bracketPairs 19 = .ok (.bipush 40, 2) := by decide +kernel
theorem dX6_bracketPairs_21 : decode cX6_bracketPairs 21 = .ok (.if_icmp .ne 7, 3) := by decide +kernel
theorem dX6_bracketPairs_24 : decode cX6_bracketPairs 24 = .ok (.iconst 1, 1) := by decide +kernel
theorem dX6_bracketPairs_25 : decode cX6_bracketPairs 25 = .ok (.goto 4, 3) := by decide +kernel
theorem dX6_bracketPairs_28 : decode cX6_bracketPairs 28 = .ok (.iconst 0, 1) := by decide +kernel
theorem dX6_bracketPairs_29 : decode cX6_bracketPairs 29 = .ok (.iadd, 1) := by decide +kernel
theorem dX6_bracketPairs_30 : decode cX6_bracketPairs 30 = .ok (.istore_n 1, 1) := by decide +kernel
theorem dX6_bracketPairs_31 : decode cX6_bracketPairs 31 = .ok (.iinc 2 1, 3) := by decide +kernel
theorem dX6_bracketPairs_34 : decode cX6_bracketPairs 34 = .ok (.goto (-30), 3) := by decide +kernel
theorem dX6_bracketPairs_37 : decode cX6_bracketPairs 37 = .ok (.iload_n 1, 1) := by decide +kernel
theorem dX6_bracketPairs_38 : decode cX6_bracketPairs 38 = .ok (.ireturn, 1) := by decide +kernel
theorem dX6_addRead_0 : decode cX6_addRead 0 = .ok (.aload_n 0, 1) := by decide +kernel
theorem dX6_addRead_1 : decode cX6_addRead 1 = .ok (.getfield 72, 3) := by decide +kernel
theorem dX6_addRead_4 : decode cX6_addRead 4 = .ok (.aload_n 0, 1) := by decide +kernel
theorem dX6_addRead_5 : decode cX6_addRead 5 = .ok (.getfield 175, 3) := by decide +kernel
theorem dX6_addRead_8 : decode cX6_addRead 8 = .ok (.iload_n 1, 1) := by decide +kernel
theorem dX6_addRead_9 : decode cX6_addRead 9 = .ok (.iastore, 1) := by decide +kernel
theorem dX6_addRead_10 : decode cX6_addRead 10 = .ok (.aload_n 0, 1) := by decide +kernel
theorem dX6_addRead_11 : decode cX6_addRead 11 = .ok (.getfield 75, 3) := by decide +kernel
theorem dX6_addRead_14 : decode cX6_addRead 14 = .ok (.aload_n 0, 1) := by decide +kernel
theorem dX6_addRead_15 : decode cX6_addRead 15 = .ok (.getfield 175, 3) := by decide +kernel
theorem dX6_addRead_18 : decode cX6_addRead 18 = .ok (.iload_n 2, 1) := by decide +kernel
theorem dX6_addRead_19 : decode cX6_addRead 19 = .ok (.iastore, 1) := by decide +kernel
theorem dX6_addRead_20 : decode cX6_addRead 20 = .ok (.aload_n 0, 1) := by decide +kernel
theorem dX6_addRead_21 : decode cX6_addRead 21 = .ok (.getfield 78, 3) := by decide +kernel
theorem dX6_addRead_24 : decode cX6_addRead 24 = .ok (.aload_n 0, 1) := by decide +kernel
theorem dX6_addRead_25 : decode cX6_addRead 25 = .ok (.getfield 175, 3) := by decide +kernel
theorem dX6_addRead_28 : decode cX6_addRead 28 = .ok (.iload_n 3, 1) := by decide +kernel
theorem dX6_addRead_29 : decode cX6_addRead 29 = .ok (.iastore, 1) := by decide +kernel
theorem dX6_addRead_30 : decode cX6_addRead 30 = .ok (.aload_n 0, 1) := by decide +kernel
theorem dX6_addRead_31 : decode cX6_addRead 31 = .ok (.getfield 81, 3) := by decide +kernel
theorem dX6_addRead_34 : decode cX6_addRead 34 = .ok (.aload_n 0, 1) := by decide +kernel
theorem dX6_addRead_35 : decode cX6_addRead 35 = .ok (.getfield 175, 3) := by decide +kernel
theorem dX6_addRead_38 : decode cX6_addRead 38 = .ok (.iload 4, 2) := by decide +kernel
theorem dX6_addRead_40 : decode cX6_addRead 40 = .ok (.iastore, 1) := by decide +kernel
theorem dX6_addRead_41 : decode cX6_addRead 41 = .ok (.aload_n 0, 1) := by decide +kernel
theorem dX6_addRead_42 : decode cX6_addRead 42 = .ok (.dup, 1) := by decide +kernel
theorem dX6_addRead_43 : decode cX6_addRead 43 = .ok (.getfield 175, 3) := by decide +kernel
theorem dX6_addRead_46 : decode cX6_addRead 46 = .ok (.iconst 1, 1) := by decide +kernel
theorem dX6_addRead_47 : decode cX6_addRead 47 = .ok (.iadd, 1) := by decide +kernel
theorem dX6_addRead_48 : decode cX6_addRead 48 = .ok (.putfield 175, 3) := by decide +kernel
theorem dX6_addRead_51 : decode cX6_addRead 51 = .ok (.aload_n 0, 1) := by decide +kernel
theorem dX6_addRead_52 : decode cX6_addRead 52 = .ok (.getfield 175, 3) := by decide +kernel
theorem dX6_addRead_55 : decode cX6_addRead 55 = .ok (.iconst 1, 1) := by decide +kernel
theorem dX6_addRead_56 : decode cX6_addRead 56 = .ok (.isub, 1) := by decide +kernel
theorem dX6_addRead_57 : decode cX6_addRead 57 = .ok (.ireturn, 1) := by decide +kernel
theorem dX6_fail_0 : decode cX6_fail 0 = .ok (.aload_n 0, 1) := by decide +kernel
theorem dX6_fail_1 : decode cX6_fail 1 = .ok (.iload_n 1, 1) := by decide +kernel
theorem dX6_fail_2 : decode cX6_fail 2 = .ok (.putfield 178, 3) := by decide +kernel
theorem dX6_fail_5 : decode cX6_fail 5 = .ok (.aload_n 0, 1) := by decide +kernel
theorem dX6_fail_6 : decode cX6_fail 6 = .ok (.iload_n 2, 1) := by decide +kernel
theorem dX6_fail_7 : decode cX6_fail 7 = .ok (.putfield 181, 3) := by decide +kernel
theorem dX6_fail_10 : decode cX6_fail 10 = .ok (.return_, 1) := by decide +kernel
theorem dX6_openCall_0 : decode cX6_openCall 0 = .ok (.aload_n 0, 1) := by decide +kernel
theorem dX6_openCall_1 : decode cX6_openCall 1 = .ok (.getfield 84, 3) := by decide +kernel
theorem dX6_openCall_4 : decode cX6_openCall 4 = .ok (.iconst 5, 1) := by decide +kernel
theorem dX6_openCall_5 : decode cX6_openCall 5 = .ok (.aload_n 0, 1) := by decide +kernel
theorem dX6_openCall_6 : decode cX6_openCall 6 = .ok (.getfield 184, 3) := by decide +kernel
theorem dX6_openCall_9 : decode cX6_openCall 9 = .ok (.imul, 1) := by decide +kernel
theorem dX6_openCall_10 : decode cX6_openCall 10 = .ok (.iload_n 1, 1) := by decide +kernel
theorem dX6_openCall_11 : decode cX6_openCall 11 = .ok (.iastore, 1) := by decide +kernel
theorem dX6_openCall_12 : decode cX6_openCall 12 = .ok (.aload_n 0, 1) := by decide +kernel
theorem dX6_openCall_13 : decode cX6_openCall 13 = .ok (.getfield 84, 3) := by decide +kernel
theorem dX6_openCall_16 : decode cX6_openCall 16 = .ok (.iconst 5, 1) := by decide +kernel
theorem dX6_openCall_17 : decode cX6_openCall 17 = .ok (.aload_n 0, 1) := by decide +kernel
theorem dX6_openCall_18 : decode cX6_openCall 18 = .ok (.getfield 184, 3) := by decide +kernel
theorem dX6_openCall_21 : decode cX6_openCall 21 = .ok (.imul, 1) := by decide +kernel
theorem dX6_openCall_22 : decode cX6_openCall 22 = .ok (.iconst 1, 1) := by decide +kernel
theorem dX6_openCall_23 : decode cX6_openCall 23 = .ok (.iadd, 1) := by decide +kernel
theorem dX6_openCall_24 : decode cX6_openCall 24 = .ok (.iload_n 2, 1) := by decide +kernel
theorem dX6_openCall_25 : decode cX6_openCall 25 = .ok (.iastore, 1) := by decide +kernel
theorem dX6_openCall_26 : decode cX6_openCall 26 = .ok (.aload_n 0, 1) := by decide +kernel
theorem dX6_openCall_27 : decode cX6_openCall 27 = .ok (.getfield 84, 3) := by decide +kernel
theorem dX6_openCall_30 : decode cX6_openCall 30 = .ok (.iconst 5, 1) := by decide +kernel
theorem dX6_openCall_31 : decode cX6_openCall 31 = .ok (.aload_n 0, 1) := by decide +kernel
theorem dX6_openCall_32 : decode cX6_openCall 32 = .ok (.getfield 184, 3) := by decide +kernel
theorem dX6_openCall_35 : decode cX6_openCall 35 = .ok (.imul, 1) := by decide +kernel
theorem dX6_openCall_36 : decode cX6_openCall 36 = .ok (.iconst 2, 1) := by decide +kernel
theorem dX6_openCall_37 : decode cX6_openCall 37 = .ok (.iadd, 1) := by decide +kernel
theorem dX6_openCall_38 : decode cX6_openCall 38 = .ok (.aload_n 0, 1) := by decide +kernel
theorem dX6_openCall_39 : decode cX6_openCall 39 = .ok (.getfield 187, 3) := by decide +kernel
theorem dX6_openCall_42 : decode cX6_openCall 42 = .ok (.iastore, 1) := by decide +kernel
theorem dX6_openCall_43 : decode cX6_openCall 43 = .ok (.aload_n 0, 1) := by decide +kernel
theorem dX6_openCall_44 : decode cX6_openCall 44 = .ok (.getfield 84, 3) := by decide +kernel
theorem dX6_openCall_47 : decode cX6_openCall 47 = .ok (.iconst 5, 1) := by decide +kernel
theorem dX6_openCall_48 : decode cX6_openCall 48 = .ok (.aload_n 0, 1) := by decide +kernel
theorem dX6_openCall_49 : decode cX6_openCall 49 = .ok (.getfield 184, 3) := by decide +kernel
theorem dX6_openCall_52 : decode cX6_openCall 52 = .ok (.imul, 1) := by decide +kernel
theorem dX6_openCall_53 : decode cX6_openCall 53 = .ok (.iconst 3, 1) := by decide +kernel
theorem dX6_openCall_54 : decode cX6_openCall 54 = .ok (.iadd, 1) := by decide +kernel
theorem dX6_openCall_55 : decode cX6_openCall 55 = .ok (.iload_n 3, 1) := by decide +kernel
theorem dX6_openCall_56 : decode cX6_openCall 56 = .ok (.iastore, 1) := by decide +kernel
theorem dX6_openCall_57 : decode cX6_openCall 57 = .ok (.aload_n 0, 1) := by decide +kernel
theorem dX6_openCall_58 : decode cX6_openCall 58 = .ok (.getfield 84, 3) := by decide +kernel
theorem dX6_openCall_61 : decode cX6_openCall 61 = .ok (.iconst 5, 1) := by decide +kernel
theorem dX6_openCall_62 : decode cX6_openCall 62 = .ok (.aload_n 0, 1) := by decide +kernel
theorem dX6_openCall_63 : decode cX6_openCall 63 = .ok (.getfield 184, 3) := by decide +kernel
theorem dX6_openCall_66 : decode cX6_openCall 66 = .ok (.imul, 1) := by decide +kernel
theorem dX6_openCall_67 : decode cX6_openCall 67 = .ok (.iconst 4, 1) := by decide +kernel
theorem dX6_openCall_68 : decode cX6_openCall 68 = .ok (.iadd, 1) := by decide +kernel
theorem dX6_openCall_69 : decode cX6_openCall 69 = .ok (.aload_n 0, 1) := by decide +kernel
theorem dX6_openCall_70 : decode cX6_openCall 70 = .ok (.getfield 190, 3) := by decide +kernel
theorem dX6_openCall_73 : decode cX6_openCall 73 = .ok (.iastore, 1) := by decide +kernel
theorem dX6_openCall_74 : decode cX6_openCall 74 = .ok (.aload_n 0, 1) := by decide +kernel
theorem dX6_openCall_75 : decode cX6_openCall 75 = .ok (.dup, 1) := by decide +kernel
theorem dX6_openCall_76 : decode cX6_openCall 76 = .ok (.getfield 184, 3) := by decide +kernel
theorem dX6_openCall_79 : decode cX6_openCall 79 = .ok (.iconst 1, 1) := by decide +kernel
theorem dX6_openCall_80 : decode cX6_openCall 80 = .ok (.iadd, 1) := by decide +kernel
theorem dX6_openCall_81 : decode cX6_openCall 81 = .ok (.putfield 184, 3) := by decide +kernel
theorem dX6_openCall_84 : decode cX6_openCall 84 = .ok (.aload_n 0, 1) := by decide +kernel
theorem dX6_openCall_85 : decode cX6_openCall 85 = .ok (.iload 4, 2) := by decide +kernel
theorem dX6_openCall_87 : decode cX6_openCall 87 = .ok (.putfield 190, 3) := by decide +kernel
theorem dX6_openCall_90 : decode cX6_openCall 90 = .ok (.aload_n 0, 1) := by decide +kernel
theorem dX6_openCall_91 : decode cX6_openCall 91 = .ok (.dup, 1) := by decide +kernel
theorem dX6_openCall_92 : decode cX6_openCall 92 = .ok (.getfield 187, 3) := by decide +kernel
theorem dX6_openCall_95 : decode cX6_openCall 95 = .ok (.iconst 1, 1) := by decide +kernel
theorem dX6_openCall_96 : decode cX6_openCall 96 = .ok (.iadd, 1) := by decide +kernel
theorem dX6_openCall_97 : decode cX6_openCall 97 = .ok (.putfield 187, 3) := by decide +kernel
theorem dX6_openCall_100 : decode cX6_openCall 100 = .ok (.aload_n 0, 1) := by decide +kernel
theorem dX6_openCall_101 : decode cX6_openCall 101 = .ok (.iconst 1, 1) := by decide +kernel
theorem dX6_openCall_102 : decode cX6_openCall 102 = .ok (.putfield 193, 3) := by decide +kernel
theorem dX6_openCall_105 : decode cX6_openCall 105 = .ok (.return_, 1) := by decide +kernel
theorem dX6_readOperand_0 : decode cX6_readOperand 0 = .ok (.aload_n 0, 1) := by decide +kernel
theorem dX6_readOperand_1 : decode cX6_readOperand 1 = .ok (.getfield 187, 3) := by decide +kernel
theorem dX6_readOperand_4 : decode cX6_readOperand 4 = .ok (.aload_n 0, 1) := by decide +kernel
theorem dX6_readOperand_5 : decode cX6_readOperand 5 = .ok (.getfield 197, 3) := by decide +kernel
theorem dX6_readOperand_8 : decode cX6_readOperand 8 = .ok (.if_icmp .ge 15, 3) := by decide +kernel
theorem dX6_readOperand_11 : decode cX6_readOperand 11 = .ok (.aload_n 0, 1) := by decide +kernel
theorem dX6_readOperand_12 : decode cX6_readOperand 12 = .ok (.getfield 69, 3) := by decide +kernel
theorem dX6_readOperand_15 : decode cX6_readOperand 15 = .ok (.aload_n 0, 1) := by decide +kernel
theorem dX6_readOperand_16 : decode cX6_readOperand 16 = .ok (.getfield 187, 3) := by decide +kernel
theorem dX6_readOperand_19 : decode cX6_readOperand 19 = .ok (.iaload, 1) := by decide +kernel
theorem dX6_readOperand_20 : decode cX6_readOperand 20 = .ok (.goto 5, 3) := by decide +kernel
theorem dX6_readOperand_23 : decode cX6_readOperand 23 = .ok (.bipush (-10), 2) := by decide +kernel
theorem dX6_readOperand_25 : decode cX6_readOperand 25 = .ok (.istore_n 1, 1) := by decide +kernel
theorem dX6_readOperand_26 : decode cX6_readOperand 26 = .ok (.iload_n 1, 1) := by decide +kernel
theorem dX6_readOperand_27 : decode cX6_readOperand 27 = .ok (.ifCond .ge 8, 3) := by decide +kernel
theorem dX6_readOperand_30 : decode cX6_readOperand 30 = .ok (.bipush (-10), 2) := by decide +kernel
theorem dX6_readOperand_32 : decode cX6_readOperand 32 = .ok (.goto 9, 3) := by decide +kernel
theorem dX6_readOperand_35 : decode cX6_readOperand 35 = .ok (.aload_n 0, 1) := by decide +kernel
theorem dX6_readOperand_36 : decode cX6_readOperand 36 = .ok (.iload_n 1, 1) := by decide +kernel
theorem dX6_readOperand_37 : decode cX6_readOperand 37 = .ok (.iconst 1, 1) := by decide +kernel
theorem dX6_readOperand_38 : decode cX6_readOperand 38 = .ok (.invokevirtual 101, 3) := by decide +kernel
theorem dX6_readOperand_41 : decode cX6_readOperand 41 = .ok (.istore_n 2, 1) := by decide +kernel
theorem dX6_readOperand_42 : decode cX6_readOperand 42 = .ok (.iload_n 1, 1) := by decide +kernel
theorem dX6_readOperand_43 : decode cX6_readOperand 43 = .ok (.invokestatic 97, 3) := by decide +kernel
theorem dX6_readOperand_46 : decode cX6_readOperand 46 = .ok (.ifCond .eq 41, 3) := by decide +kernel
theorem dX6_readOperand_49 : decode cX6_readOperand 49 = .ok (.aload_n 0, 1) := by decide +kernel
theorem dX6_readOperand_50 : decode cX6_readOperand 50 = .ok (.aload_n 0, 1) := by decide +kernel
theorem dX6_readOperand_51 : decode cX6_readOperand 51 = .ok (.bipush (-10), 2) := by decide +kernel
theorem dX6_readOperand_53 : decode cX6_readOperand 53 = .ok (.iload_n 1, 1) := by decide +kernel
theorem dX6_readOperand_54 : decode cX6_readOperand 54 = .ok (.bipush (-10), 2) := by decide +kernel
theorem dX6_readOperand_56 : decode cX6_readOperand 56 = .ok (.bipush (-10), 2) := by decide +kernel
theorem dX6_readOperand_58 : decode cX6_readOperand 58 = .ok (.invokevirtual 200, 3) := by decide +kernel
theorem dX6_readOperand_61 : decode cX6_readOperand 61 = .ok (.putfield 203, 3) := by decide +kernel
theorem dX6_readOperand_64 : decode cX6_readOperand 64 = .ok (.aload_n 0, 1) := by decide +kernel
theorem dX6_readOperand_65 : decode cX6_readOperand 65 = .ok (.iconst 0, 1) := by decide +kernel
theorem dX6_readOperand_66 : decode cX6_readOperand 66 = .ok (.putfield 206, 3) := by decide +kernel
theorem dX6_readOperand_69 : decode cX6_readOperand 69 = .ok (.aload_n 0, 1) := by decide +kernel
theorem dX6_readOperand_70 : decode cX6_readOperand 70 = .ok (.iconst 0, 1) := by decide +kernel
theorem dX6_readOperand_71 : decode cX6_readOperand 71 = .ok (.putfield 193, 3) := by decide +kernel
theorem dX6_readOperand_74 : decode cX6_readOperand 74 = .ok (.aload_n 0, 1) := by decide +kernel
theorem dX6_readOperand_75 : decode cX6_readOperand 75 = .ok (.dup, 1) := by decide +kernel
theorem dX6_readOperand_76 : decode cX6_readOperand 76 = .ok (.getfield 187, 3) := by decide +kernel
theorem dX6_readOperand_79 : decode cX6_readOperand 79 = .ok (.iconst 1, 1) := by decide +kernel
theorem dX6_readOperand_80 : decode cX6_readOperand 80 = .ok (.iadd, 1) := by decide +kernel
theorem dX6_readOperand_81 : decode cX6_readOperand 81 = .ok (.putfield 187, 3) := by decide +kernel
theorem dX6_readOperand_84 : decode cX6_readOperand 84 = .ok (.goto 53, 3) := by decide +kernel
theorem dX6_readOperand_87 : decode cX6_readOperand 87 = .ok (.iload_n 1, 1) := by decide +kernel
theorem dX6_readOperand_88 : decode cX6_readOperand 88 = .ok (.bipush 40, 2) := by decide +kernel
theorem dX6_readOperand_90 : decode cX6_readOperand 90 = .ok (.if_icmp .ne 17, 3) := by decide +kernel
theorem dX6_readOperand_93 : decode cX6_readOperand 93 = .ok (.aload_n 0, 1) := by decide +kernel
theorem dX6_readOperand_94 : decode cX6_readOperand 94 = .ok (.bipush 40, 2) := by decide +kernel
theorem dX6_readOperand_96 : decode cX6_readOperand 96 = .ok (.bipush (-10), 2) := by decide +kernel
theorem dX6_readOperand_98 : decode cX6_readOperand 98 = .ok (.bipush (-10), 2) := by decide +kernel
theorem dX6_readOperand_100 : decode cX6_readOperand 100 = .ok (.iconst 0, 1) := by decide +kernel
theorem dX6_readOperand_101 : decode cX6_readOperand 101 = .ok (.invokevirtual 209, 3) := by decide +kernel
theorem dX6_readOperand_104 : decode cX6_readOperand 104 = .ok (.goto 33, 3) := by decide +kernel
theorem dX6_readOperand_107 : decode cX6_readOperand 107 = .ok (.iload_n 2, 1) := by decide +kernel
theorem dX6_readOperand_108 : decode cX6_readOperand 108 = .ok (.ifCond .lt 20, 3) := by decide +kernel
theorem dX6_readOperand_111 : decode cX6_readOperand 111 = .ok (.aload_n 0, 1) := by decide +kernel
theorem dX6_readOperand_112 : decode cX6_readOperand 112 = .ok (.iconst 1, 1) := by decide +kernel
theorem dX6_readOperand_113 : decode cX6_readOperand 113 = .ok (.iload_n 2, 1) := by decide +kernel
theorem dX6_readOperand_114 : decode cX6_readOperand 114 = .ok (.bipush (-10), 2) := by decide +kernel
theorem dX6_readOperand_116 : decode cX6_readOperand 116 = .ok (.aload_n 0, 1) := by decide +kernel
theorem dX6_readOperand_117 : decode cX6_readOperand 117 = .ok (.getfield 16, 3) := by decide +kernel
theorem dX6_readOperand_120 : decode cX6_readOperand 120 = .ok (.iload_n 2, 1) := by decide +kernel
theorem dX6_readOperand_121 : decode cX6_readOperand 121 = .ok (.iaload, 1) := by decide +kernel
theorem dX6_readOperand_122 : decode cX6_readOperand 122 = .ok (.invokevirtual 209, 3) := by decide +kernel
theorem dX6_readOperand_125 : decode cX6_readOperand 125 = .ok (.goto 12, 3) := by decide +kernel
theorem dX6_readOperand_128 : decode cX6_readOperand 128 = .ok (.aload_n 0, 1) := by decide +kernel
theorem dX6_readOperand_129 : decode cX6_readOperand 129 = .ok (.iconst 1, 1) := by decide +kernel
theorem dX6_readOperand_130 : decode cX6_readOperand 130 = .ok (.aload_n 0, 1) := by decide +kernel
theorem dX6_readOperand_131 : decode cX6_readOperand 131 = .ok (.getfield 187, 3) := by decide +kernel
theorem dX6_readOperand_134 : decode cX6_readOperand 134 = .ok (.invokevirtual 212, 3) := by decide +kernel
theorem dX6_readOperand_137 : decode cX6_readOperand 137 = .ok (.return_, 1) := by decide +kernel
theorem dX6_isBareAndBarred_0 : decode cX6_isBareAndBarred 0 = .ok (.aload_n 0, 1) := by decide +kernel
theorem dX6_isBareAndBarred_1 : decode cX6_isBareAndBarred 1 = .ok (.getfield 206, 3) := by decide +kernel
theorem dX6_isBareAndBarred_4 : decode cX6_isBareAndBarred 4 = .ok (.ifCond .ne 24, 3) := by decide +kernel
theorem dX6_isBareAndBarred_7 : decode cX6_isBareAndBarred 7 = .ok (.aload_n 0, 1) := by decide +kernel
theorem dX6_isBareAndBarred_8 : decode cX6_isBareAndBarred 8 = .ok (.iload_n 1, 1) := by decide +kernel
theorem dX6_isBareAndBarred_9 : decode cX6_isBareAndBarred 9 = .ok (.aload_n 0, 1) := by decide +kernel
theorem dX6_isBareAndBarred_10 : decode cX6_isBareAndBarred 10 = .ok (.getfield 72, 3) := by decide +kernel
theorem dX6_isBareAndBarred_13 : decode cX6_isBareAndBarred 13 = .ok (.aload_n 0, 1) := by decide +kernel
theorem dX6_isBareAndBarred_14 : decode cX6_isBareAndBarred 14 = .ok (.getfield 203, 3) := by decide +kernel
theorem dX6_isBareAndBarred_17 : decode cX6_isBareAndBarred 17 = .ok (.iaload, 1) := by decide +kernel
theorem dX6_isBareAndBarred_18 : decode cX6_isBareAndBarred 18 = .ok (.invokevirtual 119, 3) := by decide +kernel
theorem dX6_isBareAndBarred_21 : decode cX6_isBareAndBarred 21 = .ok (.ifCond .eq 7, 3) := by decide +kernel
theorem dX6_isBareAndBarred_24 : decode cX6_isBareAndBarred 24 = .ok (.iconst 1, 1) := by decide +kernel
theorem dX6_isBareAndBarred_25 : decode cX6_isBareAndBarred 25 = .ok (.goto 4, 3) := by decide +kernel
theorem dX6_isBareAndBarred_28 : decode cX6_isBareAndBarred 28 = .ok (.iconst 0, 1) := by decide +kernel
theorem dX6_isBareAndBarred_29 : decode cX6_isBareAndBarred 29 = .ok (.ireturn, 1) := by decide +kernel
theorem dX6_readPostfix_0 : decode cX6_readPostfix 0 = .ok (.aload_n 0, 1) := by decide +kernel
theorem dX6_readPostfix_1 : decode cX6_readPostfix 1 = .ok (.iload_n 1, 1) := by decide +kernel
theorem dX6_readPostfix_2 : decode cX6_readPostfix 2 = .ok (.invokevirtual 216, 3) := by decide +kernel
theorem dX6_readPostfix_5 : decode cX6_readPostfix 5 = .ok (.ifCond .eq 14, 3) := by decide +kernel
theorem dX6_readPostfix_8 : decode cX6_readPostfix 8 = .ok (.aload_n 0, 1) := by decide +kernel
theorem dX6_readPostfix_9 : decode cX6_readPostfix 9 = .ok (.bipush 6, 2) := by decide +kernel
theorem dX6_readPostfix_11 : decode cX6_readPostfix 11 = .ok (.aload_n 0, 1) := by decide +kernel
theorem dX6_readPostfix_12 : decode cX6_readPostfix 12 = .ok (.getfield 187, 3) := by decide +kernel
theorem dX6_readPostfix_15 : decode cX6_readPostfix 15 = .ok (.invokevirtual 212, 3) := by decide +kernel
theorem dX6_readPostfix_18 : decode cX6_readPostfix 18 = .ok (.return_, 1) := by decide +kernel
theorem dX6_readPostfix_19 : decode cX6_readPostfix 19 = .ok (.aload_n 0, 1) := by decide +kernel
theorem dX6_readPostfix_20 : decode cX6_readPostfix 20 = .ok (.aload_n 0, 1) := by decide +kernel
theorem dX6_readPostfix_21 : decode cX6_readPostfix 21 = .ok (.iload_n 1, 1) := by decide +kernel
theorem dX6_readPostfix_22 : decode cX6_readPostfix 22 = .ok (.bipush (-10), 2) := by decide +kernel
theorem dX6_readPostfix_24 : decode cX6_readPostfix 24 = .ok (.aload_n 0, 1) := by decide +kernel
theorem dX6_readPostfix_25 : decode cX6_readPostfix 25 = .ok (.getfield 203, 3) := by decide +kernel
theorem dX6_readPostfix_28 : decode cX6_readPostfix 28 = .ok (.bipush (-10), 2) := by decide +kernel
theorem dX6_readPostfix_30 : decode cX6_readPostfix 30 = .ok (.invokevirtual 200, 3) := by decide +kernel
theorem dX6_readPostfix_33 : decode cX6_readPostfix 33 = .ok (.putfield 203, 3) := by decide +kernel
theorem dX6_readPostfix_36 : decode cX6_readPostfix 36 = .ok (.aload_n 0, 1) := by decide +kernel
theorem dX6_readPostfix_37 : decode cX6_readPostfix 37 = .ok (.iconst 0, 1) := by decide +kernel
theorem dX6_readPostfix_38 : decode cX6_readPostfix 38 = .ok (.putfield 206, 3) := by decide +kernel
theorem dX6_readPostfix_41 : decode cX6_readPostfix 41 = .ok (.aload_n 0, 1) := by decide +kernel
theorem dX6_readPostfix_42 : decode cX6_readPostfix 42 = .ok (.dup, 1) := by decide +kernel
theorem dX6_readPostfix_43 : decode cX6_readPostfix 43 = .ok (.getfield 187, 3) := by decide +kernel
theorem dX6_readPostfix_46 : decode cX6_readPostfix 46 = .ok (.iconst 1, 1) := by decide +kernel
theorem dX6_readPostfix_47 : decode cX6_readPostfix 47 = .ok (.iadd, 1) := by decide +kernel
theorem dX6_readPostfix_48 : decode cX6_readPostfix 48 = .ok (.putfield 187, 3) := by decide +kernel
theorem dX6_readPostfix_51 : decode cX6_readPostfix 51 = .ok (.return_, 1) := by decide +kernel
theorem dX6_readInfix_0 : decode cX6_readInfix 0 = .ok (.aload_n 0, 1) := by decide +kernel
theorem dX6_readInfix_1 : decode cX6_readInfix 1 = .ok (.getfield 206, 3) := by decide +kernel
theorem dX6_readInfix_4 : decode cX6_readInfix 4 = .ok (.ifCond .ne 32, 3) := by decide +kernel
theorem dX6_readInfix_7 : decode cX6_readInfix 7 = .ok (.aload_n 0, 1) := by decide +kernel
theorem dX6_readInfix_8 : decode cX6_readInfix 8 = .ok (.iload_n 1, 1) := by decide +kernel
theorem dX6_readInfix_9 : decode cX6_readInfix 9 = .ok (.aload_n 0, 1) := by decide +kernel
theorem dX6_readInfix_10 : decode cX6_readInfix 10 = .ok (.getfield 72, 3) := by decide +kernel
theorem dX6_readInfix_13 : decode cX6_readInfix 13 = .ok (.aload_n 0, 1) := by decide +kernel
theorem dX6_readInfix_14 : decode cX6_readInfix 14 = .ok (.getfield 203, 3) := by decide +kernel
theorem dX6_readInfix_17 : decode cX6_readInfix 17 = .ok (.iaload, 1) := by decide +kernel
theorem dX6_readInfix_18 : decode cX6_readInfix 18 = .ok (.invokevirtual 123, 3) := by decide +kernel
theorem dX6_readInfix_21 : decode cX6_readInfix 21 = .ok (.ifCond .eq 15, 3) := by decide +kernel
theorem dX6_readInfix_24 : decode cX6_readInfix 24 = .ok (.aload_n 0, 1) := by decide +kernel
theorem dX6_readInfix_25 : decode cX6_readInfix 25 = .ok (.iconst 5, 1) := by decide +kernel
theorem dX6_readInfix_26 : decode cX6_readInfix 26 = .ok (.aload_n 0, 1) := by decide +kernel
theorem dX6_readInfix_27 : decode cX6_readInfix 27 = .ok (.getfield 187, 3) := by decide +kernel
theorem dX6_readInfix_30 : decode cX6_readInfix 30 = .ok (.invokevirtual 212, 3) := by decide +kernel
theorem dX6_readInfix_33 : decode cX6_readInfix 33 = .ok (.goto 39, 3) := by decide +kernel
theorem dX6_readInfix_36 : decode cX6_readInfix 36 = .ok (.aload_n 0, 1) := by decide +kernel
theorem dX6_readInfix_37 : decode cX6_readInfix 37 = .ok (.iload_n 1, 1) := by decide +kernel
theorem dX6_readInfix_38 : decode cX6_readInfix 38 = .ok (.invokevirtual 216, 3) := by decide +kernel
theorem dX6_readInfix_41 : decode cX6_readInfix 41 = .ok (.ifCond .eq 16, 3) := by decide +kernel
theorem dX6_readInfix_44 : decode cX6_readInfix 44 = .ok (.aload_n 0, 1) := by decide +kernel
theorem dX6_readInfix_45 : decode cX6_readInfix 45 = .ok (.bipush 6, 2) := by decide +kernel
theorem dX6_readInfix_47 : decode cX6_readInfix 47 = .ok (.aload_n 0, 1) := by decide +kernel
theorem dX6_readInfix_48 : decode cX6_readInfix 48 = .ok (.getfield 187, 3) := by decide +kernel
theorem dX6_readInfix_51 : decode cX6_readInfix 51 = .ok (.invokevirtual 212, 3) := by decide +kernel
theorem dX6_readInfix_54 : decode cX6_readInfix 54 = .ok (.goto 18, 3) := by decide +kernel
theorem dX6_readInfix_57 : decode cX6_readInfix 57 = .ok (.aload_n 0, 1) := by decide +kernel
theorem dX6_readInfix_58 : decode cX6_readInfix 58 = .ok (.iconst 0, 1) := by decide +kernel
theorem dX6_readInfix_59 : decode cX6_readInfix 59 = .ok (.iload_n 1, 1) := by decide +kernel
theorem dX6_readInfix_60 : decode cX6_readInfix 60 = .ok (.aload_n 0, 1) := by decide +kernel
theorem dX6_readInfix_61 : decode cX6_readInfix 61 = .ok (.getfield 203, 3) := by decide +kernel
theorem dX6_readInfix_64 : decode cX6_readInfix 64 = .ok (.aload_n 0, 1) := by decide +kernel
theorem dX6_readInfix_65 : decode cX6_readInfix 65 = .ok (.iload_n 1, 1) := by decide +kernel
theorem dX6_readInfix_66 : decode cX6_readInfix 66 = .ok (.invokevirtual 140, 3) := by decide +kernel
theorem dX6_readInfix_69 : decode cX6_readInfix 69 = .ok (.invokevirtual 209, 3) := by decide +kernel
theorem dX6_readInfix_72 : decode cX6_readInfix 72 = .ok (.return_, 1) := by decide +kernel
theorem dX6_endCall_0 : decode cX6_endCall 0 = .ok (.aload_n 0, 1) := by decide +kernel
theorem dX6_endCall_1 : decode cX6_endCall 1 = .ok (.dup, 1) := by decide +kernel
theorem dX6_endCall_2 : decode cX6_endCall 2 = .ok (.getfield 184, 3) := by decide +kernel
theorem dX6_endCall_5 : decode cX6_endCall 5 = .ok (.iconst 1, 1) := by decide +kernel
theorem dX6_endCall_6 : decode cX6_endCall 6 = .ok (.isub, 1) := by decide +kernel
theorem dX6_endCall_7 : decode cX6_endCall 7 = .ok (.putfield 184, 3) := by decide +kernel
theorem dX6_endCall_10 : decode cX6_endCall 10 = .ok (.aload_n 0, 1) := by decide +kernel
theorem dX6_endCall_11 : decode cX6_endCall 11 = .ok (.getfield 84, 3) := by decide +kernel
theorem dX6_endCall_14 : decode cX6_endCall 14 = .ok (.iconst 5, 1) := by decide +kernel
theorem dX6_endCall_15 : decode cX6_endCall 15 = .ok (.aload_n 0, 1) := by decide +kernel
theorem dX6_endCall_16 : decode cX6_endCall 16 = .ok (.getfield 184, 3) := by decide +kernel
theorem dX6_endCall_19 : decode cX6_endCall 19 = .ok (.imul, 1) := by decide +kernel
theorem dX6_endCall_20 : decode cX6_endCall 20 = .ok (.iaload, 1) := by decide +kernel
theorem dX6_endCall_21 : decode cX6_endCall 21 = .ok (.istore_n 1, 1) := by decide +kernel
theorem dX6_endCall_22 : decode cX6_endCall 22 = .ok (.aload_n 0, 1) := by decide +kernel
theorem dX6_endCall_23 : decode cX6_endCall 23 = .ok (.getfield 84, 3) := by decide +kernel
theorem dX6_endCall_26 : decode cX6_endCall 26 = .ok (.iconst 5, 1) := by decide +kernel
theorem dX6_endCall_27 : decode cX6_endCall 27 = .ok (.aload_n 0, 1) := by decide +kernel
theorem dX6_endCall_28 : decode cX6_endCall 28 = .ok (.getfield 184, 3) := by decide +kernel
theorem dX6_endCall_31 : decode cX6_endCall 31 = .ok (.imul, 1) := by decide +kernel
theorem dX6_endCall_32 : decode cX6_endCall 32 = .ok (.iconst 1, 1) := by decide +kernel
theorem dX6_endCall_33 : decode cX6_endCall 33 = .ok (.iadd, 1) := by decide +kernel
theorem dX6_endCall_34 : decode cX6_endCall 34 = .ok (.iaload, 1) := by decide +kernel
theorem dX6_endCall_35 : decode cX6_endCall 35 = .ok (.istore_n 2, 1) := by decide +kernel
theorem dX6_endCall_36 : decode cX6_endCall 36 = .ok (.aload_n 0, 1) := by decide +kernel
theorem dX6_endCall_37 : decode cX6_endCall 37 = .ok (.getfield 84, 3) := by decide +kernel
theorem dX6_endCall_40 : decode cX6_endCall 40 = .ok (.iconst 5, 1) := by decide +kernel
theorem dX6_endCall_41 : decode cX6_endCall 41 = .ok (.aload_n 0, 1) := by decide +kernel
theorem dX6_endCall_42 : decode cX6_endCall 42 = .ok (.getfield 184, 3) := by decide +kernel
theorem dX6_endCall_45 : decode cX6_endCall 45 = .ok (.imul, 1) := by decide +kernel
theorem dX6_endCall_46 : decode cX6_endCall 46 = .ok (.iconst 2, 1) := by decide +kernel
theorem dX6_endCall_47 : decode cX6_endCall 47 = .ok (.iadd, 1) := by decide +kernel
theorem dX6_endCall_48 : decode cX6_endCall 48 = .ok (.iaload, 1) := by decide +kernel
theorem dX6_endCall_49 : decode cX6_endCall 49 = .ok (.istore_n 3, 1) := by decide +kernel
theorem dX6_endCall_50 : decode cX6_endCall 50 = .ok (.iload_n 1, 1) := by decide +kernel
theorem dX6_endCall_51 : decode cX6_endCall 51 = .ok (.bipush 40, 2) := by decide +kernel
theorem dX6_endCall_53 : decode cX6_endCall 53 = .ok (.if_icmp .ne 41, 3) := by decide +kernel
theorem dX6_endCall_56 : decode cX6_endCall 56 = .ok (.aload_n 0, 1) := by decide +kernel
theorem dX6_endCall_57 : decode cX6_endCall 57 = .ok (.getfield 187, 3) := by decide +kernel
theorem dX6_endCall_60 : decode cX6_endCall 60 = .ok (.aload_n 0, 1) := by decide +kernel
theorem dX6_endCall_61 : decode cX6_endCall 61 = .ok (.getfield 197, 3) := by decide +kernel
theorem dX6_endCall_64 : decode cX6_endCall 64 = .ok (.if_icmp .ne 12, 3) := by decide +kernel
theorem dX6_endCall_67 : decode cX6_endCall 67 = .ok (.aload_n 0, 1) := by decide +kernel
theorem dX6_endCall_68 : decode cX6_endCall 68 = .ok (.iconst 3, 1) := by decide +kernel
theorem dX6_endCall_69 : decode cX6_endCall 69 = .ok (.aload_n 0, 1) := by decide +kernel
theorem dX6_endCall_70 : decode cX6_endCall 70 = .ok (.getfield 187, 3) := by decide +kernel
theorem dX6_endCall_73 : decode cX6_endCall 73 = .ok (.invokevirtual 212, 3) := by decide +kernel
theorem dX6_endCall_76 : decode cX6_endCall 76 = .ok (.aload_n 0, 1) := by decide +kernel
theorem dX6_endCall_77 : decode cX6_endCall 77 = .ok (.dup, 1) := by decide +kernel
theorem dX6_endCall_78 : decode cX6_endCall 78 = .ok (.getfield 187, 3) := by decide +kernel
theorem dX6_endCall_81 : decode cX6_endCall 81 = .ok (.iconst 1, 1) := by decide +kernel
theorem dX6_endCall_82 : decode cX6_endCall 82 = .ok (.iadd, 1) := by decide +kernel
theorem dX6_endCall_83 : decode cX6_endCall 83 = .ok (.putfield 187, 3) := by decide +kernel
theorem dX6_endCall_86 : decode cX6_endCall 86 = .ok (.aload_n 0, 1) := by decide +kernel
theorem dX6_endCall_87 : decode cX6_endCall 87 = .ok (.iconst 1, 1) := by decide +kernel
theorem dX6_endCall_88 : decode cX6_endCall 88 = .ok (.putfield 206, 3) := by decide +kernel
theorem dX6_endCall_91 : decode cX6_endCall 91 = .ok (.goto 75, 3) := by decide +kernel
theorem dX6_endCall_94 : decode cX6_endCall 94 = .ok (.aload_n 0, 1) := by decide +kernel
theorem dX6_endCall_95 : decode cX6_endCall 95 = .ok (.iload_n 2, 1) := by decide +kernel
theorem dX6_endCall_96 : decode cX6_endCall 96 = .ok (.invokevirtual 216, 3) := by decide +kernel
theorem dX6_endCall_99 : decode cX6_endCall 99 = .ok (.ifCond .eq 13, 3) := by decide +kernel
theorem dX6_endCall_102 : decode cX6_endCall 102 = .ok (.aload_n 0, 1) := by decide +kernel
theorem dX6_endCall_103 : decode cX6_endCall 103 = .ok (.bipush 6, 2) := by decide +kernel
theorem dX6_endCall_105 : decode cX6_endCall 105 = .ok (.iload_n 3, 1) := by decide +kernel
theorem dX6_endCall_106 : decode cX6_endCall 106 = .ok (.invokevirtual 212, 3) := by decide +kernel
theorem dX6_endCall_109 : decode cX6_endCall 109 = .ok (.goto 57, 3) := by decide +kernel
theorem dX6_endCall_112 : decode cX6_endCall 112 = .ok (.aload_n 0, 1) := by decide +kernel
theorem dX6_endCall_113 : decode cX6_endCall 113 = .ok (.iload_n 1, 1) := by decide +kernel
theorem dX6_endCall_114 : decode cX6_endCall 114 = .ok (.iconst 1, 1) := by decide +kernel
theorem dX6_endCall_115 : decode cX6_endCall 115 = .ok (.if_icmp .ne 19, 3) := by decide +kernel
theorem dX6_endCall_118 : decode cX6_endCall 118 = .ok (.aload_n 0, 1) := by decide +kernel
theorem dX6_endCall_119 : decode cX6_endCall 119 = .ok (.iload_n 2, 1) := by decide +kernel
theorem dX6_endCall_120 : decode cX6_endCall 120 = .ok (.bipush (-10), 2) := by decide +kernel
theorem dX6_endCall_122 : decode cX6_endCall 122 = .ok (.aload_n 0, 1) := by decide +kernel
theorem dX6_endCall_123 : decode cX6_endCall 123 = .ok (.getfield 203, 3) := by decide +kernel
theorem dX6_endCall_126 : decode cX6_endCall 126 = .ok (.bipush (-10), 2) := by decide +kernel
theorem dX6_endCall_128 : decode cX6_endCall 128 = .ok (.invokevirtual 200, 3) := by decide +kernel
theorem dX6_endCall_131 : decode cX6_endCall 131 = .ok (.goto 27, 3) := by decide +kernel
theorem dX6_endCall_134 : decode cX6_endCall 134 = .ok (.aload_n 0, 1) := by decide +kernel
theorem dX6_endCall_135 : decode cX6_endCall 135 = .ok (.iload_n 2, 1) := by decide +kernel
theorem dX6_endCall_136 : decode cX6_endCall 136 = .ok (.bipush (-10), 2) := by decide +kernel
theorem dX6_endCall_138 : decode cX6_endCall 138 = .ok (.aload_n 0, 1) := by decide +kernel
theorem dX6_endCall_139 : decode cX6_endCall 139 = .ok (.getfield 84, 3) := by decide +kernel
theorem dX6_endCall_142 : decode cX6_endCall 142 = .ok (.iconst 5, 1) := by decide +kernel
theorem dX6_endCall_143 : decode cX6_endCall 143 = .ok (.aload_n 0, 1) := by decide +kernel
theorem dX6_endCall_144 : decode cX6_endCall 144 = .ok (.getfield 184, 3) := by decide +kernel
theorem dX6_endCall_147 : decode cX6_endCall 147 = .ok (.imul, 1) := by decide +kernel
theorem dX6_endCall_148 : decode cX6_endCall 148 = .ok (.iconst 3, 1) := by decide +kernel
theorem dX6_endCall_149 : decode cX6_endCall 149 = .ok (.iadd, 1) := by decide +kernel
theorem dX6_endCall_150 : decode cX6_endCall 150 = .ok (.iaload, 1) := by decide +kernel
theorem dX6_endCall_151 : decode cX6_endCall 151 = .ok (.aload_n 0, 1) := by decide +kernel
theorem dX6_endCall_152 : decode cX6_endCall 152 = .ok (.getfield 203, 3) := by decide +kernel
theorem dX6_endCall_155 : decode cX6_endCall 155 = .ok (.invokevirtual 200, 3) := by decide +kernel
theorem dX6_endCall_158 : decode cX6_endCall 158 = .ok (.putfield 203, 3) := by decide +kernel
theorem dX6_endCall_161 : decode cX6_endCall 161 = .ok (.aload_n 0, 1) := by decide +kernel
theorem dX6_endCall_162 : decode cX6_endCall 162 = .ok (.iconst 0, 1) := by decide +kernel
theorem dX6_endCall_163 : decode cX6_endCall 163 = .ok (.putfield 206, 3) := by decide +kernel
theorem dX6_endCall_166 : decode cX6_endCall 166 = .ok (.aload_n 0, 1) := by decide +kernel
theorem dX6_endCall_167 : decode cX6_endCall 167 = .ok (.aload_n 0, 1) := by decide +kernel
theorem dX6_endCall_168 : decode cX6_endCall 168 = .ok (.getfield 84, 3) := by decide +kernel
theorem dX6_endCall_171 : decode cX6_endCall 171 = .ok (.iconst 5, 1) := by decide +kernel
theorem dX6_endCall_172 : decode cX6_endCall 172 = .ok (.aload_n 0, 1) := by decide +kernel
theorem dX6_endCall_173 : decode cX6_endCall 173 = .ok (.getfield 184, 3) := by decide +kernel
theorem dX6_endCall_176 : decode cX6_endCall 176 = .ok (.imul, 1) := by decide +kernel
theorem dX6_endCall_177 : decode cX6_endCall 177 = .ok (.iconst 4, 1) := by decide +kernel
theorem dX6_endCall_178 : decode cX6_endCall 178 = .ok (.iadd, 1) := by decide +kernel
theorem dX6_endCall_179 : decode cX6_endCall 179 = .ok (.iaload, 1) := by decide +kernel
theorem dX6_endCall_180 : decode cX6_endCall 180 = .ok (.putfield 190, 3) := by decide +kernel
theorem dX6_endCall_183 : decode cX6_endCall 183 = .ok (.return_, 1) := by decide +kernel
theorem dX6_goOn_0 : decode cX6_goOn 0 = .ok (.aload_n 0, 1) := by decide +kernel
theorem dX6_goOn_1 : decode cX6_goOn 1 = .ok (.getfield 187, 3) := by decide +kernel
theorem dX6_goOn_4 : decode cX6_goOn 4 = .ok (.aload_n 0, 1) := by decide +kernel
theorem dX6_goOn_5 : decode cX6_goOn 5 = .ok (.getfield 197, 3) := by decide +kernel
theorem dX6_goOn_8 : decode cX6_goOn 8 = .ok (.if_icmp .eq 17, 3) := by decide +kernel
theorem dX6_goOn_11 : decode cX6_goOn 11 = .ok (.aload_n 0, 1) := by decide +kernel
theorem dX6_goOn_12 : decode cX6_goOn 12 = .ok (.getfield 69, 3) := by decide +kernel
theorem dX6_goOn_15 : decode cX6_goOn 15 = .ok (.aload_n 0, 1) := by decide +kernel
theorem dX6_goOn_16 : decode cX6_goOn 16 = .ok (.getfield 187, 3) := by decide +kernel
theorem dX6_goOn_19 : decode cX6_goOn 19 = .ok (.iaload, 1) := by decide +kernel
theorem dX6_goOn_20 : decode cX6_goOn 20 = .ok (.bipush 41, 2) := by decide +kernel
theorem dX6_goOn_22 : decode cX6_goOn 22 = .ok (.if_icmp .ne 7, 3) := by decide +kernel
theorem dX6_goOn_25 : decode cX6_goOn 25 = .ok (.iconst 1, 1) := by decide +kernel
theorem dX6_goOn_26 : decode cX6_goOn 26 = .ok (.goto 4, 3) := by decide +kernel
theorem dX6_goOn_29 : decode cX6_goOn 29 = .ok (.iconst 0, 1) := by decide +kernel
theorem dX6_goOn_30 : decode cX6_goOn 30 = .ok (.istore_n 1, 1) := by decide +kernel
theorem dX6_goOn_31 : decode cX6_goOn 31 = .ok (.iload_n 1, 1) := by decide +kernel
theorem dX6_goOn_32 : decode cX6_goOn 32 = .ok (.ifCond .eq 8, 3) := by decide +kernel
theorem dX6_goOn_35 : decode cX6_goOn 35 = .ok (.bipush (-10), 2) := by decide +kernel
theorem dX6_goOn_37 : decode cX6_goOn 37 = .ok (.goto 17, 3) := by decide +kernel
theorem dX6_goOn_40 : decode cX6_goOn 40 = .ok (.aload_n 0, 1) := by decide +kernel
theorem dX6_goOn_41 : decode cX6_goOn 41 = .ok (.aload_n 0, 1) := by decide +kernel
theorem dX6_goOn_42 : decode cX6_goOn 42 = .ok (.getfield 69, 3) := by decide +kernel
theorem dX6_goOn_45 : decode cX6_goOn 45 = .ok (.aload_n 0, 1) := by decide +kernel
theorem dX6_goOn_46 : decode cX6_goOn 46 = .ok (.getfield 187, 3) := by decide +kernel
theorem dX6_goOn_49 : decode cX6_goOn 49 = .ok (.iaload, 1) := by decide +kernel
theorem dX6_goOn_50 : decode cX6_goOn 50 = .ok (.iconst 0, 1) := by decide +kernel
theorem dX6_goOn_51 : decode cX6_goOn 51 = .ok (.invokevirtual 101, 3) := by decide +kernel
theorem dX6_goOn_54 : decode cX6_goOn 54 = .ok (.istore_n 2, 1) := by decide +kernel
theorem dX6_goOn_55 : decode cX6_goOn 55 = .ok (.iload_n 1, 1) := by decide +kernel
theorem dX6_goOn_56 : decode cX6_goOn 56 = .ok (.ifCond .ne 19, 3) := by decide +kernel
theorem dX6_goOn_59 : decode cX6_goOn 59 = .ok (.iload_n 2, 1) := by decide +kernel
theorem dX6_goOn_60 : decode cX6_goOn 60 = .ok (.ifCond .ge 15, 3) := by decide +kernel
theorem dX6_goOn_63 : decode cX6_goOn 63 = .ok (.aload_n 0, 1) := by decide +kernel
theorem dX6_goOn_64 : decode cX6_goOn 64 = .ok (.iconst 2, 1) := by decide +kernel
theorem dX6_goOn_65 : decode cX6_goOn 65 = .ok (.aload_n 0, 1) := by decide +kernel
theorem dX6_goOn_66 : decode cX6_goOn 66 = .ok (.getfield 187, 3) := by decide +kernel
theorem dX6_goOn_69 : decode cX6_goOn 69 = .ok (.invokevirtual 212, 3) := by decide +kernel
theorem dX6_goOn_72 : decode cX6_goOn 72 = .ok (.goto 85, 3) := by decide +kernel
theorem dX6_goOn_75 : decode cX6_goOn 75 = .ok (.iload_n 1, 1) := by decide +kernel
theorem dX6_goOn_76 : decode cX6_goOn 76 = .ok (.ifCond .ne 42, 3) := by decide +kernel
theorem dX6_goOn_79 : decode cX6_goOn 79 = .ok (.aload_n 0, 1) := by decide +kernel
theorem dX6_goOn_80 : decode cX6_goOn 80 = .ok (.getfield 16, 3) := by decide +kernel
theorem dX6_goOn_83 : decode cX6_goOn 83 = .ok (.iload_n 2, 1) := by decide +kernel
theorem dX6_goOn_84 : decode cX6_goOn 84 = .ok (.iaload, 1) := by decide +kernel
theorem dX6_goOn_85 : decode cX6_goOn 85 = .ok (.aload_n 0, 1) := by decide +kernel
theorem dX6_goOn_86 : decode cX6_goOn 86 = .ok (.getfield 190, 3) := by decide +kernel
theorem dX6_goOn_89 : decode cX6_goOn 89 = .ok (.if_icmp .lt 29, 3) := by decide +kernel
theorem dX6_goOn_92 : decode cX6_goOn 92 = .ok (.aload_n 0, 1) := by decide +kernel
theorem dX6_goOn_93 : decode cX6_goOn 93 = .ok (.getfield 13, 3) := by decide +kernel
theorem dX6_goOn_96 : decode cX6_goOn 96 = .ok (.iload_n 2, 1) := by decide +kernel
theorem dX6_goOn_97 : decode cX6_goOn 97 = .ok (.iaload, 1) := by decide +kernel
theorem dX6_goOn_98 : decode cX6_goOn 98 = .ok (.iconst 2, 1) := by decide +kernel
theorem dX6_goOn_99 : decode cX6_goOn 99 = .ok (.if_icmp .ne 11, 3) := by decide +kernel
theorem dX6_goOn_102 : decode cX6_goOn 102 = .ok (.aload_n 0, 1) := by decide +kernel
theorem dX6_goOn_103 : decode cX6_goOn 103 = .ok (.iload_n 2, 1) := by decide +kernel
theorem dX6_goOn_104 : decode cX6_goOn 104 = .ok (.invokevirtual 219, 3) := by decide +kernel
theorem dX6_goOn_107 : decode cX6_goOn 107 = .ok (.goto 50, 3) := by decide +kernel
theorem dX6_goOn_110 : decode cX6_goOn 110 = .ok (.aload_n 0, 1) := by decide +kernel
theorem dX6_goOn_111 : decode cX6_goOn 111 = .ok (.iload_n 2, 1) := by decide +kernel
theorem dX6_goOn_112 : decode cX6_goOn 112 = .ok (.invokevirtual 222, 3) := by decide +kernel
theorem dX6_goOn_115 : decode cX6_goOn 115 = .ok (.goto 42, 3) := by decide +kernel
theorem dX6_goOn_118 : decode cX6_goOn 118 = .ok (.aload_n 0, 1) := by decide +kernel
theorem dX6_goOn_119 : decode cX6_goOn 119 = .ok (.getfield 184, 3) := by decide +kernel
theorem dX6_goOn_122 : decode cX6_goOn 122 = .ok (.ifCond .le 10, 3) := by decide +kernel
theorem dX6_goOn_125 : decode cX6_goOn 125 = .ok (.aload_n 0, 1) := by decide +kernel
theorem dX6_goOn_126 : decode cX6_goOn 126 = .ok (.invokevirtual 225, 3) := by decide +kernel
theorem dX6_goOn_129 : decode cX6_goOn 129 = .ok (.goto 28, 3) := by decide +kernel
theorem dX6_goOn_132 : decode cX6_goOn 132 = .ok (.aload_n 0, 1) := by decide +kernel
theorem dX6_goOn_133 : decode cX6_goOn 133 = .ok (.getfield 187, 3) := by decide +kernel
theorem dX6_goOn_136 : decode cX6_goOn 136 = .ok (.aload_n 0, 1) := by decide +kernel
theorem dX6_goOn_137 : decode cX6_goOn 137 = .ok (.getfield 197, 3) := by decide +kernel
theorem dX6_goOn_140 : decode cX6_goOn 140 = .ok (.if_icmp .ge 15, 3) := by decide +kernel
theorem dX6_goOn_143 : decode cX6_goOn 143 = .ok (.aload_n 0, 1) := by decide +kernel
theorem dX6_goOn_144 : decode cX6_goOn 144 = .ok (.iconst 4, 1) := by decide +kernel
theorem dX6_goOn_145 : decode cX6_goOn 145 = .ok (.aload_n 0, 1) := by decide +kernel
theorem dX6_goOn_146 : decode cX6_goOn 146 = .ok (.getfield 187, 3) := by decide +kernel
theorem dX6_goOn_149 : decode cX6_goOn 149 = .ok (.invokevirtual 212, 3) := by decide +kernel
theorem dX6_goOn_152 : decode cX6_goOn 152 = .ok (.goto 5, 3) := by decide +kernel
theorem dX6_goOn_155 : decode cX6_goOn 155 = .ok (.iconst 1, 1) := by decide +kernel
theorem dX6_goOn_156 : decode cX6_goOn 156 = .ok (.ireturn, 1) := by decide +kernel
theorem dX6_goOn_157 : decode cX6_goOn 157 = .ok (.iconst 0, 1) := by decide +kernel
theorem dX6_goOn_158 : decode cX6_goOn 158 = .ok (.ireturn, 1) := by decide +kernel
theorem dX6_readAll_0 : decode cX6_readAll 0 = .ok (.aload_n 0, 1) := by decide +kernel
theorem dX6_readAll_1 : decode cX6_readAll 1 = .ok (.iconst 0, 1) := by decide +kernel
theorem dX6_readAll_2 : decode cX6_readAll 2 = .ok (.putfield 175, 3) := by decide +kernel
theorem dX6_readAll_5 : decode cX6_readAll 5 = .ok (.aload_n 0, 1) := by decide +kernel
theorem dX6_readAll_6 : decode cX6_readAll 6 = .ok (.iconst 0, 1) := by decide +kernel
theorem dX6_readAll_7 : decode cX6_readAll 7 = .ok (.putfield 184, 3) := by decide +kernel
theorem dX6_readAll_10 : decode cX6_readAll 10 = .ok (.aload_n 0, 1) := by decide +kernel
theorem dX6_readAll_11 : decode cX6_readAll 11 = .ok (.iconst 0, 1) := by decide +kernel
theorem dX6_readAll_12 : decode cX6_readAll 12 = .ok (.putfield 187, 3) := by decide +kernel
theorem dX6_readAll_15 : decode cX6_readAll 15 = .ok (.aload_n 0, 1) := by decide +kernel
theorem dX6_readAll_16 : decode cX6_readAll 16 = .ok (.iconst 0, 1) := by decide +kernel
theorem dX6_readAll_17 : decode cX6_readAll 17 = .ok (.putfield 190, 3) := by decide +kernel
theorem dX6_readAll_20 : decode cX6_readAll 20 = .ok (.aload_n 0, 1) := by decide +kernel
theorem dX6_readAll_21 : decode cX6_readAll 21 = .ok (.bipush (-10), 2) := by decide +kernel
theorem dX6_readAll_23 : decode cX6_readAll 23 = .ok (.putfield 203, 3) := by decide +kernel
theorem dX6_readAll_26 : decode cX6_readAll 26 = .ok (.aload_n 0, 1) := by decide +kernel
theorem dX6_readAll_27 : decode cX6_readAll 27 = .ok (.iconst 0, 1) := by decide +kernel
theorem dX6_readAll_28 : decode cX6_readAll 28 = .ok (.putfield 206, 3) := by decide +kernel
theorem dX6_readAll_31 : decode cX6_readAll 31 = .ok (.aload_n 0, 1) := by decide +kernel
theorem dX6_readAll_32 : decode cX6_readAll 32 = .ok (.iconst 1, 1) := by decide +kernel
theorem dX6_readAll_33 : decode cX6_readAll 33 = .ok (.putfield 193, 3) := by decide +kernel
theorem dX6_readAll_36 : decode cX6_readAll 36 = .ok (.aload_n 0, 1) := by decide +kernel
theorem dX6_readAll_37 : decode cX6_readAll 37 = .ok (.bipush (-10), 2) := by decide +kernel
theorem dX6_readAll_39 : decode cX6_readAll 39 = .ok (.putfield 178, 3) := by decide +kernel
theorem dX6_readAll_42 : decode cX6_readAll 42 = .ok (.aload_n 0, 1) := by decide +kernel
theorem dX6_readAll_43 : decode cX6_readAll 43 = .ok (.bipush (-10), 2) := by decide +kernel
theorem dX6_readAll_45 : decode cX6_readAll 45 = .ok (.putfield 181, 3) := by decide +kernel
theorem dX6_readAll_48 : decode cX6_readAll 48 = .ok (.iconst 0, 1) := by decide +kernel
theorem dX6_readAll_49 : decode cX6_readAll 49 = .ok (.istore_n 1, 1) := by decide +kernel
theorem dX6_readAll_50 : decode cX6_readAll 50 = .ok (.iload_n 1, 1) := by decide +kernel
theorem dX6_readAll_51 : decode cX6_readAll 51 = .ok (.ifCond .ne 32, 3) := by decide +kernel
theorem dX6_readAll_54 : decode cX6_readAll 54 = .ok (.aload_n 0, 1) := by decide +kernel
theorem dX6_readAll_55 : decode cX6_readAll 55 = .ok (.getfield 178, 3) := by decide +kernel
theorem dX6_readAll_58 : decode cX6_readAll 58 = .ok (.ifCond .ge 25, 3) := by decide +kernel
theorem dX6_readAll_61 : decode cX6_readAll 61 = .ok (.aload_n 0, 1) := by decide +kernel
theorem dX6_readAll_62 : decode cX6_readAll 62 = .ok (.getfield 193, 3) := by decide +kernel
theorem dX6_readAll_65 : decode cX6_readAll 65 = .ok (.ifCond .eq 10, 3) := by decide +kernel
theorem dX6_readAll_68 : decode cX6_readAll 68 = .ok (.aload_n 0, 1) := by decide +kernel
theorem dX6_readAll_69 : decode cX6_readAll 69 = .ok (.invokevirtual 228, 3) := by decide +kernel
theorem dX6_readAll_72 : decode cX6_readAll 72 = .ok (.goto (-22), 3) := by decide +kernel
theorem dX6_readAll_75 : decode cX6_readAll 75 = .ok (.aload_n 0, 1) := by decide +kernel
theorem dX6_readAll_76 : decode cX6_readAll 76 = .ok (.invokevirtual 231, 3) := by decide +kernel
theorem dX6_readAll_79 : decode cX6_readAll 79 = .ok (.istore_n 1, 1) := by decide +kernel
theorem dX6_readAll_80 : decode cX6_readAll 80 = .ok (.goto (-30), 3) := by decide +kernel
theorem dX6_readAll_83 : decode cX6_readAll 83 = .ok (.aload_n 0, 1) := by decide +kernel
theorem dX6_readAll_84 : decode cX6_readAll 84 = .ok (.getfield 178, 3) := by decide +kernel
theorem dX6_readAll_87 : decode cX6_readAll 87 = .ok (.ifCond .ge 7, 3) := by decide +kernel
theorem dX6_readAll_90 : decode cX6_readAll 90 = .ok (.iconst 1, 1) := by decide +kernel
theorem dX6_readAll_91 : decode cX6_readAll 91 = .ok (.goto 4, 3) := by decide +kernel
theorem dX6_readAll_94 : decode cX6_readAll 94 = .ok (.iconst 0, 1) := by decide +kernel
theorem dX6_readAll_95 : decode cX6_readAll 95 = .ok (.ireturn, 1) := by decide +kernel
theorem dX6_isSameAs_0 : decode cX6_isSameAs 0 = .ok (.iconst 1, 1) := by decide +kernel
theorem dX6_isSameAs_1 : decode cX6_isSameAs 1 = .ok (.istore_n 2, 1) := by decide +kernel
theorem dX6_isSameAs_2 : decode cX6_isSameAs 2 = .ok (.aload_n 0, 1) := by decide +kernel
theorem dX6_isSameAs_3 : decode cX6_isSameAs 3 = .ok (.getfield 57, 3) := by decide +kernel
theorem dX6_isSameAs_6 : decode cX6_isSameAs 6 = .ok (.iconst 0, 1) := by decide +kernel
theorem dX6_isSameAs_7 : decode cX6_isSameAs 7 = .ok (.iload_n 1, 1) := by decide +kernel
theorem dX6_isSameAs_8 : decode cX6_isSameAs 8 = .ok (.iastore, 1) := by decide +kernel
theorem dX6_isSameAs_9 : decode cX6_isSameAs 9 = .ok (.aload_n 0, 1) := by decide +kernel
theorem dX6_isSameAs_10 : decode cX6_isSameAs 10 = .ok (.getfield 60, 3) := by decide +kernel
theorem dX6_isSameAs_13 : decode cX6_isSameAs 13 = .ok (.iconst 0, 1) := by decide +kernel
theorem dX6_isSameAs_14 : decode cX6_isSameAs 14 = .ok (.aload_n 0, 1) := by decide +kernel
theorem dX6_isSameAs_15 : decode cX6_isSameAs 15 = .ok (.getfield 203, 3) := by decide +kernel
theorem dX6_isSameAs_18 : decode cX6_isSameAs 18 = .ok (.iastore, 1) := by decide +kernel
theorem dX6_isSameAs_19 : decode cX6_isSameAs 19 = .ok (.iload_n 2, 1) := by decide +kernel
theorem dX6_isSameAs_20 : decode cX6_isSameAs 20 = .ok (.ifCond .le 132, 3) := by decide +kernel
theorem dX6_isSameAs_23 : decode cX6_isSameAs 23 = .ok (.iinc 2 (-1), 3) := by decide +kernel
theorem dX6_isSameAs_26 : decode cX6_isSameAs 26 = .ok (.aload_n 0, 1) := by decide +kernel
theorem dX6_isSameAs_27 : decode cX6_isSameAs 27 = .ok (.getfield 57, 3) := by decide +kernel
theorem dX6_isSameAs_30 : decode cX6_isSameAs 30 = .ok (.iload_n 2, 1) := by decide +kernel
theorem dX6_isSameAs_31 : decode cX6_isSameAs 31 = .ok (.iaload, 1) := by decide +kernel
theorem dX6_isSameAs_32 : decode cX6_isSameAs 32 = .ok (.istore_n 3, 1) := by decide +kernel
theorem dX6_isSameAs_33 : decode cX6_isSameAs 33 = .ok (.aload_n 0, 1) := by decide +kernel
theorem dX6_isSameAs_34 : decode cX6_isSameAs 34 = .ok (.getfield 60, 3) := by decide +kernel
theorem dX6_isSameAs_37 : decode cX6_isSameAs 37 = .ok (.iload_n 2, 1) := by decide +kernel
theorem dX6_isSameAs_38 : decode cX6_isSameAs 38 = .ok (.iaload, 1) := by decide +kernel
theorem dX6_isSameAs_39 : decode cX6_isSameAs 39 = .ok (.istore 4, 2) := by decide +kernel
theorem dX6_isSameAs_41 : decode cX6_isSameAs 41 = .ok (.aload_n 0, 1) := by decide +kernel
theorem dX6_isSameAs_42 : decode cX6_isSameAs 42 = .ok (.getfield 26, 3) := by decide +kernel
theorem dX6_isSameAs_45 : decode cX6_isSameAs 45 = .ok (.iload_n 3, 1) := by decide +kernel
theorem dX6_isSameAs_46 : decode cX6_isSameAs 46 = .ok (.iaload, 1) := by decide +kernel
theorem dX6_isSameAs_47 : decode cX6_isSameAs 47 = .ok (.aload_n 0, 1) := by decide +kernel
theorem dX6_isSameAs_48 : decode cX6_isSameAs 48 = .ok (.getfield 72, 3) := by decide +kernel
theorem dX6_isSameAs_51 : decode cX6_isSameAs 51 = .ok (.iload 4, 2) := by decide +kernel
theorem dX6_isSameAs_53 : decode cX6_isSameAs 53 = .ok (.iaload, 1) := by decide +kernel
theorem dX6_isSameAs_54 : decode cX6_isSameAs 54 = .ok (.if_icmp .ne 19, 3) := by decide +kernel
theorem dX6_isSameAs_57 : decode cX6_isSameAs 57 = .ok (.aload_n 0, 1) := by decide +kernel
theorem dX6_isSameAs_58 : decode cX6_isSameAs 58 = .ok (.getfield 29, 3) := by decide +kernel
theorem dX6_isSameAs_61 : decode cX6_isSameAs 61 = .ok (.iload_n 3, 1) := by decide +kernel
theorem dX6_isSameAs_62 : decode cX6_isSameAs 62 = .ok (.iaload, 1) := by decide +kernel
theorem dX6_isSameAs_63 : decode cX6_isSameAs 63 = .ok (.aload_n 0, 1) := by decide +kernel
theorem dX6_isSameAs_64 : decode cX6_isSameAs 64 = .ok (.getfield 75, 3) := by decide +kernel
theorem dX6_isSameAs_67 : decode cX6_isSameAs 67 = .ok (.iload 4, 2) := by decide +kernel
theorem dX6_isSameAs_69 : decode cX6_isSameAs 69 = .ok (.iaload, 1) := by decide +kernel
theorem dX6_isSameAs_70 : decode cX6_isSameAs 70 = .ok (.if_icmp .eq 5, 3) := by decide +kernel
theorem dX6_isSameAs_73 : decode cX6_isSameAs 73 = .ok (.iconst 0, 1) := by decide +kernel
theorem dX6_isSameAs_74 : decode cX6_isSameAs 74 = .ok (.ireturn, 1) := by decide +kernel
theorem dX6_isSameAs_75 : decode cX6_isSameAs 75 = .ok (.aload_n 0, 1) := by decide +kernel
theorem dX6_isSameAs_76 : decode cX6_isSameAs 76 = .ok (.getfield 32, 3) := by decide +kernel
theorem dX6_isSameAs_79 : decode cX6_isSameAs 79 = .ok (.iload_n 3, 1) := by decide +kernel
theorem dX6_isSameAs_80 : decode cX6_isSameAs 80 = .ok (.iaload, 1) := by decide +kernel
theorem dX6_isSameAs_81 : decode cX6_isSameAs 81 = .ok (.ifCond .lt 31, 3) := by decide +kernel
theorem dX6_isSameAs_84 : decode cX6_isSameAs 84 = .ok (.aload_n 0, 1) := by decide +kernel
theorem dX6_isSameAs_85 : decode cX6_isSameAs 85 = .ok (.getfield 57, 3) := by decide +kernel
theorem dX6_isSameAs_88 : decode cX6_isSameAs 88 = .ok (.iload_n 2, 1) := by decide +kernel
theorem dX6_isSameAs_89 : decode cX6_isSameAs 89 = .ok (.aload_n 0, 1) := by decide +kernel
theorem dX6_isSameAs_90 : decode cX6_isSameAs 90 = .ok (.getfield 32, 3) := by decide +kernel
theorem dX6_isSameAs_93 : decode cX6_isSameAs 93 = .ok (.iload_n 3, 1) := by decide +kernel
theorem dX6_isSameAs_94 : decode cX6_isSameAs 94 = .ok (.iaload, 1) := by decide +kernel
theorem dX6_isSameAs_95 : decode cX6_isSameAs 95 = .ok (.iastore, 1) := by decide +kernel
theorem dX6_isSameAs_96 : decode cX6_isSameAs 96 = .ok (.aload_n 0, 1) := by decide +kernel
theorem dX6_isSameAs_97 : decode cX6_isSameAs 97 = .ok (.getfield 60, 3) := by decide +kernel
theorem dX6_isSameAs_100 : decode cX6_isSameAs 100 = .ok (.iload_n 2, 1) := by decide +kernel
theorem dX6_isSameAs_101 : decode cX6_isSameAs 101 = .ok (.aload_n 0, 1) := by decide +kernel
theorem dX6_isSameAs_102 : decode cX6_isSameAs 102 = .ok (.getfield 78, 3) := by decide +kernel
theorem dX6_isSameAs_105 : decode cX6_isSameAs 105 = .ok (.iload 4, 2) := by decide +kernel
theorem dX6_isSameAs_107 : decode cX6_isSameAs 107 = .ok (.iaload, 1) := by decide +kernel
theorem dX6_isSameAs_108 : decode cX6_isSameAs 108 = .ok (.iastore, 1) := by decide +kernel
theorem dX6_isSameAs_109 : decode cX6_isSameAs 109 = .ok (.iinc 2 1, 3) := by decide +kernel
theorem dX6_isSameAs_112 : decode cX6_isSameAs 112 = .ok (.aload_n 0, 1) := by decide +kernel
theorem dX6_isSameAs_113 : decode cX6_isSameAs 113 = .ok (.getfield 35, 3) := by decide +kernel
theorem dX6_isSameAs_116 : decode cX6_isSameAs 116 = .ok (.iload_n 3, 1) := by decide +kernel
theorem dX6_isSameAs_117 : decode cX6_isSameAs 117 = .ok (.iaload, 1) := by decide +kernel
theorem dX6_isSameAs_118 : decode cX6_isSameAs 118 = .ok (.ifCond .lt 31, 3) := by decide +kernel
theorem dX6_isSameAs_121 : decode cX6_isSameAs 121 = .ok (.aload_n 0, 1) := by decide +kernel
theorem dX6_isSameAs_122 : decode cX6_isSameAs 122 = .ok (.getfield 57, 3) := by decide +kernel
theorem dX6_isSameAs_125 : decode cX6_isSameAs 125 = .ok (.iload_n 2, 1) := by decide +kernel
theorem dX6_isSameAs_126 : decode cX6_isSameAs 126 = .ok (.aload_n 0, 1) := by decide +kernel
theorem dX6_isSameAs_127 : decode cX6_isSameAs 127 = .ok (.getfield 35, 3) := by decide +kernel
theorem dX6_isSameAs_130 : decode cX6_isSameAs 130 = .ok (.iload_n 3, 1) := by decide +kernel
theorem dX6_isSameAs_131 : decode cX6_isSameAs 131 = .ok (.iaload, 1) := by decide +kernel
theorem dX6_isSameAs_132 : decode cX6_isSameAs 132 = .ok (.iastore, 1) := by decide +kernel
theorem dX6_isSameAs_133 : decode cX6_isSameAs 133 = .ok (.aload_n 0, 1) := by decide +kernel
theorem dX6_isSameAs_134 : decode cX6_isSameAs 134 = .ok (.getfield 60, 3) := by decide +kernel
theorem dX6_isSameAs_137 : decode cX6_isSameAs 137 = .ok (.iload_n 2, 1) := by decide +kernel
theorem dX6_isSameAs_138 : decode cX6_isSameAs 138 = .ok (.aload_n 0, 1) := by decide +kernel
theorem dX6_isSameAs_139 : decode cX6_isSameAs 139 = .ok (.getfield 81, 3) := by decide +kernel
theorem dX6_isSameAs_142 : decode cX6_isSameAs 142 = .ok (.iload 4, 2) := by decide +kernel
theorem dX6_isSameAs_144 : decode cX6_isSameAs 144 = .ok (.iaload, 1) := by decide +kernel
theorem dX6_isSameAs_145 : decode cX6_isSameAs 145 = .ok (.iastore, 1) := by decide +kernel
theorem dX6_isSameAs_146 : decode cX6_isSameAs 146 = .ok (.iinc 2 1, 3) := by decide +kernel
theorem dX6_isSameAs_149 : decode cX6_isSameAs 149 = .ok (.goto (-130), 3) := by decide +kernel
theorem dX6_isSameAs_152 : decode cX6_isSameAs 152 = .ok (.iconst 1, 1) := by decide +kernel
theorem dX6_isSameAs_153 : decode cX6_isSameAs 153 = .ok (.ireturn, 1) := by decide +kernel
theorem dX6_openingOf_0 : decode cX6_openingOf 0 = .ok (.iconst 0, 1) := by decide +kernel
theorem dX6_openingOf_1 : decode cX6_openingOf 1 = .ok (.istore_n 2, 1) := by decide +kernel
theorem dX6_openingOf_2 : decode cX6_openingOf 2 = .ok (.iconst 0, 1) := by decide +kernel
theorem dX6_openingOf_3 : decode cX6_openingOf 3 = .ok (.istore_n 3, 1) := by decide +kernel
theorem dX6_openingOf_4 : decode cX6_openingOf 4 = .ok (.iload_n 3, 1) := by decide +kernel
theorem dX6_openingOf_5 : decode cX6_openingOf 5 = .ok (.aload_n 0, 1) := by decide +kernel
theorem dX6_openingOf_6 : decode cX6_openingOf 6 = .ok (.getfield 154, 3) := by decide +kernel
theorem dX6_openingOf_9 : decode cX6_openingOf 9 = .ok (.if_icmp .ge 30, 3) := by decide +kernel
theorem dX6_openingOf_12 : decode cX6_openingOf 12 = .ok (.aload_n 0, 1) := by decide +kernel
theorem dX6_openingOf_13 : decode cX6_openingOf 13 = .ok (.getfield 41, 3) := by decide +kernel
theorem dX6_openingOf_16 : decode cX6_openingOf 16 = .ok (.iload_n 3, 1) := by decide +kernel
theorem dX6_openingOf_17 : decode cX6_openingOf 17 = .ok (.iaload, 1) := by decide +kernel
theorem dX6_openingOf_18 : decode cX6_openingOf 18 = .ok (.bipush 40, 2) := by decide +kernel
theorem dX6_openingOf_20 : decode cX6_openingOf 20 = .ok (.if_icmp .ne 13, 3) := by decide +kernel
theorem dX6_openingOf_23 : decode cX6_openingOf 23 = .ok (.iload_n 2, 1) := by decide +kernel
theorem dX6_openingOf_24 : decode cX6_openingOf 24 = .ok (.iload_n 1, 1) := by decide +kernel
theorem dX6_openingOf_25 : decode cX6_openingOf 25 = .ok (.if_icmp .ne 5, 3) := by decide +kernel
theorem dX6_openingOf_28 : decode cX6_openingOf 28 = .ok (.iload_n 3, 1) := by decide +kernel
theorem dX6_openingOf_29 : decode cX6_openingOf 29 = .ok (.ireturn, 1) := by decide +kernel
theorem dX6_openingOf_30 : decode cX6_openingOf 30 = .ok (.iinc 2 1, 3) := by decide +kernel
theorem dX6_openingOf_33 : decode cX6_openingOf 33 = .ok (.iinc 3 1, 3) := by decide +kernel
theorem dX6_openingOf_36 : decode cX6_openingOf 36 = .ok (.goto (-32), 3) := by decide +kernel
theorem dX6_openingOf_39 : decode cX6_openingOf 39 = .ok (.bipush (-10), 2) := by decide +kernel
theorem dX6_openingOf_41 : decode cX6_openingOf 41 = .ok (.ireturn, 1) := by decide +kernel
theorem dX6_closingOf_0 : decode cX6_closingOf 0 = .ok (.iconst 1, 1) := by decide +kernel
theorem dX6_closingOf_1 : decode cX6_closingOf 1 = .ok (.istore_n 2, 1) := by decide +kernel
theorem dX6_closingOf_2 : decode cX6_closingOf 2 = .ok (.iload_n 1, 1) := by decide +kernel
theorem dX6_closingOf_3 : decode cX6_closingOf 3 = .ok (.istore_n 3, 1) := by decide +kernel
theorem dX6_closingOf_4 : decode cX6_closingOf 4 = .ok (.iload_n 2, 1) := by decide +kernel
theorem dX6_closingOf_5 : decode cX6_closingOf 5 = .ok (.ifCond .le 43, 3) := by decide +kernel
theorem dX6_closingOf_8 : decode cX6_closingOf 8 = .ok (.iinc 3 1, 3) := by decide +kernel
theorem dX6_closingOf_11 : decode cX6_closingOf 11 = .ok (.iload_n 2, 1) := by decide +kernel
theorem dX6_closingOf_12 : decode cX6_closingOf 12 = .ok (.aload_n 0, 1) := by decide +kernel
theorem dX6_closingOf_13 : decode cX6_closingOf 13 = .ok (.getfield 41, 3) := by decide +kernel
theorem dX6_closingOf_16 : decode cX6_closingOf 16 = .ok (.iload_n 3, 1) := by decide +kernel
theorem dX6_closingOf_17 : decode cX6_closingOf 17 = .ok (.iaload, 1) := by decide +kernel
theorem dX6_closingOf_18 : decode cX6_closingOf 18 = .ok (.bipush 40, 2) := by decide +kernel
theorem dX6_closingOf_20 : decode cX6_closingOf 20 = .ok (.if_icmp .ne 7, 3) := by decide +kernel
theorem dX6_closingOf_23 : decode cX6_closingOf 23 = .ok (.iconst 1, 1) := by decide +kernel
theorem dX6_closingOf_24 : decode cX6_closingOf 24 = .ok (.goto 19, 3) := by decide +kernel
theorem dX6_closingOf_27 : decode cX6_closingOf 27 = .ok (.aload_n 0, 1) := by decide +kernel
theorem dX6_closingOf_28 : decode cX6_closingOf 28 = .ok (.getfield 41, 3) := by decide +kernel
theorem dX6_closingOf_31 : decode cX6_closingOf 31 = .ok (.iload_n 3, 1) := by decide +kernel
theorem dX6_closingOf_32 : decode cX6_closingOf 32 = .ok (.iaload, 1) := by decide +kernel
theorem dX6_closingOf_33 : decode cX6_closingOf 33 = .ok (.bipush 41, 2) := by decide +kernel
theorem dX6_closingOf_35 : decode cX6_closingOf 35 = .ok (.if_icmp .ne 7, 3) := by decide +kernel
theorem dX6_closingOf_38 : decode cX6_closingOf 38 = .ok (.iconst (-1), 1) := by decide +kernel
theorem dX6_closingOf_39 : decode cX6_closingOf 39 = .ok (.goto 4, 3) := by decide +kernel
theorem dX6_closingOf_42 : decode cX6_closingOf 42 = .ok (.iconst 0, 1) := by decide +kernel
theorem dX6_closingOf_43 : decode cX6_closingOf 43 = .ok (.iadd, 1) := by decide +kernel
theorem dX6_closingOf_44 : decode cX6_closingOf 44 = .ok (.istore_n 2, 1) := by decide +kernel
theorem dX6_closingOf_45 : decode cX6_closingOf 45 = .ok (.goto (-41), 3) := by decide +kernel
theorem dX6_closingOf_48 : decode cX6_closingOf 48 = .ok (.iload_n 3, 1) := by decide +kernel
theorem dX6_closingOf_49 : decode cX6_closingOf 49 = .ok (.ireturn, 1) := by decide +kernel
theorem dX6_readWithout_0 : decode cX6_readWithout 0 = .ok (.aload_n 0, 1) := by decide +kernel
theorem dX6_readWithout_1 : decode cX6_readWithout 1 = .ok (.getfield 44, 3) := by decide +kernel
theorem dX6_readWithout_4 : decode cX6_readWithout 4 = .ok (.ifCond .ge 6, 3) := by decide +kernel
theorem dX6_readWithout_7 : decode cX6_readWithout 7 = .ok (.bipush (-11), 2) := by decide +kernel
theorem dX6_readWithout_9 : decode cX6_readWithout 9 = .ok (.ireturn, 1) := by decide +kernel
theorem dX6_readWithout_10 : decode cX6_readWithout 10 = .ok (.iload_n 1, 1) := by decide +kernel
theorem dX6_readWithout_11 : decode cX6_readWithout 11 = .ok (.iconst 0, 1) := by decide +kernel
theorem dX6_readWithout_12 : decode cX6_readWithout 12 = .ok (.aload_n 0, 1) := by decide +kernel
theorem dX6_readWithout_13 : decode cX6_readWithout 13 = .ok (.invokevirtual 235, 3) := by decide +kernel
theorem dX6_readWithout_16 : decode cX6_readWithout 16 = .ok (.iconst 1, 1) := by decide +kernel
theorem dX6_readWithout_17 : decode cX6_readWithout 17 = .ok (.isub, 1) := by decide +kernel
theorem dX6_readWithout_18 : decode cX6_readWithout 18 = .ok (.invokestatic 90, 3) := by decide +kernel
theorem dX6_readWithout_21 : decode cX6_readWithout 21 = .ok (.ifCond .ne 6, 3) := by decide +kernel
theorem dX6_readWithout_24 : decode cX6_readWithout 24 = .ok (.bipush (-9), 2) := by decide +kernel
theorem dX6_readWithout_26 : decode cX6_readWithout 26 = .ok (.ireturn, 1) := by decide +kernel
theorem dX6_readWithout_27 : decode cX6_readWithout 27 = .ok (.aload_n 0, 1) := by decide +kernel
theorem dX6_readWithout_28 : decode cX6_readWithout 28 = .ok (.iload_n 1, 1) := by decide +kernel
theorem dX6_readWithout_29 : decode cX6_readWithout 29 = .ok (.invokevirtual 239, 3) := by decide +kernel
theorem dX6_readWithout_32 : decode cX6_readWithout 32 = .ok (.istore_n 2, 1) := by decide +kernel
theorem dX6_readWithout_33 : decode cX6_readWithout 33 = .ok (.aload_n 0, 1) := by decide +kernel
theorem dX6_readWithout_34 : decode cX6_readWithout 34 = .ok (.iload_n 2, 1) := by decide +kernel
theorem dX6_readWithout_35 : decode cX6_readWithout 35 = .ok (.invokevirtual 242, 3) := by decide +kernel
theorem dX6_readWithout_38 : decode cX6_readWithout 38 = .ok (.istore_n 3, 1) := by decide +kernel
theorem dX6_readWithout_39 : decode cX6_readWithout 39 = .ok (.aload_n 0, 1) := by decide +kernel
theorem dX6_readWithout_40 : decode cX6_readWithout 40 = .ok (.iconst 0, 1) := by decide +kernel
theorem dX6_readWithout_41 : decode cX6_readWithout 41 = .ok (.putfield 197, 3) := by decide +kernel
theorem dX6_readWithout_44 : decode cX6_readWithout 44 = .ok (.iconst 0, 1) := by decide +kernel
theorem dX6_readWithout_45 : decode cX6_readWithout 45 = .ok (.istore 4, 2) := by decide +kernel
theorem dX6_readWithout_47 : decode cX6_readWithout 47 = .ok (.iload 4, 2) := by decide +kernel
theorem dX6_readWithout_49 : decode cX6_readWithout 49 = .ok (.aload_n 0, 1) := by decide +kernel
theorem dX6_readWithout_50 : decode cX6_readWithout 50 = .ok (.getfield 154, 3) := by decide +kernel
theorem dX6_readWithout_53 : decode cX6_readWithout 53 = .ok (.if_icmp .ge 47, 3) := by decide +kernel
theorem dX6_readWithout_56 : decode cX6_readWithout 56 = .ok (.iload 4, 2) := by decide +kernel
theorem dX6_readWithout_58 : decode cX6_readWithout 58 = .ok (.iload_n 2, 1) := by decide +kernel
theorem dX6_readWithout_59 : decode cX6_readWithout 59 = .ok (.if_icmp .eq 35, 3) := by decide +kernel
theorem dX6_readWithout_62 : decode cX6_readWithout 62 = .ok (.iload 4, 2) := by decide +kernel
theorem dX6_readWithout_64 : decode cX6_readWithout 64 = .ok (.iload_n 3, 1) := by decide +kernel
theorem dX6_readWithout_65 : decode cX6_readWithout 65 = .ok (.if_icmp .eq 29, 3) := by decide +kernel
theorem dX6_readWithout_68 : decode cX6_readWithout 68 = .ok (.aload_n 0, 1) := by decide +kernel
theorem dX6_readWithout_69 : decode cX6_readWithout 69 = .ok (.getfield 69, 3) := by decide +kernel
theorem dX6_readWithout_72 : decode cX6_readWithout 72 = .ok (.aload_n 0, 1) := by decide +kernel
theorem dX6_readWithout_73 : decode cX6_readWithout 73 = .ok (.getfield 197, 3) := by decide +kernel
theorem dX6_readWithout_76 : decode cX6_readWithout 76 = .ok (.aload_n 0, 1) := by decide +kernel
theorem dX6_readWithout_77 : decode cX6_readWithout 77 = .ok (.getfield 41, 3) := by decide +kernel
theorem dX6_readWithout_80 : decode cX6_readWithout 80 = .ok (.iload 4, 2) := by decide +kernel
theorem dX6_readWithout_82 : decode cX6_readWithout 82 = .ok (.iaload, 1) := by decide +kernel
theorem dX6_readWithout_83 : decode cX6_readWithout 83 = .ok (.iastore, 1) := by decide +kernel
theorem dX6_readWithout_84 : decode cX6_readWithout 84 = .ok (.aload_n 0, 1) := by decide +kernel
theorem dX6_readWithout_85 : decode cX6_readWithout 85 = .ok (.dup, 1) := by decide +kernel
theorem dX6_readWithout_86 : decode cX6_readWithout 86 = .ok (.getfield 197, 3) := by decide +kernel
theorem dX6_readWithout_89 : decode cX6_readWithout 89 = .ok (.iconst 1, 1) := by decide +kernel
theorem dX6_readWithout_90 : decode cX6_readWithout 90 = .ok (.iadd, 1) := by decide +kernel
theorem dX6_readWithout_91 : decode cX6_readWithout 91 = .ok (.putfield 197, 3) := by decide +kernel
theorem dX6_readWithout_94 : decode cX6_readWithout 94 = .ok (.iinc 4 1, 3) := by decide +kernel
theorem dX6_readWithout_97 : decode cX6_readWithout 97 = .ok (.goto (-50), 3) := by decide +kernel
theorem dX6_readWithout_100 : decode cX6_readWithout 100 = .ok (.aload_n 0, 1) := by decide +kernel
theorem dX6_readWithout_101 : decode cX6_readWithout 101 = .ok (.invokevirtual 245, 3) := by decide +kernel
theorem dX6_readWithout_104 : decode cX6_readWithout 104 = .ok (.ifCond .ne 5, 3) := by decide +kernel
theorem dX6_readWithout_107 : decode cX6_readWithout 107 = .ok (.iconst 2, 1) := by decide +kernel
theorem dX6_readWithout_108 : decode cX6_readWithout 108 = .ok (.ireturn, 1) := by decide +kernel
theorem dX6_readWithout_109 : decode cX6_readWithout 109 = .ok (.aload_n 0, 1) := by decide +kernel
theorem dX6_readWithout_110 : decode cX6_readWithout 110 = .ok (.aload_n 0, 1) := by decide +kernel
theorem dX6_readWithout_111 : decode cX6_readWithout 111 = .ok (.getfield 44, 3) := by decide +kernel
theorem dX6_readWithout_114 : decode cX6_readWithout 114 = .ok (.invokevirtual 248, 3) := by decide +kernel
theorem dX6_readWithout_117 : decode cX6_readWithout 117 = .ok (.ifCond .eq 7, 3) := by decide +kernel
theorem dX6_readWithout_120 : decode cX6_readWithout 120 = .ok (.iconst 0, 1) := by decide +kernel
theorem dX6_readWithout_121 : decode cX6_readWithout 121 = .ok (.goto 4, 3) := by decide +kernel
theorem dX6_readWithout_124 : decode cX6_readWithout 124 = .ok (.iconst 1, 1) := by decide +kernel
theorem dX6_readWithout_125 : decode cX6_readWithout 125 = .ok (.ireturn, 1) := by decide +kernel
theorem dX6_append_0 : decode cX6_append 0 = .ok (.iload_n 1, 1) := by decide +kernel
theorem dX6_append_1 : decode cX6_append 1 = .ok (.bipush 33, 2) := by decide +kernel
theorem dX6_append_3 : decode cX6_append 3 = .ok (.bipush 126, 2) := by decide +kernel
theorem dX6_append_5 : decode cX6_append 5 = .ok (.invokestatic 90, 3) := by decide +kernel
theorem dX6_append_8 : decode cX6_append 8 = .ok (.ifCond .ne 6, 3) := by decide +kernel
theorem dX6_append_11 : decode cX6_append 11 = .ok (.bipush (-3), 2) := by decide +kernel
theorem dX6_append_13 : decode cX6_append 13 = .ok (.ireturn, 1) := by decide +kernel
theorem dX6_append_14 : decode cX6_append 14 = .ok (.aload_n 0, 1) := by decide +kernel
theorem dX6_append_15 : decode cX6_append 15 = .ok (.getfield 251, 3) := by decide +kernel
theorem dX6_append_18 : decode cX6_append 18 = .ok (.bipush 120, 2) := by decide +kernel
theorem dX6_append_20 : decode cX6_append 20 = .ok (.if_icmp .ne 6, 3) := by decide +kernel
theorem dX6_append_23 : decode cX6_append 23 = .ok (.bipush (-7), 2) := by decide +kernel
theorem dX6_append_25 : decode cX6_append 25 = .ok (.ireturn, 1) := by decide +kernel
theorem dX6_append_26 : decode cX6_append 26 = .ok (.aload_n 0, 1) := by decide +kernel
theorem dX6_append_27 : decode cX6_append 27 = .ok (.getfield 48, 3) := by decide +kernel
theorem dX6_append_30 : decode cX6_append 30 = .ok (.aload_n 0, 1) := by decide +kernel
theorem dX6_append_31 : decode cX6_append 31 = .ok (.getfield 251, 3) := by decide +kernel
theorem dX6_append_34 : decode cX6_append 34 = .ok (.iload_n 1, 1) := by decide +kernel
theorem dX6_append_35 : decode cX6_append 35 = .ok (.iastore, 1) := by decide +kernel
theorem dX6_append_36 : decode cX6_append 36 = .ok (.aload_n 0, 1) := by decide +kernel
theorem dX6_append_37 : decode cX6_append 37 = .ok (.dup, 1) := by decide +kernel
theorem dX6_append_38 : decode cX6_append 38 = .ok (.getfield 251, 3) := by decide +kernel
theorem dX6_append_41 : decode cX6_append 41 = .ok (.iconst 1, 1) := by decide +kernel
theorem dX6_append_42 : decode cX6_append 42 = .ok (.iadd, 1) := by decide +kernel
theorem dX6_append_43 : decode cX6_append 43 = .ok (.putfield 251, 3) := by decide +kernel
theorem dX6_append_46 : decode cX6_append 46 = .ok (.aload_n 0, 1) := by decide +kernel
theorem dX6_append_47 : decode cX6_append 47 = .ok (.getfield 251, 3) := by decide +kernel
theorem dX6_append_50 : decode cX6_append 50 = .ok (.ireturn, 1) := by decide +kernel
theorem dX6_copyOutput_0 : decode cX6_copyOutput 0 = .ok (.aload_n 0, 1) := by decide +kernel
theorem dX6_copyOutput_1 : decode cX6_copyOutput 1 = .ok (.aload_n 0, 1) := by decide +kernel
theorem dX6_copyOutput_2 : decode cX6_copyOutput 2 = .ok (.getfield 154, 3) := by decide +kernel
theorem dX6_copyOutput_5 : decode cX6_copyOutput 5 = .ok (.putfield 251, 3) := by decide +kernel
theorem dX6_copyOutput_8 : decode cX6_copyOutput 8 = .ok (.iconst 0, 1) := by decide +kernel
theorem dX6_copyOutput_9 : decode cX6_copyOutput 9 = .ok (.istore_n 1, 1) := by decide +kernel
theorem dX6_copyOutput_10 : decode cX6_copyOutput 10 = .ok (.iload_n 1, 1) := by decide +kernel
theorem dX6_copyOutput_11 : decode cX6_copyOutput 11 = .ok (.aload_n 0, 1) := by decide +kernel
theorem dX6_copyOutput_12 : decode cX6_copyOutput 12 = .ok (.getfield 154, 3) := by decide +kernel
theorem dX6_copyOutput_15 : decode cX6_copyOutput 15 = .ok (.if_icmp .ge 21, 3) := by decide +kernel
theorem dX6_copyOutput_18 : decode cX6_copyOutput 18 = .ok (.aload_n 0, 1) := by decide +kernel
theorem dX6_copyOutput_19 : decode cX6_copyOutput 19 = .ok (.getfield 48, 3) := by decide +kernel
theorem dX6_copyOutput_22 : decode cX6_copyOutput 22 = .ok (.iload_n 1, 1) := by decide +kernel
theorem dX6_copyOutput_23 : decode cX6_copyOutput 23 = .ok (.aload_n 0, 1) := by decide +kernel
theorem dX6_copyOutput_24 : decode cX6_copyOutput 24 = .ok (.getfield 41, 3) := by decide +kernel
theorem dX6_copyOutput_27 : decode cX6_copyOutput 27 = .ok (.iload_n 1, 1) := by decide +kernel
theorem dX6_copyOutput_28 : decode cX6_copyOutput 28 = .ok (.iaload, 1) := by decide +kernel
theorem dX6_copyOutput_29 : decode cX6_copyOutput 29 = .ok (.iastore, 1) := by decide +kernel
theorem dX6_copyOutput_30 : decode cX6_copyOutput 30 = .ok (.iinc 1 1, 3) := by decide +kernel
theorem dX6_copyOutput_33 : decode cX6_copyOutput 33 = .ok (.goto (-23), 3) := by decide +kernel
theorem dX6_copyOutput_36 : decode cX6_copyOutput 36 = .ok (.aload_n 0, 1) := by decide +kernel
theorem dX6_copyOutput_37 : decode cX6_copyOutput 37 = .ok (.getfield 251, 3) := by decide +kernel
theorem dX6_copyOutput_40 : decode cX6_copyOutput 40 = .ok (.ireturn, 1) := by decide +kernel
theorem dX6_clearInput_0 : decode cX6_clearInput 0 = .ok (.aload_n 0, 1) := by decide +kernel
theorem dX6_clearInput_1 : decode cX6_clearInput 1 = .ok (.getfield 251, 3) := by decide +kernel
theorem dX6_clearInput_4 : decode cX6_clearInput 4 = .ok (.istore_n 1, 1) := by decide +kernel
theorem dX6_clearInput_5 : decode cX6_clearInput 5 = .ok (.aload_n 0, 1) := by decide +kernel
theorem dX6_clearInput_6 : decode cX6_clearInput 6 = .ok (.iconst 0, 1) := by decide +kernel
theorem dX6_clearInput_7 : decode cX6_clearInput 7 = .ok (.putfield 251, 3) := by decide +kernel
theorem dX6_clearInput_10 : decode cX6_clearInput 10 = .ok (.iload_n 1, 1) := by decide +kernel
theorem dX6_clearInput_11 : decode cX6_clearInput 11 = .ok (.ireturn, 1) := by decide +kernel
theorem dX6_parse_0 : decode cX6_parse 0 = .ok (.aload_n 0, 1) := by decide +kernel
theorem dX6_parse_1 : decode cX6_parse 1 = .ok (.aload_n 0, 1) := by decide +kernel
theorem dX6_parse_2 : decode cX6_parse 2 = .ok (.getfield 251, 3) := by decide +kernel
theorem dX6_parse_5 : decode cX6_parse 5 = .ok (.putfield 197, 3) := by decide +kernel
theorem dX6_parse_8 : decode cX6_parse 8 = .ok (.iconst 0, 1) := by decide +kernel
theorem dX6_parse_9 : decode cX6_parse 9 = .ok (.istore_n 1, 1) := by decide +kernel
theorem dX6_parse_10 : decode cX6_parse 10 = .ok (.iload_n 1, 1) := by decide +kernel
theorem dX6_parse_11 : decode cX6_parse 11 = .ok (.aload_n 0, 1) := by decide +kernel
theorem dX6_parse_12 : decode cX6_parse 12 = .ok (.getfield 251, 3) := by decide +kernel
theorem dX6_parse_15 : decode cX6_parse 15 = .ok (.if_icmp .ge 21, 3) := by decide +kernel
theorem dX6_parse_18 : decode cX6_parse 18 = .ok (.aload_n 0, 1) := by decide +kernel
theorem dX6_parse_19 : decode cX6_parse 19 = .ok (.getfield 69, 3) := by decide +kernel
theorem dX6_parse_22 : decode cX6_parse 22 = .ok (.iload_n 1, 1) := by decide +kernel
theorem dX6_parse_23 : decode cX6_parse 23 = .ok (.aload_n 0, 1) := by decide +kernel
theorem dX6_parse_24 : decode cX6_parse 24 = .ok (.getfield 48, 3) := by decide +kernel
theorem dX6_parse_27 : decode cX6_parse 27 = .ok (.iload_n 1, 1) := by decide +kernel
theorem dX6_parse_28 : decode cX6_parse 28 = .ok (.iaload, 1) := by decide +kernel
theorem dX6_parse_29 : decode cX6_parse 29 = .ok (.iastore, 1) := by decide +kernel
theorem dX6_parse_30 : decode cX6_parse 30 = .ok (.iinc 1 1, 3) := by decide +kernel
theorem dX6_parse_33 : decode cX6_parse 33 = .ok (.goto (-23), 3) := by decide +kernel
theorem dX6_parse_36 : decode cX6_parse 36 = .ok (.aload_n 0, 1) := by decide +kernel
theorem dX6_parse_37 : decode cX6_parse 37 = .ok (.invokevirtual 245, 3) := by decide +kernel
theorem dX6_parse_40 : decode cX6_parse 40 = .ok (.ifCond .ne 22, 3) := by decide +kernel
theorem dX6_parse_43 : decode cX6_parse 43 = .ok (.aload_n 0, 1) := by decide +kernel
theorem dX6_parse_44 : decode cX6_parse 44 = .ok (.aload_n 0, 1) := by decide +kernel
theorem dX6_parse_45 : decode cX6_parse 45 = .ok (.getfield 178, 3) := by decide +kernel
theorem dX6_parse_48 : decode cX6_parse 48 = .ok (.putfield 51, 3) := by decide +kernel
theorem dX6_parse_51 : decode cX6_parse 51 = .ok (.aload_n 0, 1) := by decide +kernel
theorem dX6_parse_52 : decode cX6_parse 52 = .ok (.aload_n 0, 1) := by decide +kernel
theorem dX6_parse_53 : decode cX6_parse 53 = .ok (.getfield 181, 3) := by decide +kernel
theorem dX6_parse_56 : decode cX6_parse 56 = .ok (.putfield 54, 3) := by decide +kernel
theorem dX6_parse_59 : decode cX6_parse 59 = .ok (.bipush (-12), 2) := by decide +kernel
theorem dX6_parse_61 : decode cX6_parse 61 = .ok (.ireturn, 1) := by decide +kernel
theorem dX6_parse_62 : decode cX6_parse 62 = .ok (.aload_n 0, 1) := by decide +kernel
theorem dX6_parse_63 : decode cX6_parse 63 = .ok (.getfield 175, 3) := by decide +kernel
theorem dX6_parse_66 : decode cX6_parse 66 = .ok (.bipush 40, 2) := by decide +kernel
theorem dX6_parse_68 : decode cX6_parse 68 = .ok (.if_icmp .le 6, 3) := by decide +kernel
theorem dX6_parse_71 : decode cX6_parse 71 = .ok (.bipush (-7), 2) := by decide +kernel
theorem dX6_parse_73 : decode cX6_parse 73 = .ok (.ireturn, 1) := by decide +kernel
theorem dX6_parse_74 : decode cX6_parse 74 = .ok (.aload_n 0, 1) := by decide +kernel
theorem dX6_parse_75 : decode cX6_parse 75 = .ok (.getfield 94, 3) := by decide +kernel
theorem dX6_parse_78 : decode cX6_parse 78 = .ok (.aload_n 0, 1) := by decide +kernel
theorem dX6_parse_79 : decode cX6_parse 79 = .ok (.getfield 175, 3) := by decide +kernel
theorem dX6_parse_82 : decode cX6_parse 82 = .ok (.iadd, 1) := by decide +kernel
theorem dX6_parse_83 : decode cX6_parse 83 = .ok (.bipush 100, 2) := by decide +kernel
theorem dX6_parse_85 : decode cX6_parse 85 = .ok (.if_icmp .le 6, 3) := by decide +kernel
theorem dX6_parse_88 : decode cX6_parse 88 = .ok (.bipush (-6), 2) := by decide +kernel
theorem dX6_parse_90 : decode cX6_parse 90 = .ok (.ireturn, 1) := by decide +kernel
theorem dX6_parse_91 : decode cX6_parse 91 = .ok (.aload_n 0, 1) := by decide +kernel
theorem dX6_parse_92 : decode cX6_parse 92 = .ok (.getfield 94, 3) := by decide +kernel
theorem dX6_parse_95 : decode cX6_parse 95 = .ok (.istore_n 1, 1) := by decide +kernel
theorem dX6_parse_96 : decode cX6_parse 96 = .ok (.iconst 0, 1) := by decide +kernel
theorem dX6_parse_97 : decode cX6_parse 97 = .ok (.istore_n 2, 1) := by decide +kernel
theorem dX6_parse_98 : decode cX6_parse 98 = .ok (.iload_n 2, 1) := by decide +kernel
theorem dX6_parse_99 : decode cX6_parse 99 = .ok (.aload_n 0, 1) := by decide +kernel
theorem dX6_parse_100 : decode cX6_parse 100 = .ok (.getfield 175, 3) := by decide +kernel
theorem dX6_parse_103 : decode cX6_parse 103 = .ok (.if_icmp .ge 77, 3) := by decide +kernel
theorem dX6_parse_106 : decode cX6_parse 106 = .ok (.aload_n 0, 1) := by decide +kernel
theorem dX6_parse_107 : decode cX6_parse 107 = .ok (.getfield 78, 3) := by decide +kernel
theorem dX6_parse_110 : decode cX6_parse 110 = .ok (.iload_n 2, 1) := by decide +kernel
theorem dX6_parse_111 : decode cX6_parse 111 = .ok (.iaload, 1) := by decide +kernel
theorem dX6_parse_112 : decode cX6_parse 112 = .ok (.ifCond .ge 8, 3) := by decide +kernel
theorem dX6_parse_115 : decode cX6_parse 115 = .ok (.bipush (-10), 2) := by decide +kernel
theorem dX6_parse_117 : decode cX6_parse 117 = .ok (.goto 11, 3) := by decide +kernel
theorem dX6_parse_120 : decode cX6_parse 120 = .ok (.iload_n 1, 1) := by decide +kernel
theorem dX6_parse_121 : decode cX6_parse 121 = .ok (.aload_n 0, 1) := by decide +kernel
theorem dX6_parse_122 : decode cX6_parse 122 = .ok (.getfield 78, 3) := by decide +kernel
theorem dX6_parse_125 : decode cX6_parse 125 = .ok (.iload_n 2, 1) := by decide +kernel
theorem dX6_parse_126 : decode cX6_parse 126 = .ok (.iaload, 1) := by decide +kernel
theorem dX6_parse_127 : decode cX6_parse 127 = .ok (.iadd, 1) := by decide +kernel
theorem dX6_parse_128 : decode cX6_parse 128 = .ok (.istore_n 3, 1) := by decide +kernel
theorem dX6_parse_129 : decode cX6_parse 129 = .ok (.aload_n 0, 1) := by decide +kernel
theorem dX6_parse_130 : decode cX6_parse 130 = .ok (.getfield 81, 3) := by decide +kernel
theorem dX6_parse_133 : decode cX6_parse 133 = .ok (.iload_n 2, 1) := by decide +kernel
theorem dX6_parse_134 : decode cX6_parse 134 = .ok (.iaload, 1) := by decide +kernel
theorem dX6_parse_135 : decode cX6_parse 135 = .ok (.ifCond .ge 8, 3) := by decide +kernel
theorem dX6_parse_138 : decode cX6_parse 138 = .ok (.bipush (-10), 2) := by decide +kernel
theorem dX6_parse_140 : decode cX6_parse 140 = .ok (.goto 11, 3) := by decide +kernel
theorem dX6_parse_143 : decode cX6_parse 143 = .ok (.iload_n 1, 1) := by decide +kernel
theorem dX6_parse_144 : decode cX6_parse 144 = .ok (.aload_n 0, 1) := by decide +kernel
theorem dX6_parse_145 : decode cX6_parse 145 = .ok (.getfield 81, 3) := by decide +kernel
theorem dX6_parse_148 : decode cX6_parse 148 = .ok (.iload_n 2, 1) := by decide +kernel
theorem dX6_parse_149 : decode cX6_parse 149 = .ok (.iaload, 1) := by decide +kernel
theorem dX6_parse_150 : decode cX6_parse 150 = .ok (.iadd, 1) := by decide +kernel
theorem dX6_parse_151 : decode cX6_parse 151 = .ok (.istore 4, 2) := by decide +kernel
theorem dX6_parse_153 : decode cX6_parse 153 = .ok (.aload_n 0, 1) := by decide +kernel
theorem dX6_parse_154 : decode cX6_parse 154 = .ok (.aload_n 0, 1) := by decide +kernel
theorem dX6_parse_155 : decode cX6_parse 155 = .ok (.getfield 72, 3) := by decide +kernel
theorem dX6_parse_158 : decode cX6_parse 158 = .ok (.iload_n 2, 1) := by decide +kernel
theorem dX6_parse_159 : decode cX6_parse 159 = .ok (.iaload, 1) := by decide +kernel
theorem dX6_parse_160 : decode cX6_parse 160 = .ok (.aload_n 0, 1) := by decide +kernel
theorem dX6_parse_161 : decode cX6_parse 161 = .ok (.getfield 75, 3) := by decide +kernel
theorem dX6_parse_164 : decode cX6_parse 164 = .ok (.iload_n 2, 1) := by decide +kernel
theorem dX6_parse_165 : decode cX6_parse 165 = .ok (.iaload, 1) := by decide +kernel
theorem dX6_parse_166 : decode cX6_parse 166 = .ok (.iload_n 3, 1) := by decide +kernel
theorem dX6_parse_167 : decode cX6_parse 167 = .ok (.iload 4, 2) := by decide +kernel
theorem dX6_parse_169 : decode cX6_parse 169 = .ok (.invokevirtual 112, 3) := by decide +kernel
theorem dX6_parse_172 : decode cX6_parse 172 = .ok (.istore 5, 2) := by decide +kernel
theorem dX6_parse_174 : decode cX6_parse 174 = .ok (.iinc 2 1, 3) := by decide +kernel
theorem dX6_parse_177 : decode cX6_parse 177 = .ok (.goto (-79), 3) := by decide +kernel
theorem dX6_parse_180 : decode cX6_parse 180 = .ok (.iload_n 1, 1) := by decide +kernel
theorem dX6_parse_181 : decode cX6_parse 181 = .ok (.aload_n 0, 1) := by decide +kernel
theorem dX6_parse_182 : decode cX6_parse 182 = .ok (.getfield 203, 3) := by decide +kernel
theorem dX6_parse_185 : decode cX6_parse 185 = .ok (.iadd, 1) := by decide +kernel
theorem dX6_parse_186 : decode cX6_parse 186 = .ok (.ireturn, 1) := by decide +kernel
theorem dX6_errorKind_0 : decode cX6_errorKind 0 = .ok (.aload_n 0, 1) := by decide +kernel
theorem dX6_errorKind_1 : decode cX6_errorKind 1 = .ok (.getfield 51, 3) := by decide +kernel
theorem dX6_errorKind_4 : decode cX6_errorKind 4 = .ok (.ireturn, 1) := by decide +kernel
theorem dX6_errorPosition_0 : decode cX6_errorPosition 0 = .ok (.aload_n 0, 1) := by decide +kernel
theorem dX6_errorPosition_1 : decode cX6_errorPosition 1 = .ok (.getfield 54, 3) := by decide +kernel
theorem dX6_errorPosition_4 : decode cX6_errorPosition 4 = .ok (.ireturn, 1) := by decide +kernel
end
section
/-! ===== decode rows (as printed) ===== -/
theorem dL_law_0 : decode cL_law 0 = .ok (.new 7, 3) := by decide +kernel
theorem dL_law_3 : decode cL_law 3 = .ok (.dup, 1) := by decide +kernel
theorem dL_law_4 : decode cL_law 4 = .ok (.invokespecial 9, 3) := by decide +kernel
theorem dL_law_7 : decode cL_law 7 = .ok (.astore_n 1, 1) := by decide +kernel
theorem dL_law_8 : decode cL_law 8 = .ok (.new 10, 3) := by decide +kernel
theorem dL_law_11 : decode cL_law 11 = .ok (.dup, 1) := by decide +kernel
theorem dL_law_12 : decode cL_law 12 = .ok (.invokespecial 12, 3) := by decide +kernel
theorem dL_law_15 : decode cL_law 15 = .ok (.astore_n 2, 1) := by decide +kernel
theorem dL_law_16 : decode cL_law 16 = .ok (.iconst 0, 1) := by decide +kernel
theorem dL_law_17 : decode cL_law 17 = .ok (.istore_n 3, 1) := by decide +kernel
theorem dL_law_18 : decode cL_law 18 = .ok (.iload_n 3, 1) := by decide +kernel
theorem dL_law_19 : decode cL_law 19 = .ok (.aload_n 0, 1) := by decide +kernel
theorem dL_law_20 : decode cL_law 20 = .ok (.arraylength, 1) := by decide +kernel
theorem dL_law_21 : decode cL_law 21 = .ok (.iconst 4, 1) := by decide +kernel
theorem dL_law_22 : decode cL_law 22 = .ok (.isub, 1) := by decide +kernel
theorem dL_law_23 : decode cL_law 23 = .ok (.if_icmp .gt 870, 3) := by decide +kernel
theorem dL_law_26 : decode cL_law 26 = .ok (.aload_n 0, 1) := by decide +kernel
theorem dL_law_27 : decode cL_law 27 = .ok (.iload_n 3, 1) := by decide +kernel
theorem dL_law_28 : decode cL_law 28 = .ok (.iaload, 1) := by decide +kernel
theorem dL_law_29 : decode cL_law 29 = .ok (.bipush 31, 2) := by decide +kernel
theorem dL_law_31 : decode cL_law 31 = .ok (.iand, 1) := by decide +kernel
theorem dL_law_32 : decode cL_law 32 = .ok (.tableswitch 855 0 28 #[132, 165, 198, 231, 244, 267, 290, 323, 356, 415, 438, 471, 514, 527, 550, 573, 606, 629, 662, 685, 708, 731, 744, 767, 790, 803, 816, 829, 842], 132) := by decide +kernel
theorem dL_law_164 : decode cL_law 164 = .ok (.aload_n 1, 1) := by decide +kernel
theorem dL_law_165 : decode cL_law 165 = .ok (.aload_n 0, 1) := by decide +kernel
theorem dL_law_166 : decode cL_law 166 = .ok (.iload_n 3, 1) := by decide +kernel
theorem dL_law_167 : decode cL_law 167 = .ok (.iconst 1, 1) := by decide +kernel
theorem dL_law_168 : decode cL_law 168 = .ok (.iadd, 1) := by decide +kernel
theorem dL_law_169 : decode cL_law 169 = .ok (.iaload, 1) := by decide +kernel
theorem dL_law_170 : decode cL_law 170 = .ok (.aload_n 0, 1) := by decide +kernel
theorem dL_law_171 : decode cL_law 171 = .ok (.iload_n 3, 1) := by decide +kernel
theorem dL_law_172 : decode cL_law 172 = .ok (.iconst 2, 1) := by decide +kernel
theorem dL_law_173 : decode cL_law 173 = .ok (.iadd, 1) := by decide +kernel
theorem dL_law_174 : decode cL_law 174 = .ok (.iaload, 1) := by decide +kernel
theorem dL_law_175 : decode cL_law 175 = .ok (.invokevirtual 13, 3) := by decide +kernel
theorem dL_law_178 : decode cL_law 178 = .ok (.aload_n 2, 1) := by decide +kernel
theorem dL_law_179 : decode cL_law 179 = .ok (.aload_n 0, 1) := by decide +kernel
theorem dL_law_180 : decode cL_law 180 = .ok (.iload_n 3, 1) := by decide +kernel
theorem dL_law_181 : decode cL_law 181 = .ok (.iconst 1, 1) := by decide +kernel
theorem dL_law_182 : decode cL_law 182 = .ok (.iadd, 1) := by decide +kernel
theorem dL_law_183 : decode cL_law 183 = .ok (.iaload, 1) := by decide +kernel
theorem dL_law_184 : decode cL_law 184 = .ok (.aload_n 0, 1) := by decide +kernel
theorem dL_law_185 : decode cL_law 185 = .ok (.iload_n 3, 1) := by decide +kernel
theorem dL_law_186 : decode cL_law 186 = .ok (.iconst 2, 1) := by decide +kernel
theorem dL_law_187 : decode cL_law 187 = .ok (.iadd, 1) := by decide +kernel
theorem dL_law_188 : decode cL_law 188 = .ok (.iaload, 1) := by decide +kernel
theorem dL_law_189 : decode cL_law 189 = .ok (.invokevirtual 17, 3) := by decide +kernel
theorem dL_law_192 : decode cL_law 192 = .ok (.if_icmp .eq 695, 3) := by decide +kernel
theorem dL_law_195 : decode cL_law 195 = .ok (.iconst 0, 1) := by decide +kernel
theorem dL_law_196 : decode cL_law 196 = .ok (.ireturn, 1) := by decide +kernel
theorem dL_law_197 : decode cL_law 197 = .ok (.aload_n 1, 1) := by decide +kernel
theorem dL_law_198 : decode cL_law 198 = .ok (.aload_n 0, 1) := by decide +kernel
theorem dL_law_199 : decode cL_law 199 = .ok (.iload_n 3, 1) := by decide +kernel
theorem dL_law_200 : decode cL_law 200 = .ok (.iconst 1, 1) := by decide +kernel
theorem dL_law_201 : decode cL_law 201 = .ok (.iadd, 1) := by decide +kernel
theorem dL_law_202 : decode cL_law 202 = .ok (.iaload, 1) := by decide +kernel
theorem dL_law_203 : decode cL_law 203 = .ok (.aload_n 0, 1) := by decide +kernel
theorem dL_law_204 : decode cL_law 204 = .ok (.iload_n 3, 1) := by decide +kernel
theorem dL_law_205 : decode cL_law 205 = .ok (.iconst 2, 1) := by decide +kernel
theorem dL_law_206 : decode cL_law 206 = .ok (.iadd, 1) := by decide +kernel
theorem dL_law_207 : decode cL_law 207 = .ok (.iaload, 1) := by decide +kernel
theorem dL_law_208 : decode cL_law 208 = .ok (.invokevirtual 18, 3) := by decide +kernel
theorem dL_law_211 : decode cL_law 211 = .ok (.aload_n 2, 1) := by decide +kernel
theorem dL_law_212 : decode cL_law 212 = .ok (.aload_n 0, 1) := by decide +kernel
theorem dL_law_213 : decode cL_law 213 = .ok (.iload_n 3, 1) := by decide +kernel
theorem dL_law_214 : decode cL_law 214 = .ok (.iconst 1, 1) := by decide +kernel
theorem dL_law_215 : decode cL_law 215 = .ok (.iadd, 1) := by decide +kernel
theorem dL_law_216 : decode cL_law 216 = .ok (.iaload, 1) := by decide +kernel
theorem dL_law_217 : decode cL_law 217 = .ok (.aload_n 0, 1) := by decide +kernel
theorem dL_law_218 : decode cL_law 218 = .ok (.iload_n 3, 1) := by decide +kernel
theorem dL_law_219 : decode cL_law 219 = .ok (.iconst 2, 1) := by decide +kernel
theorem dL_law_220 : decode cL_law 220 = .ok (.iadd, 1) := by decide +kernel
theorem dL_law_221 : decode cL_law 221 = .ok (.iaload, 1) := by decide +kernel
theorem dL_law_222 : decode cL_law 222 = .ok (.invokevirtual 21, 3) := by decide +kernel
theorem dL_law_225 : decode cL_law 225 = .ok (.if_icmp .eq 662, 3) := by decide +kernel
theorem dL_law_228 : decode cL_law 228 = .ok (.iconst 0, 1) := by decide +kernel
theorem dL_law_229 : decode cL_law 229 = .ok (.ireturn, 1) := by decide +kernel
theorem dL_law_230 : decode cL_law 230 = .ok (.aload_n 1, 1) := by decide +kernel
theorem dL_law_231 : decode cL_law 231 = .ok (.aload_n 0, 1) := by decide +kernel
theorem dL_law_232 : decode cL_law 232 = .ok (.iload_n 3, 1) := by decide +kernel
theorem dL_law_233 : decode cL_law 233 = .ok (.iconst 1, 1) := by decide +kernel
theorem dL_law_234 : decode cL_law 234 = .ok (.iadd, 1) := by decide +kernel
theorem dL_law_235 : decode cL_law 235 = .ok (.iaload, 1) := by decide +kernel
theorem dL_law_236 : decode cL_law 236 = .ok (.aload_n 0, 1) := by decide +kernel
theorem dL_law_237 : decode cL_law 237 = .ok (.iload_n 3, 1) := by decide +kernel
theorem dL_law_238 : decode cL_law 238 = .ok (.iconst 2, 1) := by decide +kernel
theorem dL_law_239 : decode cL_law 239 = .ok (.iadd, 1) := by decide +kernel
theorem dL_law_240 : decode cL_law 240 = .ok (.iaload, 1) := by decide +kernel
theorem dL_law_241 : decode cL_law 241 = .ok (.invokevirtual 22, 3) := by decide +kernel
theorem dL_law_244 : decode cL_law 244 = .ok (.aload_n 2, 1) := by decide +kernel
theorem dL_law_245 : decode cL_law 245 = .ok (.aload_n 0, 1) := by decide +kernel
theorem dL_law_246 : decode cL_law 246 = .ok (.iload_n 3, 1) := by decide +kernel
theorem dL_law_247 : decode cL_law 247 = .ok (.iconst 1, 1) := by decide +kernel
theorem dL_law_248 : decode cL_law 248 = .ok (.iadd, 1) := by decide +kernel
theorem dL_law_249 : decode cL_law 249 = .ok (.iaload, 1) := by decide +kernel
theorem dL_law_250 : decode cL_law 250 = .ok (.aload_n 0, 1) := by decide +kernel
theorem dL_law_251 : decode cL_law 251 = .ok (.iload_n 3, 1) := by decide +kernel
theorem dL_law_252 : decode cL_law 252 = .ok (.iconst 2, 1) := by decide +kernel
theorem dL_law_253 : decode cL_law 253 = .ok (.iadd, 1) := by decide +kernel
theorem dL_law_254 : decode cL_law 254 = .ok (.iaload, 1) := by decide +kernel
theorem dL_law_255 : decode cL_law 255 = .ok (.invokevirtual 25, 3) := by decide +kernel
theorem dL_law_258 : decode cL_law 258 = .ok (.if_icmp .eq 629, 3) := by decide +kernel
theorem dL_law_261 : decode cL_law 261 = .ok (.iconst 0, 1) := by decide +kernel
theorem dL_law_262 : decode cL_law 262 = .ok (.ireturn, 1) := by decide +kernel
theorem dL_law_263 : decode cL_law 263 = .ok (.aload_n 1, 1) := by decide +kernel
theorem dL_law_264 : decode cL_law 264 = .ok (.invokevirtual 26, 3) := by decide +kernel
theorem dL_law_267 : decode cL_law 267 = .ok (.aload_n 2, 1) := by decide +kernel
theorem dL_law_268 : decode cL_law 268 = .ok (.invokevirtual 30, 3) := by decide +kernel
theorem dL_law_271 : decode cL_law 271 = .ok (.if_icmp .eq 616, 3) := by decide +kernel
theorem dL_law_274 : decode cL_law 274 = .ok (.iconst 0, 1) := by decide +kernel
theorem dL_law_275 : decode cL_law 275 = .ok (.ireturn, 1) := by decide +kernel
theorem dL_law_276 : decode cL_law 276 = .ok (.aload_n 1, 1) := by decide +kernel
theorem dL_law_277 : decode cL_law 277 = .ok (.aload_n 0, 1) := by decide +kernel
theorem dL_law_278 : decode cL_law 278 = .ok (.iload_n 3, 1) := by decide +kernel
theorem dL_law_279 : decode cL_law 279 = .ok (.iconst 1, 1) := by decide +kernel
theorem dL_law_280 : decode cL_law 280 = .ok (.iadd, 1) := by decide +kernel
theorem dL_law_281 : decode cL_law 281 = .ok (.iaload, 1) := by decide +kernel
theorem dL_law_282 : decode cL_law 282 = .ok (.invokevirtual 31, 3) := by decide +kernel
theorem dL_law_285 : decode cL_law 285 = .ok (.aload_n 2, 1) := by decide +kernel
theorem dL_law_286 : decode cL_law 286 = .ok (.aload_n 0, 1) := by decide +kernel
theorem dL_law_287 : decode cL_law 287 = .ok (.iload_n 3, 1) := by decide +kernel
theorem dL_law_288 : decode cL_law 288 = .ok (.iconst 1, 1) := by decide +kernel
theorem dL_law_289 : decode cL_law 289 = .ok (.iadd, 1) := by decide +kernel
theorem dL_law_290 : decode cL_law 290 = .ok (.iaload, 1) := by decide +kernel
theorem dL_law_291 : decode cL_law 291 = .ok (.invokevirtual 35, 3) := by decide +kernel
theorem dL_law_294 : decode cL_law 294 = .ok (.if_icmp .eq 593, 3) := by decide +kernel
theorem dL_law_297 : decode cL_law 297 = .ok (.iconst 0, 1) := by decide +kernel
theorem dL_law_298 : decode cL_law 298 = .ok (.ireturn, 1) := by decide +kernel
theorem dL_law_299 : decode cL_law 299 = .ok (.aload_n 1, 1) := by decide +kernel
theorem dL_law_300 : decode cL_law 300 = .ok (.aload_n 0, 1) := by decide +kernel
theorem dL_law_301 : decode cL_law 301 = .ok (.iload_n 3, 1) := by decide +kernel
theorem dL_law_302 : decode cL_law 302 = .ok (.iconst 1, 1) := by decide +kernel
theorem dL_law_303 : decode cL_law 303 = .ok (.iadd, 1) := by decide +kernel
theorem dL_law_304 : decode cL_law 304 = .ok (.iaload, 1) := by decide +kernel
theorem dL_law_305 : decode cL_law 305 = .ok (.invokevirtual 36, 3) := by decide +kernel
theorem dL_law_308 : decode cL_law 308 = .ok (.aload_n 2, 1) := by decide +kernel
theorem dL_law_309 : decode cL_law 309 = .ok (.aload_n 0, 1) := by decide +kernel
theorem dL_law_310 : decode cL_law 310 = .ok (.iload_n 3, 1) := by decide +kernel
theorem dL_law_311 : decode cL_law 311 = .ok (.iconst 1, 1) := by decide +kernel
theorem dL_law_312 : decode cL_law 312 = .ok (.iadd, 1) := by decide +kernel
theorem dL_law_313 : decode cL_law 313 = .ok (.iaload, 1) := by decide +kernel
theorem dL_law_314 : decode cL_law 314 = .ok (.invokevirtual 39, 3) := by decide +kernel
theorem dL_law_317 : decode cL_law 317 = .ok (.if_icmp .eq 570, 3) := by decide +kernel
theorem dL_law_320 : decode cL_law 320 = .ok (.iconst 0, 1) := by decide +kernel
theorem dL_law_321 : decode cL_law 321 = .ok (.ireturn, 1) := by decide +kernel
theorem dL_law_322 : decode cL_law 322 = .ok (.aload_n 1, 1) := by decide +kernel
theorem dL_law_323 : decode cL_law 323 = .ok (.aload_n 0, 1) := by decide +kernel
theorem dL_law_324 : decode cL_law 324 = .ok (.iload_n 3, 1) := by decide +kernel
theorem dL_law_325 : decode cL_law 325 = .ok (.iconst 1, 1) := by decide +kernel
theorem dL_law_326 : decode cL_law 326 = .ok (.iadd, 1) := by decide +kernel
theorem dL_law_327 : decode cL_law 327 = .ok (.iaload, 1) := by decide +kernel
theorem dL_law_328 : decode cL_law 328 = .ok (.aload_n 0, 1) := by decide +kernel
theorem dL_law_329 : decode cL_law 329 = .ok (.iload_n 3, 1) := by decide +kernel
theorem dL_law_330 : decode cL_law 330 = .ok (.iconst 2, 1) := by decide +kernel
theorem dL_law_331 : decode cL_law 331 = .ok (.iadd, 1) := by decide +kernel
theorem dL_law_332 : decode cL_law 332 = .ok (.iaload, 1) := by decide +kernel
theorem dL_law_333 : decode cL_law 333 = .ok (.invokevirtual 40, 3) := by decide +kernel
theorem dL_law_336 : decode cL_law 336 = .ok (.aload_n 2, 1) := by decide +kernel
theorem dL_law_337 : decode cL_law 337 = .ok (.aload_n 0, 1) := by decide +kernel
theorem dL_law_338 : decode cL_law 338 = .ok (.iload_n 3, 1) := by decide +kernel
theorem dL_law_339 : decode cL_law 339 = .ok (.iconst 1, 1) := by decide +kernel
theorem dL_law_340 : decode cL_law 340 = .ok (.iadd, 1) := by decide +kernel
theorem dL_law_341 : decode cL_law 341 = .ok (.iaload, 1) := by decide +kernel
theorem dL_law_342 : decode cL_law 342 = .ok (.aload_n 0, 1) := by decide +kernel
theorem dL_law_343 : decode cL_law 343 = .ok (.iload_n 3, 1) := by decide +kernel
theorem dL_law_344 : decode cL_law 344 = .ok (.iconst 2, 1) := by decide +kernel
theorem dL_law_345 : decode cL_law 345 = .ok (.iadd, 1) := by decide +kernel
theorem dL_law_346 : decode cL_law 346 = .ok (.iaload, 1) := by decide +kernel
theorem dL_law_347 : decode cL_law 347 = .ok (.invokevirtual 43, 3) := by decide +kernel
theorem dL_law_350 : decode cL_law 350 = .ok (.if_icmp .eq 537, 3) := by decide +kernel
theorem dL_law_353 : decode cL_law 353 = .ok (.iconst 0, 1) := by decide +kernel
theorem dL_law_354 : decode cL_law 354 = .ok (.ireturn, 1) := by decide +kernel
theorem dL_law_355 : decode cL_law 355 = .ok (.aload_n 1, 1) := by decide +kernel
theorem dL_law_356 : decode cL_law 356 = .ok (.aload_n 0, 1) := by decide +kernel
theorem dL_law_357 : decode cL_law 357 = .ok (.iload_n 3, 1) := by decide +kernel
theorem dL_law_358 : decode cL_law 358 = .ok (.iconst 1, 1) := by decide +kernel
theorem dL_law_359 : decode cL_law 359 = .ok (.iadd, 1) := by decide +kernel
theorem dL_law_360 : decode cL_law 360 = .ok (.iaload, 1) := by decide +kernel
theorem dL_law_361 : decode cL_law 361 = .ok (.aload_n 0, 1) := by decide +kernel
theorem dL_law_362 : decode cL_law 362 = .ok (.iload_n 3, 1) := by decide +kernel
theorem dL_law_363 : decode cL_law 363 = .ok (.iconst 2, 1) := by decide +kernel
theorem dL_law_364 : decode cL_law 364 = .ok (.iadd, 1) := by decide +kernel
theorem dL_law_365 : decode cL_law 365 = .ok (.iaload, 1) := by decide +kernel
theorem dL_law_366 : decode cL_law 366 = .ok (.invokevirtual 44, 3) := by decide +kernel
theorem dL_law_369 : decode cL_law 369 = .ok (.aload_n 2, 1) := by decide +kernel
theorem dL_law_370 : decode cL_law 370 = .ok (.aload_n 0, 1) := by decide +kernel
theorem dL_law_371 : decode cL_law 371 = .ok (.iload_n 3, 1) := by decide +kernel
theorem dL_law_372 : decode cL_law 372 = .ok (.iconst 1, 1) := by decide +kernel
theorem dL_law_373 : decode cL_law 373 = .ok (.iadd, 1) := by decide +kernel
theorem dL_law_374 : decode cL_law 374 = .ok (.iaload, 1) := by decide +kernel
theorem dL_law_375 : decode cL_law 375 = .ok (.aload_n 0, 1) := by decide +kernel
theorem dL_law_376 : decode cL_law 376 = .ok (.iload_n 3, 1) := by decide +kernel
theorem dL_law_377 : decode cL_law 377 = .ok (.iconst 2, 1) := by decide +kernel
theorem dL_law_378 : decode cL_law 378 = .ok (.iadd, 1) := by decide +kernel
theorem dL_law_379 : decode cL_law 379 = .ok (.iaload, 1) := by decide +kernel
theorem dL_law_380 : decode cL_law 380 = .ok (.invokevirtual 47, 3) := by decide +kernel
theorem dL_law_383 : decode cL_law 383 = .ok (.if_icmp .eq 504, 3) := by decide +kernel
theorem dL_law_386 : decode cL_law 386 = .ok (.iconst 0, 1) := by decide +kernel
theorem dL_law_387 : decode cL_law 387 = .ok (.ireturn, 1) := by decide +kernel
theorem dL_law_388 : decode cL_law 388 = .ok (.aload_n 1, 1) := by decide +kernel
theorem dL_law_389 : decode cL_law 389 = .ok (.aload_n 0, 1) := by decide +kernel
theorem dL_law_390 : decode cL_law 390 = .ok (.iload_n 3, 1) := by decide +kernel
theorem dL_law_391 : decode cL_law 391 = .ok (.iconst 1, 1) := by decide +kernel
theorem dL_law_392 : decode cL_law 392 = .ok (.iadd, 1) := by decide +kernel
theorem dL_law_393 : decode cL_law 393 = .ok (.iaload, 1) := by decide +kernel
theorem dL_law_394 : decode cL_law 394 = .ok (.aload_n 0, 1) := by decide +kernel
theorem dL_law_395 : decode cL_law 395 = .ok (.iload_n 3, 1) := by decide +kernel
theorem dL_law_396 : decode cL_law 396 = .ok (.iconst 2, 1) := by decide +kernel
theorem dL_law_397 : decode cL_law 397 = .ok (.iadd, 1) := by decide +kernel
theorem dL_law_398 : decode cL_law 398 = .ok (.iaload, 1) := by decide +kernel
theorem dL_law_399 : decode cL_law 399 = .ok (.aload_n 0, 1) := by decide +kernel
theorem dL_law_400 : decode cL_law 400 = .ok (.iload_n 3, 1) := by decide +kernel
theorem dL_law_401 : decode cL_law 401 = .ok (.iconst 3, 1) := by decide +kernel
theorem dL_law_402 : decode cL_law 402 = .ok (.iadd, 1) := by decide +kernel
theorem dL_law_403 : decode cL_law 403 = .ok (.iaload, 1) := by decide +kernel
theorem dL_law_404 : decode cL_law 404 = .ok (.ifCond .eq 7, 3) := by decide +kernel
theorem dL_law_407 : decode cL_law 407 = .ok (.iconst 1, 1) := by decide +kernel
theorem dL_law_408 : decode cL_law 408 = .ok (.goto 4, 3) := by decide +kernel
theorem dL_law_411 : decode cL_law 411 = .ok (.iconst 0, 1) := by decide +kernel
theorem dL_law_412 : decode cL_law 412 = .ok (.invokevirtual 48, 3) := by decide +kernel
theorem dL_law_415 : decode cL_law 415 = .ok (.aload_n 2, 1) := by decide +kernel
theorem dL_law_416 : decode cL_law 416 = .ok (.aload_n 0, 1) := by decide +kernel
theorem dL_law_417 : decode cL_law 417 = .ok (.iload_n 3, 1) := by decide +kernel
theorem dL_law_418 : decode cL_law 418 = .ok (.iconst 1, 1) := by decide +kernel
theorem dL_law_419 : decode cL_law 419 = .ok (.iadd, 1) := by decide +kernel
theorem dL_law_420 : decode cL_law 420 = .ok (.iaload, 1) := by decide +kernel
theorem dL_law_421 : decode cL_law 421 = .ok (.aload_n 0, 1) := by decide +kernel
theorem dL_law_422 : decode cL_law 422 = .ok (.iload_n 3, 1) := by decide +kernel
theorem dL_law_423 : decode cL_law 423 = .ok (.iconst 2, 1) := by decide +kernel
theorem dL_law_424 : decode cL_law 424 = .ok (.iadd, 1) := by decide +kernel
theorem dL_law_425 : decode cL_law 425 = .ok (.iaload, 1) := by decide +kernel
theorem dL_law_426 : decode cL_law 426 = .ok (.aload_n 0, 1) := by decide +kernel
theorem dL_law_427 : decode cL_law 427 = .ok (.iload_n 3, 1) := by decide +kernel
theorem dL_law_428 : decode cL_law 428 = .ok (.iconst 3, 1) := by decide +kernel
theorem dL_law_429 : decode cL_law 429 = .ok (.iadd, 1) := by decide +kernel
theorem dL_law_430 : decode cL_law 430 = .ok (.iaload, 1) := by decide +kernel
theorem dL_law_431 : decode cL_law 431 = .ok (.ifCond .eq 7, 3) := by decide +kernel
theorem dL_law_434 : decode cL_law 434 = .ok (.iconst 1, 1) := by decide +kernel
theorem dL_law_435 : decode cL_law 435 = .ok (.goto 4, 3) := by decide +kernel
theorem dL_law_438 : decode cL_law 438 = .ok (.iconst 0, 1) := by decide +kernel
theorem dL_law_439 : decode cL_law 439 = .ok (.invokevirtual 52, 3) := by decide +kernel
theorem dL_law_442 : decode cL_law 442 = .ok (.if_icmp .eq 445, 3) := by decide +kernel
theorem dL_law_445 : decode cL_law 445 = .ok (.iconst 0, 1) := by decide +kernel
theorem dL_law_446 : decode cL_law 446 = .ok (.ireturn, 1) := by decide +kernel
theorem dL_law_447 : decode cL_law 447 = .ok (.aload_n 1, 1) := by decide +kernel
theorem dL_law_448 : decode cL_law 448 = .ok (.aload_n 0, 1) := by decide +kernel
theorem dL_law_449 : decode cL_law 449 = .ok (.iload_n 3, 1) := by decide +kernel
theorem dL_law_450 : decode cL_law 450 = .ok (.iconst 1, 1) := by decide +kernel
theorem dL_law_451 : decode cL_law 451 = .ok (.iadd, 1) := by decide +kernel
theorem dL_law_452 : decode cL_law 452 = .ok (.iaload, 1) := by decide +kernel
theorem dL_law_453 : decode cL_law 453 = .ok (.invokevirtual 53, 3) := by decide +kernel
theorem dL_law_456 : decode cL_law 456 = .ok (.aload_n 2, 1) := by decide +kernel
theorem dL_law_457 : decode cL_law 457 = .ok (.aload_n 0, 1) := by decide +kernel
theorem dL_law_458 : decode cL_law 458 = .ok (.iload_n 3, 1) := by decide +kernel
theorem dL_law_459 : decode cL_law 459 = .ok (.iconst 1, 1) := by decide +kernel
theorem dL_law_460 : decode cL_law 460 = .ok (.iadd, 1) := by decide +kernel
theorem dL_law_461 : decode cL_law 461 = .ok (.iaload, 1) := by decide +kernel
theorem dL_law_462 : decode cL_law 462 = .ok (.invokevirtual 56, 3) := by decide +kernel
theorem dL_law_465 : decode cL_law 465 = .ok (.if_icmp .eq 422, 3) := by decide +kernel
theorem dL_law_468 : decode cL_law 468 = .ok (.iconst 0, 1) := by decide +kernel
theorem dL_law_469 : decode cL_law 469 = .ok (.ireturn, 1) := by decide +kernel
theorem dL_law_470 : decode cL_law 470 = .ok (.aload_n 1, 1) := by decide +kernel
theorem dL_law_471 : decode cL_law 471 = .ok (.aload_n 0, 1) := by decide +kernel
theorem dL_law_472 : decode cL_law 472 = .ok (.iload_n 3, 1) := by decide +kernel
theorem dL_law_473 : decode cL_law 473 = .ok (.iconst 1, 1) := by decide +kernel
theorem dL_law_474 : decode cL_law 474 = .ok (.iadd, 1) := by decide +kernel
theorem dL_law_475 : decode cL_law 475 = .ok (.iaload, 1) := by decide +kernel
theorem dL_law_476 : decode cL_law 476 = .ok (.aload_n 0, 1) := by decide +kernel
theorem dL_law_477 : decode cL_law 477 = .ok (.iload_n 3, 1) := by decide +kernel
theorem dL_law_478 : decode cL_law 478 = .ok (.iconst 2, 1) := by decide +kernel
theorem dL_law_479 : decode cL_law 479 = .ok (.iadd, 1) := by decide +kernel
theorem dL_law_480 : decode cL_law 480 = .ok (.iaload, 1) := by decide +kernel
theorem dL_law_481 : decode cL_law 481 = .ok (.invokevirtual 57, 3) := by decide +kernel
theorem dL_law_484 : decode cL_law 484 = .ok (.aload_n 2, 1) := by decide +kernel
theorem dL_law_485 : decode cL_law 485 = .ok (.aload_n 0, 1) := by decide +kernel
theorem dL_law_486 : decode cL_law 486 = .ok (.iload_n 3, 1) := by decide +kernel
theorem dL_law_487 : decode cL_law 487 = .ok (.iconst 1, 1) := by decide +kernel
theorem dL_law_488 : decode cL_law 488 = .ok (.iadd, 1) := by decide +kernel
theorem dL_law_489 : decode cL_law 489 = .ok (.iaload, 1) := by decide +kernel
theorem dL_law_490 : decode cL_law 490 = .ok (.aload_n 0, 1) := by decide +kernel
theorem dL_law_491 : decode cL_law 491 = .ok (.iload_n 3, 1) := by decide +kernel
theorem dL_law_492 : decode cL_law 492 = .ok (.iconst 2, 1) := by decide +kernel
theorem dL_law_493 : decode cL_law 493 = .ok (.iadd, 1) := by decide +kernel
theorem dL_law_494 : decode cL_law 494 = .ok (.iaload, 1) := by decide +kernel
theorem dL_law_495 : decode cL_law 495 = .ok (.invokevirtual 60, 3) := by decide +kernel
theorem dL_law_498 : decode cL_law 498 = .ok (.if_icmp .eq 389, 3) := by decide +kernel
theorem dL_law_501 : decode cL_law 501 = .ok (.iconst 0, 1) := by decide +kernel
theorem dL_law_502 : decode cL_law 502 = .ok (.ireturn, 1) := by decide +kernel
theorem dL_law_503 : decode cL_law 503 = .ok (.aload_n 1, 1) := by decide +kernel
theorem dL_law_504 : decode cL_law 504 = .ok (.aload_n 0, 1) := by decide +kernel
theorem dL_law_505 : decode cL_law 505 = .ok (.iload_n 3, 1) := by decide +kernel
theorem dL_law_506 : decode cL_law 506 = .ok (.iconst 1, 1) := by decide +kernel
theorem dL_law_507 : decode cL_law 507 = .ok (.iadd, 1) := by decide +kernel
theorem dL_law_508 : decode cL_law 508 = .ok (.iaload, 1) := by decide +kernel
theorem dL_law_509 : decode cL_law 509 = .ok (.aload_n 0, 1) := by decide +kernel
theorem dL_law_510 : decode cL_law 510 = .ok (.iload_n 3, 1) := by decide +kernel
theorem dL_law_511 : decode cL_law 511 = .ok (.iconst 2, 1) := by decide +kernel
theorem dL_law_512 : decode cL_law 512 = .ok (.iadd, 1) := by decide +kernel
theorem dL_law_513 : decode cL_law 513 = .ok (.iaload, 1) := by decide +kernel
theorem dL_law_514 : decode cL_law 514 = .ok (.aload_n 0, 1) := by decide +kernel
theorem dL_law_515 : decode cL_law 515 = .ok (.iload_n 3, 1) := by decide +kernel
theorem dL_law_516 : decode cL_law 516 = .ok (.iconst 3, 1) := by decide +kernel
theorem dL_law_517 : decode cL_law 517 = .ok (.iadd, 1) := by decide +kernel
theorem dL_law_518 : decode cL_law 518 = .ok (.iaload, 1) := by decide +kernel
theorem dL_law_519 : decode cL_law 519 = .ok (.invokevirtual 61, 3) := by decide +kernel
theorem dL_law_522 : decode cL_law 522 = .ok (.aload_n 2, 1) := by decide +kernel
theorem dL_law_523 : decode cL_law 523 = .ok (.aload_n 0, 1) := by decide +kernel
theorem dL_law_524 : decode cL_law 524 = .ok (.iload_n 3, 1) := by decide +kernel
theorem dL_law_525 : decode cL_law 525 = .ok (.iconst 1, 1) := by decide +kernel
theorem dL_law_526 : decode cL_law 526 = .ok (.iadd, 1) := by decide +kernel
theorem dL_law_527 : decode cL_law 527 = .ok (.iaload, 1) := by decide +kernel
theorem dL_law_528 : decode cL_law 528 = .ok (.aload_n 0, 1) := by decide +kernel
theorem dL_law_529 : decode cL_law 529 = .ok (.iload_n 3, 1) := by decide +kernel
theorem dL_law_530 : decode cL_law 530 = .ok (.iconst 2, 1) := by decide +kernel
theorem dL_law_531 : decode cL_law 531 = .ok (.iadd, 1) := by decide +kernel
theorem dL_law_532 : decode cL_law 532 = .ok (.iaload, 1) := by decide +kernel
theorem dL_law_533 : decode cL_law 533 = .ok (.aload_n 0, 1) := by decide +kernel
theorem dL_law_534 : decode cL_law 534 = .ok (.iload_n 3, 1) := by decide +kernel
theorem dL_law_535 : decode cL_law 535 = .ok (.iconst 3, 1) := by decide +kernel
theorem dL_law_536 : decode cL_law 536 = .ok (.iadd, 1) := by decide +kernel
theorem dL_law_537 : decode cL_law 537 = .ok (.iaload, 1) := by decide +kernel
theorem dL_law_538 : decode cL_law 538 = .ok (.invokevirtual 65, 3) := by decide +kernel
theorem dL_law_541 : decode cL_law 541 = .ok (.if_icmp .eq 346, 3) := by decide +kernel
theorem dL_law_544 : decode cL_law 544 = .ok (.iconst 0, 1) := by decide +kernel
theorem dL_law_545 : decode cL_law 545 = .ok (.ireturn, 1) := by decide +kernel
theorem dL_law_546 : decode cL_law 546 = .ok (.aload_n 1, 1) := by decide +kernel
theorem dL_law_547 : decode cL_law 547 = .ok (.invokevirtual 66, 3) := by decide +kernel
theorem dL_law_550 : decode cL_law 550 = .ok (.aload_n 2, 1) := by decide +kernel
theorem dL_law_551 : decode cL_law 551 = .ok (.invokevirtual 69, 3) := by decide +kernel
theorem dL_law_554 : decode cL_law 554 = .ok (.if_icmp .eq 333, 3) := by decide +kernel
theorem dL_law_557 : decode cL_law 557 = .ok (.iconst 0, 1) := by decide +kernel
theorem dL_law_558 : decode cL_law 558 = .ok (.ireturn, 1) := by decide +kernel
theorem dL_law_559 : decode cL_law 559 = .ok (.aload_n 1, 1) := by decide +kernel
theorem dL_law_560 : decode cL_law 560 = .ok (.aload_n 0, 1) := by decide +kernel
theorem dL_law_561 : decode cL_law 561 = .ok (.iload_n 3, 1) := by decide +kernel
theorem dL_law_562 : decode cL_law 562 = .ok (.iconst 1, 1) := by decide +kernel
theorem dL_law_563 : decode cL_law 563 = .ok (.iadd, 1) := by decide +kernel
theorem dL_law_564 : decode cL_law 564 = .ok (.iaload, 1) := by decide +kernel
theorem dL_law_565 : decode cL_law 565 = .ok (.invokevirtual 70, 3) := by decide +kernel
theorem dL_law_568 : decode cL_law 568 = .ok (.aload_n 2, 1) := by decide +kernel
theorem dL_law_569 : decode cL_law 569 = .ok (.aload_n 0, 1) := by decide +kernel
theorem dL_law_570 : decode cL_law 570 = .ok (.iload_n 3, 1) := by decide +kernel
theorem dL_law_571 : decode cL_law 571 = .ok (.iconst 1, 1) := by decide +kernel
theorem dL_law_572 : decode cL_law 572 = .ok (.iadd, 1) := by decide +kernel
theorem dL_law_573 : decode cL_law 573 = .ok (.iaload, 1) := by decide +kernel
theorem dL_law_574 : decode cL_law 574 = .ok (.invokevirtual 73, 3) := by decide +kernel
theorem dL_law_577 : decode cL_law 577 = .ok (.if_icmp .eq 310, 3) := by decide +kernel
theorem dL_law_580 : decode cL_law 580 = .ok (.iconst 0, 1) := by decide +kernel
theorem dL_law_581 : decode cL_law 581 = .ok (.ireturn, 1) := by decide +kernel
theorem dL_law_582 : decode cL_law 582 = .ok (.aload_n 1, 1) := by decide +kernel
theorem dL_law_583 : decode cL_law 583 = .ok (.aload_n 0, 1) := by decide +kernel
theorem dL_law_584 : decode cL_law 584 = .ok (.iload_n 3, 1) := by decide +kernel
theorem dL_law_585 : decode cL_law 585 = .ok (.iconst 1, 1) := by decide +kernel
theorem dL_law_586 : decode cL_law 586 = .ok (.iadd, 1) := by decide +kernel
theorem dL_law_587 : decode cL_law 587 = .ok (.iaload, 1) := by decide +kernel
theorem dL_law_588 : decode cL_law 588 = .ok (.invokevirtual 74, 3) := by decide +kernel
theorem dL_law_591 : decode cL_law 591 = .ok (.aload_n 2, 1) := by decide +kernel
theorem dL_law_592 : decode cL_law 592 = .ok (.aload_n 0, 1) := by decide +kernel
theorem dL_law_593 : decode cL_law 593 = .ok (.iload_n 3, 1) := by decide +kernel
theorem dL_law_594 : decode cL_law 594 = .ok (.iconst 1, 1) := by decide +kernel
theorem dL_law_595 : decode cL_law 595 = .ok (.iadd, 1) := by decide +kernel
theorem dL_law_596 : decode cL_law 596 = .ok (.iaload, 1) := by decide +kernel
theorem dL_law_597 : decode cL_law 597 = .ok (.invokevirtual 77, 3) := by decide +kernel
theorem dL_law_600 : decode cL_law 600 = .ok (.if_icmp .eq 287, 3) := by decide +kernel
theorem dL_law_603 : decode cL_law 603 = .ok (.iconst 0, 1) := by decide +kernel
theorem dL_law_604 : decode cL_law 604 = .ok (.ireturn, 1) := by decide +kernel
theorem dL_law_605 : decode cL_law 605 = .ok (.aload_n 1, 1) := by decide +kernel
theorem dL_law_606 : decode cL_law 606 = .ok (.aload_n 0, 1) := by decide +kernel
theorem dL_law_607 : decode cL_law 607 = .ok (.iload_n 3, 1) := by decide +kernel
theorem dL_law_608 : decode cL_law 608 = .ok (.iconst 1, 1) := by decide +kernel
theorem dL_law_609 : decode cL_law 609 = .ok (.iadd, 1) := by decide +kernel
theorem dL_law_610 : decode cL_law 610 = .ok (.iaload, 1) := by decide +kernel
theorem dL_law_611 : decode cL_law 611 = .ok (.aload_n 0, 1) := by decide +kernel
theorem dL_law_612 : decode cL_law 612 = .ok (.iload_n 3, 1) := by decide +kernel
theorem dL_law_613 : decode cL_law 613 = .ok (.iconst 2, 1) := by decide +kernel
theorem dL_law_614 : decode cL_law 614 = .ok (.iadd, 1) := by decide +kernel
theorem dL_law_615 : decode cL_law 615 = .ok (.iaload, 1) := by decide +kernel
theorem dL_law_616 : decode cL_law 616 = .ok (.invokevirtual 78, 3) := by decide +kernel
theorem dL_law_619 : decode cL_law 619 = .ok (.aload_n 2, 1) := by decide +kernel
theorem dL_law_620 : decode cL_law 620 = .ok (.aload_n 0, 1) := by decide +kernel
theorem dL_law_621 : decode cL_law 621 = .ok (.iload_n 3, 1) := by decide +kernel
theorem dL_law_622 : decode cL_law 622 = .ok (.iconst 1, 1) := by decide +kernel
theorem dL_law_623 : decode cL_law 623 = .ok (.iadd, 1) := by decide +kernel
theorem dL_law_624 : decode cL_law 624 = .ok (.iaload, 1) := by decide +kernel
theorem dL_law_625 : decode cL_law 625 = .ok (.aload_n 0, 1) := by decide +kernel
theorem dL_law_626 : decode cL_law 626 = .ok (.iload_n 3, 1) := by decide +kernel
theorem dL_law_627 : decode cL_law 627 = .ok (.iconst 2, 1) := by decide +kernel
theorem dL_law_628 : decode cL_law 628 = .ok (.iadd, 1) := by decide +kernel
theorem dL_law_629 : decode cL_law 629 = .ok (.iaload, 1) := by decide +kernel
theorem dL_law_630 : decode cL_law 630 = .ok (.invokevirtual 81, 3) := by decide +kernel
theorem dL_law_633 : decode cL_law 633 = .ok (.if_icmp .eq 254, 3) := by decide +kernel
theorem dL_law_636 : decode cL_law 636 = .ok (.iconst 0, 1) := by decide +kernel
theorem dL_law_637 : decode cL_law 637 = .ok (.ireturn, 1) := by decide +kernel
theorem dL_law_638 : decode cL_law 638 = .ok (.aload_n 1, 1) := by decide +kernel
theorem dL_law_639 : decode cL_law 639 = .ok (.aload_n 0, 1) := by decide +kernel
theorem dL_law_640 : decode cL_law 640 = .ok (.iload_n 3, 1) := by decide +kernel
theorem dL_law_641 : decode cL_law 641 = .ok (.iconst 1, 1) := by decide +kernel
theorem dL_law_642 : decode cL_law 642 = .ok (.iadd, 1) := by decide +kernel
theorem dL_law_643 : decode cL_law 643 = .ok (.iaload, 1) := by decide +kernel
theorem dL_law_644 : decode cL_law 644 = .ok (.invokevirtual 82, 3) := by decide +kernel
theorem dL_law_647 : decode cL_law 647 = .ok (.aload_n 2, 1) := by decide +kernel
theorem dL_law_648 : decode cL_law 648 = .ok (.aload_n 0, 1) := by decide +kernel
theorem dL_law_649 : decode cL_law 649 = .ok (.iload_n 3, 1) := by decide +kernel
theorem dL_law_650 : decode cL_law 650 = .ok (.iconst 1, 1) := by decide +kernel
theorem dL_law_651 : decode cL_law 651 = .ok (.iadd, 1) := by decide +kernel
theorem dL_law_652 : decode cL_law 652 = .ok (.iaload, 1) := by decide +kernel
theorem dL_law_653 : decode cL_law 653 = .ok (.invokevirtual 85, 3) := by decide +kernel
theorem dL_law_656 : decode cL_law 656 = .ok (.if_icmp .eq 231, 3) := by decide +kernel
theorem dL_law_659 : decode cL_law 659 = .ok (.iconst 0, 1) := by decide +kernel
theorem dL_law_660 : decode cL_law 660 = .ok (.ireturn, 1) := by decide +kernel
theorem dL_law_661 : decode cL_law 661 = .ok (.aload_n 1, 1) := by decide +kernel
theorem dL_law_662 : decode cL_law 662 = .ok (.aload_n 0, 1) := by decide +kernel
theorem dL_law_663 : decode cL_law 663 = .ok (.iload_n 3, 1) := by decide +kernel
theorem dL_law_664 : decode cL_law 664 = .ok (.iconst 1, 1) := by decide +kernel
theorem dL_law_665 : decode cL_law 665 = .ok (.iadd, 1) := by decide +kernel
theorem dL_law_666 : decode cL_law 666 = .ok (.iaload, 1) := by decide +kernel
theorem dL_law_667 : decode cL_law 667 = .ok (.aload_n 0, 1) := by decide +kernel
theorem dL_law_668 : decode cL_law 668 = .ok (.iload_n 3, 1) := by decide +kernel
theorem dL_law_669 : decode cL_law 669 = .ok (.iconst 2, 1) := by decide +kernel
theorem dL_law_670 : decode cL_law 670 = .ok (.iadd, 1) := by decide +kernel
theorem dL_law_671 : decode cL_law 671 = .ok (.iaload, 1) := by decide +kernel
theorem dL_law_672 : decode cL_law 672 = .ok (.invokevirtual 86, 3) := by decide +kernel
theorem dL_law_675 : decode cL_law 675 = .ok (.aload_n 2, 1) := by decide +kernel
theorem dL_law_676 : decode cL_law 676 = .ok (.aload_n 0, 1) := by decide +kernel
theorem dL_law_677 : decode cL_law 677 = .ok (.iload_n 3, 1) := by decide +kernel
theorem dL_law_678 : decode cL_law 678 = .ok (.iconst 1, 1) := by decide +kernel
theorem dL_law_679 : decode cL_law 679 = .ok (.iadd, 1) := by decide +kernel
theorem dL_law_680 : decode cL_law 680 = .ok (.iaload, 1) := by decide +kernel
theorem dL_law_681 : decode cL_law 681 = .ok (.aload_n 0, 1) := by decide +kernel
theorem dL_law_682 : decode cL_law 682 = .ok (.iload_n 3, 1) := by decide +kernel
theorem dL_law_683 : decode cL_law 683 = .ok (.iconst 2, 1) := by decide +kernel
theorem dL_law_684 : decode cL_law 684 = .ok (.iadd, 1) := by decide +kernel
theorem dL_law_685 : decode cL_law 685 = .ok (.iaload, 1) := by decide +kernel
theorem dL_law_686 : decode cL_law 686 = .ok (.invokevirtual 89, 3) := by decide +kernel
theorem dL_law_689 : decode cL_law 689 = .ok (.if_icmp .eq 198, 3) := by decide +kernel
theorem dL_law_692 : decode cL_law 692 = .ok (.iconst 0, 1) := by decide +kernel
theorem dL_law_693 : decode cL_law 693 = .ok (.ireturn, 1) := by decide +kernel
theorem dL_law_694 : decode cL_law 694 = .ok (.aload_n 1, 1) := by decide +kernel
theorem dL_law_695 : decode cL_law 695 = .ok (.aload_n 0, 1) := by decide +kernel
theorem dL_law_696 : decode cL_law 696 = .ok (.iload_n 3, 1) := by decide +kernel
theorem dL_law_697 : decode cL_law 697 = .ok (.iconst 1, 1) := by decide +kernel
theorem dL_law_698 : decode cL_law 698 = .ok (.iadd, 1) := by decide +kernel
theorem dL_law_699 : decode cL_law 699 = .ok (.iaload, 1) := by decide +kernel
theorem dL_law_700 : decode cL_law 700 = .ok (.invokevirtual 90, 3) := by decide +kernel
theorem dL_law_703 : decode cL_law 703 = .ok (.aload_n 2, 1) := by decide +kernel
theorem dL_law_704 : decode cL_law 704 = .ok (.aload_n 0, 1) := by decide +kernel
theorem dL_law_705 : decode cL_law 705 = .ok (.iload_n 3, 1) := by decide +kernel
theorem dL_law_706 : decode cL_law 706 = .ok (.iconst 1, 1) := by decide +kernel
theorem dL_law_707 : decode cL_law 707 = .ok (.iadd, 1) := by decide +kernel
theorem dL_law_708 : decode cL_law 708 = .ok (.iaload, 1) := by decide +kernel
theorem dL_law_709 : decode cL_law 709 = .ok (.invokevirtual 93, 3) := by decide +kernel
theorem dL_law_712 : decode cL_law 712 = .ok (.if_icmp .eq 175, 3) := by decide +kernel
theorem dL_law_715 : decode cL_law 715 = .ok (.iconst 0, 1) := by decide +kernel
theorem dL_law_716 : decode cL_law 716 = .ok (.ireturn, 1) := by decide +kernel
theorem dL_law_717 : decode cL_law 717 = .ok (.aload_n 1, 1) := by decide +kernel
theorem dL_law_718 : decode cL_law 718 = .ok (.aload_n 0, 1) := by decide +kernel
theorem dL_law_719 : decode cL_law 719 = .ok (.iload_n 3, 1) := by decide +kernel
theorem dL_law_720 : decode cL_law 720 = .ok (.iconst 1, 1) := by decide +kernel
theorem dL_law_721 : decode cL_law 721 = .ok (.iadd, 1) := by decide +kernel
theorem dL_law_722 : decode cL_law 722 = .ok (.iaload, 1) := by decide +kernel
theorem dL_law_723 : decode cL_law 723 = .ok (.invokevirtual 94, 3) := by decide +kernel
theorem dL_law_726 : decode cL_law 726 = .ok (.aload_n 2, 1) := by decide +kernel
theorem dL_law_727 : decode cL_law 727 = .ok (.aload_n 0, 1) := by decide +kernel
theorem dL_law_728 : decode cL_law 728 = .ok (.iload_n 3, 1) := by decide +kernel
theorem dL_law_729 : decode cL_law 729 = .ok (.iconst 1, 1) := by decide +kernel
theorem dL_law_730 : decode cL_law 730 = .ok (.iadd, 1) := by decide +kernel
theorem dL_law_731 : decode cL_law 731 = .ok (.iaload, 1) := by decide +kernel
theorem dL_law_732 : decode cL_law 732 = .ok (.invokevirtual 97, 3) := by decide +kernel
theorem dL_law_735 : decode cL_law 735 = .ok (.if_icmp .eq 152, 3) := by decide +kernel
theorem dL_law_738 : decode cL_law 738 = .ok (.iconst 0, 1) := by decide +kernel
theorem dL_law_739 : decode cL_law 739 = .ok (.ireturn, 1) := by decide +kernel
theorem dL_law_740 : decode cL_law 740 = .ok (.aload_n 1, 1) := by decide +kernel
theorem dL_law_741 : decode cL_law 741 = .ok (.aload_n 0, 1) := by decide +kernel
theorem dL_law_742 : decode cL_law 742 = .ok (.iload_n 3, 1) := by decide +kernel
theorem dL_law_743 : decode cL_law 743 = .ok (.iconst 1, 1) := by decide +kernel
theorem dL_law_744 : decode cL_law 744 = .ok (.iadd, 1) := by decide +kernel
theorem dL_law_745 : decode cL_law 745 = .ok (.iaload, 1) := by decide +kernel
theorem dL_law_746 : decode cL_law 746 = .ok (.invokevirtual 98, 3) := by decide +kernel
theorem dL_law_749 : decode cL_law 749 = .ok (.aload_n 2, 1) := by decide +kernel
theorem dL_law_750 : decode cL_law 750 = .ok (.aload_n 0, 1) := by decide +kernel
theorem dL_law_751 : decode cL_law 751 = .ok (.iload_n 3, 1) := by decide +kernel
theorem dL_law_752 : decode cL_law 752 = .ok (.iconst 1, 1) := by decide +kernel
theorem dL_law_753 : decode cL_law 753 = .ok (.iadd, 1) := by decide +kernel
theorem dL_law_754 : decode cL_law 754 = .ok (.iaload, 1) := by decide +kernel
theorem dL_law_755 : decode cL_law 755 = .ok (.invokevirtual 101, 3) := by decide +kernel
theorem dL_law_758 : decode cL_law 758 = .ok (.if_icmp .eq 129, 3) := by decide +kernel
theorem dL_law_761 : decode cL_law 761 = .ok (.iconst 0, 1) := by decide +kernel
theorem dL_law_762 : decode cL_law 762 = .ok (.ireturn, 1) := by decide +kernel
theorem dL_law_763 : decode cL_law 763 = .ok (.aload_n 1, 1) := by decide +kernel
theorem dL_law_764 : decode cL_law 764 = .ok (.invokevirtual 102, 3) := by decide +kernel
theorem dL_law_767 : decode cL_law 767 = .ok (.aload_n 2, 1) := by decide +kernel
theorem dL_law_768 : decode cL_law 768 = .ok (.invokevirtual 105, 3) := by decide +kernel
theorem dL_law_771 : decode cL_law 771 = .ok (.if_icmp .eq 116, 3) := by decide +kernel
theorem dL_law_774 : decode cL_law 774 = .ok (.iconst 0, 1) := by decide +kernel
theorem dL_law_775 : decode cL_law 775 = .ok (.ireturn, 1) := by decide +kernel
theorem dL_law_776 : decode cL_law 776 = .ok (.aload_n 1, 1) := by decide +kernel
theorem dL_law_777 : decode cL_law 777 = .ok (.aload_n 0, 1) := by decide +kernel
theorem dL_law_778 : decode cL_law 778 = .ok (.iload_n 3, 1) := by decide +kernel
theorem dL_law_779 : decode cL_law 779 = .ok (.iconst 1, 1) := by decide +kernel
theorem dL_law_780 : decode cL_law 780 = .ok (.iadd, 1) := by decide +kernel
theorem dL_law_781 : decode cL_law 781 = .ok (.iaload, 1) := by decide +kernel
theorem dL_law_782 : decode cL_law 782 = .ok (.invokevirtual 106, 3) := by decide +kernel
theorem dL_law_785 : decode cL_law 785 = .ok (.aload_n 2, 1) := by decide +kernel
theorem dL_law_786 : decode cL_law 786 = .ok (.aload_n 0, 1) := by decide +kernel
theorem dL_law_787 : decode cL_law 787 = .ok (.iload_n 3, 1) := by decide +kernel
theorem dL_law_788 : decode cL_law 788 = .ok (.iconst 1, 1) := by decide +kernel
theorem dL_law_789 : decode cL_law 789 = .ok (.iadd, 1) := by decide +kernel
theorem dL_law_790 : decode cL_law 790 = .ok (.iaload, 1) := by decide +kernel
theorem dL_law_791 : decode cL_law 791 = .ok (.invokevirtual 109, 3) := by decide +kernel
theorem dL_law_794 : decode cL_law 794 = .ok (.if_icmp .eq 93, 3) := by decide +kernel
theorem dL_law_797 : decode cL_law 797 = .ok (.iconst 0, 1) := by decide +kernel
theorem dL_law_798 : decode cL_law 798 = .ok (.ireturn, 1) := by decide +kernel
theorem dL_law_799 : decode cL_law 799 = .ok (.aload_n 1, 1) := by decide +kernel
theorem dL_law_800 : decode cL_law 800 = .ok (.aload_n 0, 1) := by decide +kernel
theorem dL_law_801 : decode cL_law 801 = .ok (.iload_n 3, 1) := by decide +kernel
theorem dL_law_802 : decode cL_law 802 = .ok (.iconst 1, 1) := by decide +kernel
theorem dL_law_803 : decode cL_law 803 = .ok (.iadd, 1) := by decide +kernel
theorem dL_law_804 : decode cL_law 804 = .ok (.iaload, 1) := by decide +kernel
theorem dL_law_805 : decode cL_law 805 = .ok (.invokevirtual 110, 3) := by decide +kernel
theorem dL_law_808 : decode cL_law 808 = .ok (.aload_n 2, 1) := by decide +kernel
theorem dL_law_809 : decode cL_law 809 = .ok (.aload_n 0, 1) := by decide +kernel
theorem dL_law_810 : decode cL_law 810 = .ok (.iload_n 3, 1) := by decide +kernel
theorem dL_law_811 : decode cL_law 811 = .ok (.iconst 1, 1) := by decide +kernel
theorem dL_law_812 : decode cL_law 812 = .ok (.iadd, 1) := by decide +kernel
theorem dL_law_813 : decode cL_law 813 = .ok (.iaload, 1) := by decide +kernel
theorem dL_law_814 : decode cL_law 814 = .ok (.invokevirtual 113, 3) := by decide +kernel
theorem dL_law_817 : decode cL_law 817 = .ok (.if_icmp .eq 70, 3) := by decide +kernel
theorem dL_law_820 : decode cL_law 820 = .ok (.iconst 0, 1) := by decide +kernel
theorem dL_law_821 : decode cL_law 821 = .ok (.ireturn, 1) := by decide +kernel
theorem dL_law_822 : decode cL_law 822 = .ok (.aload_n 1, 1) := by decide +kernel
theorem dL_law_823 : decode cL_law 823 = .ok (.invokevirtual 114, 3) := by decide +kernel
theorem dL_law_826 : decode cL_law 826 = .ok (.aload_n 2, 1) := by decide +kernel
theorem dL_law_827 : decode cL_law 827 = .ok (.invokevirtual 117, 3) := by decide +kernel
theorem dL_law_830 : decode cL_law 830 = .ok (.if_icmp .eq 57, 3) := by decide +kernel
theorem dL_law_833 : decode cL_law 833 = .ok (.iconst 0, 1) := by decide +kernel
theorem dL_law_834 : decode cL_law 834 = .ok (.ireturn, 1) := by decide +kernel
theorem dL_law_835 : decode cL_law 835 = .ok (.aload_n 1, 1) := by decide +kernel
theorem dL_law_836 : decode cL_law 836 = .ok (.invokevirtual 118, 3) := by decide +kernel
theorem dL_law_839 : decode cL_law 839 = .ok (.aload_n 2, 1) := by decide +kernel
theorem dL_law_840 : decode cL_law 840 = .ok (.invokevirtual 121, 3) := by decide +kernel
theorem dL_law_843 : decode cL_law 843 = .ok (.if_icmp .eq 44, 3) := by decide +kernel
theorem dL_law_846 : decode cL_law 846 = .ok (.iconst 0, 1) := by decide +kernel
theorem dL_law_847 : decode cL_law 847 = .ok (.ireturn, 1) := by decide +kernel
theorem dL_law_848 : decode cL_law 848 = .ok (.aload_n 1, 1) := by decide +kernel
theorem dL_law_849 : decode cL_law 849 = .ok (.invokevirtual 122, 3) := by decide +kernel
theorem dL_law_852 : decode cL_law 852 = .ok (.aload_n 2, 1) := by decide +kernel
theorem dL_law_853 : decode cL_law 853 = .ok (.invokevirtual 125, 3) := by decide +kernel
theorem dL_law_856 : decode cL_law 856 = .ok (.if_icmp .eq 31, 3) := by decide +kernel
theorem dL_law_859 : decode cL_law 859 = .ok (.iconst 0, 1) := by decide +kernel
theorem dL_law_860 : decode cL_law 860 = .ok (.ireturn, 1) := by decide +kernel
theorem dL_law_861 : decode cL_law 861 = .ok (.aload_n 1, 1) := by decide +kernel
theorem dL_law_862 : decode cL_law 862 = .ok (.invokevirtual 126, 3) := by decide +kernel
theorem dL_law_865 : decode cL_law 865 = .ok (.aload_n 2, 1) := by decide +kernel
theorem dL_law_866 : decode cL_law 866 = .ok (.invokevirtual 129, 3) := by decide +kernel
theorem dL_law_869 : decode cL_law 869 = .ok (.if_icmp .eq 18, 3) := by decide +kernel
theorem dL_law_872 : decode cL_law 872 = .ok (.iconst 0, 1) := by decide +kernel
theorem dL_law_873 : decode cL_law 873 = .ok (.ireturn, 1) := by decide +kernel
theorem dL_law_874 : decode cL_law 874 = .ok (.aload_n 1, 1) := by decide +kernel
theorem dL_law_875 : decode cL_law 875 = .ok (.invokevirtual 130, 3) := by decide +kernel
theorem dL_law_878 : decode cL_law 878 = .ok (.aload_n 2, 1) := by decide +kernel
theorem dL_law_879 : decode cL_law 879 = .ok (.invokevirtual 133, 3) := by decide +kernel
theorem dL_law_882 : decode cL_law 882 = .ok (.if_icmp .eq 5, 3) := by decide +kernel
theorem dL_law_885 : decode cL_law 885 = .ok (.iconst 0, 1) := by decide +kernel
theorem dL_law_886 : decode cL_law 886 = .ok (.ireturn, 1) := by decide +kernel
theorem dL_law_887 : decode cL_law 887 = .ok (.iinc 3 4, 3) := by decide +kernel
theorem dL_law_890 : decode cL_law 890 = .ok (.goto (-872), 3) := by decide +kernel
theorem dL_law_893 : decode cL_law 893 = .ok (.iconst 1, 1) := by decide +kernel
theorem dL_law_894 : decode cL_law 894 = .ok (.ireturn, 1) := by decide +kernel
end
section
/-! ===== one world of all the cells that the law makes: values are whole numbers, a state is a table of them ===== -/
def TB : List Cond := lw_tbl.filter goodWord
theorem tb_of {w : Cond} (h : w ∈ lw_tbl) (hg : goodWord w = true) : w ∈ TB := List.mem_filter.mpr ⟨h, hg⟩
theorem tb_in {w : Cond} (h : w ∈ TB) : w ∈ lw_tbl := (List.mem_filter.mp h).1
theorem tb_good {w : Cond} (h : w ∈ TB) : goodWord w = true := (List.mem_filter.mp h).2
theorem goodIn_tb {big ws : List Cond} (hb : ∀ w ∈ TB, w ∈ big) (hw : ∀ w ∈ ws, w ∈ TB) : GoodIn big ws := fun w h => ⟨hb w (hw w h), good_of_word (tb_good (hw w h))⟩
/-- a state: cell, place, number -/
abbrev ZSt : Type := Nat → Nat → Int
def zRg (a : Int) : Prop := -2147483648 ≤ a ∧ a < 2147483648
def zRs (σ : ZSt) : Prop := ∀ k j, zRg (σ k j)
def zi (a : Int) : Int32 := Int32.ofInt a
def ziv (a : Int) : Value := .int (zi a)
def zup (σ : ZSt) (k j : Nat) (v : Int) : ZSt := fun k' j' => if k' = k ∧ j' = j then v else σ k' j'
theorem zRs.up {σ : ZSt} (h : zRs σ) {v : Int} (hv : zRg v) (k j : Nat) : zRs (zup σ k j v) := by
  intro a b
  unfold zup
  split
  · exact hv
  · exact h a b
theorem zi_toInt {a : Int} (h : zRg a) : (zi a).toInt = a := Int32.toInt_ofInt_of_le h.1 h.2
theorem zi_clamp {a : Int} (h : zRg a) : (zi a).toNatClampNeg = a.toNat := by
  show (zi a).toInt.toNat = a.toNat
  rw [zi_toInt h]
theorem zi_lt {a b : Int} (ha : zRg a) (hb : zRg b) : zi a < zi b ↔ a < b := by rw [Int32.lt_iff_toInt_lt, zi_toInt ha, zi_toInt hb]
theorem zi_le {a b : Int} (ha : zRg a) (hb : zRg b) : zi a ≤ zi b ↔ a ≤ b := by rw [Int32.le_iff_toInt_le, zi_toInt ha, zi_toInt hb]
theorem zi_eq {a b : Int} (ha : zRg a) (hb : zRg b) : zi a = zi b ↔ a = b := by rw [← Int32.toInt_inj, zi_toInt ha, zi_toInt hb]
theorem zi_0 : zi 0 = 0 := rfl
theorem zi_add (a b : Int) : zi a + zi b = zi (a + b) := (Int32.ofInt_add a b).symm
theorem zi_sub (a b : Int) : zi a - zi b = zi (a - b) := (Int32.ofInt_sub a b).symm
theorem zi_mul (a b : Int) : zi a * zi b = zi (a * b) := (Int32.ofInt_mul a b).symm
theorem zi_of (x : Int32) : zi x.toInt = x := Int32.ofInt_toInt x
theorem zRg_of (x : Int32) : zRg x.toInt := ⟨x.le_toInt, x.toInt_lt⟩
theorem zi_in {a : Int} {n : Nat} (h0 : 0 ≤ a) (h1 : a < n) (hn : n < 2147483648) : vp_in (zi a) n := by
  rw [vp_in_iff, zi_toInt ⟨by omega, by omega⟩]
  exact ⟨h0, h1⟩
/-- the shape of the world: arrays (0: of ints, 1: of booleans; how long), objects (class; a field is a cell or a number) -/
abbrev ZSh : Type := List ((Nat × Nat) ⊕ (Nat × List (Option Nat)))
def zSH : ZSh := [
  .inr (5, [some 1, some 7, some 13, some 25, some 29, some 19, some 21, some 23, none, none, none]),
  .inr (1, [some 2, some 3, some 4, some 5, some 6, none]),
  .inl (0, 16), .inl (0, 16), .inl (0, 16), .inl (0, 10), .inl (1, 256),
  .inr (0, [some 8, some 9, some 10, some 11, some 12, none]),
  .inl (0, 120), .inl (0, 120), .inl (0, 120), .inl (0, 120), .inl (0, 120),
  .inr (0, [some 14, some 15, some 16, some 17, some 18, none]),
  .inl (0, 120), .inl (0, 120), .inl (0, 120), .inl (0, 120), .inl (0, 120),
  .inr (3, [some 20, none]), .inl (0, 120),
  .inr (3, [some 22, none]), .inl (0, 120),
  .inr (3, [some 24, none]), .inl (0, 120),
  .inr (2, [some 1, some 13, some 23, some 26, some 27, some 28, none, none, none, none, none, none, none, none]),
  .inl (0, 120), .inl (0, 120), .inl (0, 120),
  .inr (4, [some 1, some 7, some 21, some 30, none]), .inl (0, 100),
  .inr (6, [some 32, some 33, some 34, none, some 35, some 36, some 37, some 38, some 39, some 40, some 41, none, some 42, none, none, some 43, none, none, none, some 44, some 45, some 46, some 47, none, some 48, none, some 49, some 50, some 51, some 52, none, some 53, none, none, none, none, none, none, none, none]),
  .inl (0, 16), .inl (0, 16), .inl (0, 16), .inl (0, 10), .inl (1, 256),
  .inl (0, 100), .inl (0, 100), .inl (0, 100), .inl (0, 100), .inl (0, 100),
  .inl (0, 120), .inl (0, 120), .inl (0, 256), .inl (0, 256), .inl (0, 12100), .inl (0, 1200), .inl (0, 120),
  .inl (0, 130), .inl (0, 130), .inl (0, 130), .inl (0, 130), .inl (0, 700)]
abbrev zcls : List vw_C := [(RX0, TX0, 6), (RX1, TX1, 6), (RX2, TX2, 14), (RX3, TX3, 2), (RX4, TX4, 5), (RX5, TX5, 11), (RX6, TX6, 40)]
/-- where all lies: the classes' numbers, the two array classes, the cells' addresses -/
abbrev ZE : Type := va_G × ClassId × ClassId × (Nat → Nat)
def zrf (E : ZE) (k : Nat) : Value := .ref (E.2.2.2 k)
def ztys (E : ZE) : List (ClassId × FieldType) := [(E.2.1, .int), (E.2.2.1, .boolean)]
def zfv (E : ZE) (σ : ZSt) (k j : Nat) : Option Nat → Value
  | some q => zrf E q
  | none => ziv (σ k j)
def zfs (E : ZE) (σ : ZSt) (k : Nat) : Nat → List (Option Nat) → List Value
  | _, [] => []
  | j, f :: r => zfv E σ k j f :: zfs E σ k (j + 1) r
def zcell (E : ZE) (σ : ZSt) (k : Nat) : (Nat × Nat) ⊕ (Nat × List (Option Nat)) → va_E
  | .inl (t, n) => .inl (if t = 0 then E.2.1 else E.2.2.1, n, .inl (fun j => zi (σ k j)))
  | .inr (ci, fs) => .inr (ci, zfs E σ k 0 fs)
def zws (E : ZE) (σ : ZSt) : Nat → ZSh → va_W
  | _, [] => []
  | k, x :: r => (E.2.2.2 k, zcell E σ k x) :: zws E σ (k + 1) r
def zworld (E : ZE) (σ : ZSt) : va_W := zws E σ 0 zSH
theorem zfs_get {E : ZE} {σ : ZSt} {k : Nat} {f : Option Nat} : ∀ {fs : List (Option Nat)} {i j : Nat}, fs[j]? = some f → (zfs E σ k i fs)[j]? = some (zfv E σ k (i + j) f) := by
  intro fs
  induction fs with
  | nil => intro i j h; simp at h
  | cons a r ih =>
    intro i j h
    cases j with
    | zero => simp at h; subst h; simp [zfs]
    | succ j =>
      have h2 : r[j]? = some f := by simpa using h
      have := ih (i := i + 1) h2
      simp only [zfs, List.getElem?_cons_succ]
      rw [this]
      congr 2
      omega
theorem zfs_len {E : ZE} {σ : ZSt} {k : Nat} : ∀ {fs : List (Option Nat)} {i : Nat}, (zfs E σ k i fs).length = fs.length := by
  intro fs
  induction fs with
  | nil => intro i; rfl
  | cons a r ih => intro i; simp [zfs, ih]
theorem zfs_other {E : ZE} {σ σ' : ZSt} {k : Nat} : ∀ {fs : List (Option Nat)} {i : Nat}, (∀ j, i ≤ j → σ' k j = σ k j) → zfs E σ' k i fs = zfs E σ k i fs := by
  intro fs
  induction fs with
  | nil => intro i h; rfl
  | cons a r ih =>
    intro i h
    simp only [zfs]
    rw [ih (fun j hj => h j (by omega))]
    congr 1
    cases a with
    | some q => rfl
    | none => simp only [zfv]; rw [h i (Nat.le_refl i)]
theorem zfs_set {E : ZE} {σ : ZSt} {k : Nat} {v : Int} : ∀ {fs : List (Option Nat)} {i j : Nat}, fs[j]? = some none → (zfs E σ k i fs).set j (ziv v) = zfs E (zup σ k (i + j) v) k i fs := by
  intro fs
  induction fs with
  | nil => intro i j h; simp at h
  | cons a r ih =>
    intro i j h
    cases j with
    | zero =>
      simp at h
      subst h
      simp only [zfs, List.set_cons_zero]
      congr 1
      · simp [zfv, zup]
      · exact (zfs_other (fun j hj => by simp [zup]; omega)).symm
    | succ j =>
      have h2 : r[j]? = some none := by simpa using h
      simp only [zfs, List.set_cons_succ]
      rw [ih h2]
      have e : i + 1 + j = i + (j + 1) := by omega
      rw [e]
      congr 1
      cases a with
      | some q => rfl
      | none =>
        simp only [zfv, zup]
        rw [if_neg (by omega)]
theorem zws_get {E : ZE} {σ : ZSt} {x : (Nat × Nat) ⊕ (Nat × List (Option Nat))} : ∀ {sh : ZSh} {i k : Nat}, sh[k]? = some x → (zws E σ i sh)[k]? = some (E.2.2.2 (i + k), zcell E σ (i + k) x) := by
  intro sh
  induction sh with
  | nil => intro i k h; simp at h
  | cons a r ih =>
    intro i k h
    cases k with
    | zero => simp at h; subst h; simp [zws]
    | succ k =>
      have h2 : r[k]? = some x := by simpa using h
      simp only [zws, List.getElem?_cons_succ]
      rw [ih h2]
      have e : i + 1 + k = i + (k + 1) := by omega
      rw [e]
theorem zws_len {E : ZE} {σ : ZSt} : ∀ {sh : ZSh} {i : Nat}, (zws E σ i sh).length = sh.length := by
  intro sh
  induction sh with
  | nil => intro i; rfl
  | cons a r ih => intro i; simp [zws, ih]
theorem zcell_other {E : ZE} {σ σ' : ZSt} {k : Nat} (h : ∀ j, σ' k j = σ k j) (x : (Nat × Nat) ⊕ (Nat × List (Option Nat))) : zcell E σ' k x = zcell E σ k x := by
  cases x with
  | inl a => obtain ⟨t, n⟩ := a; simp only [zcell, h]
  | inr o => obtain ⟨ci, fs⟩ := o; simp only [zcell]; rw [zfs_other (fun j _ => h j)]
theorem zws_other {E : ZE} {σ σ' : ZSt} : ∀ {sh : ZSh} {i : Nat}, (∀ k j, i ≤ k → σ' k j = σ k j) → zws E σ' i sh = zws E σ i sh := by
  intro sh
  induction sh with
  | nil => intro i h; rfl
  | cons a r ih =>
    intro i h
    simp only [zws]
    rw [ih (fun k j hk => h k j (by omega)), zcell_other (fun j => h i j (Nat.le_refl i))]
theorem zws_set {E : ZE} {σ : ZSt} {j : Nat} {v : Int} {x : (Nat × Nat) ⊕ (Nat × List (Option Nat))} : ∀ {sh : ZSh} {i k : Nat}, sh[k]? = some x → (zws E σ i sh).set k (E.2.2.2 (i + k), zcell E (zup σ (i + k) j v) (i + k) x) = zws E (zup σ (i + k) j v) i sh := by
  intro sh
  induction sh with
  | nil => intro i k h; simp at h
  | cons a r ih =>
    intro i k h
    cases k with
    | zero =>
      simp at h
      subst h
      simp only [zws, List.set_cons_zero, Nat.add_zero]
      congr 1
      exact (zws_other (fun k' j' hk => by simp only [zup]; rw [if_neg (by omega)])).symm
    | succ k =>
      have h2 : r[k]? = some x := by simpa using h
      have e : i + 1 + k = i + (k + 1) := by omega
      have := ih (i := i + 1) h2
      rw [e] at this
      simp only [zws, List.set_cons_succ]
      rw [this]
      congr 2
      exact (zcell_other (fun j' => by simp only [zup]; rw [if_neg (by omega)]) a).symm
theorem zw_get {E : ZE} {σ : ZSt} {x : (Nat × Nat) ⊕ (Nat × List (Option Nat))} {k : Nat} (h : zSH[k]? = some x) : (zworld E σ)[k]? = some (E.2.2.2 k, zcell E σ k x) := by
  have := zws_get (E := E) (σ := σ) (i := 0) h
  simpa [zworld] using this
theorem zw_set {E : ZE} {σ : ZSt} {j : Nat} {v : Int} {x : (Nat × Nat) ⊕ (Nat × List (Option Nat))} {k : Nat} (h : zSH[k]? = some x) : (zworld E σ).set k (E.2.2.2 k, zcell E (zup σ k j v) k x) = zworld E (zup σ k j v) := by
  have := zws_set (E := E) (σ := σ) (j := j) (v := v) (i := 0) h
  simpa [zworld] using this
theorem zw_addr {E : ZE} {σ : ZSt} {k : Nat} {q : Nat × va_E} (h : (zworld E σ)[k]? = some q) : k < zSH.length ∧ q.1 = E.2.2.2 k := by
  have hl : k < zSH.length := by
    have := (List.getElem?_eq_some_iff.mp h).1
    rwa [zworld, zws_len] at this
  refine ⟨hl, ?_⟩
  have := zw_get (E := E) (σ := σ) (List.getElem?_eq_getElem hl)
  rw [h] at this
  cases this
  rfl
def ZInj (E : ZE) : Prop := ∀ i j : Nat, i < zSH.length → j < zSH.length → E.2.2.2 i = E.2.2.2 j → i = j
theorem zD {E : ZE} {A : Nat → Prop} (hi : ZInj E) (hA : ∀ k, k < zSH.length → A (E.2.2.2 k)) (σ : ZSt) : va_D A (zworld E σ) := by
  refine ⟨fun i j p q hp hq he => ?_, fun k q hk => ?_⟩
  · obtain ⟨h1, h2⟩ := zw_addr hp
    obtain ⟨h3, h4⟩ := zw_addr hq
    exact hi i j h1 h3 (by rw [← h2, ← h4]; exact he)
  · obtain ⟨h1, h2⟩ := zw_addr hk
    rw [h2]
    exact hA k h1
end
section
/-! ===== the judgement: a frame of a method over the world; what every method's walk knows ===== -/
def znw1 : Cond := .methodLinkNest RX1 40 yX5_isLevel RX5
def znw2 : Cond := .methodLinkNest RX2 85 yX5_isLetter RX5
def ZK (E : ZE) (U : State) : Prop := va_K E.1 zcls (ztys E) U ∧ va_Nw znw1 U ∧ va_Nw znw2 U ∧ ZInj E
theorem ZK.same {E : ZE} {u U : State} (h : ZK E u) (hv : u.vm = U.vm) : ZK E U :=
  ⟨va_K.moved (by rw [hv]; exact Vm.Alike.refl _) h.1, va_Nw.same rfl hv h.2.1, va_Nw.same rfl hv h.2.2.1, h.2.2.2⟩
theorem ZK.warm {E : ZE} {s U : State} (h : ZK E s) (hW : s.WarmedH U.vm) : ZK E U :=
  ⟨va_K.moved hW.alike h.1, va_Nw.warmM hW h.2.1, va_Nw.warmM hW h.2.2.1, h.2.2.2⟩
/-- the locals, by their places; of each only a value of one word is told -/
def zlp : Nat → List (Option Value) → List (Nat × Value)
  | _, [] => []
  | i, none :: r => zlp (i + 1) r
  | i, some v :: r => if v.category = 1 then (i, v) :: zlp (i + 1) r else zlp (i + 1) r
theorem zlp_mem {q : Nat × Value} : ∀ {lv : List (Option Value)} {i : Nat}, q ∈ zlp i lv ↔ ∃ j, q.1 = i + j ∧ lv[j]? = some (some q.2) ∧ q.2.category = 1 := by
  intro lv
  induction lv with
  | nil => intro i; simp [zlp]
  | cons a r ih =>
    intro i
    have key : (∃ j, q.1 = i + j ∧ (a :: r)[j]? = some (some q.2) ∧ q.2.category = 1) ↔ ((q.1 = i ∧ a = some q.2 ∧ q.2.category = 1) ∨ ∃ j, q.1 = (i + 1) + j ∧ r[j]? = some (some q.2) ∧ q.2.category = 1) := by
      constructor
      · rintro ⟨j, h1, h2, h3⟩
        cases j with
        | zero => left; simp at h2; exact ⟨by omega, h2, h3⟩
        | succ j => right; exact ⟨j, by omega, by simpa using h2, h3⟩
      · rintro (⟨h1, h2, h3⟩ | ⟨j, h1, h2, h3⟩)
        · exact ⟨0, by omega, by simp [h2], h3⟩
        · exact ⟨j + 1, by omega, by simpa using h2, h3⟩
    rw [key]
    cases a with
    | none => simp [zlp, ih]
    | some v =>
      simp only [zlp]
      split
      · rename_i hv
        rw [List.mem_cons, ih]
        constructor
        · rintro (h | h)
          · subst h; left; exact ⟨rfl, rfl, hv⟩
          · right; exact h
        · rintro (⟨h1, h2, h3⟩ | h)
          · left
            obtain ⟨q1, q2⟩ := q
            simp at h1 h2
            subst h1; subst h2
            rfl
          · right; exact h
      · rename_i hv
        rw [ih]
        constructor
        · intro h; right; exact h
        · rintro (⟨h1, h2, h3⟩ | h)
          · simp at h2; rw [← h2] at h3; exact absurd h3 hv
          · exact h
theorem zlp_at {ls : Array Slot} {n i : Nat} {lv : List (Option Value)} {v : Value} (hl : lv_has ls n (zlp 0 lv)) (hv : lv[i]? = some (some v)) (hc : v.category = 1) : ls[i]? = some (.val v) :=
  hl.2.2 (i, v) (zlp_mem.mpr ⟨i, by simp, hv, hc⟩)
theorem zlp_store {ls : Array Slot} {n i : Nat} {lv : List (Option Value)} {v : Value} (hl : lv_has ls n ((i, v) :: (zlp 0 lv).filter (fun q => !(q.1 == i) && !(q.1 + 1 == i && q.2.category == 2)))) : lv_has ls n (zlp 0 (lv.set i (some v))) := by
  refine ⟨hl.1, hl.2.1, fun q hq => ?_⟩
  obtain ⟨j, h1, h2, h3⟩ := zlp_mem.mp hq
  have h1' : q.1 = j := by omega
  apply hl.2.2
  rw [List.getElem?_set] at h2
  split at h2
  · rename_i hij
    split at h2
    · simp at h2
      obtain ⟨q1, q2⟩ := q
      simp at h1' h2
      subst h1'; subst hij; subst h2
      exact List.mem_cons_self
    · cases h2
  · rename_i hij
    refine List.mem_cons_of_mem _ (List.mem_filter.mpr ⟨zlp_mem.mpr ⟨j, h1, h2, h3⟩, ?_⟩)
    have : ¬ q.1 = i := by omega
    simp [this, h3]
theorem zlp_args : ∀ {As : List Value} {i n : Nat}, As.all (fun v => v.category == 1) = true → ∀ q ∈ zlp i (As.map some ++ List.replicate n none), q ∈ lv_args i As := by
  intro As
  induction As with
  | nil =>
    intro i n _ q hq
    obtain ⟨j, h1, h2, h3⟩ := zlp_mem.mp hq
    simp [List.getElem?_replicate] at h2
  | cons v r ih =>
    intro i n h q hq
    simp only [List.all_cons, Bool.and_eq_true, beq_iff_eq] at h
    simp only [List.map_cons, List.cons_append, zlp, h.1, if_true] at hq
    simp only [lv_args, h.1]
    rcases List.mem_cons.mp hq with h2 | h2
    · rw [h2]; exact List.mem_cons_self
    · exact List.mem_cons_of_mem _ (ih h.2 q h2)
theorem zlg_len : ∀ {As : List Value}, As.all (fun v => v.category == 1) = true → (lg_sl As).length = As.length := by
  intro As
  induction As with
  | nil => intro _; rfl
  | cons v r ih =>
    intro h
    simp only [List.all_cons, Bool.and_eq_true, beq_iff_eq] at h
    have := ih h.2
    unfold lg_sl at this ⊢
    rw [List.flatMap_cons]
    simp [h.1, this]
/-- what stays the same through a walk -/
abbrev ZT : Type := Program × Launch × Env × Room × State × MethodId × Array Value × List Frame × Method × Code × (Nat → Prop) × (State → Prop) × Nat × Nat × Nat
def ZG (E : ZE) (Γ : ZT) (pc : Nat) (lv : List (Option Value)) (st : List Value) (σ : ZSt) : Prop := match Γ with
  | (p, l, e, R, s, m, args, below, meth, c, A, Q, nL, cells, slots) =>
    ∀ (H : Heap) (locs : List Loc) (ls : Array Slot), va_P E.1 zcls (zworld E σ) H → va_S A s.heap H locs → lv_has ls nL (zlp 0 lv) → W p l e R s m args below meth c H locs cells slots Q (F0 m pc ls st)
def ZC (E : ZE) (Γ : ZT) (h : Nat) (own : String) (cc : ByteArray) : Prop := match Γ with
  | (p, _, _, R, s, m, args, _, _, c, A, _, nL, cells, slots) =>
    p.tables.exec = Jvm.exec ∧ c.code = cc ∧ s.vm.findClass own = some m.cls ∧ c.maxLocals = nL ∧ (∀ w ∈ TB, w.before args s = true) ∧ ZK E s ∧ (∀ k, k < zSH.length → A (E.2.2.2 k)) ∧ (∀ q, s.heap.size ≤ q → A q) ∧ (h ≤ R.frames ∧ 40 * h ≤ R.locals ∧ cells ≤ R.cells ∧ slots ≤ R.slots)
/-- as long as the locals are -/
def ZN (Γ : ZT) (n : Nat) : Prop := match Γ with
  | (_, _, _, _, _, _, _, _, _, _, _, _, nL, _, _) => nL = n
/-- the ends of a method: an int, a boolean, nothing -/
def ZRi (E : ZE) (Γ : ZT) (cc : ByteArray) (P : Int → ZSt → Prop) : Prop := ∀ (pc : Nat) (lv : List (Option Value)) (σ : ZSt) (r : Int), decode cc pc = .ok (.ireturn, 1) → zRg r → zRs σ → P r σ → ZG E Γ pc lv [ziv r] σ
def ZRz (E : ZE) (Γ : ZT) (cc : ByteArray) (P : Int → ZSt → Prop) : Prop := ∀ (pc : Nat) (lv : List (Option Value)) (σ : ZSt) (r : Int), decode cc pc = .ok (.ireturn, 1) → (r = 0 ∨ r = 1) → zRs σ → P r σ → ZG E Γ pc lv [ziv r] σ
def ZRv (E : ZE) (Γ : ZT) (cc : ByteArray) (P : ZSt → Prop) : Prop := ∀ (pc : Nat) (lv : List (Option Value)) (σ : ZSt), decode cc pc = .ok (.return_, 1) → zRs σ → P σ → ZG E Γ pc lv [] σ
def ZA (E : ZE) (sz : Nat) : Nat → Prop := fun q => (∃ k, k < zSH.length ∧ q = E.2.2.2 k) ∨ sz ≤ q
def ZQi (E : ZE) (P : Int → ZSt → Prop) (A : Nat → Prop) : Array Value → State → Outcome → State → Prop := fun _ st oc t => (∃ (r : Int) (σ' : ZSt), oc = .returned (some (ziv r)) ∧ zRg r ∧ zRs σ' ∧ P r σ' ∧ va_P E.1 zcls (zworld E σ') t.heap) ∧ va_F A st t
def ZQv (E : ZE) (P : ZSt → Prop) (A : Nat → Prop) : Array Value → State → Outcome → State → Prop := fun _ st oc t => (∃ (σ' : ZSt), oc = .returned none ∧ zRs σ' ∧ P σ' ∧ va_P E.1 zcls (zworld E σ') t.heap) ∧ va_F A st t
def ZPc (E : ZE) (As : List Value) (σ : ZSt) (sz : Nat) : Array Value → State → Prop := va_Pc As (fun U => U.heap.size = sz ∧ va_P E.1 zcls (zworld E σ) U.heap ∧ ZK E U)
def zroom (h : Nat) : Room := { frames := h, cells := 0, slots := 0, locals := 40 * h }
/-- a method's contract: it returns an int r and the state σ', with P r σ' -/
def ZMi (E : ZE) (h : Nat) (y : MethodName) (cc : ByteArray) (maxL : Nat) (ret : Option FieldType) (As : List Value) (σ : ZSt) (P : Int → ZSt → Prop) : Prop :=
  ∀ (l : Launch) (sz : Nat), Met l y (.code y cc maxL ret :: TB) (zroom h) (ZPc E As σ sz) (ZQi E P (ZA E sz)) 0 0 (ZA E sz)
def ZMv (E : ZE) (h : Nat) (y : MethodName) (cc : ByteArray) (maxL : Nat) (As : List Value) (σ : ZSt) (P : ZSt → Prop) : Prop :=
  ∀ (l : Launch) (sz : Nat), Met l y (.code y cc maxL none :: TB) (zroom h) (ZPc E As σ sz) (ZQv E P (ZA E sz)) 0 0 (ZA E sz)
theorem zblind {E : ZE} {As : List Value} {σ : ZSt} {sz : Nat} : FrameBlind (ZPc E As σ sz) := by
  intro a U g mk h
  obtain ⟨h1, h2, h3, h4⟩ := h
  exact ⟨h1, h2, h3, h4.same rfl⟩
theorem znarZ {r : Int} (h : r = 0 ∨ r = 1) : narrow .boolean (.int (zi r)) = .int (zi r) := by rcases h with rfl | rfl <;> decide
theorem zRg01 {r : Int} (h : r = 0 ∨ r = 1) : zRg r := by rcases h with rfl | rfl <;> exact ⟨by decide, by decide⟩
section INTRO
variable {E : ZE} {h : Nat} {y : MethodName} {cc : ByteArray} {maxL : Nat} {As : List Value} {σ : ZSt}
theorem zentry {p : Program} {l : Launch} {e : Env} {s : State} {m : MethodId} {below : List Frame} {meth : Method} {c : Code} {R : Room} {Q : State → Prop} {A : Nat → Prop} (hcat : As.all (fun v => v.category == 1) = true) (hlen : As.length ≤ maxL) (hP : va_P E.1 zcls (zworld E σ) s.heap)
    (k : ZG E (p, l, e, R, s, m, As.toArray, below, meth, c, A, Q, maxL, 0, 0) 0 (As.map some ++ List.replicate (maxL - As.length) none) [] σ) : W p l e R s m As.toArray below meth c s.heap [] 0 0 Q (entryFrame m As.toArray maxL) := by
  have hl := lv_entry As (n := maxL) (by rw [zlg_len hcat]; exact hlen)
  rw [lg_entry_eq]
  refine k s.heap [] _ hP va_S.rf ⟨hl.1, hl.2.1, fun q hq => hl.2.2 q (zlp_args hcat q hq)⟩
theorem ZMi.intro {P : Int → ZSt → Prop} (hy : plainName y.cls = true) (hcat : As.all (fun v => v.category == 1) = true) (hlen : As.length ≤ maxL)
    (body : ∀ Γ : ZT, ZC E Γ h y.cls cc → ZN Γ maxL → ZRi E Γ cc P → ZG E Γ 0 (As.map some ++ List.replicate (maxL - As.length) none) [] σ) : ZMi E h y cc maxL (some .int) As σ P := by
  intro l sz
  refine Met.ofW (cc := cc) (maxL := maxL) (ret := some .int) hy rfl ?_
  intro p e s m args below meth c s₁ B hml hv
  obtain ⟨rfl, hsz, hP, hK⟩ := hv
  have hx := B.exec
  have hb := B.bytes
  have hr := B.returns
  have hts := atoms_spec (ws := .code y cc maxL (some .int) :: TB) B.pre
  have hown : s.vm.findClass y.cls = some m.cls := findClass_of_methodNamed B.named
  have hlocks := B.notSynchronized
  subst hsz
  refine zentry (A := ZA E s.heap.size) hcat hlen hP (body _ ?_ rfl ?_)
  · unfold ZC
    exact ⟨hx, hb, hown, hml, fun w hw => hts w (List.mem_cons_of_mem _ hw), hK, fun k hk => Or.inl ⟨k, hk, rfl⟩, fun q hq => Or.inr hq, Nat.le_refl _, Nat.le_refl _, Nat.le_refl _, Nat.le_refl _⟩
  intro pc lv σ' r hd hrg hrs hp H locs ls hPH hS hl
  exact W.iret hx hb hr (fun t ht hW => ⟨⟨r, σ', rfl, hrg, hrs, hp, by rw [ht]; exact hPH⟩, hS.F ht⟩) hS.2.2 hd
theorem ZMi.introZ {P : Int → ZSt → Prop} (hy : plainName y.cls = true) (hcat : As.all (fun v => v.category == 1) = true) (hlen : As.length ≤ maxL)
    (body : ∀ Γ : ZT, ZC E Γ h y.cls cc → ZN Γ maxL → ZRz E Γ cc P → ZG E Γ 0 (As.map some ++ List.replicate (maxL - As.length) none) [] σ) : ZMi E h y cc maxL (some .boolean) As σ P := by
  intro l sz
  refine Met.ofW (cc := cc) (maxL := maxL) (ret := some .boolean) hy rfl ?_
  intro p e s m args below meth c s₁ B hml hv
  obtain ⟨rfl, hsz, hP, hK⟩ := hv
  have hx := B.exec
  have hb := B.bytes
  have hr := B.returns
  have hts := atoms_spec (ws := .code y cc maxL (some .boolean) :: TB) B.pre
  have hown : s.vm.findClass y.cls = some m.cls := findClass_of_methodNamed B.named
  have hlocks := B.notSynchronized
  subst hsz
  refine zentry (A := ZA E s.heap.size) hcat hlen hP (body _ ?_ rfl ?_)
  · unfold ZC
    exact ⟨hx, hb, hown, hml, fun w hw => hts w (List.mem_cons_of_mem _ hw), hK, fun k hk => Or.inl ⟨k, hk, rfl⟩, fun q hq => Or.inr hq, Nat.le_refl _, Nat.le_refl _, Nat.le_refl _, Nat.le_refl _⟩
  intro pc lv σ' r hd hrg hrs hp H locs ls hPH hS hl
  exact W.zret hx hb hr (znarZ hrg) (fun t ht hW => ⟨⟨r, σ', rfl, zRg01 hrg, hrs, hp, by rw [ht]; exact hPH⟩, hS.F ht⟩) hS.2.2 hd
theorem ZMv.intro {P : ZSt → Prop} (hy : plainName y.cls = true) (hcat : As.all (fun v => v.category == 1) = true) (hlen : As.length ≤ maxL)
    (body : ∀ Γ : ZT, ZC E Γ h y.cls cc → ZN Γ maxL → ZRv E Γ cc P → ZG E Γ 0 (As.map some ++ List.replicate (maxL - As.length) none) [] σ) : ZMv E h y cc maxL As σ P := by
  intro l sz
  refine Met.ofW (cc := cc) (maxL := maxL) (ret := none) hy rfl ?_
  intro p e s m args below meth c s₁ B hml hv
  obtain ⟨rfl, hsz, hP, hK⟩ := hv
  have hx := B.exec
  have hb := B.bytes
  have hr := B.returns
  have hts := atoms_spec (ws := .code y cc maxL none :: TB) B.pre
  have hown : s.vm.findClass y.cls = some m.cls := findClass_of_methodNamed B.named
  have hlocks := B.notSynchronized
  subst hsz
  refine zentry (A := ZA E s.heap.size) hcat hlen hP (body _ ?_ rfl ?_)
  · unfold ZC
    exact ⟨hx, hb, hown, hml, fun w hw => hts w (List.mem_cons_of_mem _ hw), hK, fun k hk => Or.inl ⟨k, hk, rfl⟩, fun q hq => Or.inr hq, Nat.le_refl _, Nat.le_refl _, Nat.le_refl _, Nat.le_refl _⟩
  intro pc lv σ' hd hrs hp H locs ls hPH hS hl
  exact W.vret hx hb hr (fun t ht hW => ⟨⟨σ', rfl, hrs, hp, by rw [ht]; exact hPH⟩, hS.F ht⟩) hS.2.2 hd
end INTRO
end
section
/-! ===== a row an instruction ===== -/
section ROWS
variable {E : ZE} {Γ : ZT} {h : Nat} {own : String} {cc : ByteArray} {pc : Nat} {lv : List (Option Value)} {st : List Value} {σ : ZSt}
theorem zcat_iv (a : Int) : (ziv a).category = 1 := rfl
theorem zcat_rf (E : ZE) (k : Nat) : (zrf E k).category = 1 := rfl
theorem z_iconst (C : ZC E Γ h own cc) {n : Int} (hd : decode cc pc = .ok (.iconst n, 1)) (kk : ZG E Γ (pc + 1) lv (ziv n :: st) σ) : ZG E Γ pc lv st σ := by
  obtain ⟨p, l, e, R, s, m, args, below, meth, c, A, Q, nL, cells, slots⟩ := Γ
  obtain ⟨hx, hb, -⟩ := C
  intro H locs ls hP hS hl
  exact lv_iconst hx hb hd rfl (kk H locs ls hP hS hl)
theorem z_bipush (C : ZC E Γ h own cc) {n : Int} (hd : decode cc pc = .ok (.bipush n, 2)) (hv : (Int8.ofInt n).toInt32 = zi n) (kk : ZG E Γ (pc + 2) lv (ziv n :: st) σ) : ZG E Γ pc lv st σ := by
  obtain ⟨p, l, e, R, s, m, args, below, meth, c, A, Q, nL, cells, slots⟩ := Γ
  obtain ⟨hx, hb, -⟩ := C
  intro H locs ls hP hS hl
  exact lv_bipush hx hb hd hv (kk H locs ls hP hS hl)
theorem z_sipush (C : ZC E Γ h own cc) {n : Int} (hd : decode cc pc = .ok (.sipush n, 3)) (hv : (Int16.ofInt n).toInt32 = zi n) (kk : ZG E Γ (pc + 3) lv (ziv n :: st) σ) : ZG E Γ pc lv st σ := by
  obtain ⟨p, l, e, R, s, m, args, below, meth, c, A, Q, nL, cells, slots⟩ := Γ
  obtain ⟨hx, hb, -⟩ := C
  intro H locs ls hP hS hl
  exact lv_sipush hx hb hd hv (kk H locs ls hP hS hl)
theorem z_iload_n (C : ZC E Γ h own cc) {k : Fin 4} {i : Nat} {a : Int} (hd : decode cc pc = .ok (.iload_n k, 1)) (hi : (k : Nat) = i) (hv : lv[i]? = some (some (ziv a))) (kk : ZG E Γ (pc + 1) lv (ziv a :: st) σ) : ZG E Γ pc lv st σ := by
  obtain ⟨p, l, e, R, s, m, args, below, meth, c, A, Q, nL, cells, slots⟩ := Γ
  obtain ⟨hx, hb, -⟩ := C
  intro H locs ls hP hS hl
  exact lv_iload_n hx hb hd hi (zlp_at hl hv rfl) (kk H locs ls hP hS hl)
theorem z_iload (C : ZC E Γ h own cc) {i : Nat} {a : Int} (hd : decode cc pc = .ok (.iload i, 2)) (hv : lv[i]? = some (some (ziv a))) (kk : ZG E Γ (pc + 2) lv (ziv a :: st) σ) : ZG E Γ pc lv st σ := by
  obtain ⟨p, l, e, R, s, m, args, below, meth, c, A, Q, nL, cells, slots⟩ := Γ
  obtain ⟨hx, hb, -⟩ := C
  intro H locs ls hP hS hl
  exact lv_iload hx hb hd (zlp_at hl hv rfl) (kk H locs ls hP hS hl)
theorem z_aload_n (C : ZC E Γ h own cc) {k : Fin 4} {i q : Nat} (hd : decode cc pc = .ok (.aload_n k, 1)) (hi : (k : Nat) = i) (hv : lv[i]? = some (some (.ref q))) (kk : ZG E Γ (pc + 1) lv (.ref q :: st) σ) : ZG E Γ pc lv st σ := by
  obtain ⟨p, l, e, R, s, m, args, below, meth, c, A, Q, nL, cells, slots⟩ := Γ
  obtain ⟨hx, hb, -⟩ := C
  intro H locs ls hP hS hl
  exact lv_aload_n hx hb hd hi (zlp_at hl hv rfl) (kk H locs ls hP hS hl)
theorem z_aload (C : ZC E Γ h own cc) {i q : Nat} (hd : decode cc pc = .ok (.aload i, 2)) (hv : lv[i]? = some (some (.ref q))) (kk : ZG E Γ (pc + 2) lv (.ref q :: st) σ) : ZG E Γ pc lv st σ := by
  obtain ⟨p, l, e, R, s, m, args, below, meth, c, A, Q, nL, cells, slots⟩ := Γ
  obtain ⟨hx, hb, -⟩ := C
  intro H locs ls hP hS hl
  exact lv_aload hx hb hd (zlp_at hl hv rfl) (kk H locs ls hP hS hl)
theorem z_aload_nZ (C : ZC E Γ h own cc) {k : Fin 4} {i q : Nat} (hd : decode cc pc = .ok (.aload_n k, 1)) (hi : (k : Nat) = i) (hv : lv[i]? = some (some (zrf E q))) (kk : ZG E Γ (pc + 1) lv (zrf E q :: st) σ) : ZG E Γ pc lv st σ := z_aload_n C hd hi hv kk
theorem z_aloadZ (C : ZC E Γ h own cc) {i q : Nat} (hd : decode cc pc = .ok (.aload i, 2)) (hv : lv[i]? = some (some (zrf E q))) (kk : ZG E Γ (pc + 2) lv (zrf E q :: st) σ) : ZG E Γ pc lv st σ := z_aload C hd hv kk
theorem z_istore_n (C : ZC E Γ h own cc) {k : Fin 4} {i : Nat} {a : Int} {n : Nat} {lv' : List (Option Value)} (hN : ZN Γ n) (hd : decode cc pc = .ok (.istore_n k, 1)) (hi : (k : Nat) = i) (hn : i < n) (hlv : lv.set i (some (ziv a)) = lv') (kk : ZG E Γ (pc + 1) lv' st σ) : ZG E Γ pc lv (ziv a :: st) σ := by
  obtain ⟨p, l, e, R, s, m, args, below, meth, c, A, Q, nL, cells, slots⟩ := Γ
  obtain ⟨hx, hb, -⟩ := C
  cases hN
  subst hlv
  intro H locs ls hP hS hl
  exact lv_istore_n hx hb hd hi hl hn rfl (fun ls' hl' => kk H locs ls' hP hS (zlp_store hl'))
theorem z_istore (C : ZC E Γ h own cc) {i : Nat} {a : Int} {n : Nat} {lv' : List (Option Value)} (hN : ZN Γ n) (hd : decode cc pc = .ok (.istore i, 2)) (hn : i < n) (hlv : lv.set i (some (ziv a)) = lv') (kk : ZG E Γ (pc + 2) lv' st σ) : ZG E Γ pc lv (ziv a :: st) σ := by
  obtain ⟨p, l, e, R, s, m, args, below, meth, c, A, Q, nL, cells, slots⟩ := Γ
  obtain ⟨hx, hb, -⟩ := C
  cases hN
  subst hlv
  intro H locs ls hP hS hl
  exact lv_istore hx hb hd hl hn rfl (fun ls' hl' => kk H locs ls' hP hS (zlp_store hl'))
theorem z_iinc (C : ZC E Γ h own cc) {i : Nat} {a d : Int} {n : Nat} {lv' : List (Option Value)} (hN : ZN Γ n) (hd : decode cc pc = .ok (.iinc i d, 3)) (hn : i < n) (hv : lv[i]? = some (some (ziv a))) (hlv : lv.set i (some (ziv (a + d))) = lv') (kk : ZG E Γ (pc + 3) lv' st σ) : ZG E Γ pc lv st σ := by
  obtain ⟨p, l, e, R, s, m, args, below, meth, c, A, Q, nL, cells, slots⟩ := Γ
  obtain ⟨hx, hb, -⟩ := C
  cases hN
  subst hlv
  intro H locs ls hP hS hl
  have hm : (i, ziv a) ∈ zlp 0 lv := zlp_mem.mpr ⟨i, by simp, hv, rfl⟩
  obtain ⟨k, hk⟩ := List.getElem?_of_mem hm
  exact lv_iinc (v := zi (a + d)) hx hb hd hl hk (zi_add a d) hn rfl (fun ls' hl' => kk H locs ls' hP hS (zlp_store hl'))
theorem z_iadd (C : ZC E Γ h own cc) {a b : Int} (hd : decode cc pc = .ok (.iadd, 1)) (kk : ZG E Γ (pc + 1) lv (ziv (a + b) :: st) σ) : ZG E Γ pc lv (ziv b :: ziv a :: st) σ := by
  obtain ⟨p, l, e, R, s, m, args, below, meth, c, A, Q, nL, cells, slots⟩ := Γ
  obtain ⟨hx, hb, -⟩ := C
  intro H locs ls hP hS hl
  have k2 := kk H locs ls hP hS hl
  rw [ziv, ← zi_add] at k2
  exact lv_iadd hx hb hd k2
theorem z_isub (C : ZC E Γ h own cc) {a b : Int} (hd : decode cc pc = .ok (.isub, 1)) (kk : ZG E Γ (pc + 1) lv (ziv (a - b) :: st) σ) : ZG E Γ pc lv (ziv b :: ziv a :: st) σ := by
  obtain ⟨p, l, e, R, s, m, args, below, meth, c, A, Q, nL, cells, slots⟩ := Γ
  obtain ⟨hx, hb, -⟩ := C
  intro H locs ls hP hS hl
  have k2 := kk H locs ls hP hS hl
  rw [ziv, ← zi_sub] at k2
  exact lv_isub hx hb hd k2
theorem z_imul (C : ZC E Γ h own cc) {a b : Int} (hd : decode cc pc = .ok (.imul, 1)) (kk : ZG E Γ (pc + 1) lv (ziv (a * b) :: st) σ) : ZG E Γ pc lv (ziv b :: ziv a :: st) σ := by
  obtain ⟨p, l, e, R, s, m, args, below, meth, c, A, Q, nL, cells, slots⟩ := Γ
  obtain ⟨hx, hb, -⟩ := C
  intro H locs ls hP hS hl
  have k2 := kk H locs ls hP hS hl
  rw [ziv, ← zi_mul] at k2
  exact lv_imul hx hb hd k2
theorem z_dup (C : ZC E Γ h own cc) {v : Value} (hd : decode cc pc = .ok (.dup, 1)) (hv : v.category = 1) (kk : ZG E Γ (pc + 1) lv (v :: v :: st) σ) : ZG E Γ pc lv (v :: st) σ := by
  obtain ⟨p, l, e, R, s, m, args, below, meth, c, A, Q, nL, cells, slots⟩ := Γ
  obtain ⟨hx, hb, -⟩ := C
  intro H locs ls hP hS hl
  exact lv_dup hx hb hd hv (kk H locs ls hP hS hl)
theorem z_pop (C : ZC E Γ h own cc) {v : Value} (hd : decode cc pc = .ok (.pop, 1)) (hv : v.category = 1) (kk : ZG E Γ (pc + 1) lv st σ) : ZG E Γ pc lv (v :: st) σ := by
  obtain ⟨p, l, e, R, s, m, args, below, meth, c, A, Q, nL, cells, slots⟩ := Γ
  obtain ⟨hx, hb, -⟩ := C
  intro H locs ls hP hS hl
  exact lv_pop hx hb hd hv (kk H locs ls hP hS hl)
theorem z_goto (C : ZC E Γ h own cc) {off : Int} (tgt : Nat) (hd : decode cc pc = .ok (.goto off, 3)) (ht : (pc : Int) + off = (tgt : Int)) (kk : ZG E Γ tgt lv st σ) : ZG E Γ pc lv st σ := by
  obtain ⟨p, l, e, R, s, m, args, below, meth, c, A, Q, nL, cells, slots⟩ := Γ
  obtain ⟨hx, hb, -⟩ := C
  intro H locs ls hP hS hl
  exact lv_goto hx hb hd ht (kk H locs ls hP hS hl)
-- branches
theorem zRg0 : zRg 0 := ⟨by decide, by decide⟩
theorem z_icmp_eq (C : ZC E Γ h own cc) {a b off : Int} (tgt : Nat) (ha : zRg a) (hb2 : zRg b) (hd : decode cc pc = .ok (.if_icmp .eq off, 3)) (ht : (pc : Int) + off = (tgt : Int)) (kt : a = b → ZG E Γ tgt lv st σ) (kf : a ≠ b → ZG E Γ (pc + 3) lv st σ) : ZG E Γ pc lv (ziv b :: ziv a :: st) σ := by
  obtain ⟨p, l, e, R, s, m, args, below, meth, c, A, Q, nL, cells, slots⟩ := Γ
  obtain ⟨hx, hb, -⟩ := C
  intro H locs ls hP hS hl
  exact lv_icmp_eq hx hb hd ht (fun q => kt ((zi_eq ha hb2).mp q) H locs ls hP hS hl) (fun q => kf (fun r => q ((zi_eq ha hb2).mpr r)) H locs ls hP hS hl)
theorem z_if_eq (C : ZC E Γ h own cc) {a off : Int} (tgt : Nat) (ha : zRg a) (hd : decode cc pc = .ok (.ifCond .eq off, 3)) (ht : (pc : Int) + off = (tgt : Int)) (kt : a = 0 → ZG E Γ tgt lv st σ) (kf : a ≠ 0 → ZG E Γ (pc + 3) lv st σ) : ZG E Γ pc lv (ziv a :: st) σ := by
  obtain ⟨p, l, e, R, s, m, args, below, meth, c, A, Q, nL, cells, slots⟩ := Γ
  obtain ⟨hx, hb, -⟩ := C
  intro H locs ls hP hS hl
  exact lv_if_eq hx hb hd ht (fun q => kt ((zi_eq ha zRg0).mp q) H locs ls hP hS hl) (fun q => kf (fun r => q ((zi_eq ha zRg0).mpr r)) H locs ls hP hS hl)
theorem z_icmp_ne (C : ZC E Γ h own cc) {a b off : Int} (tgt : Nat) (ha : zRg a) (hb2 : zRg b) (hd : decode cc pc = .ok (.if_icmp .ne off, 3)) (ht : (pc : Int) + off = (tgt : Int)) (kt : a ≠ b → ZG E Γ tgt lv st σ) (kf : a = b → ZG E Γ (pc + 3) lv st σ) : ZG E Γ pc lv (ziv b :: ziv a :: st) σ := by
  obtain ⟨p, l, e, R, s, m, args, below, meth, c, A, Q, nL, cells, slots⟩ := Γ
  obtain ⟨hx, hb, -⟩ := C
  intro H locs ls hP hS hl
  exact lv_icmp_ne hx hb hd ht (fun q => kt (fun r => q ((zi_eq ha hb2).mpr r)) H locs ls hP hS hl) (fun q => kf ((zi_eq ha hb2).mp q) H locs ls hP hS hl)
theorem z_if_ne (C : ZC E Γ h own cc) {a off : Int} (tgt : Nat) (ha : zRg a) (hd : decode cc pc = .ok (.ifCond .ne off, 3)) (ht : (pc : Int) + off = (tgt : Int)) (kt : a ≠ 0 → ZG E Γ tgt lv st σ) (kf : a = 0 → ZG E Γ (pc + 3) lv st σ) : ZG E Γ pc lv (ziv a :: st) σ := by
  obtain ⟨p, l, e, R, s, m, args, below, meth, c, A, Q, nL, cells, slots⟩ := Γ
  obtain ⟨hx, hb, -⟩ := C
  intro H locs ls hP hS hl
  exact lv_if_ne hx hb hd ht (fun q => kt (fun r => q ((zi_eq ha zRg0).mpr r)) H locs ls hP hS hl) (fun q => kf ((zi_eq ha zRg0).mp q) H locs ls hP hS hl)
theorem z_icmp_lt (C : ZC E Γ h own cc) {a b off : Int} (tgt : Nat) (ha : zRg a) (hb2 : zRg b) (hd : decode cc pc = .ok (.if_icmp .lt off, 3)) (ht : (pc : Int) + off = (tgt : Int)) (kt : a < b → ZG E Γ tgt lv st σ) (kf : b ≤ a → ZG E Γ (pc + 3) lv st σ) : ZG E Γ pc lv (ziv b :: ziv a :: st) σ := by
  obtain ⟨p, l, e, R, s, m, args, below, meth, c, A, Q, nL, cells, slots⟩ := Γ
  obtain ⟨hx, hb, -⟩ := C
  intro H locs ls hP hS hl
  exact lv_icmp_lt hx hb hd ht (fun q => kt ((zi_lt ha hb2).mp q) H locs ls hP hS hl) (fun q => kf (Int.not_lt.mp (fun r => q ((zi_lt ha hb2).mpr r))) H locs ls hP hS hl)
theorem z_if_lt (C : ZC E Γ h own cc) {a off : Int} (tgt : Nat) (ha : zRg a) (hd : decode cc pc = .ok (.ifCond .lt off, 3)) (ht : (pc : Int) + off = (tgt : Int)) (kt : a < 0 → ZG E Γ tgt lv st σ) (kf : 0 ≤ a → ZG E Γ (pc + 3) lv st σ) : ZG E Γ pc lv (ziv a :: st) σ := by
  obtain ⟨p, l, e, R, s, m, args, below, meth, c, A, Q, nL, cells, slots⟩ := Γ
  obtain ⟨hx, hb, -⟩ := C
  intro H locs ls hP hS hl
  exact lv_if_lt hx hb hd ht (fun q => kt ((zi_lt ha zRg0).mp q) H locs ls hP hS hl) (fun q => kf (Int.not_lt.mp (fun r => q ((zi_lt ha zRg0).mpr r))) H locs ls hP hS hl)
theorem z_icmp_ge (C : ZC E Γ h own cc) {a b off : Int} (tgt : Nat) (ha : zRg a) (hb2 : zRg b) (hd : decode cc pc = .ok (.if_icmp .ge off, 3)) (ht : (pc : Int) + off = (tgt : Int)) (kt : b ≤ a → ZG E Γ tgt lv st σ) (kf : a < b → ZG E Γ (pc + 3) lv st σ) : ZG E Γ pc lv (ziv b :: ziv a :: st) σ := by
  obtain ⟨p, l, e, R, s, m, args, below, meth, c, A, Q, nL, cells, slots⟩ := Γ
  obtain ⟨hx, hb, -⟩ := C
  intro H locs ls hP hS hl
  exact lv_icmp_ge hx hb hd ht (fun q => kt ((zi_le hb2 ha).mp q) H locs ls hP hS hl) (fun q => kf (Int.not_le.mp (fun r => q ((zi_le hb2 ha).mpr r))) H locs ls hP hS hl)
theorem z_if_ge (C : ZC E Γ h own cc) {a off : Int} (tgt : Nat) (ha : zRg a) (hd : decode cc pc = .ok (.ifCond .ge off, 3)) (ht : (pc : Int) + off = (tgt : Int)) (kt : 0 ≤ a → ZG E Γ tgt lv st σ) (kf : a < 0 → ZG E Γ (pc + 3) lv st σ) : ZG E Γ pc lv (ziv a :: st) σ := by
  obtain ⟨p, l, e, R, s, m, args, below, meth, c, A, Q, nL, cells, slots⟩ := Γ
  obtain ⟨hx, hb, -⟩ := C
  intro H locs ls hP hS hl
  exact lv_if_ge hx hb hd ht (fun q => kt ((zi_le zRg0 ha).mp q) H locs ls hP hS hl) (fun q => kf (Int.not_le.mp (fun r => q ((zi_le zRg0 ha).mpr r))) H locs ls hP hS hl)
theorem z_icmp_gt (C : ZC E Γ h own cc) {a b off : Int} (tgt : Nat) (ha : zRg a) (hb2 : zRg b) (hd : decode cc pc = .ok (.if_icmp .gt off, 3)) (ht : (pc : Int) + off = (tgt : Int)) (kt : b < a → ZG E Γ tgt lv st σ) (kf : a ≤ b → ZG E Γ (pc + 3) lv st σ) : ZG E Γ pc lv (ziv b :: ziv a :: st) σ := by
  obtain ⟨p, l, e, R, s, m, args, below, meth, c, A, Q, nL, cells, slots⟩ := Γ
  obtain ⟨hx, hb, -⟩ := C
  intro H locs ls hP hS hl
  exact lv_icmp_gt hx hb hd ht (fun q => kt ((zi_lt hb2 ha).mp q) H locs ls hP hS hl) (fun q => kf (Int.not_lt.mp (fun r => q ((zi_lt hb2 ha).mpr r))) H locs ls hP hS hl)
theorem z_if_gt (C : ZC E Γ h own cc) {a off : Int} (tgt : Nat) (ha : zRg a) (hd : decode cc pc = .ok (.ifCond .gt off, 3)) (ht : (pc : Int) + off = (tgt : Int)) (kt : 0 < a → ZG E Γ tgt lv st σ) (kf : a ≤ 0 → ZG E Γ (pc + 3) lv st σ) : ZG E Γ pc lv (ziv a :: st) σ := by
  obtain ⟨p, l, e, R, s, m, args, below, meth, c, A, Q, nL, cells, slots⟩ := Γ
  obtain ⟨hx, hb, -⟩ := C
  intro H locs ls hP hS hl
  exact lv_if_gt hx hb hd ht (fun q => kt ((zi_lt zRg0 ha).mp q) H locs ls hP hS hl) (fun q => kf (Int.not_lt.mp (fun r => q ((zi_lt zRg0 ha).mpr r))) H locs ls hP hS hl)
theorem z_icmp_le (C : ZC E Γ h own cc) {a b off : Int} (tgt : Nat) (ha : zRg a) (hb2 : zRg b) (hd : decode cc pc = .ok (.if_icmp .le off, 3)) (ht : (pc : Int) + off = (tgt : Int)) (kt : a ≤ b → ZG E Γ tgt lv st σ) (kf : b < a → ZG E Γ (pc + 3) lv st σ) : ZG E Γ pc lv (ziv b :: ziv a :: st) σ := by
  obtain ⟨p, l, e, R, s, m, args, below, meth, c, A, Q, nL, cells, slots⟩ := Γ
  obtain ⟨hx, hb, -⟩ := C
  intro H locs ls hP hS hl
  exact lv_icmp_le hx hb hd ht (fun q => kt ((zi_le ha hb2).mp q) H locs ls hP hS hl) (fun q => kf (Int.not_le.mp (fun r => q ((zi_le ha hb2).mpr r))) H locs ls hP hS hl)
theorem z_if_le (C : ZC E Γ h own cc) {a off : Int} (tgt : Nat) (ha : zRg a) (hd : decode cc pc = .ok (.ifCond .le off, 3)) (ht : (pc : Int) + off = (tgt : Int)) (kt : a ≤ 0 → ZG E Γ tgt lv st σ) (kf : 0 < a → ZG E Γ (pc + 3) lv st σ) : ZG E Γ pc lv (ziv a :: st) σ := by
  obtain ⟨p, l, e, R, s, m, args, below, meth, c, A, Q, nL, cells, slots⟩ := Γ
  obtain ⟨hx, hb, -⟩ := C
  intro H locs ls hP hS hl
  exact lv_if_le hx hb hd ht (fun q => kt ((zi_le ha zRg0).mp q) H locs ls hP hS hl) (fun q => kf (Int.not_le.mp (fun r => q ((zi_le ha zRg0).mpr r))) H locs ls hP hS hl)
-- fields
def ZF (own : String) (index ci j : Nat) (fin : Bool) (ty : FieldType) : Prop := ∃ (Cn : String) (T : u_T) (N : Nat) (ty0 : Nat → FieldType), zcls[ci]? = some (Cn, T, N) ∧ j < N ∧ (∀ w ∈ u_ws Cn T N, w ∈ TB) ∧ Cond.fieldLink own index (T j).1 (T j).2.1 (T j).2.2.1 ∈ TB ∧ (T j).2.2.2 = fin ∧ parseFieldDescriptor (T j).2.2.1 = some ty ∧ (∀ k, k < N → parseFieldDescriptor (T k).2.2.1 = some (ty0 k)) ∧ (∀ a, a < N → ∀ b, b < N → a ≠ b → (T a).2.1 ≠ (T b).2.1)
theorem z_getV (C : ZC E Γ h own cc) {index ci j k : Nat} {fin : Bool} {ty : FieldType} {fs : List (Option Nat)} {x : Option Nat} (f : ZF own index ci j fin ty) (hs : zSH[k]? = some (.inr (ci, fs))) (hf : fs[j]? = some x) (hd : decode cc pc = .ok (.getfield index, 3)) (kk : ZG E Γ (pc + 3) lv (zfv E σ k j x :: st) σ) : ZG E Γ pc lv (zrf E k :: st) σ := by
  obtain ⟨p, l, e, R, s, m, args, below, meth, c, A, Q, nL, cells, slots⟩ := Γ
  obtain ⟨hx, hb, hown, hml, hts, hK, -⟩ := C
  obtain ⟨Cn, T, N, ty0, h1, h2, h3, h4, h5, h6, h7, h8⟩ := f
  intro H locs ls hP hS hl
  refine va_get hx hb hts h3 hown hK.1 hP k (zw_get hs) h1 j h2 (hts _ h4) (fun _ h9 => h9) (zfs_get hf) hd ?_
  rw [Nat.zero_add]
  exact kk H locs ls hP hS hl
theorem z_getI (C : ZC E Γ h own cc) {index ci j k : Nat} {fin : Bool} {ty : FieldType} {fs : List (Option Nat)} (f : ZF own index ci j fin ty) (hs : zSH[k]? = some (.inr (ci, fs))) (hf : fs[j]? = some none) (hd : decode cc pc = .ok (.getfield index, 3)) (kk : ZG E Γ (pc + 3) lv (ziv (σ k j) :: st) σ) : ZG E Γ pc lv (zrf E k :: st) σ := z_getV C f hs hf hd kk
theorem z_getR (C : ZC E Γ h own cc) {index ci j k q : Nat} {fin : Bool} {ty : FieldType} {fs : List (Option Nat)} (f : ZF own index ci j fin ty) (hs : zSH[k]? = some (.inr (ci, fs))) (hf : fs[j]? = some (some q)) (hd : decode cc pc = .ok (.getfield index, 3)) (kk : ZG E Γ (pc + 3) lv (zrf E q :: st) σ) : ZG E Γ pc lv (zrf E k :: st) σ := z_getV C f hs hf hd kk
theorem z_putV (C : ZC E Γ h own cc) (hR : zRs σ) {index ci j k : Nat} {ty : FieldType} {fs : List (Option Nat)} {v : Int} (hn : narrow ty (ziv v) = ziv v) (hfit : fits ty (ziv v) = true) (f : ZF own index ci j false ty) (hs : zSH[k]? = some (.inr (ci, fs))) (hf : fs[j]? = some none) (hv : zRg v) (hd : decode cc pc = .ok (.putfield index, 3)) (kk : ∀ σ1 : ZSt, σ1 = zup σ k j v → zRs σ1 → ZG E Γ (pc + 3) lv st σ1) : ZG E Γ pc lv (ziv v :: zrf E k :: st) σ := by
  obtain ⟨p, l, e, R, s, m, args, below, meth, c, A, Q, nL, cells, slots⟩ := Γ
  obtain ⟨hx, hb, hown, hml, hts, hK, hA1, hA2, -⟩ := C
  obtain ⟨Cn, T, N, ty0, h1, h2, h3, h4, h5, h6, h7, h8⟩ := f
  intro H locs ls hP hS hl
  have hj : j < fs.length := (List.getElem?_eq_some_iff.mp hf).1
  refine va_put hx hb hts h3 ty0 h7 h8 hown hK.1 hP (zD hK.2.2.2 hA1 σ) hS k (zw_get hs) h1 j h2 (hts _ h4) (fun _ h9 => h9) h5 h6 hn hfit (by rw [zfs_len]; exact hj) hd (fun H1 locs1 hP1 hD1 hS1 => ?_)
  refine kk _ rfl (hR.up hv k j) H1 locs1 ls ?_ hS1 hl
  rw [← zw_set hs]
  have e : zcell E (zup σ k j v) k (.inr (ci, fs)) = .inr (ci, (zfs E σ k 0 fs).set j (ziv v)) := by
    show Sum.inr (ci, zfs E (zup σ k j v) k 0 fs) = _
    rw [zfs_set hf, Nat.zero_add]
  rw [e]
  exact hP1
theorem z_putI (C : ZC E Γ h own cc) (hR : zRs σ) {index ci j k : Nat} {fs : List (Option Nat)} {v : Int} (f : ZF own index ci j false .int) (hs : zSH[k]? = some (.inr (ci, fs))) (hf : fs[j]? = some none) (hv : zRg v) (hd : decode cc pc = .ok (.putfield index, 3)) (kk : ∀ σ1 : ZSt, σ1 = zup σ k j v → zRs σ1 → ZG E Γ (pc + 3) lv st σ1) : ZG E Γ pc lv (ziv v :: zrf E k :: st) σ := z_putV C hR rfl rfl f hs hf hv hd kk
theorem z_putZ (C : ZC E Γ h own cc) (hR : zRs σ) {index ci j k : Nat} {fs : List (Option Nat)} {v : Int} (f : ZF own index ci j false .boolean) (hs : zSH[k]? = some (.inr (ci, fs))) (hf : fs[j]? = some none) (hv : v = 0 ∨ v = 1) (hd : decode cc pc = .ok (.putfield index, 3)) (kk : ∀ σ1 : ZSt, σ1 = zup σ k j v → zRs σ1 → ZG E Γ (pc + 3) lv st σ1) : ZG E Γ pc lv (ziv v :: zrf E k :: st) σ := z_putV C hR (znarZ hv) (by rcases hv with rfl | rfl <;> decide) f hs hf (zRg01 hv) hd kk
-- arrays
theorem zSH_len : ∀ (k t n : Nat), zSH[k]? = some (.inl (t, n)) → n < 2147483648 := by
  have h : zSH.all (fun x => match x with | .inl (_, n) => decide (n < 2147483648) | .inr _ => true) = true := by decide +kernel
  intro k t n hk
  have := List.all_eq_true.mp h _ (List.mem_of_getElem? hk)
  simpa using this
theorem z_iald (C : ZC E Γ h own cc) {k n : Nat} {i : Int} (hs : zSH[k]? = some (.inl (0, n))) (h0 : 0 ≤ i) (h1 : i < n) (hd : decode cc pc = .ok (.iaload, 1)) (kk : ZG E Γ (pc + 1) lv (ziv (σ k i.toNat) :: st) σ) : ZG E Γ pc lv (ziv i :: zrf E k :: st) σ := by
  obtain ⟨p, l, e, R, s, m, args, below, meth, c, A, Q, nL, cells, slots⟩ := Γ
  obtain ⟨hx, hb, hown, hml, hts, hK, -⟩ := C
  intro H locs ls hP hS hl
  have hn := zSH_len _ _ _ hs
  refine va_iald (n := n) (f := fun j => zi (σ k j)) hx hb hK.1 hP k 0 (zw_get hs) rfl (zi_in h0 h1 hn) hd ?_
  rw [zi_clamp ⟨by omega, by omega⟩]
  exact kk H locs ls hP hS hl
theorem z_zald (C : ZC E Γ h own cc) {k n : Nat} {i : Int} (hs : zSH[k]? = some (.inl (1, n))) (h0 : 0 ≤ i) (h1 : i < n) (hd : decode cc pc = .ok (.baload, 1)) (kk : ZG E Γ (pc + 1) lv (ziv (σ k i.toNat) :: st) σ) : ZG E Γ pc lv (ziv i :: zrf E k :: st) σ := by
  obtain ⟨p, l, e, R, s, m, args, below, meth, c, A, Q, nL, cells, slots⟩ := Γ
  obtain ⟨hx, hb, hown, hml, hts, hK, -⟩ := C
  intro H locs ls hP hS hl
  have hn := zSH_len _ _ _ hs
  refine va_zald (n := n) (f := fun j => zi (σ k j)) hx hb hK.1 hP k 1 (zw_get hs) rfl (zi_in h0 h1 hn) hd ?_
  rw [zi_clamp ⟨by omega, by omega⟩]
  exact kk H locs ls hP hS hl
theorem zupd_eq {σ : ZSt} {k : Nat} {i v : Int} (hi : zRg i) : upd (fun j => zi (σ k j)) (zi i).toNatClampNeg (zi v) = fun j => zi (zup σ k i.toNat v k j) := by
  funext j
  unfold upd zup
  rw [zi_clamp hi]
  by_cases hj : j = i.toNat
  · simp [hj]
  · simp [hj]
theorem z_iast (C : ZC E Γ h own cc) (hR : zRs σ) {k n : Nat} {i v : Int} (hs : zSH[k]? = some (.inl (0, n))) (h0 : 0 ≤ i) (h1 : i < n) (hv : zRg v) (hd : decode cc pc = .ok (.iastore, 1)) (kk : ∀ σ1 : ZSt, σ1 = zup σ k i.toNat v → zRs σ1 → ZG E Γ (pc + 1) lv st σ1) : ZG E Γ pc lv (ziv v :: ziv i :: zrf E k :: st) σ := by
  obtain ⟨p, l, e, R, s, m, args, below, meth, c, A, Q, nL, cells, slots⟩ := Γ
  obtain ⟨hx, hb, hown, hml, hts, hK, hA1, hA2, -⟩ := C
  intro H locs ls hP hS hl
  have hn := zSH_len _ _ _ hs
  refine va_iast (n := n) (f := fun j => zi (σ k j)) hx hb hK.1 hP (zD hK.2.2.2 hA1 σ) hS k 0 (zw_get hs) rfl (zi_in h0 h1 hn) hd (fun H1 locs1 hP1 hD1 hS1 => ?_)
  refine kk _ rfl (hR.up hv k i.toNat) H1 locs1 ls ?_ hS1 hl
  rw [← zw_set hs]
  rw [zupd_eq ⟨by omega, by omega⟩] at hP1
  exact hP1
theorem z_zast (C : ZC E Γ h own cc) (hR : zRs σ) {k n : Nat} {i v : Int} (hs : zSH[k]? = some (.inl (1, n))) (h0 : 0 ≤ i) (h1 : i < n) (hv : v = 0 ∨ v = 1) (hd : decode cc pc = .ok (.bastore, 1)) (kk : ∀ σ1 : ZSt, σ1 = zup σ k i.toNat v → zRs σ1 → ZG E Γ (pc + 1) lv st σ1) : ZG E Γ pc lv (ziv v :: ziv i :: zrf E k :: st) σ := by
  obtain ⟨p, l, e, R, s, m, args, below, meth, c, A, Q, nL, cells, slots⟩ := Γ
  obtain ⟨hx, hb, hown, hml, hts, hK, hA1, hA2, -⟩ := C
  intro H locs ls hP hS hl
  have hn := zSH_len _ _ _ hs
  refine va_zast (n := n) (f := fun j => zi (σ k j)) hx hb hK.1 hP (zD hK.2.2.2 hA1 σ) hS k 1 (zw_get hs) rfl (zi_in h0 h1 hn) hd (fun H1 locs1 hP1 hD1 hS1 => ?_)
  refine kk _ rfl (hR.up (zRg01 hv) k i.toNat) H1 locs1 ls ?_ hS1 hl
  rw [← zw_set hs]
  have e9 : vp_nar .boolean (zi v) = zi v := by rcases hv with rfl | rfl <;> decide
  rw [e9, zupd_eq ⟨by omega, by omega⟩] at hP1
  exact hP1
-- calls
theorem z_after_i {p : Program} {l : Launch} {e : Env} {R : Room} {s : State} {m : MethodId} {args : Array Value} {below : List Frame} {meth : Method} {c : Code} {H : Heap} {locs : List Loc} {cells slots : Nat} {Q : State → Prop} {ls : Array Slot} {rest st0 : List Value} {a : Array Value} {A0 A1 free : Nat → Prop} {P : Int → ZSt → Prop}
    (hr : va_Run p l e R s m args below meth c H locs cells slots 0 0 (F0 m pc ls st0) rest (ZQi E P A1 a) free) (hS : va_S A0 s.heap H locs) (hA : ∀ q, A1 q → A0 q) (hf : ∀ q, free q → A0 q)
    (kk : ∀ (r : Int) (σ' : ZSt) (H1 : Heap) (locs1 : List Loc), zRg r → zRs σ' → P r σ' → va_P E.1 zcls (zworld E σ') H1 → va_S A0 s.heap H1 locs1 → W p l e R s m args below meth c H1 locs1 cells slots Q (F0 m (pc + 3) ls (ziv r :: rest))) : W p l e R s m args below meth c H locs cells slots Q (F0 m pc ls st0) := by
  intro T hT X
  obtain ⟨v, st₀, t, T', L, h0, X', hL, e1, e2, ⟨⟨r, σ', hv, hg, hs, hp, hb⟩, hz, hk⟩, st⟩ := hr T hT X
  cases hv
  rw [h0] at hz hk
  obtain ⟨t2, a1, b1⟩ := kk r σ' T'.heap (locs ++ L) hg hs hp (by rw [e1]; exact hb)
    ⟨Nat.le_trans hS.1 (by rw [e1]; exact hz), fun q h1 h2 => by rw [e1, hk q (Nat.lt_of_lt_of_le h1 hS.1) (fun z => h2 (hA q z))]; exact hS.2.1 q h1 h2, fun q hq => by
      rcases List.mem_append.mp hq with h | h
      · exact hS.2.2 q h
      · exact hf _ (hL q h)⟩ T' rfl X'
  exact ⟨t2, st t2 a1, b1⟩
theorem z_after_v {p : Program} {l : Launch} {e : Env} {R : Room} {s : State} {m : MethodId} {args : Array Value} {below : List Frame} {meth : Method} {c : Code} {H : Heap} {locs : List Loc} {cells slots : Nat} {Q : State → Prop} {ls : Array Slot} {rest st0 : List Value} {a : Array Value} {A0 A1 free : Nat → Prop} {P : ZSt → Prop}
    (hr : va_Run p l e R s m args below meth c H locs cells slots 0 0 (F0 m pc ls st0) rest (ZQv E P A1 a) free) (hS : va_S A0 s.heap H locs) (hA : ∀ q, A1 q → A0 q) (hf : ∀ q, free q → A0 q)
    (kk : ∀ (σ' : ZSt) (H1 : Heap) (locs1 : List Loc), zRs σ' → P σ' → va_P E.1 zcls (zworld E σ') H1 → va_S A0 s.heap H1 locs1 → W p l e R s m args below meth c H1 locs1 cells slots Q (F0 m (pc + 3) ls rest)) : W p l e R s m args below meth c H locs cells slots Q (F0 m pc ls st0) := by
  intro T hT X
  obtain ⟨v, st₀, t, T', L, h0, X', hL, e1, e2, ⟨⟨σ', hv, hs, hp, hb⟩, hz, hk⟩, st⟩ := hr T hT X
  cases hv
  rw [h0] at hz hk
  obtain ⟨t2, a1, b1⟩ := kk σ' T'.heap (locs ++ L) hs hp (by rw [e1]; exact hb)
    ⟨Nat.le_trans hS.1 (by rw [e1]; exact hz), fun q h1 h2 => by rw [e1, hk q (Nat.lt_of_lt_of_le h1 hS.1) (fun z => h2 (hA q z))]; exact hS.2.1 q h1 h2, fun q hq => by
      rcases List.mem_append.mp hq with h | h
      · exact hS.2.2 q h
      · exact hf _ (hL q h)⟩ T' rfl X'
  exact ⟨t2, st t2 a1, b1⟩
/-- a call's words: of an instance's method, of a class's own, of a nest mate's -/
def ZV (own : String) (index : Nat) (y : MethodName) (cy : ByteArray) (maxL : Nat) (ret : Option FieldType) (n : Nat) : Prop := (∀ w ∈ ([.methodLink own index y, .instanceMethod y, .selects y.cls y y, .initialized y.cls, .code y cy maxL ret] : List Cond), w ∈ TB) ∧ (y.cls ≠ "java/lang/invoke/MethodHandle" ∧ y.cls ≠ "java/lang/invoke/VarHandle" ∧ (parseMethodDescriptor y.desc).map (fun d => d.parameters.length) = some n) ∧ maxL ≤ 21
def ZS (own : String) (index : Nat) (y : MethodName) (cy : ByteArray) (maxL : Nat) (ret : Option FieldType) (n : Nat) : Prop := (∀ w ∈ ([.methodLink own index y, .static y, .initialized y.cls, .code y cy maxL ret] : List Cond), w ∈ TB) ∧ (y.cls ≠ "java/lang/invoke/MethodHandle" ∧ y.cls ≠ "java/lang/invoke/VarHandle" ∧ (parseMethodDescriptor y.desc).map (fun d => d.parameters.length) = some n) ∧ maxL ≤ 21
def ZSN (own : String) (index : Nat) (y : MethodName) (cy : ByteArray) (maxL : Nat) (ret : Option FieldType) (n : Nat) : Prop := ((Cond.methodLinkNest own index y RX5 = znw1 ∨ Cond.methodLinkNest own index y RX5 = znw2) ∧ ∀ w ∈ ([.static y, .initialized y.cls, .code y cy maxL ret] : List Cond), w ∈ TB) ∧ (y.cls ≠ "java/lang/invoke/MethodHandle" ∧ y.cls ≠ "java/lang/invoke/VarHandle" ∧ (parseMethodDescriptor y.desc).map (fun d => d.parameters.length) = some n) ∧ maxL ≤ 21
theorem zws_TB {y : MethodName} {cy : ByteArray} {maxL : Nat} {ret : Option FieldType} (h : Cond.code y cy maxL ret ∈ TB) : ∀ w ∈ (Cond.code y cy maxL ret :: TB), w ∈ TB := by
  intro w hw
  rcases List.mem_cons.mp hw with h1 | h1
  · rw [h1]; exact h
  · exact h1
theorem zcwV {R : Room} {s : State} {args : Array Value} {index n maxL h' : Nat} {y : MethodName} {cy : ByteArray} {ret : Option FieldType} (hts : ∀ w ∈ TB, w.before args s = true) (mw : ZV own index y cy maxL ret n) (hh : h' + 1 ≤ h) (hR : h ≤ R.frames ∧ 40 * h ≤ R.locals) : CallW R s args own y.cls index y cy maxL ret (.code y cy maxL ret :: TB) (zroom h') 0 0 n := by
  obtain ⟨h1, h2, h3⟩ := mw
  refine cwV n hts (goodIn_tb (fun w h => h) ?_) rfl rfl rfl ⟨rfl, h2⟩ ⟨?_, ?_⟩
  · intro w hw
    rcases List.mem_append.mp hw with h | h
    · exact h1 w (by simp only [List.mem_cons, List.not_mem_nil, or_false] at h ⊢; rcases h with h | h | h | h <;> simp [h])
    · exact zws_TB (h1 _ (by simp)) w h
  · show h' + 1 ≤ _
    omega
  · show 8 + (maxL + 11) + 40 * h' ≤ _
    omega
theorem zcwS {R : Room} {s : State} {args : Array Value} {index n maxL h' : Nat} {y : MethodName} {cy : ByteArray} {ret : Option FieldType} (hts : ∀ w ∈ TB, w.before args s = true) (mw : ZS own index y cy maxL ret n) (hh : h' + 1 ≤ h) (hR : h ≤ R.frames ∧ 40 * h ≤ R.locals) : CallB R s args own index y cy maxL ret (.code y cy maxL ret :: TB) (zroom h') 0 0 n ∧ (Cond.static y).before args s = true := by
  obtain ⟨h1, h2, h3⟩ := mw
  refine va_cwS n hts (goodIn_tb (fun w h => h) ?_) rfl rfl rfl h2 ⟨?_, ?_⟩
  · intro w hw
    rcases List.mem_append.mp hw with h | h
    · exact h1 w (by simp only [List.mem_cons, List.not_mem_nil, or_false] at h ⊢; rcases h with h | h | h <;> simp [h])
    · exact zws_TB (h1 _ (by simp)) w h
  · show h' + 1 ≤ _
    omega
  · show 8 + (maxL + 11) + 40 * h' ≤ _
    omega
theorem zPre {s : State} {H : Heap} {As : List Value} {sz : Nat} (hP : va_P E.1 zcls (zworld E σ) H) (hK : ZK E s) (hz : H.size = sz) : PreS s H (ZPc E As σ sz) As :=
  ⟨zblind, fun U hU hW => ⟨rfl, by rw [hU]; exact hz, by rw [hU]; exact hP, hK.warm hW⟩⟩
theorem z_sum {m : MethodId} {ls : Array Slot} {rest st0 : List Value} (hr : (rest.map fun v => v.category).sum ≤ 8) : 2 * (F0 m pc ls st0).monitorRoom + (rest.map fun v => v.category).sum ≤ 8 := by
  show 2 * 0 + _ ≤ 8
  omega
theorem z_runV {p : Program} {l : Launch} {e : Env} {R : Room} {s : State} {m : MethodId} {args : Array Value} {below : List Frame} {meth : Method} {c : Code} {H : Heap} {locs : List Loc} {cells slots nL : Nat} {ls : Array Slot} {A : Nat → Prop} {Q : State → Prop} (C : ZC E (p, l, e, R, s, m, args, below, meth, c, A, Q, nL, cells, slots) h own cc) {y : MethodName} {cy : ByteArray} {maxL h' index k ci n N : Nat} {T : u_T} {ret : Option FieldType} {As rest st0 : List Value} {Qc : Array Value → State → Outcome → State → Prop} {free : Nat → Prop} {fs : List (Option Nat)}
    (hM : Met l y (.code y cy maxL ret :: TB) (zroom h') (ZPc E (zrf E k :: As) σ H.size) Qc 0 0 free) (mw : ZV own index y cy maxL ret n) (hh : h' + 1 ≤ h) (hs : zSH[k]? = some (.inr (ci, fs))) (hc : zcls[ci]? = some (y.cls, T, N)) (hn : As.length = n) (hst : st0 = As.reverse ++ zrf E k :: rest) (hrs : (rest.map fun v => v.category).sum ≤ 8) (hd : decode cc pc = .ok (.invokevirtual index, 3)) (hP : va_P E.1 zcls (zworld E σ) H) (hl : ls.size = nL) :
    va_Run p l e R s m args below meth c H locs cells slots 0 0 (F0 m pc ls st0) rest (Qc (zrf E k :: As).toArray) free := by
  obtain ⟨hx, hb, hown, hml, hts, hK, hA1, hA2, hR1, hR2, hR3, hR4⟩ := C
  have hp := zPre (As := zrf E k :: As) (s := s) (sz := H.size) hP hK rfl
  exact va_runV (C := y.cls) (b := E.2.2.2 k) ⟨hx, hb, hml, hown, hts⟩ hM (zcwV hts mw hh ⟨hR1, hR2⟩) ⟨hp.1, va_recv hK.1 hP hc (zw_get hs), hp.2⟩ rfl hn hl hst (z_sum hrs) hd ⟨hR3, hR4⟩
theorem z_subA {s : State} {H : Heap} {A : Nat → Prop} {locs : List Loc} (hA1 : ∀ k, k < zSH.length → A (E.2.2.2 k)) (hA2 : ∀ q, s.heap.size ≤ q → A q) (hS : va_S A s.heap H locs) : ∀ q, ZA E H.size q → A q := by
  intro q hq
  rcases hq with ⟨k, h1, h2⟩ | h1
  · rw [h2]; exact hA1 k h1
  · exact hA2 q (Nat.le_trans hS.1 h1)
theorem z_callVi (C : ZC E Γ h own cc) {y : MethodName} {cy : ByteArray} {maxL h' index k ci n N : Nat} {T : u_T} {ret : Option FieldType} {As rest st0 : List Value} {fs : List (Option Nat)} {P : Int → ZSt → Prop}
    (hM : ZMi E h' y cy maxL ret (zrf E k :: As) σ P) (mw : ZV own index y cy maxL ret n) (hh : h' + 1 ≤ h) (hs : zSH[k]? = some (.inr (ci, fs))) (hc : zcls[ci]? = some (y.cls, T, N)) (hn : As.length = n) (hst : st0 = As.reverse ++ zrf E k :: rest) (hrs : (rest.map fun v => v.category).sum ≤ 8) (hd : decode cc pc = .ok (.invokevirtual index, 3))
    (kk : ∀ (r : Int) (σ' : ZSt), zRg r → zRs σ' → P r σ' → ZG E Γ (pc + 3) lv (ziv r :: rest) σ') : ZG E Γ pc lv st0 σ := by
  obtain ⟨p, l, e, R, s, m, args, below, meth, c, A, Q, nL, cells, slots⟩ := Γ
  intro H locs ls hP hS hl
  have hr := z_runV (locs := locs) (ls := ls) (pc := pc) (st0 := st0) C (hM l H.size) mw hh hs hc hn hst hrs hd hP hl.1
  obtain ⟨hx, hb, hown, hml, hts, hK, hA1, hA2, hR1, hR2, hR3, hR4⟩ := C
  have hA := z_subA hA1 hA2 hS
  exact z_after_i hr hS hA hA (fun r σ' H1 locs1 g1 g2 g3 g4 g5 => kk r σ' g1 g2 g3 H1 locs1 ls g4 g5 hl)
theorem z_callVv (C : ZC E Γ h own cc) {y : MethodName} {cy : ByteArray} {maxL h' index k ci n N : Nat} {T : u_T} {As rest st0 : List Value} {fs : List (Option Nat)} {P : ZSt → Prop}
    (hM : ZMv E h' y cy maxL (zrf E k :: As) σ P) (mw : ZV own index y cy maxL none n) (hh : h' + 1 ≤ h) (hs : zSH[k]? = some (.inr (ci, fs))) (hc : zcls[ci]? = some (y.cls, T, N)) (hn : As.length = n) (hst : st0 = As.reverse ++ zrf E k :: rest) (hrs : (rest.map fun v => v.category).sum ≤ 8) (hd : decode cc pc = .ok (.invokevirtual index, 3))
    (kk : ∀ (σ' : ZSt), zRs σ' → P σ' → ZG E Γ (pc + 3) lv rest σ') : ZG E Γ pc lv st0 σ := by
  obtain ⟨p, l, e, R, s, m, args, below, meth, c, A, Q, nL, cells, slots⟩ := Γ
  intro H locs ls hP hS hl
  have hr := z_runV (locs := locs) (ls := ls) (pc := pc) (st0 := st0) C (hM l H.size) mw hh hs hc hn hst hrs hd hP hl.1
  obtain ⟨hx, hb, hown, hml, hts, hK, hA1, hA2, hR1, hR2, hR3, hR4⟩ := C
  have hA := z_subA hA1 hA2 hS
  exact z_after_v hr hS hA hA (fun σ' H1 locs1 g2 g3 g4 g5 => kk σ' g2 g3 H1 locs1 ls g4 g5 hl)
theorem z_callSi (C : ZC E Γ h own cc) {y : MethodName} {cy : ByteArray} {maxL h' index n : Nat} {ret : Option FieldType} {As rest st0 : List Value} {P : Int → ZSt → Prop}
    (hM : ZMi E h' y cy maxL ret As σ P) (mw : ZS own index y cy maxL ret n) (hh : h' + 1 ≤ h) (hn : As.length = n) (hst : st0 = As.reverse ++ rest) (hrs : (rest.map fun v => v.category).sum ≤ 8) (hd : decode cc pc = .ok (.invokestatic index, 3))
    (kk : ∀ (r : Int) (σ' : ZSt), zRg r → zRs σ' → P r σ' → ZG E Γ (pc + 3) lv (ziv r :: rest) σ') : ZG E Γ pc lv st0 σ := by
  obtain ⟨p, l, e, R, s, m, args, below, meth, c, A, Q, nL, cells, slots⟩ := Γ
  intro H locs ls hP hS hl
  obtain ⟨hx, hb, hown, hml, hts, hK, hA1, hA2, hR1, hR2, hR3, hR4⟩ := C
  have hp := zPre (As := As) (s := s) (sz := H.size) hP hK rfl
  have hr := va_runS (p := p) (l := l) (e := e) (below := below) (meth := meth) (H := H) (locs := locs) (cells := cells) (slots := slots) (g := F0 m pc ls st0) (rest := rest) ⟨hx, hb, hml, hown, hts⟩ (hM l H.size) (zcwS hts mw hh ⟨hR1, hR2⟩) hp rfl hn hl.1 hst (z_sum hrs) hd ⟨hR3, hR4⟩
  have hA := z_subA hA1 hA2 hS
  exact z_after_i hr hS hA hA (fun r σ' H1 locs1 g1 g2 g3 g4 g5 => kk r σ' g1 g2 g3 H1 locs1 ls g4 g5 hl)
theorem z_callNi (C : ZC E Γ h own cc) {y : MethodName} {cy : ByteArray} {maxL h' index n : Nat} {ret : Option FieldType} {As rest st0 : List Value} {P : Int → ZSt → Prop}
    (hM : ZMi E h' y cy maxL ret As σ P) (mw : ZSN own index y cy maxL ret n) (hh : h' + 1 ≤ h) (hn : As.length = n) (hst : st0 = As.reverse ++ rest) (hrs : (rest.map fun v => v.category).sum ≤ 8) (hd : decode cc pc = .ok (.invokestatic index, 3))
    (kk : ∀ (r : Int) (σ' : ZSt), zRg r → zRs σ' → P r σ' → ZG E Γ (pc + 3) lv (ziv r :: rest) σ') : ZG E Γ pc lv st0 σ := by
  obtain ⟨p, l, e, R, s, m, args, below, meth, c, A, Q, nL, cells, slots⟩ := Γ
  intro H locs ls hP hS hl
  obtain ⟨hx, hb, hown, hml, hts, hK, hA1, hA2, hR1, hR2, hR3, hR4⟩ := C
  have hp := zPre (As := As) (s := s) (sz := H.size) hP hK rfl
  obtain ⟨⟨hnw, h1⟩, h2, h3⟩ := mw
  have hlink : va_Nw (.methodLinkNest own index y RX5) s := by
    rcases hnw with h | h
    · rw [h]; exact hK.2.1
    · rw [h]; exact hK.2.2.1
  have hG : GoodIn TB (.code y cy maxL ret :: TB) := goodIn_tb (fun w h => h) (zws_TB (h1 _ (by simp)))
  have hr := va_runSN (p := p) (l := l) (e := e) (below := below) (meth := meth) (H := H) (locs := locs) (cells := cells) (slots := slots) (g := F0 m pc ls st0) (rest := rest) (host := RX5) ⟨hx, hb, hml, hown, hts⟩ (hM l H.size)
    ⟨va_cnB n hts hG rfl rfl rfl hlink (hts _ (h1 _ (by simp))) h2 ⟨by show h' + 1 ≤ _; omega, by show 8 + (maxL + 11) + 40 * h' ≤ _; omega⟩, hts _ (h1 _ (by simp)), trivial⟩ hp rfl hn hl.1 hst (z_sum hrs) hd ⟨hR3, hR4⟩
  have hA := z_subA hA1 hA2 hS
  exact z_after_i hr hS hA hA (fun r σ' H1 locs1 g1 g2 g3 g4 g5 => kk r σ' g1 g2 g3 H1 locs1 ls g4 g5 hl)
theorem z_callVp (C : ZC E Γ h own cc) {y : MethodName} {cy : ByteArray} {maxL h' index k ci n N : Nat} {T : u_T} {ret : Option FieldType} {As rest st0 : List Value} {fs : List (Option Nat)} {P : Int → Prop}
    (hM : ZMi E h' y cy maxL ret (zrf E k :: As) σ (fun r σ' => P r ∧ σ' = σ)) (mw : ZV own index y cy maxL ret n) (hh : h' + 1 ≤ h) (hs : zSH[k]? = some (.inr (ci, fs))) (hc : zcls[ci]? = some (y.cls, T, N)) (hn : As.length = n) (hst : st0 = As.reverse ++ zrf E k :: rest) (hrs : (rest.map fun v => v.category).sum ≤ 8) (hd : decode cc pc = .ok (.invokevirtual index, 3))
    (kk : ∀ (r : Int), zRg r → P r → ZG E Γ (pc + 3) lv (ziv r :: rest) σ) : ZG E Γ pc lv st0 σ := z_callVi C hM mw hh hs hc hn hst hrs hd (fun r σ' g _ hp => by rw [hp.2]; exact kk r g hp.1)
theorem z_callSp (C : ZC E Γ h own cc) {y : MethodName} {cy : ByteArray} {maxL h' index n : Nat} {ret : Option FieldType} {As rest st0 : List Value} {P : Int → Prop}
    (hM : ZMi E h' y cy maxL ret As σ (fun r σ' => P r ∧ σ' = σ)) (mw : ZS own index y cy maxL ret n) (hh : h' + 1 ≤ h) (hn : As.length = n) (hst : st0 = As.reverse ++ rest) (hrs : (rest.map fun v => v.category).sum ≤ 8) (hd : decode cc pc = .ok (.invokestatic index, 3))
    (kk : ∀ (r : Int), zRg r → P r → ZG E Γ (pc + 3) lv (ziv r :: rest) σ) : ZG E Γ pc lv st0 σ := z_callSi C hM mw hh hn hst hrs hd (fun r σ' g _ hp => by rw [hp.2]; exact kk r g hp.1)
theorem z_callNp (C : ZC E Γ h own cc) {y : MethodName} {cy : ByteArray} {maxL h' index n : Nat} {ret : Option FieldType} {As rest st0 : List Value} {P : Int → Prop}
    (hM : ZMi E h' y cy maxL ret As σ (fun r σ' => P r ∧ σ' = σ)) (mw : ZSN own index y cy maxL ret n) (hh : h' + 1 ≤ h) (hn : As.length = n) (hst : st0 = As.reverse ++ rest) (hrs : (rest.map fun v => v.category).sum ≤ 8) (hd : decode cc pc = .ok (.invokestatic index, 3))
    (kk : ∀ (r : Int), zRg r → P r → ZG E Γ (pc + 3) lv (ziv r :: rest) σ) : ZG E Γ pc lv st0 σ := z_callNi C hM mw hh hn hst hrs hd (fun r σ' g _ hp => by rw [hp.2]; exact kk r g hp.1)
-- Math.min, Math.max
def ZMt (own : String) (index : Nat) (y : MethodName) (cy : ByteArray) : Prop := ∀ w ∈ ([.methodLink own index y, .static y, .initialized "java/lang/Math", .code y cy 2 (some .int)] : List Cond), w ∈ TB
theorem z_min (C : ZC E Γ h own cc) {index : Nat} {a b : Int} (mw : ZMt own index Lib.Math.min.name Lib.Math.min.code) (ha : zRg a) (hb2 : zRg b) (hh : 1 ≤ h) (hrs : (st.map fun v => v.category).sum ≤ 8) (hd : decode cc pc = .ok (.invokestatic index, 3)) (kk : ZG E Γ (pc + 3) lv (ziv (min a b) :: st) σ) : ZG E Γ pc lv (ziv b :: ziv a :: st) σ := by
  obtain ⟨p, l, e, R, s, m, args, below, meth, c, A, Q, nL, cells, slots⟩ := Γ
  obtain ⟨hx, hb, hown, hml, hts, hK, hA1, hA2, hR1, hR2, hR3, hR4⟩ := C
  intro H locs ls hP hS hl
  refine va_mmin hx hb (by rw [hml]; exact hl.1.symm) hown (hts _ (mw _ (by simp))) (hts _ (mw _ (by simp))) (hts _ (mw _ (by simp))) (hts _ (mw _ (by simp))) (by omega) (by omega) hR3 hR4 hd ?_
  have k2 := kk H locs ls hP hS hl
  have e1 : zi (min a b) = if zi b < zi a then zi b else zi a := by
    by_cases hab : b < a
    · rw [if_pos ((zi_lt hb2 ha).mpr hab), Int.min_eq_right (by omega)]
    · rw [if_neg (fun q => hab ((zi_lt hb2 ha).mp q)), Int.min_eq_left (by omega)]
  rw [ziv, e1] at k2
  exact k2
theorem z_max (C : ZC E Γ h own cc) {index : Nat} {a b : Int} (mw : ZMt own index Lib.Math.max.name Lib.Math.max.code) (ha : zRg a) (hb2 : zRg b) (hh : 1 ≤ h) (hrs : (st.map fun v => v.category).sum ≤ 8) (hd : decode cc pc = .ok (.invokestatic index, 3)) (kk : ZG E Γ (pc + 3) lv (ziv (max a b) :: st) σ) : ZG E Γ pc lv (ziv b :: ziv a :: st) σ := by
  obtain ⟨p, l, e, R, s, m, args, below, meth, c, A, Q, nL, cells, slots⟩ := Γ
  obtain ⟨hx, hb, hown, hml, hts, hK, hA1, hA2, hR1, hR2, hR3, hR4⟩ := C
  intro H locs ls hP hS hl
  refine va_mmax hx hb (by rw [hml]; exact hl.1.symm) hown (hts _ (mw _ (by simp))) (hts _ (mw _ (by simp))) (hts _ (mw _ (by simp))) (hts _ (mw _ (by simp))) (by omega) (by omega) hR3 hR4 hd ?_
  have k2 := kk H locs ls hP hS hl
  have e1 : zi (max a b) = if zi a < zi b then zi b else zi a := by
    by_cases hab : a < b
    · rw [if_pos ((zi_lt ha hb2).mpr hab), Int.max_eq_right (by omega)]
    · rw [if_neg (fun q => hab ((zi_lt ha hb2).mp q)), Int.max_eq_left (by omega)]
  rw [ziv, e1] at k2
  exact k2
end ROWS
end
section
/-! ===== the words of fields and calls ===== -/
theorem tbl1 {w : Cond} (h : w ∈ tables_1_1) : w ∈ lw_tbl := List.mem_append_right _ (List.mem_append_left _ h)
theorem tbl2 {w : Cond} (h : w ∈ tables_1_2) : w ∈ lw_tbl := List.mem_append_right _ (List.mem_append_right _ (List.mem_append_left _ h))
theorem tbl3 {w : Cond} (h : w ∈ tables_1_3) : w ∈ lw_tbl := List.mem_append_right _ (List.mem_append_right _ (List.mem_append_right _ (List.mem_append_left _ h)))
theorem tbl4 {w : Cond} (h : w ∈ tables_1_4) : w ∈ lw_tbl := List.mem_append_right _ (List.mem_append_right _ (List.mem_append_right _ (List.mem_append_right _ (List.mem_append_left _ h))))
theorem tbl5 {w : Cond} (h : w ∈ tables_1_5) : w ∈ lw_tbl := List.mem_append_right _ (List.mem_append_right _ (List.mem_append_right _ (List.mem_append_right _ (List.mem_append_right _ h))))
theorem tblS {w : Cond} (h : w ∈ k2_sels lw_privs) : w ∈ lw_tbl := List.mem_append_left _ h
theorem inTB0 : ∀ w ∈ u_ws RX0 TX0 6, w ∈ TB := fun w h => tb_of ((by decide +kernel : ∀ w ∈ u_ws RX0 TX0 6, w ∈ lw_tbl) w h) ((by decide +kernel : ∀ w ∈ u_ws RX0 TX0 6, goodWord w = true) w h)
theorem inTB1 : ∀ w ∈ u_ws RX1 TX1 6, w ∈ TB := fun w h => tb_of ((by decide +kernel : ∀ w ∈ u_ws RX1 TX1 6, w ∈ lw_tbl) w h) ((by decide +kernel : ∀ w ∈ u_ws RX1 TX1 6, goodWord w = true) w h)
theorem inTB2 : ∀ w ∈ u_ws RX2 TX2 14, w ∈ TB := fun w h => tb_of ((by decide +kernel : ∀ w ∈ u_ws RX2 TX2 14, w ∈ lw_tbl) w h) ((by decide +kernel : ∀ w ∈ u_ws RX2 TX2 14, goodWord w = true) w h)
theorem inTB3 : ∀ w ∈ u_ws RX3 TX3 2, w ∈ TB := fun w h => tb_of ((by decide +kernel : ∀ w ∈ u_ws RX3 TX3 2, w ∈ lw_tbl) w h) ((by decide +kernel : ∀ w ∈ u_ws RX3 TX3 2, goodWord w = true) w h)
theorem inTB4 : ∀ w ∈ u_ws RX4 TX4 5, w ∈ TB := fun w h => tb_of ((by decide +kernel : ∀ w ∈ u_ws RX4 TX4 5, w ∈ lw_tbl) w h) ((by decide +kernel : ∀ w ∈ u_ws RX4 TX4 5, goodWord w = true) w h)
theorem inTB5 : ∀ w ∈ u_ws RX5 TX5 11, w ∈ TB := fun w h => tb_of ((by decide +kernel : ∀ w ∈ u_ws RX5 TX5 11, w ∈ lw_tbl) w h) ((by decide +kernel : ∀ w ∈ u_ws RX5 TX5 11, goodWord w = true) w h)
theorem inTB6 : ∀ w ∈ u_ws RX6 TX6 40, w ∈ TB := fun w h => tb_of ((by decide +kernel : ∀ w ∈ u_ws RX6 TX6 40, w ∈ lw_tbl) w h) ((by decide +kernel : ∀ w ∈ u_ws RX6 TX6 40, goodWord w = true) w h)
theorem fX0_11 : ZF RX0 11 0 0 true (.array .int) := ⟨RX0, TX0, 6, tyX0, rfl, by decide, inTB0, tb_of (tbl1 (List.mem_of_getElem? (i := 50) (by decide +kernel))) rfl, rfl, by decide +kernel, tyX0_ok, nmX0⟩
theorem fX0_15 : ZF RX0 15 0 1 true (.array .int) := ⟨RX0, TX0, 6, tyX0, rfl, by decide, inTB0, tb_of (tbl1 (List.mem_of_getElem? (i := 51) (by decide +kernel))) rfl, rfl, by decide +kernel, tyX0_ok, nmX0⟩
theorem fX0_18 : ZF RX0 18 0 2 true (.array .int) := ⟨RX0, TX0, 6, tyX0, rfl, by decide, inTB0, tb_of (tbl1 (List.mem_of_getElem? (i := 52) (by decide +kernel))) rfl, rfl, by decide +kernel, tyX0_ok, nmX0⟩
theorem fX0_21 : ZF RX0 21 0 3 true (.array .int) := ⟨RX0, TX0, 6, tyX0, rfl, by decide, inTB0, tb_of (tbl1 (List.mem_of_getElem? (i := 53) (by decide +kernel))) rfl, rfl, by decide +kernel, tyX0_ok, nmX0⟩
theorem fX0_24 : ZF RX0 24 0 4 true (.array .int) := ⟨RX0, TX0, 6, tyX0, rfl, by decide, inTB0, tb_of (tbl1 (List.mem_of_getElem? (i := 54) (by decide +kernel))) rfl, rfl, by decide +kernel, tyX0_ok, nmX0⟩
theorem fX0_27 : ZF RX0 27 0 5 false .int := ⟨RX0, TX0, 6, tyX0, rfl, by decide, inTB0, tb_of (tbl1 (List.mem_of_getElem? (i := 55) (by decide +kernel))) rfl, rfl, by decide +kernel, tyX0_ok, nmX0⟩
theorem fX1_9 : ZF RX1 9 1 0 true (.array .int) := ⟨RX1, TX1, 6, tyX1, rfl, by decide, inTB1, tb_of (tbl1 (List.mem_of_getElem? (i := 23) (by decide +kernel))) rfl, rfl, by decide +kernel, tyX1_ok, nmX1⟩
theorem fX1_15 : ZF RX1 15 1 1 true (.array .int) := ⟨RX1, TX1, 6, tyX1, rfl, by decide, inTB1, tb_of (tbl1 (List.mem_of_getElem? (i := 24) (by decide +kernel))) rfl, rfl, by decide +kernel, tyX1_ok, nmX1⟩
theorem fX1_18 : ZF RX1 18 1 2 true (.array .int) := ⟨RX1, TX1, 6, tyX1, rfl, by decide, inTB1, tb_of (tbl1 (List.mem_of_getElem? (i := 25) (by decide +kernel))) rfl, rfl, by decide +kernel, tyX1_ok, nmX1⟩
theorem fX1_21 : ZF RX1 21 1 3 true (.array .int) := ⟨RX1, TX1, 6, tyX1, rfl, by decide, inTB1, tb_of (tbl1 (List.mem_of_getElem? (i := 26) (by decide +kernel))) rfl, rfl, by decide +kernel, tyX1_ok, nmX1⟩
theorem fX1_24 : ZF RX1 24 1 4 true (.array .boolean) := ⟨RX1, TX1, 6, tyX1, rfl, by decide, inTB1, tb_of (tbl1 (List.mem_of_getElem? (i := 27) (by decide +kernel))) rfl, rfl, by decide +kernel, tyX1_ok, nmX1⟩
theorem fX1_28 : ZF RX1 28 1 5 false .int := ⟨RX1, TX1, 6, tyX1, rfl, by decide, inTB1, tb_of (tbl1 (List.mem_of_getElem? (i := 28) (by decide +kernel))) rfl, rfl, by decide +kernel, tyX1_ok, nmX1⟩
theorem fX2_9 : ZF RX2 9 2 3 true (.array .int) := ⟨RX2, TX2, 14, tyX2, rfl, by decide, inTB2, tb_of (tbl1 (List.mem_of_getElem? (i := 91) (by decide +kernel))) rfl, rfl, by decide +kernel, tyX2_ok, nmX2⟩
theorem fX2_15 : ZF RX2 15 2 4 true (.array .int) := ⟨RX2, TX2, 14, tyX2, rfl, by decide, inTB2, tb_of (tbl1 (List.mem_of_getElem? (i := 92) (by decide +kernel))) rfl, rfl, by decide +kernel, tyX2_ok, nmX2⟩
theorem fX2_18 : ZF RX2 18 2 5 true (.array .int) := ⟨RX2, TX2, 14, tyX2, rfl, by decide, inTB2, tb_of (tbl1 (List.mem_of_getElem? (i := 93) (by decide +kernel))) rfl, rfl, by decide +kernel, tyX2_ok, nmX2⟩
theorem fX2_21 : ZF RX2 21 2 0 true (.object "ExpressionPrinter$OperatorTable") := ⟨RX2, TX2, 14, tyX2, rfl, by decide, inTB2, tb_of (tbl1 (List.mem_of_getElem? (i := 88) (by decide +kernel))) rfl, rfl, by decide +kernel, tyX2_ok, nmX2⟩
theorem fX2_25 : ZF RX2 25 2 1 true (.object "ExpressionPrinter$NodeTable") := ⟨RX2, TX2, 14, tyX2, rfl, by decide, inTB2, tb_of (tbl1 (List.mem_of_getElem? (i := 89) (by decide +kernel))) rfl, rfl, by decide +kernel, tyX2_ok, nmX2⟩
theorem fX2_29 : ZF RX2 29 2 2 true (.object "ExpressionPrinter$Text") := ⟨RX2, TX2, 14, tyX2, rfl, by decide, inTB2, tb_of (tbl1 (List.mem_of_getElem? (i := 90) (by decide +kernel))) rfl, rfl, by decide +kernel, tyX2_ok, nmX2⟩
theorem fX2_33 : ZF RX2 33 2 12 false .int := ⟨RX2, TX2, 14, tyX2, rfl, by decide, inTB2, tb_of (tbl1 (List.mem_of_getElem? (i := 100) (by decide +kernel))) rfl, rfl, by decide +kernel, tyX2_ok, nmX2⟩
theorem fX2_37 : ZF RX2 37 2 13 false .int := ⟨RX2, TX2, 14, tyX2, rfl, by decide, inTB2, tb_of (tbl1 (List.mem_of_getElem? (i := 101) (by decide +kernel))) rfl, rfl, by decide +kernel, tyX2_ok, nmX2⟩
theorem fX2_43 : ZF RX2 43 2 11 false .boolean := ⟨RX2, TX2, 14, tyX2, rfl, by decide, inTB2, tb_of (tbl1 (List.mem_of_getElem? (i := 99) (by decide +kernel))) rfl, rfl, by decide +kernel, tyX2_ok, nmX2⟩
theorem fX2_47 : ZF RX2 47 2 8 false .boolean := ⟨RX2, TX2, 14, tyX2, rfl, by decide, inTB2, tb_of (tbl1 (List.mem_of_getElem? (i := 96) (by decide +kernel))) rfl, rfl, by decide +kernel, tyX2_ok, nmX2⟩
theorem fX2_61 : ZF RX2 61 2 6 false .int := ⟨RX2, TX2, 14, tyX2, rfl, by decide, inTB2, tb_of (tbl1 (List.mem_of_getElem? (i := 94) (by decide +kernel))) rfl, rfl, by decide +kernel, tyX2_ok, nmX2⟩
theorem fX2_64 : ZF RX2 64 2 7 false .int := ⟨RX2, TX2, 14, tyX2, rfl, by decide, inTB2, tb_of (tbl1 (List.mem_of_getElem? (i := 95) (by decide +kernel))) rfl, rfl, by decide +kernel, tyX2_ok, nmX2⟩
theorem fX2_67 : ZF RX2 67 2 9 false .int := ⟨RX2, TX2, 14, tyX2, rfl, by decide, inTB2, tb_of (tbl1 (List.mem_of_getElem? (i := 97) (by decide +kernel))) rfl, rfl, by decide +kernel, tyX2_ok, nmX2⟩
theorem fX2_70 : ZF RX2 70 2 10 false .boolean := ⟨RX2, TX2, 14, tyX2, rfl, by decide, inTB2, tb_of (tbl1 (List.mem_of_getElem? (i := 98) (by decide +kernel))) rfl, rfl, by decide +kernel, tyX2_ok, nmX2⟩
theorem fX3_9 : ZF RX3 9 3 0 true (.array .int) := ⟨RX3, TX3, 2, tyX3, rfl, by decide, inTB3, tb_of (tbl1 (List.mem_of_getElem? (i := 75) (by decide +kernel))) rfl, rfl, by decide +kernel, tyX3_ok, nmX3⟩
theorem fX3_15 : ZF RX3 15 3 1 false .int := ⟨RX3, TX3, 2, tyX3, rfl, by decide, inTB3, tb_of (tbl1 (List.mem_of_getElem? (i := 76) (by decide +kernel))) rfl, rfl, by decide +kernel, tyX3_ok, nmX3⟩
theorem fX4_9 : ZF RX4 9 4 3 true (.array .int) := ⟨RX4, TX4, 5, tyX4, rfl, by decide, inTB4, tb_of (tbl1 (List.mem_of_getElem? (i := 140) (by decide +kernel))) rfl, rfl, by decide +kernel, tyX4_ok, nmX4⟩
theorem fX4_15 : ZF RX4 15 4 0 true (.object "ExpressionPrinter$OperatorTable") := ⟨RX4, TX4, 5, tyX4, rfl, by decide, inTB4, tb_of (tbl1 (List.mem_of_getElem? (i := 137) (by decide +kernel))) rfl, rfl, by decide +kernel, tyX4_ok, nmX4⟩
theorem fX4_19 : ZF RX4 19 4 1 true (.object "ExpressionPrinter$NodeTable") := ⟨RX4, TX4, 5, tyX4, rfl, by decide, inTB4, tb_of (tbl1 (List.mem_of_getElem? (i := 138) (by decide +kernel))) rfl, rfl, by decide +kernel, tyX4_ok, nmX4⟩
theorem fX4_23 : ZF RX4 23 4 2 true (.object "ExpressionPrinter$Text") := ⟨RX4, TX4, 5, tyX4, rfl, by decide, inTB4, tb_of (tbl1 (List.mem_of_getElem? (i := 139) (by decide +kernel))) rfl, rfl, by decide +kernel, tyX4_ok, nmX4⟩
theorem fX4_27 : ZF RX4 27 4 4 false .boolean := ⟨RX4, TX4, 5, tyX4, rfl, by decide, inTB4, tb_of (tbl1 (List.mem_of_getElem? (i := 141) (by decide +kernel))) rfl, rfl, by decide +kernel, tyX4_ok, nmX4⟩
theorem fX5_10 : ZF RX5 10 5 0 true (.object "ExpressionPrinter$OperatorTable") := ⟨RX5, TX5, 11, tyX5, rfl, by decide, inTB5, tb_of (tbl1 (List.mem_of_getElem? (i := 153) (by decide +kernel))) rfl, rfl, by decide +kernel, tyX5_ok, nmX5⟩
theorem fX5_19 : ZF RX5 19 5 1 true (.object "ExpressionPrinter$NodeTable") := ⟨RX5, TX5, 11, tyX5, rfl, by decide, inTB5, tb_of (tbl1 (List.mem_of_getElem? (i := 154) (by decide +kernel))) rfl, rfl, by decide +kernel, tyX5_ok, nmX5⟩
theorem fX5_23 : ZF RX5 23 5 2 true (.object "ExpressionPrinter$NodeTable") := ⟨RX5, TX5, 11, tyX5, rfl, by decide, inTB5, tb_of (tbl1 (List.mem_of_getElem? (i := 155) (by decide +kernel))) rfl, rfl, by decide +kernel, tyX5_ok, nmX5⟩
theorem fX5_29 : ZF RX5 29 5 5 true (.object "ExpressionPrinter$Text") := ⟨RX5, TX5, 11, tyX5, rfl, by decide, inTB5, tb_of (tbl1 (List.mem_of_getElem? (i := 158) (by decide +kernel))) rfl, rfl, by decide +kernel, tyX5_ok, nmX5⟩
theorem fX5_33 : ZF RX5 33 5 6 true (.object "ExpressionPrinter$Text") := ⟨RX5, TX5, 11, tyX5, rfl, by decide, inTB5, tb_of (tbl1 (List.mem_of_getElem? (i := 159) (by decide +kernel))) rfl, rfl, by decide +kernel, tyX5_ok, nmX5⟩
theorem fX5_36 : ZF RX5 36 5 7 true (.object "ExpressionPrinter$Text") := ⟨RX5, TX5, 11, tyX5, rfl, by decide, inTB5, tb_of (tbl1 (List.mem_of_getElem? (i := 160) (by decide +kernel))) rfl, rfl, by decide +kernel, tyX5_ok, nmX5⟩
theorem fX5_44 : ZF RX5 44 5 3 true (.object "ExpressionPrinter$Reader") := ⟨RX5, TX5, 11, tyX5, rfl, by decide, inTB5, tb_of (tbl1 (List.mem_of_getElem? (i := 156) (by decide +kernel))) rfl, rfl, by decide +kernel, tyX5_ok, nmX5⟩
theorem fX5_51 : ZF RX5 51 5 4 true (.object "ExpressionPrinter$Writer") := ⟨RX5, TX5, 11, tyX5, rfl, by decide, inTB5, tb_of (tbl1 (List.mem_of_getElem? (i := 157) (by decide +kernel))) rfl, rfl, by decide +kernel, tyX5_ok, nmX5⟩
theorem fX5_55 : ZF RX5 55 5 8 false .int := ⟨RX5, TX5, 11, tyX5, rfl, by decide, inTB5, tb_of (tbl1 (List.mem_of_getElem? (i := 161) (by decide +kernel))) rfl, rfl, by decide +kernel, tyX5_ok, nmX5⟩
theorem fX5_59 : ZF RX5 59 5 9 false .int := ⟨RX5, TX5, 11, tyX5, rfl, by decide, inTB5, tb_of (tbl1 (List.mem_of_getElem? (i := 162) (by decide +kernel))) rfl, rfl, by decide +kernel, tyX5_ok, nmX5⟩
theorem fX5_62 : ZF RX5 62 5 10 false .int := ⟨RX5, TX5, 11, tyX5, rfl, by decide, inTB5, tb_of (tbl1 (List.mem_of_getElem? (i := 163) (by decide +kernel))) rfl, rfl, by decide +kernel, tyX5_ok, nmX5⟩
theorem fX6_7 : ZF RX6 7 6 0 true (.array .int) := ⟨RX6, TX6, 40, tyX6, rfl, by decide, inTB6, tb_of (tbl3 (List.mem_of_getElem? (i := 144) (by decide +kernel))) rfl, rfl, by decide +kernel, tyX6_ok, nmX6⟩
theorem fX6_13 : ZF RX6 13 6 1 true (.array .int) := ⟨RX6, TX6, 40, tyX6, rfl, by decide, inTB6, tb_of (tbl3 (List.mem_of_getElem? (i := 145) (by decide +kernel))) rfl, rfl, by decide +kernel, tyX6_ok, nmX6⟩
theorem fX6_16 : ZF RX6 16 6 2 true (.array .int) := ⟨RX6, TX6, 40, tyX6, rfl, by decide, inTB6, tb_of (tbl3 (List.mem_of_getElem? (i := 146) (by decide +kernel))) rfl, rfl, by decide +kernel, tyX6_ok, nmX6⟩
theorem fX6_19 : ZF RX6 19 6 4 true (.array .int) := ⟨RX6, TX6, 40, tyX6, rfl, by decide, inTB6, tb_of (tbl3 (List.mem_of_getElem? (i := 148) (by decide +kernel))) rfl, rfl, by decide +kernel, tyX6_ok, nmX6⟩
theorem fX6_22 : ZF RX6 22 6 5 true (.array .boolean) := ⟨RX6, TX6, 40, tyX6, rfl, by decide, inTB6, tb_of (tbl3 (List.mem_of_getElem? (i := 149) (by decide +kernel))) rfl, rfl, by decide +kernel, tyX6_ok, nmX6⟩
theorem fX6_26 : ZF RX6 26 6 6 true (.array .int) := ⟨RX6, TX6, 40, tyX6, rfl, by decide, inTB6, tb_of (tbl3 (List.mem_of_getElem? (i := 150) (by decide +kernel))) rfl, rfl, by decide +kernel, tyX6_ok, nmX6⟩
theorem fX6_29 : ZF RX6 29 6 7 true (.array .int) := ⟨RX6, TX6, 40, tyX6, rfl, by decide, inTB6, tb_of (tbl3 (List.mem_of_getElem? (i := 151) (by decide +kernel))) rfl, rfl, by decide +kernel, tyX6_ok, nmX6⟩
theorem fX6_32 : ZF RX6 32 6 8 true (.array .int) := ⟨RX6, TX6, 40, tyX6, rfl, by decide, inTB6, tb_of (tbl3 (List.mem_of_getElem? (i := 152) (by decide +kernel))) rfl, rfl, by decide +kernel, tyX6_ok, nmX6⟩
theorem fX6_35 : ZF RX6 35 6 9 true (.array .int) := ⟨RX6, TX6, 40, tyX6, rfl, by decide, inTB6, tb_of (tbl3 (List.mem_of_getElem? (i := 153) (by decide +kernel))) rfl, rfl, by decide +kernel, tyX6_ok, nmX6⟩
theorem fX6_38 : ZF RX6 38 6 10 true (.array .int) := ⟨RX6, TX6, 40, tyX6, rfl, by decide, inTB6, tb_of (tbl3 (List.mem_of_getElem? (i := 154) (by decide +kernel))) rfl, rfl, by decide +kernel, tyX6_ok, nmX6⟩
theorem fX6_41 : ZF RX6 41 6 12 true (.array .int) := ⟨RX6, TX6, 40, tyX6, rfl, by decide, inTB6, tb_of (tbl3 (List.mem_of_getElem? (i := 156) (by decide +kernel))) rfl, rfl, by decide +kernel, tyX6_ok, nmX6⟩
theorem fX6_44 : ZF RX6 44 6 14 false .int := ⟨RX6, TX6, 40, tyX6, rfl, by decide, inTB6, tb_of (tbl3 (List.mem_of_getElem? (i := 158) (by decide +kernel))) rfl, rfl, by decide +kernel, tyX6_ok, nmX6⟩
theorem fX6_48 : ZF RX6 48 6 15 true (.array .int) := ⟨RX6, TX6, 40, tyX6, rfl, by decide, inTB6, tb_of (tbl3 (List.mem_of_getElem? (i := 159) (by decide +kernel))) rfl, rfl, by decide +kernel, tyX6_ok, nmX6⟩
theorem fX6_51 : ZF RX6 51 6 17 false .int := ⟨RX6, TX6, 40, tyX6, rfl, by decide, inTB6, tb_of (tbl3 (List.mem_of_getElem? (i := 161) (by decide +kernel))) rfl, rfl, by decide +kernel, tyX6_ok, nmX6⟩
theorem fX6_54 : ZF RX6 54 6 18 false .int := ⟨RX6, TX6, 40, tyX6, rfl, by decide, inTB6, tb_of (tbl3 (List.mem_of_getElem? (i := 162) (by decide +kernel))) rfl, rfl, by decide +kernel, tyX6_ok, nmX6⟩
theorem fX6_57 : ZF RX6 57 6 19 true (.array .int) := ⟨RX6, TX6, 40, tyX6, rfl, by decide, inTB6, tb_of (tbl3 (List.mem_of_getElem? (i := 163) (by decide +kernel))) rfl, rfl, by decide +kernel, tyX6_ok, nmX6⟩
theorem fX6_60 : ZF RX6 60 6 20 true (.array .int) := ⟨RX6, TX6, 40, tyX6, rfl, by decide, inTB6, tb_of (tbl3 (List.mem_of_getElem? (i := 164) (by decide +kernel))) rfl, rfl, by decide +kernel, tyX6_ok, nmX6⟩
theorem fX6_63 : ZF RX6 63 6 21 true (.array .int) := ⟨RX6, TX6, 40, tyX6, rfl, by decide, inTB6, tb_of (tbl3 (List.mem_of_getElem? (i := 165) (by decide +kernel))) rfl, rfl, by decide +kernel, tyX6_ok, nmX6⟩
theorem fX6_66 : ZF RX6 66 6 22 true (.array .int) := ⟨RX6, TX6, 40, tyX6, rfl, by decide, inTB6, tb_of (tbl3 (List.mem_of_getElem? (i := 166) (by decide +kernel))) rfl, rfl, by decide +kernel, tyX6_ok, nmX6⟩
theorem fX6_69 : ZF RX6 69 6 24 true (.array .int) := ⟨RX6, TX6, 40, tyX6, rfl, by decide, inTB6, tb_of (tbl3 (List.mem_of_getElem? (i := 168) (by decide +kernel))) rfl, rfl, by decide +kernel, tyX6_ok, nmX6⟩
theorem fX6_72 : ZF RX6 72 6 26 true (.array .int) := ⟨RX6, TX6, 40, tyX6, rfl, by decide, inTB6, tb_of (tbl3 (List.mem_of_getElem? (i := 170) (by decide +kernel))) rfl, rfl, by decide +kernel, tyX6_ok, nmX6⟩
theorem fX6_75 : ZF RX6 75 6 27 true (.array .int) := ⟨RX6, TX6, 40, tyX6, rfl, by decide, inTB6, tb_of (tbl3 (List.mem_of_getElem? (i := 171) (by decide +kernel))) rfl, rfl, by decide +kernel, tyX6_ok, nmX6⟩
theorem fX6_78 : ZF RX6 78 6 28 true (.array .int) := ⟨RX6, TX6, 40, tyX6, rfl, by decide, inTB6, tb_of (tbl3 (List.mem_of_getElem? (i := 172) (by decide +kernel))) rfl, rfl, by decide +kernel, tyX6_ok, nmX6⟩
theorem fX6_81 : ZF RX6 81 6 29 true (.array .int) := ⟨RX6, TX6, 40, tyX6, rfl, by decide, inTB6, tb_of (tbl3 (List.mem_of_getElem? (i := 173) (by decide +kernel))) rfl, rfl, by decide +kernel, tyX6_ok, nmX6⟩
theorem fX6_84 : ZF RX6 84 6 31 true (.array .int) := ⟨RX6, TX6, 40, tyX6, rfl, by decide, inTB6, tb_of (tbl3 (List.mem_of_getElem? (i := 175) (by decide +kernel))) rfl, rfl, by decide +kernel, tyX6_ok, nmX6⟩
theorem fX6_87 : ZF RX6 87 6 3 false .int := ⟨RX6, TX6, 40, tyX6, rfl, by decide, inTB6, tb_of (tbl3 (List.mem_of_getElem? (i := 147) (by decide +kernel))) rfl, rfl, by decide +kernel, tyX6_ok, nmX6⟩
theorem fX6_94 : ZF RX6 94 6 11 false .int := ⟨RX6, TX6, 40, tyX6, rfl, by decide, inTB6, tb_of (tbl3 (List.mem_of_getElem? (i := 155) (by decide +kernel))) rfl, rfl, by decide +kernel, tyX6_ok, nmX6⟩
theorem fX6_147 : ZF RX6 147 6 23 false .int := ⟨RX6, TX6, 40, tyX6, rfl, by decide, inTB6, tb_of (tbl3 (List.mem_of_getElem? (i := 167) (by decide +kernel))) rfl, rfl, by decide +kernel, tyX6_ok, nmX6⟩
theorem fX6_154 : ZF RX6 154 6 13 false .int := ⟨RX6, TX6, 40, tyX6, rfl, by decide, inTB6, tb_of (tbl3 (List.mem_of_getElem? (i := 157) (by decide +kernel))) rfl, rfl, by decide +kernel, tyX6_ok, nmX6⟩
theorem fX6_175 : ZF RX6 175 6 30 false .int := ⟨RX6, TX6, 40, tyX6, rfl, by decide, inTB6, tb_of (tbl3 (List.mem_of_getElem? (i := 174) (by decide +kernel))) rfl, rfl, by decide +kernel, tyX6_ok, nmX6⟩
theorem fX6_178 : ZF RX6 178 6 33 false .int := ⟨RX6, TX6, 40, tyX6, rfl, by decide, inTB6, tb_of (tbl3 (List.mem_of_getElem? (i := 177) (by decide +kernel))) rfl, rfl, by decide +kernel, tyX6_ok, nmX6⟩
theorem fX6_181 : ZF RX6 181 6 34 false .int := ⟨RX6, TX6, 40, tyX6, rfl, by decide, inTB6, tb_of (tbl3 (List.mem_of_getElem? (i := 178) (by decide +kernel))) rfl, rfl, by decide +kernel, tyX6_ok, nmX6⟩
theorem fX6_184 : ZF RX6 184 6 32 false .int := ⟨RX6, TX6, 40, tyX6, rfl, by decide, inTB6, tb_of (tbl3 (List.mem_of_getElem? (i := 176) (by decide +kernel))) rfl, rfl, by decide +kernel, tyX6_ok, nmX6⟩
theorem fX6_187 : ZF RX6 187 6 35 false .int := ⟨RX6, TX6, 40, tyX6, rfl, by decide, inTB6, tb_of (tbl3 (List.mem_of_getElem? (i := 179) (by decide +kernel))) rfl, rfl, by decide +kernel, tyX6_ok, nmX6⟩
theorem fX6_190 : ZF RX6 190 6 36 false .int := ⟨RX6, TX6, 40, tyX6, rfl, by decide, inTB6, tb_of (tbl3 (List.mem_of_getElem? (i := 180) (by decide +kernel))) rfl, rfl, by decide +kernel, tyX6_ok, nmX6⟩
theorem fX6_193 : ZF RX6 193 6 39 false .boolean := ⟨RX6, TX6, 40, tyX6, rfl, by decide, inTB6, tb_of (tbl3 (List.mem_of_getElem? (i := 183) (by decide +kernel))) rfl, rfl, by decide +kernel, tyX6_ok, nmX6⟩
theorem fX6_197 : ZF RX6 197 6 25 false .int := ⟨RX6, TX6, 40, tyX6, rfl, by decide, inTB6, tb_of (tbl3 (List.mem_of_getElem? (i := 169) (by decide +kernel))) rfl, rfl, by decide +kernel, tyX6_ok, nmX6⟩
theorem fX6_203 : ZF RX6 203 6 37 false .int := ⟨RX6, TX6, 40, tyX6, rfl, by decide, inTB6, tb_of (tbl3 (List.mem_of_getElem? (i := 181) (by decide +kernel))) rfl, rfl, by decide +kernel, tyX6_ok, nmX6⟩
theorem fX6_206 : ZF RX6 206 6 38 false .boolean := ⟨RX6, TX6, 40, tyX6, rfl, by decide, inTB6, tb_of (tbl3 (List.mem_of_getElem? (i := 182) (by decide +kernel))) rfl, rfl, by decide +kernel, tyX6_ok, nmX6⟩
theorem fX6_251 : ZF RX6 251 6 16 false .int := ⟨RX6, TX6, 40, tyX6, rfl, by decide, inTB6, tb_of (tbl3 (List.mem_of_getElem? (i := 160) (by decide +kernel))) rfl, rfl, by decide +kernel, tyX6_ok, nmX6⟩
theorem wC_X5_defineInfix : Cond.code yX5_defineInfix cX5_defineInfix 3 (some .int) ∈ TB := tb_of (tbl1 (List.mem_of_getElem? (i := 190) (by decide +kernel))) rfl
theorem wI_X5_defineInfix : Cond.initialized yX5_defineInfix.cls ∈ TB := tb_of (tbl1 (List.mem_of_getElem? (i := 1) (by decide +kernel))) rfl
theorem wM_X5_defineInfix : Cond.instanceMethod yX5_defineInfix ∈ TB := tb_of (tbl1 (List.mem_of_getElem? (i := 188) (by decide +kernel))) rfl
theorem wS_X5_defineInfix : Cond.selects yX5_defineInfix.cls yX5_defineInfix yX5_defineInfix ∈ TB := tb_of (tbl1 (List.mem_of_getElem? (i := 189) (by decide +kernel))) rfl
theorem vL_13 : ZV RL 13 yX5_defineInfix cX5_defineInfix 3 (some .int) 2 := ⟨List.forall_mem_cons.mpr ⟨(tb_of (tbl1 (List.mem_of_getElem? (i := 187) (by decide +kernel))) rfl), List.forall_mem_cons.mpr ⟨wM_X5_defineInfix, List.forall_mem_cons.mpr ⟨wS_X5_defineInfix, List.forall_mem_cons.mpr ⟨wI_X5_defineInfix, List.forall_mem_cons.mpr ⟨wC_X5_defineInfix, fun _ h => absurd h List.not_mem_nil⟩⟩⟩⟩⟩, by decide +kernel, by decide⟩
theorem wC_X6_defineInfix : Cond.code yX6_defineInfix cX6_defineInfix 3 (some .int) ∈ TB := tb_of (tbl4 (List.mem_of_getElem? (i := 28) (by decide +kernel))) rfl
theorem wI_X6_defineInfix : Cond.initialized yX6_defineInfix.cls ∈ TB := tb_of (tbl1 (List.mem_of_getElem? (i := 7) (by decide +kernel))) rfl
theorem wM_X6_defineInfix : Cond.instanceMethod yX6_defineInfix ∈ TB := tb_of (tbl4 (List.mem_of_getElem? (i := 26) (by decide +kernel))) rfl
theorem wS_X6_defineInfix : Cond.selects yX6_defineInfix.cls yX6_defineInfix yX6_defineInfix ∈ TB := tb_of (tbl4 (List.mem_of_getElem? (i := 27) (by decide +kernel))) rfl
theorem vL_17 : ZV RL 17 yX6_defineInfix cX6_defineInfix 3 (some .int) 2 := ⟨List.forall_mem_cons.mpr ⟨(tb_of (tbl4 (List.mem_of_getElem? (i := 25) (by decide +kernel))) rfl), List.forall_mem_cons.mpr ⟨wM_X6_defineInfix, List.forall_mem_cons.mpr ⟨wS_X6_defineInfix, List.forall_mem_cons.mpr ⟨wI_X6_defineInfix, List.forall_mem_cons.mpr ⟨wC_X6_defineInfix, fun _ h => absurd h List.not_mem_nil⟩⟩⟩⟩⟩, by decide +kernel, by decide⟩
theorem wC_X5_definePrefix : Cond.code yX5_definePrefix cX5_definePrefix 3 (some .int) ∈ TB := tb_of (tbl1 (List.mem_of_getElem? (i := 215) (by decide +kernel))) rfl
theorem wI_X5_definePrefix : Cond.initialized yX5_definePrefix.cls ∈ TB := tb_of (tbl1 (List.mem_of_getElem? (i := 1) (by decide +kernel))) rfl
theorem wM_X5_definePrefix : Cond.instanceMethod yX5_definePrefix ∈ TB := tb_of (tbl1 (List.mem_of_getElem? (i := 213) (by decide +kernel))) rfl
theorem wS_X5_definePrefix : Cond.selects yX5_definePrefix.cls yX5_definePrefix yX5_definePrefix ∈ TB := tb_of (tbl1 (List.mem_of_getElem? (i := 214) (by decide +kernel))) rfl
theorem vL_18 : ZV RL 18 yX5_definePrefix cX5_definePrefix 3 (some .int) 2 := ⟨List.forall_mem_cons.mpr ⟨(tb_of (tbl1 (List.mem_of_getElem? (i := 212) (by decide +kernel))) rfl), List.forall_mem_cons.mpr ⟨wM_X5_definePrefix, List.forall_mem_cons.mpr ⟨wS_X5_definePrefix, List.forall_mem_cons.mpr ⟨wI_X5_definePrefix, List.forall_mem_cons.mpr ⟨wC_X5_definePrefix, fun _ h => absurd h List.not_mem_nil⟩⟩⟩⟩⟩, by decide +kernel, by decide⟩
theorem wC_X6_definePrefix : Cond.code yX6_definePrefix cX6_definePrefix 3 (some .int) ∈ TB := tb_of (tbl4 (List.mem_of_getElem? (i := 46) (by decide +kernel))) rfl
theorem wI_X6_definePrefix : Cond.initialized yX6_definePrefix.cls ∈ TB := tb_of (tbl1 (List.mem_of_getElem? (i := 7) (by decide +kernel))) rfl
theorem wM_X6_definePrefix : Cond.instanceMethod yX6_definePrefix ∈ TB := tb_of (tbl4 (List.mem_of_getElem? (i := 44) (by decide +kernel))) rfl
theorem wS_X6_definePrefix : Cond.selects yX6_definePrefix.cls yX6_definePrefix yX6_definePrefix ∈ TB := tb_of (tbl4 (List.mem_of_getElem? (i := 45) (by decide +kernel))) rfl
theorem vL_21 : ZV RL 21 yX6_definePrefix cX6_definePrefix 3 (some .int) 2 := ⟨List.forall_mem_cons.mpr ⟨(tb_of (tbl4 (List.mem_of_getElem? (i := 43) (by decide +kernel))) rfl), List.forall_mem_cons.mpr ⟨wM_X6_definePrefix, List.forall_mem_cons.mpr ⟨wS_X6_definePrefix, List.forall_mem_cons.mpr ⟨wI_X6_definePrefix, List.forall_mem_cons.mpr ⟨wC_X6_definePrefix, fun _ h => absurd h List.not_mem_nil⟩⟩⟩⟩⟩, by decide +kernel, by decide⟩
theorem wC_X5_definePostfix : Cond.code yX5_definePostfix cX5_definePostfix 3 (some .int) ∈ TB := tb_of (tbl1 (List.mem_of_getElem? (i := 219) (by decide +kernel))) rfl
theorem wI_X5_definePostfix : Cond.initialized yX5_definePostfix.cls ∈ TB := tb_of (tbl1 (List.mem_of_getElem? (i := 1) (by decide +kernel))) rfl
theorem wM_X5_definePostfix : Cond.instanceMethod yX5_definePostfix ∈ TB := tb_of (tbl1 (List.mem_of_getElem? (i := 217) (by decide +kernel))) rfl
theorem wS_X5_definePostfix : Cond.selects yX5_definePostfix.cls yX5_definePostfix yX5_definePostfix ∈ TB := tb_of (tbl1 (List.mem_of_getElem? (i := 218) (by decide +kernel))) rfl
theorem vL_22 : ZV RL 22 yX5_definePostfix cX5_definePostfix 3 (some .int) 2 := ⟨List.forall_mem_cons.mpr ⟨(tb_of (tbl1 (List.mem_of_getElem? (i := 216) (by decide +kernel))) rfl), List.forall_mem_cons.mpr ⟨wM_X5_definePostfix, List.forall_mem_cons.mpr ⟨wS_X5_definePostfix, List.forall_mem_cons.mpr ⟨wI_X5_definePostfix, List.forall_mem_cons.mpr ⟨wC_X5_definePostfix, fun _ h => absurd h List.not_mem_nil⟩⟩⟩⟩⟩, by decide +kernel, by decide⟩
theorem wC_X6_definePostfix : Cond.code yX6_definePostfix cX6_definePostfix 3 (some .int) ∈ TB := tb_of (tbl4 (List.mem_of_getElem? (i := 50) (by decide +kernel))) rfl
theorem wI_X6_definePostfix : Cond.initialized yX6_definePostfix.cls ∈ TB := tb_of (tbl1 (List.mem_of_getElem? (i := 7) (by decide +kernel))) rfl
theorem wM_X6_definePostfix : Cond.instanceMethod yX6_definePostfix ∈ TB := tb_of (tbl4 (List.mem_of_getElem? (i := 48) (by decide +kernel))) rfl
theorem wS_X6_definePostfix : Cond.selects yX6_definePostfix.cls yX6_definePostfix yX6_definePostfix ∈ TB := tb_of (tbl4 (List.mem_of_getElem? (i := 49) (by decide +kernel))) rfl
theorem vL_25 : ZV RL 25 yX6_definePostfix cX6_definePostfix 3 (some .int) 2 := ⟨List.forall_mem_cons.mpr ⟨(tb_of (tbl4 (List.mem_of_getElem? (i := 47) (by decide +kernel))) rfl), List.forall_mem_cons.mpr ⟨wM_X6_definePostfix, List.forall_mem_cons.mpr ⟨wS_X6_definePostfix, List.forall_mem_cons.mpr ⟨wI_X6_definePostfix, List.forall_mem_cons.mpr ⟨wC_X6_definePostfix, fun _ h => absurd h List.not_mem_nil⟩⟩⟩⟩⟩, by decide +kernel, by decide⟩
theorem wC_X5_operatorCount : Cond.code yX5_operatorCount cX5_operatorCount 1 (some .int) ∈ TB := tb_of (tbl1 (List.mem_of_getElem? (i := 223) (by decide +kernel))) rfl
theorem wI_X5_operatorCount : Cond.initialized yX5_operatorCount.cls ∈ TB := tb_of (tbl1 (List.mem_of_getElem? (i := 1) (by decide +kernel))) rfl
theorem wM_X5_operatorCount : Cond.instanceMethod yX5_operatorCount ∈ TB := tb_of (tbl1 (List.mem_of_getElem? (i := 221) (by decide +kernel))) rfl
theorem wS_X5_operatorCount : Cond.selects yX5_operatorCount.cls yX5_operatorCount yX5_operatorCount ∈ TB := tb_of (tbl1 (List.mem_of_getElem? (i := 222) (by decide +kernel))) rfl
theorem vL_26 : ZV RL 26 yX5_operatorCount cX5_operatorCount 1 (some .int) 0 := ⟨List.forall_mem_cons.mpr ⟨(tb_of (tbl1 (List.mem_of_getElem? (i := 220) (by decide +kernel))) rfl), List.forall_mem_cons.mpr ⟨wM_X5_operatorCount, List.forall_mem_cons.mpr ⟨wS_X5_operatorCount, List.forall_mem_cons.mpr ⟨wI_X5_operatorCount, List.forall_mem_cons.mpr ⟨wC_X5_operatorCount, fun _ h => absurd h List.not_mem_nil⟩⟩⟩⟩⟩, by decide +kernel, by decide⟩
theorem wC_X6_operatorCount : Cond.code yX6_operatorCount cX6_operatorCount 1 (some .int) ∈ TB := tb_of (tbl4 (List.mem_of_getElem? (i := 54) (by decide +kernel))) rfl
theorem wI_X6_operatorCount : Cond.initialized yX6_operatorCount.cls ∈ TB := tb_of (tbl1 (List.mem_of_getElem? (i := 7) (by decide +kernel))) rfl
theorem wM_X6_operatorCount : Cond.instanceMethod yX6_operatorCount ∈ TB := tb_of (tbl4 (List.mem_of_getElem? (i := 52) (by decide +kernel))) rfl
theorem wS_X6_operatorCount : Cond.selects yX6_operatorCount.cls yX6_operatorCount yX6_operatorCount ∈ TB := tb_of (tbl4 (List.mem_of_getElem? (i := 53) (by decide +kernel))) rfl
theorem vL_30 : ZV RL 30 yX6_operatorCount cX6_operatorCount 1 (some .int) 0 := ⟨List.forall_mem_cons.mpr ⟨(tb_of (tbl4 (List.mem_of_getElem? (i := 51) (by decide +kernel))) rfl), List.forall_mem_cons.mpr ⟨wM_X6_operatorCount, List.forall_mem_cons.mpr ⟨wS_X6_operatorCount, List.forall_mem_cons.mpr ⟨wI_X6_operatorCount, List.forall_mem_cons.mpr ⟨wC_X6_operatorCount, fun _ h => absurd h List.not_mem_nil⟩⟩⟩⟩⟩, by decide +kernel, by decide⟩
theorem wC_X5_symbol : Cond.code yX5_symbol cX5_symbol 2 (some .int) ∈ TB := tb_of (tbl1 (List.mem_of_getElem? (i := 231) (by decide +kernel))) rfl
theorem wI_X5_symbol : Cond.initialized yX5_symbol.cls ∈ TB := tb_of (tbl1 (List.mem_of_getElem? (i := 1) (by decide +kernel))) rfl
theorem wM_X5_symbol : Cond.instanceMethod yX5_symbol ∈ TB := tb_of (tbl1 (List.mem_of_getElem? (i := 229) (by decide +kernel))) rfl
theorem wS_X5_symbol : Cond.selects yX5_symbol.cls yX5_symbol yX5_symbol ∈ TB := tb_of (tbl1 (List.mem_of_getElem? (i := 230) (by decide +kernel))) rfl
theorem vL_31 : ZV RL 31 yX5_symbol cX5_symbol 2 (some .int) 1 := ⟨List.forall_mem_cons.mpr ⟨(tb_of (tbl1 (List.mem_of_getElem? (i := 228) (by decide +kernel))) rfl), List.forall_mem_cons.mpr ⟨wM_X5_symbol, List.forall_mem_cons.mpr ⟨wS_X5_symbol, List.forall_mem_cons.mpr ⟨wI_X5_symbol, List.forall_mem_cons.mpr ⟨wC_X5_symbol, fun _ h => absurd h List.not_mem_nil⟩⟩⟩⟩⟩, by decide +kernel, by decide⟩
theorem wC_X6_symbol : Cond.code yX6_symbol cX6_symbol 2 (some .int) ∈ TB := tb_of (tbl4 (List.mem_of_getElem? (i := 58) (by decide +kernel))) rfl
theorem wI_X6_symbol : Cond.initialized yX6_symbol.cls ∈ TB := tb_of (tbl1 (List.mem_of_getElem? (i := 7) (by decide +kernel))) rfl
theorem wM_X6_symbol : Cond.instanceMethod yX6_symbol ∈ TB := tb_of (tbl4 (List.mem_of_getElem? (i := 56) (by decide +kernel))) rfl
theorem wS_X6_symbol : Cond.selects yX6_symbol.cls yX6_symbol yX6_symbol ∈ TB := tb_of (tbl4 (List.mem_of_getElem? (i := 57) (by decide +kernel))) rfl
theorem vL_35 : ZV RL 35 yX6_symbol cX6_symbol 2 (some .int) 1 := ⟨List.forall_mem_cons.mpr ⟨(tb_of (tbl4 (List.mem_of_getElem? (i := 55) (by decide +kernel))) rfl), List.forall_mem_cons.mpr ⟨wM_X6_symbol, List.forall_mem_cons.mpr ⟨wS_X6_symbol, List.forall_mem_cons.mpr ⟨wI_X6_symbol, List.forall_mem_cons.mpr ⟨wC_X6_symbol, fun _ h => absurd h List.not_mem_nil⟩⟩⟩⟩⟩, by decide +kernel, by decide⟩
theorem wC_X5_kind : Cond.code yX5_kind cX5_kind 2 (some .int) ∈ TB := tb_of (tbl2 (List.mem_of_getElem? (i := 4) (by decide +kernel))) rfl
theorem wI_X5_kind : Cond.initialized yX5_kind.cls ∈ TB := tb_of (tbl1 (List.mem_of_getElem? (i := 1) (by decide +kernel))) rfl
theorem wM_X5_kind : Cond.instanceMethod yX5_kind ∈ TB := tb_of (tbl2 (List.mem_of_getElem? (i := 2) (by decide +kernel))) rfl
theorem wS_X5_kind : Cond.selects yX5_kind.cls yX5_kind yX5_kind ∈ TB := tb_of (tbl2 (List.mem_of_getElem? (i := 3) (by decide +kernel))) rfl
theorem vL_36 : ZV RL 36 yX5_kind cX5_kind 2 (some .int) 1 := ⟨List.forall_mem_cons.mpr ⟨(tb_of (tbl2 (List.mem_of_getElem? (i := 1) (by decide +kernel))) rfl), List.forall_mem_cons.mpr ⟨wM_X5_kind, List.forall_mem_cons.mpr ⟨wS_X5_kind, List.forall_mem_cons.mpr ⟨wI_X5_kind, List.forall_mem_cons.mpr ⟨wC_X5_kind, fun _ h => absurd h List.not_mem_nil⟩⟩⟩⟩⟩, by decide +kernel, by decide⟩
theorem wC_X6_kind : Cond.code yX6_kind cX6_kind 2 (some .int) ∈ TB := tb_of (tbl4 (List.mem_of_getElem? (i := 66) (by decide +kernel))) rfl
theorem wI_X6_kind : Cond.initialized yX6_kind.cls ∈ TB := tb_of (tbl1 (List.mem_of_getElem? (i := 7) (by decide +kernel))) rfl
theorem wM_X6_kind : Cond.instanceMethod yX6_kind ∈ TB := tb_of (tbl4 (List.mem_of_getElem? (i := 64) (by decide +kernel))) rfl
theorem wS_X6_kind : Cond.selects yX6_kind.cls yX6_kind yX6_kind ∈ TB := tb_of (tbl4 (List.mem_of_getElem? (i := 65) (by decide +kernel))) rfl
theorem vL_39 : ZV RL 39 yX6_kind cX6_kind 2 (some .int) 1 := ⟨List.forall_mem_cons.mpr ⟨(tb_of (tbl4 (List.mem_of_getElem? (i := 63) (by decide +kernel))) rfl), List.forall_mem_cons.mpr ⟨wM_X6_kind, List.forall_mem_cons.mpr ⟨wS_X6_kind, List.forall_mem_cons.mpr ⟨wI_X6_kind, List.forall_mem_cons.mpr ⟨wC_X6_kind, fun _ h => absurd h List.not_mem_nil⟩⟩⟩⟩⟩, by decide +kernel, by decide⟩
theorem wC_X5_setLevel : Cond.code yX5_setLevel cX5_setLevel 3 (some .int) ∈ TB := tb_of (tbl2 (List.mem_of_getElem? (i := 12) (by decide +kernel))) rfl
theorem wI_X5_setLevel : Cond.initialized yX5_setLevel.cls ∈ TB := tb_of (tbl1 (List.mem_of_getElem? (i := 1) (by decide +kernel))) rfl
theorem wM_X5_setLevel : Cond.instanceMethod yX5_setLevel ∈ TB := tb_of (tbl2 (List.mem_of_getElem? (i := 10) (by decide +kernel))) rfl
theorem wS_X5_setLevel : Cond.selects yX5_setLevel.cls yX5_setLevel yX5_setLevel ∈ TB := tb_of (tbl2 (List.mem_of_getElem? (i := 11) (by decide +kernel))) rfl
theorem vL_40 : ZV RL 40 yX5_setLevel cX5_setLevel 3 (some .int) 2 := ⟨List.forall_mem_cons.mpr ⟨(tb_of (tbl2 (List.mem_of_getElem? (i := 9) (by decide +kernel))) rfl), List.forall_mem_cons.mpr ⟨wM_X5_setLevel, List.forall_mem_cons.mpr ⟨wS_X5_setLevel, List.forall_mem_cons.mpr ⟨wI_X5_setLevel, List.forall_mem_cons.mpr ⟨wC_X5_setLevel, fun _ h => absurd h List.not_mem_nil⟩⟩⟩⟩⟩, by decide +kernel, by decide⟩
theorem wC_X6_setLevel : Cond.code yX6_setLevel cX6_setLevel 4 (some .int) ∈ TB := tb_of (tbl4 (List.mem_of_getElem? (i := 70) (by decide +kernel))) rfl
theorem wI_X6_setLevel : Cond.initialized yX6_setLevel.cls ∈ TB := tb_of (tbl1 (List.mem_of_getElem? (i := 7) (by decide +kernel))) rfl
theorem wM_X6_setLevel : Cond.instanceMethod yX6_setLevel ∈ TB := tb_of (tbl4 (List.mem_of_getElem? (i := 68) (by decide +kernel))) rfl
theorem wS_X6_setLevel : Cond.selects yX6_setLevel.cls yX6_setLevel yX6_setLevel ∈ TB := tb_of (tbl4 (List.mem_of_getElem? (i := 69) (by decide +kernel))) rfl
theorem vL_43 : ZV RL 43 yX6_setLevel cX6_setLevel 4 (some .int) 2 := ⟨List.forall_mem_cons.mpr ⟨(tb_of (tbl4 (List.mem_of_getElem? (i := 67) (by decide +kernel))) rfl), List.forall_mem_cons.mpr ⟨wM_X6_setLevel, List.forall_mem_cons.mpr ⟨wS_X6_setLevel, List.forall_mem_cons.mpr ⟨wI_X6_setLevel, List.forall_mem_cons.mpr ⟨wC_X6_setLevel, fun _ h => absurd h List.not_mem_nil⟩⟩⟩⟩⟩, by decide +kernel, by decide⟩
theorem wC_X5_setAssociativity : Cond.code yX5_setAssociativity cX5_setAssociativity 3 (some .int) ∈ TB := tb_of (tbl2 (List.mem_of_getElem? (i := 24) (by decide +kernel))) rfl
theorem wI_X5_setAssociativity : Cond.initialized yX5_setAssociativity.cls ∈ TB := tb_of (tbl1 (List.mem_of_getElem? (i := 1) (by decide +kernel))) rfl
theorem wM_X5_setAssociativity : Cond.instanceMethod yX5_setAssociativity ∈ TB := tb_of (tbl2 (List.mem_of_getElem? (i := 22) (by decide +kernel))) rfl
theorem wS_X5_setAssociativity : Cond.selects yX5_setAssociativity.cls yX5_setAssociativity yX5_setAssociativity ∈ TB := tb_of (tbl2 (List.mem_of_getElem? (i := 23) (by decide +kernel))) rfl
theorem vL_44 : ZV RL 44 yX5_setAssociativity cX5_setAssociativity 3 (some .int) 2 := ⟨List.forall_mem_cons.mpr ⟨(tb_of (tbl2 (List.mem_of_getElem? (i := 21) (by decide +kernel))) rfl), List.forall_mem_cons.mpr ⟨wM_X5_setAssociativity, List.forall_mem_cons.mpr ⟨wS_X5_setAssociativity, List.forall_mem_cons.mpr ⟨wI_X5_setAssociativity, List.forall_mem_cons.mpr ⟨wC_X5_setAssociativity, fun _ h => absurd h List.not_mem_nil⟩⟩⟩⟩⟩, by decide +kernel, by decide⟩
theorem wC_X6_setAssociativity : Cond.code yX6_setAssociativity cX6_setAssociativity 4 (some .int) ∈ TB := tb_of (tbl4 (List.mem_of_getElem? (i := 74) (by decide +kernel))) rfl
theorem wI_X6_setAssociativity : Cond.initialized yX6_setAssociativity.cls ∈ TB := tb_of (tbl1 (List.mem_of_getElem? (i := 7) (by decide +kernel))) rfl
theorem wM_X6_setAssociativity : Cond.instanceMethod yX6_setAssociativity ∈ TB := tb_of (tbl4 (List.mem_of_getElem? (i := 72) (by decide +kernel))) rfl
theorem wS_X6_setAssociativity : Cond.selects yX6_setAssociativity.cls yX6_setAssociativity yX6_setAssociativity ∈ TB := tb_of (tbl4 (List.mem_of_getElem? (i := 73) (by decide +kernel))) rfl
theorem vL_47 : ZV RL 47 yX6_setAssociativity cX6_setAssociativity 4 (some .int) 2 := ⟨List.forall_mem_cons.mpr ⟨(tb_of (tbl4 (List.mem_of_getElem? (i := 71) (by decide +kernel))) rfl), List.forall_mem_cons.mpr ⟨wM_X6_setAssociativity, List.forall_mem_cons.mpr ⟨wS_X6_setAssociativity, List.forall_mem_cons.mpr ⟨wI_X6_setAssociativity, List.forall_mem_cons.mpr ⟨wC_X6_setAssociativity, fun _ h => absurd h List.not_mem_nil⟩⟩⟩⟩⟩, by decide +kernel, by decide⟩
theorem wC_X5_setForbidden : Cond.code yX5_setForbidden cX5_setForbidden 4 (some .int) ∈ TB := tb_of (tbl2 (List.mem_of_getElem? (i := 37) (by decide +kernel))) rfl
theorem wI_X5_setForbidden : Cond.initialized yX5_setForbidden.cls ∈ TB := tb_of (tbl1 (List.mem_of_getElem? (i := 1) (by decide +kernel))) rfl
theorem wM_X5_setForbidden : Cond.instanceMethod yX5_setForbidden ∈ TB := tb_of (tbl2 (List.mem_of_getElem? (i := 35) (by decide +kernel))) rfl
theorem wS_X5_setForbidden : Cond.selects yX5_setForbidden.cls yX5_setForbidden yX5_setForbidden ∈ TB := tb_of (tbl2 (List.mem_of_getElem? (i := 36) (by decide +kernel))) rfl
theorem vL_48 : ZV RL 48 yX5_setForbidden cX5_setForbidden 4 (some .int) 3 := ⟨List.forall_mem_cons.mpr ⟨(tb_of (tbl2 (List.mem_of_getElem? (i := 34) (by decide +kernel))) rfl), List.forall_mem_cons.mpr ⟨wM_X5_setForbidden, List.forall_mem_cons.mpr ⟨wS_X5_setForbidden, List.forall_mem_cons.mpr ⟨wI_X5_setForbidden, List.forall_mem_cons.mpr ⟨wC_X5_setForbidden, fun _ h => absurd h List.not_mem_nil⟩⟩⟩⟩⟩, by decide +kernel, by decide⟩
theorem wC_X6_setForbidden : Cond.code yX6_setForbidden cX6_setForbidden 5 (some .int) ∈ TB := tb_of (tbl4 (List.mem_of_getElem? (i := 78) (by decide +kernel))) rfl
theorem wI_X6_setForbidden : Cond.initialized yX6_setForbidden.cls ∈ TB := tb_of (tbl1 (List.mem_of_getElem? (i := 7) (by decide +kernel))) rfl
theorem wM_X6_setForbidden : Cond.instanceMethod yX6_setForbidden ∈ TB := tb_of (tbl4 (List.mem_of_getElem? (i := 76) (by decide +kernel))) rfl
theorem wS_X6_setForbidden : Cond.selects yX6_setForbidden.cls yX6_setForbidden yX6_setForbidden ∈ TB := tb_of (tbl4 (List.mem_of_getElem? (i := 77) (by decide +kernel))) rfl
theorem vL_52 : ZV RL 52 yX6_setForbidden cX6_setForbidden 5 (some .int) 3 := ⟨List.forall_mem_cons.mpr ⟨(tb_of (tbl4 (List.mem_of_getElem? (i := 75) (by decide +kernel))) rfl), List.forall_mem_cons.mpr ⟨wM_X6_setForbidden, List.forall_mem_cons.mpr ⟨wS_X6_setForbidden, List.forall_mem_cons.mpr ⟨wI_X6_setForbidden, List.forall_mem_cons.mpr ⟨wC_X6_setForbidden, fun _ h => absurd h List.not_mem_nil⟩⟩⟩⟩⟩, by decide +kernel, by decide⟩
theorem wC_X5_leaf : Cond.code yX5_leaf cX5_leaf 2 (some .int) ∈ TB := tb_of (tbl2 (List.mem_of_getElem? (i := 49) (by decide +kernel))) rfl
theorem wI_X5_leaf : Cond.initialized yX5_leaf.cls ∈ TB := tb_of (tbl1 (List.mem_of_getElem? (i := 1) (by decide +kernel))) rfl
theorem wM_X5_leaf : Cond.instanceMethod yX5_leaf ∈ TB := tb_of (tbl2 (List.mem_of_getElem? (i := 47) (by decide +kernel))) rfl
theorem wS_X5_leaf : Cond.selects yX5_leaf.cls yX5_leaf yX5_leaf ∈ TB := tb_of (tbl2 (List.mem_of_getElem? (i := 48) (by decide +kernel))) rfl
theorem vL_53 : ZV RL 53 yX5_leaf cX5_leaf 2 (some .int) 1 := ⟨List.forall_mem_cons.mpr ⟨(tb_of (tbl2 (List.mem_of_getElem? (i := 46) (by decide +kernel))) rfl), List.forall_mem_cons.mpr ⟨wM_X5_leaf, List.forall_mem_cons.mpr ⟨wS_X5_leaf, List.forall_mem_cons.mpr ⟨wI_X5_leaf, List.forall_mem_cons.mpr ⟨wC_X5_leaf, fun _ h => absurd h List.not_mem_nil⟩⟩⟩⟩⟩, by decide +kernel, by decide⟩
theorem wC_X6_leaf : Cond.code yX6_leaf cX6_leaf 2 (some .int) ∈ TB := tb_of (tbl4 (List.mem_of_getElem? (i := 82) (by decide +kernel))) rfl
theorem wI_X6_leaf : Cond.initialized yX6_leaf.cls ∈ TB := tb_of (tbl1 (List.mem_of_getElem? (i := 7) (by decide +kernel))) rfl
theorem wM_X6_leaf : Cond.instanceMethod yX6_leaf ∈ TB := tb_of (tbl4 (List.mem_of_getElem? (i := 80) (by decide +kernel))) rfl
theorem wS_X6_leaf : Cond.selects yX6_leaf.cls yX6_leaf yX6_leaf ∈ TB := tb_of (tbl4 (List.mem_of_getElem? (i := 81) (by decide +kernel))) rfl
theorem vL_56 : ZV RL 56 yX6_leaf cX6_leaf 2 (some .int) 1 := ⟨List.forall_mem_cons.mpr ⟨(tb_of (tbl4 (List.mem_of_getElem? (i := 79) (by decide +kernel))) rfl), List.forall_mem_cons.mpr ⟨wM_X6_leaf, List.forall_mem_cons.mpr ⟨wS_X6_leaf, List.forall_mem_cons.mpr ⟨wI_X6_leaf, List.forall_mem_cons.mpr ⟨wC_X6_leaf, fun _ h => absurd h List.not_mem_nil⟩⟩⟩⟩⟩, by decide +kernel, by decide⟩
theorem wC_X5_unary : Cond.code yX5_unary cX5_unary 4 (some .int) ∈ TB := tb_of (tbl2 (List.mem_of_getElem? (i := 69) (by decide +kernel))) rfl
theorem wI_X5_unary : Cond.initialized yX5_unary.cls ∈ TB := tb_of (tbl1 (List.mem_of_getElem? (i := 1) (by decide +kernel))) rfl
theorem wM_X5_unary : Cond.instanceMethod yX5_unary ∈ TB := tb_of (tbl2 (List.mem_of_getElem? (i := 67) (by decide +kernel))) rfl
theorem wS_X5_unary : Cond.selects yX5_unary.cls yX5_unary yX5_unary ∈ TB := tb_of (tbl2 (List.mem_of_getElem? (i := 68) (by decide +kernel))) rfl
theorem vL_57 : ZV RL 57 yX5_unary cX5_unary 4 (some .int) 2 := ⟨List.forall_mem_cons.mpr ⟨(tb_of (tbl2 (List.mem_of_getElem? (i := 66) (by decide +kernel))) rfl), List.forall_mem_cons.mpr ⟨wM_X5_unary, List.forall_mem_cons.mpr ⟨wS_X5_unary, List.forall_mem_cons.mpr ⟨wI_X5_unary, List.forall_mem_cons.mpr ⟨wC_X5_unary, fun _ h => absurd h List.not_mem_nil⟩⟩⟩⟩⟩, by decide +kernel, by decide⟩
theorem wC_X6_unary : Cond.code yX6_unary cX6_unary 3 (some .int) ∈ TB := tb_of (tbl4 (List.mem_of_getElem? (i := 90) (by decide +kernel))) rfl
theorem wI_X6_unary : Cond.initialized yX6_unary.cls ∈ TB := tb_of (tbl1 (List.mem_of_getElem? (i := 7) (by decide +kernel))) rfl
theorem wM_X6_unary : Cond.instanceMethod yX6_unary ∈ TB := tb_of (tbl4 (List.mem_of_getElem? (i := 88) (by decide +kernel))) rfl
theorem wS_X6_unary : Cond.selects yX6_unary.cls yX6_unary yX6_unary ∈ TB := tb_of (tbl4 (List.mem_of_getElem? (i := 89) (by decide +kernel))) rfl
theorem vL_60 : ZV RL 60 yX6_unary cX6_unary 3 (some .int) 2 := ⟨List.forall_mem_cons.mpr ⟨(tb_of (tbl4 (List.mem_of_getElem? (i := 87) (by decide +kernel))) rfl), List.forall_mem_cons.mpr ⟨wM_X6_unary, List.forall_mem_cons.mpr ⟨wS_X6_unary, List.forall_mem_cons.mpr ⟨wI_X6_unary, List.forall_mem_cons.mpr ⟨wC_X6_unary, fun _ h => absurd h List.not_mem_nil⟩⟩⟩⟩⟩, by decide +kernel, by decide⟩
theorem wC_X5_binary : Cond.code yX5_binary cX5_binary 4 (some .int) ∈ TB := tb_of (tbl2 (List.mem_of_getElem? (i := 79) (by decide +kernel))) rfl
theorem wI_X5_binary : Cond.initialized yX5_binary.cls ∈ TB := tb_of (tbl1 (List.mem_of_getElem? (i := 1) (by decide +kernel))) rfl
theorem wM_X5_binary : Cond.instanceMethod yX5_binary ∈ TB := tb_of (tbl2 (List.mem_of_getElem? (i := 77) (by decide +kernel))) rfl
theorem wS_X5_binary : Cond.selects yX5_binary.cls yX5_binary yX5_binary ∈ TB := tb_of (tbl2 (List.mem_of_getElem? (i := 78) (by decide +kernel))) rfl
theorem vL_61 : ZV RL 61 yX5_binary cX5_binary 4 (some .int) 3 := ⟨List.forall_mem_cons.mpr ⟨(tb_of (tbl2 (List.mem_of_getElem? (i := 76) (by decide +kernel))) rfl), List.forall_mem_cons.mpr ⟨wM_X5_binary, List.forall_mem_cons.mpr ⟨wS_X5_binary, List.forall_mem_cons.mpr ⟨wI_X5_binary, List.forall_mem_cons.mpr ⟨wC_X5_binary, fun _ h => absurd h List.not_mem_nil⟩⟩⟩⟩⟩, by decide +kernel, by decide⟩
theorem wC_X6_binary : Cond.code yX6_binary cX6_binary 4 (some .int) ∈ TB := tb_of (tbl4 (List.mem_of_getElem? (i := 98) (by decide +kernel))) rfl
theorem wI_X6_binary : Cond.initialized yX6_binary.cls ∈ TB := tb_of (tbl1 (List.mem_of_getElem? (i := 7) (by decide +kernel))) rfl
theorem wM_X6_binary : Cond.instanceMethod yX6_binary ∈ TB := tb_of (tbl4 (List.mem_of_getElem? (i := 96) (by decide +kernel))) rfl
theorem wS_X6_binary : Cond.selects yX6_binary.cls yX6_binary yX6_binary ∈ TB := tb_of (tbl4 (List.mem_of_getElem? (i := 97) (by decide +kernel))) rfl
theorem vL_65 : ZV RL 65 yX6_binary cX6_binary 4 (some .int) 3 := ⟨List.forall_mem_cons.mpr ⟨(tb_of (tbl4 (List.mem_of_getElem? (i := 95) (by decide +kernel))) rfl), List.forall_mem_cons.mpr ⟨wM_X6_binary, List.forall_mem_cons.mpr ⟨wS_X6_binary, List.forall_mem_cons.mpr ⟨wI_X6_binary, List.forall_mem_cons.mpr ⟨wC_X6_binary, fun _ h => absurd h List.not_mem_nil⟩⟩⟩⟩⟩, by decide +kernel, by decide⟩
theorem wC_X5_nodeCount : Cond.code yX5_nodeCount cX5_nodeCount 1 (some .int) ∈ TB := tb_of (tbl2 (List.mem_of_getElem? (i := 83) (by decide +kernel))) rfl
theorem wI_X5_nodeCount : Cond.initialized yX5_nodeCount.cls ∈ TB := tb_of (tbl1 (List.mem_of_getElem? (i := 1) (by decide +kernel))) rfl
theorem wM_X5_nodeCount : Cond.instanceMethod yX5_nodeCount ∈ TB := tb_of (tbl2 (List.mem_of_getElem? (i := 81) (by decide +kernel))) rfl
theorem wS_X5_nodeCount : Cond.selects yX5_nodeCount.cls yX5_nodeCount yX5_nodeCount ∈ TB := tb_of (tbl2 (List.mem_of_getElem? (i := 82) (by decide +kernel))) rfl
theorem vL_66 : ZV RL 66 yX5_nodeCount cX5_nodeCount 1 (some .int) 0 := ⟨List.forall_mem_cons.mpr ⟨(tb_of (tbl2 (List.mem_of_getElem? (i := 80) (by decide +kernel))) rfl), List.forall_mem_cons.mpr ⟨wM_X5_nodeCount, List.forall_mem_cons.mpr ⟨wS_X5_nodeCount, List.forall_mem_cons.mpr ⟨wI_X5_nodeCount, List.forall_mem_cons.mpr ⟨wC_X5_nodeCount, fun _ h => absurd h List.not_mem_nil⟩⟩⟩⟩⟩, by decide +kernel, by decide⟩
theorem wC_X6_nodeCount : Cond.code yX6_nodeCount cX6_nodeCount 1 (some .int) ∈ TB := tb_of (tbl4 (List.mem_of_getElem? (i := 102) (by decide +kernel))) rfl
theorem wI_X6_nodeCount : Cond.initialized yX6_nodeCount.cls ∈ TB := tb_of (tbl1 (List.mem_of_getElem? (i := 7) (by decide +kernel))) rfl
theorem wM_X6_nodeCount : Cond.instanceMethod yX6_nodeCount ∈ TB := tb_of (tbl4 (List.mem_of_getElem? (i := 100) (by decide +kernel))) rfl
theorem wS_X6_nodeCount : Cond.selects yX6_nodeCount.cls yX6_nodeCount yX6_nodeCount ∈ TB := tb_of (tbl4 (List.mem_of_getElem? (i := 101) (by decide +kernel))) rfl
theorem vL_69 : ZV RL 69 yX6_nodeCount cX6_nodeCount 1 (some .int) 0 := ⟨List.forall_mem_cons.mpr ⟨(tb_of (tbl4 (List.mem_of_getElem? (i := 99) (by decide +kernel))) rfl), List.forall_mem_cons.mpr ⟨wM_X6_nodeCount, List.forall_mem_cons.mpr ⟨wS_X6_nodeCount, List.forall_mem_cons.mpr ⟨wI_X6_nodeCount, List.forall_mem_cons.mpr ⟨wC_X6_nodeCount, fun _ h => absurd h List.not_mem_nil⟩⟩⟩⟩⟩, by decide +kernel, by decide⟩
theorem wC_X5_operatorOf : Cond.code yX5_operatorOf cX5_operatorOf 3 (some .int) ∈ TB := tb_of (tbl2 (List.mem_of_getElem? (i := 87) (by decide +kernel))) rfl
theorem wI_X5_operatorOf : Cond.initialized yX5_operatorOf.cls ∈ TB := tb_of (tbl1 (List.mem_of_getElem? (i := 1) (by decide +kernel))) rfl
theorem wM_X5_operatorOf : Cond.instanceMethod yX5_operatorOf ∈ TB := tb_of (tbl2 (List.mem_of_getElem? (i := 85) (by decide +kernel))) rfl
theorem wS_X5_operatorOf : Cond.selects yX5_operatorOf.cls yX5_operatorOf yX5_operatorOf ∈ TB := tb_of (tbl2 (List.mem_of_getElem? (i := 86) (by decide +kernel))) rfl
theorem vL_70 : ZV RL 70 yX5_operatorOf cX5_operatorOf 3 (some .int) 1 := ⟨List.forall_mem_cons.mpr ⟨(tb_of (tbl2 (List.mem_of_getElem? (i := 84) (by decide +kernel))) rfl), List.forall_mem_cons.mpr ⟨wM_X5_operatorOf, List.forall_mem_cons.mpr ⟨wS_X5_operatorOf, List.forall_mem_cons.mpr ⟨wI_X5_operatorOf, List.forall_mem_cons.mpr ⟨wC_X5_operatorOf, fun _ h => absurd h List.not_mem_nil⟩⟩⟩⟩⟩, by decide +kernel, by decide⟩
theorem wC_X6_operatorOf : Cond.code yX6_operatorOf cX6_operatorOf 2 (some .int) ∈ TB := tb_of (tbl4 (List.mem_of_getElem? (i := 106) (by decide +kernel))) rfl
theorem wI_X6_operatorOf : Cond.initialized yX6_operatorOf.cls ∈ TB := tb_of (tbl1 (List.mem_of_getElem? (i := 7) (by decide +kernel))) rfl
theorem wM_X6_operatorOf : Cond.instanceMethod yX6_operatorOf ∈ TB := tb_of (tbl4 (List.mem_of_getElem? (i := 104) (by decide +kernel))) rfl
theorem wS_X6_operatorOf : Cond.selects yX6_operatorOf.cls yX6_operatorOf yX6_operatorOf ∈ TB := tb_of (tbl4 (List.mem_of_getElem? (i := 105) (by decide +kernel))) rfl
theorem vL_73 : ZV RL 73 yX6_operatorOf cX6_operatorOf 2 (some .int) 1 := ⟨List.forall_mem_cons.mpr ⟨(tb_of (tbl4 (List.mem_of_getElem? (i := 103) (by decide +kernel))) rfl), List.forall_mem_cons.mpr ⟨wM_X6_operatorOf, List.forall_mem_cons.mpr ⟨wS_X6_operatorOf, List.forall_mem_cons.mpr ⟨wI_X6_operatorOf, List.forall_mem_cons.mpr ⟨wC_X6_operatorOf, fun _ h => absurd h List.not_mem_nil⟩⟩⟩⟩⟩, by decide +kernel, by decide⟩
theorem wC_X5_letterOf : Cond.code yX5_letterOf cX5_letterOf 3 (some .int) ∈ TB := tb_of (tbl2 (List.mem_of_getElem? (i := 95) (by decide +kernel))) rfl
theorem wI_X5_letterOf : Cond.initialized yX5_letterOf.cls ∈ TB := tb_of (tbl1 (List.mem_of_getElem? (i := 1) (by decide +kernel))) rfl
theorem wM_X5_letterOf : Cond.instanceMethod yX5_letterOf ∈ TB := tb_of (tbl2 (List.mem_of_getElem? (i := 93) (by decide +kernel))) rfl
theorem wS_X5_letterOf : Cond.selects yX5_letterOf.cls yX5_letterOf yX5_letterOf ∈ TB := tb_of (tbl2 (List.mem_of_getElem? (i := 94) (by decide +kernel))) rfl
theorem vL_74 : ZV RL 74 yX5_letterOf cX5_letterOf 3 (some .int) 1 := ⟨List.forall_mem_cons.mpr ⟨(tb_of (tbl2 (List.mem_of_getElem? (i := 92) (by decide +kernel))) rfl), List.forall_mem_cons.mpr ⟨wM_X5_letterOf, List.forall_mem_cons.mpr ⟨wS_X5_letterOf, List.forall_mem_cons.mpr ⟨wI_X5_letterOf, List.forall_mem_cons.mpr ⟨wC_X5_letterOf, fun _ h => absurd h List.not_mem_nil⟩⟩⟩⟩⟩, by decide +kernel, by decide⟩
theorem wC_X6_letterOf : Cond.code yX6_letterOf cX6_letterOf 2 (some .int) ∈ TB := tb_of (tbl4 (List.mem_of_getElem? (i := 110) (by decide +kernel))) rfl
theorem wI_X6_letterOf : Cond.initialized yX6_letterOf.cls ∈ TB := tb_of (tbl1 (List.mem_of_getElem? (i := 7) (by decide +kernel))) rfl
theorem wM_X6_letterOf : Cond.instanceMethod yX6_letterOf ∈ TB := tb_of (tbl4 (List.mem_of_getElem? (i := 108) (by decide +kernel))) rfl
theorem wS_X6_letterOf : Cond.selects yX6_letterOf.cls yX6_letterOf yX6_letterOf ∈ TB := tb_of (tbl4 (List.mem_of_getElem? (i := 109) (by decide +kernel))) rfl
theorem vL_77 : ZV RL 77 yX6_letterOf cX6_letterOf 2 (some .int) 1 := ⟨List.forall_mem_cons.mpr ⟨(tb_of (tbl4 (List.mem_of_getElem? (i := 107) (by decide +kernel))) rfl), List.forall_mem_cons.mpr ⟨wM_X6_letterOf, List.forall_mem_cons.mpr ⟨wS_X6_letterOf, List.forall_mem_cons.mpr ⟨wI_X6_letterOf, List.forall_mem_cons.mpr ⟨wC_X6_letterOf, fun _ h => absurd h List.not_mem_nil⟩⟩⟩⟩⟩, by decide +kernel, by decide⟩
theorem wC_X5_operand : Cond.code yX5_operand cX5_operand 4 (some .int) ∈ TB := tb_of (tbl2 (List.mem_of_getElem? (i := 103) (by decide +kernel))) rfl
theorem wI_X5_operand : Cond.initialized yX5_operand.cls ∈ TB := tb_of (tbl1 (List.mem_of_getElem? (i := 1) (by decide +kernel))) rfl
theorem wM_X5_operand : Cond.instanceMethod yX5_operand ∈ TB := tb_of (tbl2 (List.mem_of_getElem? (i := 101) (by decide +kernel))) rfl
theorem wS_X5_operand : Cond.selects yX5_operand.cls yX5_operand yX5_operand ∈ TB := tb_of (tbl2 (List.mem_of_getElem? (i := 102) (by decide +kernel))) rfl
theorem vL_78 : ZV RL 78 yX5_operand cX5_operand 4 (some .int) 2 := ⟨List.forall_mem_cons.mpr ⟨(tb_of (tbl2 (List.mem_of_getElem? (i := 100) (by decide +kernel))) rfl), List.forall_mem_cons.mpr ⟨wM_X5_operand, List.forall_mem_cons.mpr ⟨wS_X5_operand, List.forall_mem_cons.mpr ⟨wI_X5_operand, List.forall_mem_cons.mpr ⟨wC_X5_operand, fun _ h => absurd h List.not_mem_nil⟩⟩⟩⟩⟩, by decide +kernel, by decide⟩
theorem wC_X6_operand : Cond.code yX6_operand cX6_operand 3 (some .int) ∈ TB := tb_of (tbl4 (List.mem_of_getElem? (i := 114) (by decide +kernel))) rfl
theorem wI_X6_operand : Cond.initialized yX6_operand.cls ∈ TB := tb_of (tbl1 (List.mem_of_getElem? (i := 7) (by decide +kernel))) rfl
theorem wM_X6_operand : Cond.instanceMethod yX6_operand ∈ TB := tb_of (tbl4 (List.mem_of_getElem? (i := 112) (by decide +kernel))) rfl
theorem wS_X6_operand : Cond.selects yX6_operand.cls yX6_operand yX6_operand ∈ TB := tb_of (tbl4 (List.mem_of_getElem? (i := 113) (by decide +kernel))) rfl
theorem vL_81 : ZV RL 81 yX6_operand cX6_operand 3 (some .int) 2 := ⟨List.forall_mem_cons.mpr ⟨(tb_of (tbl4 (List.mem_of_getElem? (i := 111) (by decide +kernel))) rfl), List.forall_mem_cons.mpr ⟨wM_X6_operand, List.forall_mem_cons.mpr ⟨wS_X6_operand, List.forall_mem_cons.mpr ⟨wI_X6_operand, List.forall_mem_cons.mpr ⟨wC_X6_operand, fun _ h => absurd h List.not_mem_nil⟩⟩⟩⟩⟩, by decide +kernel, by decide⟩
theorem wC_X5_size : Cond.code yX5_size cX5_size 2 (some .int) ∈ TB := tb_of (tbl2 (List.mem_of_getElem? (i := 119) (by decide +kernel))) rfl
theorem wI_X5_size : Cond.initialized yX5_size.cls ∈ TB := tb_of (tbl1 (List.mem_of_getElem? (i := 1) (by decide +kernel))) rfl
theorem wM_X5_size : Cond.instanceMethod yX5_size ∈ TB := tb_of (tbl2 (List.mem_of_getElem? (i := 117) (by decide +kernel))) rfl
theorem wS_X5_size : Cond.selects yX5_size.cls yX5_size yX5_size ∈ TB := tb_of (tbl2 (List.mem_of_getElem? (i := 118) (by decide +kernel))) rfl
theorem vL_82 : ZV RL 82 yX5_size cX5_size 2 (some .int) 1 := ⟨List.forall_mem_cons.mpr ⟨(tb_of (tbl2 (List.mem_of_getElem? (i := 116) (by decide +kernel))) rfl), List.forall_mem_cons.mpr ⟨wM_X5_size, List.forall_mem_cons.mpr ⟨wS_X5_size, List.forall_mem_cons.mpr ⟨wI_X5_size, List.forall_mem_cons.mpr ⟨wC_X5_size, fun _ h => absurd h List.not_mem_nil⟩⟩⟩⟩⟩, by decide +kernel, by decide⟩
theorem wC_X6_size : Cond.code yX6_size cX6_size 2 (some .int) ∈ TB := tb_of (tbl4 (List.mem_of_getElem? (i := 118) (by decide +kernel))) rfl
theorem wI_X6_size : Cond.initialized yX6_size.cls ∈ TB := tb_of (tbl1 (List.mem_of_getElem? (i := 7) (by decide +kernel))) rfl
theorem wM_X6_size : Cond.instanceMethod yX6_size ∈ TB := tb_of (tbl4 (List.mem_of_getElem? (i := 116) (by decide +kernel))) rfl
theorem wS_X6_size : Cond.selects yX6_size.cls yX6_size yX6_size ∈ TB := tb_of (tbl4 (List.mem_of_getElem? (i := 117) (by decide +kernel))) rfl
theorem vL_85 : ZV RL 85 yX6_size cX6_size 2 (some .int) 1 := ⟨List.forall_mem_cons.mpr ⟨(tb_of (tbl4 (List.mem_of_getElem? (i := 115) (by decide +kernel))) rfl), List.forall_mem_cons.mpr ⟨wM_X6_size, List.forall_mem_cons.mpr ⟨wS_X6_size, List.forall_mem_cons.mpr ⟨wI_X6_size, List.forall_mem_cons.mpr ⟨wC_X6_size, fun _ h => absurd h List.not_mem_nil⟩⟩⟩⟩⟩, by decide +kernel, by decide⟩
theorem wC_X5_areEqual : Cond.code yX5_areEqual cX5_areEqual 3 (some .int) ∈ TB := tb_of (tbl2 (List.mem_of_getElem? (i := 123) (by decide +kernel))) rfl
theorem wI_X5_areEqual : Cond.initialized yX5_areEqual.cls ∈ TB := tb_of (tbl1 (List.mem_of_getElem? (i := 1) (by decide +kernel))) rfl
theorem wM_X5_areEqual : Cond.instanceMethod yX5_areEqual ∈ TB := tb_of (tbl2 (List.mem_of_getElem? (i := 121) (by decide +kernel))) rfl
theorem wS_X5_areEqual : Cond.selects yX5_areEqual.cls yX5_areEqual yX5_areEqual ∈ TB := tb_of (tbl2 (List.mem_of_getElem? (i := 122) (by decide +kernel))) rfl
theorem vL_86 : ZV RL 86 yX5_areEqual cX5_areEqual 3 (some .int) 2 := ⟨List.forall_mem_cons.mpr ⟨(tb_of (tbl2 (List.mem_of_getElem? (i := 120) (by decide +kernel))) rfl), List.forall_mem_cons.mpr ⟨wM_X5_areEqual, List.forall_mem_cons.mpr ⟨wS_X5_areEqual, List.forall_mem_cons.mpr ⟨wI_X5_areEqual, List.forall_mem_cons.mpr ⟨wC_X5_areEqual, fun _ h => absurd h List.not_mem_nil⟩⟩⟩⟩⟩, by decide +kernel, by decide⟩
theorem wC_X6_areEqual : Cond.code yX6_areEqual cX6_areEqual 6 (some .int) ∈ TB := tb_of (tbl4 (List.mem_of_getElem? (i := 122) (by decide +kernel))) rfl
theorem wI_X6_areEqual : Cond.initialized yX6_areEqual.cls ∈ TB := tb_of (tbl1 (List.mem_of_getElem? (i := 7) (by decide +kernel))) rfl
theorem wM_X6_areEqual : Cond.instanceMethod yX6_areEqual ∈ TB := tb_of (tbl4 (List.mem_of_getElem? (i := 120) (by decide +kernel))) rfl
theorem wS_X6_areEqual : Cond.selects yX6_areEqual.cls yX6_areEqual yX6_areEqual ∈ TB := tb_of (tbl4 (List.mem_of_getElem? (i := 121) (by decide +kernel))) rfl
theorem vL_89 : ZV RL 89 yX6_areEqual cX6_areEqual 6 (some .int) 2 := ⟨List.forall_mem_cons.mpr ⟨(tb_of (tbl4 (List.mem_of_getElem? (i := 119) (by decide +kernel))) rfl), List.forall_mem_cons.mpr ⟨wM_X6_areEqual, List.forall_mem_cons.mpr ⟨wS_X6_areEqual, List.forall_mem_cons.mpr ⟨wI_X6_areEqual, List.forall_mem_cons.mpr ⟨wC_X6_areEqual, fun _ h => absurd h List.not_mem_nil⟩⟩⟩⟩⟩, by decide +kernel, by decide⟩
theorem wC_X5_print : Cond.code yX5_print cX5_print 2 (some .int) ∈ TB := tb_of (tbl2 (List.mem_of_getElem? (i := 132) (by decide +kernel))) rfl
theorem wI_X5_print : Cond.initialized yX5_print.cls ∈ TB := tb_of (tbl1 (List.mem_of_getElem? (i := 1) (by decide +kernel))) rfl
theorem wM_X5_print : Cond.instanceMethod yX5_print ∈ TB := tb_of (tbl2 (List.mem_of_getElem? (i := 130) (by decide +kernel))) rfl
theorem wS_X5_print : Cond.selects yX5_print.cls yX5_print yX5_print ∈ TB := tb_of (tbl2 (List.mem_of_getElem? (i := 131) (by decide +kernel))) rfl
theorem vL_90 : ZV RL 90 yX5_print cX5_print 2 (some .int) 1 := ⟨List.forall_mem_cons.mpr ⟨(tb_of (tbl2 (List.mem_of_getElem? (i := 129) (by decide +kernel))) rfl), List.forall_mem_cons.mpr ⟨wM_X5_print, List.forall_mem_cons.mpr ⟨wS_X5_print, List.forall_mem_cons.mpr ⟨wI_X5_print, List.forall_mem_cons.mpr ⟨wC_X5_print, fun _ h => absurd h List.not_mem_nil⟩⟩⟩⟩⟩, by decide +kernel, by decide⟩
theorem wC_X6_print : Cond.code yX6_print cX6_print 2 (some .int) ∈ TB := tb_of (tbl4 (List.mem_of_getElem? (i := 126) (by decide +kernel))) rfl
theorem wI_X6_print : Cond.initialized yX6_print.cls ∈ TB := tb_of (tbl1 (List.mem_of_getElem? (i := 7) (by decide +kernel))) rfl
theorem wM_X6_print : Cond.instanceMethod yX6_print ∈ TB := tb_of (tbl4 (List.mem_of_getElem? (i := 124) (by decide +kernel))) rfl
theorem wS_X6_print : Cond.selects yX6_print.cls yX6_print yX6_print ∈ TB := tb_of (tbl4 (List.mem_of_getElem? (i := 125) (by decide +kernel))) rfl
theorem vL_93 : ZV RL 93 yX6_print cX6_print 2 (some .int) 1 := ⟨List.forall_mem_cons.mpr ⟨(tb_of (tbl4 (List.mem_of_getElem? (i := 123) (by decide +kernel))) rfl), List.forall_mem_cons.mpr ⟨wM_X6_print, List.forall_mem_cons.mpr ⟨wS_X6_print, List.forall_mem_cons.mpr ⟨wI_X6_print, List.forall_mem_cons.mpr ⟨wC_X6_print, fun _ h => absurd h List.not_mem_nil⟩⟩⟩⟩⟩, by decide +kernel, by decide⟩
theorem wC_X5_printFull : Cond.code yX5_printFull cX5_printFull 2 (some .int) ∈ TB := tb_of (tbl2 (List.mem_of_getElem? (i := 217) (by decide +kernel))) rfl
theorem wI_X5_printFull : Cond.initialized yX5_printFull.cls ∈ TB := tb_of (tbl1 (List.mem_of_getElem? (i := 1) (by decide +kernel))) rfl
theorem wM_X5_printFull : Cond.instanceMethod yX5_printFull ∈ TB := tb_of (tbl2 (List.mem_of_getElem? (i := 215) (by decide +kernel))) rfl
theorem wS_X5_printFull : Cond.selects yX5_printFull.cls yX5_printFull yX5_printFull ∈ TB := tb_of (tbl2 (List.mem_of_getElem? (i := 216) (by decide +kernel))) rfl
theorem vL_94 : ZV RL 94 yX5_printFull cX5_printFull 2 (some .int) 1 := ⟨List.forall_mem_cons.mpr ⟨(tb_of (tbl2 (List.mem_of_getElem? (i := 214) (by decide +kernel))) rfl), List.forall_mem_cons.mpr ⟨wM_X5_printFull, List.forall_mem_cons.mpr ⟨wS_X5_printFull, List.forall_mem_cons.mpr ⟨wI_X5_printFull, List.forall_mem_cons.mpr ⟨wC_X5_printFull, fun _ h => absurd h List.not_mem_nil⟩⟩⟩⟩⟩, by decide +kernel, by decide⟩
theorem wC_X6_printFull : Cond.code yX6_printFull cX6_printFull 2 (some .int) ∈ TB := tb_of (tbl4 (List.mem_of_getElem? (i := 185) (by decide +kernel))) rfl
theorem wI_X6_printFull : Cond.initialized yX6_printFull.cls ∈ TB := tb_of (tbl1 (List.mem_of_getElem? (i := 7) (by decide +kernel))) rfl
theorem wM_X6_printFull : Cond.instanceMethod yX6_printFull ∈ TB := tb_of (tbl4 (List.mem_of_getElem? (i := 183) (by decide +kernel))) rfl
theorem wS_X6_printFull : Cond.selects yX6_printFull.cls yX6_printFull yX6_printFull ∈ TB := tb_of (tbl4 (List.mem_of_getElem? (i := 184) (by decide +kernel))) rfl
theorem vL_97 : ZV RL 97 yX6_printFull cX6_printFull 2 (some .int) 1 := ⟨List.forall_mem_cons.mpr ⟨(tb_of (tbl4 (List.mem_of_getElem? (i := 182) (by decide +kernel))) rfl), List.forall_mem_cons.mpr ⟨wM_X6_printFull, List.forall_mem_cons.mpr ⟨wS_X6_printFull, List.forall_mem_cons.mpr ⟨wI_X6_printFull, List.forall_mem_cons.mpr ⟨wC_X6_printFull, fun _ h => absurd h List.not_mem_nil⟩⟩⟩⟩⟩, by decide +kernel, by decide⟩
theorem wC_X5_outputAt : Cond.code yX5_outputAt cX5_outputAt 3 (some .int) ∈ TB := tb_of (tbl2 (List.mem_of_getElem? (i := 221) (by decide +kernel))) rfl
theorem wI_X5_outputAt : Cond.initialized yX5_outputAt.cls ∈ TB := tb_of (tbl1 (List.mem_of_getElem? (i := 1) (by decide +kernel))) rfl
theorem wM_X5_outputAt : Cond.instanceMethod yX5_outputAt ∈ TB := tb_of (tbl2 (List.mem_of_getElem? (i := 219) (by decide +kernel))) rfl
theorem wS_X5_outputAt : Cond.selects yX5_outputAt.cls yX5_outputAt yX5_outputAt ∈ TB := tb_of (tbl2 (List.mem_of_getElem? (i := 220) (by decide +kernel))) rfl
theorem vL_98 : ZV RL 98 yX5_outputAt cX5_outputAt 3 (some .int) 1 := ⟨List.forall_mem_cons.mpr ⟨(tb_of (tbl2 (List.mem_of_getElem? (i := 218) (by decide +kernel))) rfl), List.forall_mem_cons.mpr ⟨wM_X5_outputAt, List.forall_mem_cons.mpr ⟨wS_X5_outputAt, List.forall_mem_cons.mpr ⟨wI_X5_outputAt, List.forall_mem_cons.mpr ⟨wC_X5_outputAt, fun _ h => absurd h List.not_mem_nil⟩⟩⟩⟩⟩, by decide +kernel, by decide⟩
theorem wC_X6_outputAt : Cond.code yX6_outputAt cX6_outputAt 2 (some .int) ∈ TB := tb_of (tbl4 (List.mem_of_getElem? (i := 189) (by decide +kernel))) rfl
theorem wI_X6_outputAt : Cond.initialized yX6_outputAt.cls ∈ TB := tb_of (tbl1 (List.mem_of_getElem? (i := 7) (by decide +kernel))) rfl
theorem wM_X6_outputAt : Cond.instanceMethod yX6_outputAt ∈ TB := tb_of (tbl4 (List.mem_of_getElem? (i := 187) (by decide +kernel))) rfl
theorem wS_X6_outputAt : Cond.selects yX6_outputAt.cls yX6_outputAt yX6_outputAt ∈ TB := tb_of (tbl4 (List.mem_of_getElem? (i := 188) (by decide +kernel))) rfl
theorem vL_101 : ZV RL 101 yX6_outputAt cX6_outputAt 2 (some .int) 1 := ⟨List.forall_mem_cons.mpr ⟨(tb_of (tbl4 (List.mem_of_getElem? (i := 186) (by decide +kernel))) rfl), List.forall_mem_cons.mpr ⟨wM_X6_outputAt, List.forall_mem_cons.mpr ⟨wS_X6_outputAt, List.forall_mem_cons.mpr ⟨wI_X6_outputAt, List.forall_mem_cons.mpr ⟨wC_X6_outputAt, fun _ h => absurd h List.not_mem_nil⟩⟩⟩⟩⟩, by decide +kernel, by decide⟩
theorem wC_X5_bracketPairs : Cond.code yX5_bracketPairs cX5_bracketPairs 1 (some .int) ∈ TB := tb_of (tbl2 (List.mem_of_getElem? (i := 229) (by decide +kernel))) rfl
theorem wI_X5_bracketPairs : Cond.initialized yX5_bracketPairs.cls ∈ TB := tb_of (tbl1 (List.mem_of_getElem? (i := 1) (by decide +kernel))) rfl
theorem wM_X5_bracketPairs : Cond.instanceMethod yX5_bracketPairs ∈ TB := tb_of (tbl2 (List.mem_of_getElem? (i := 227) (by decide +kernel))) rfl
theorem wS_X5_bracketPairs : Cond.selects yX5_bracketPairs.cls yX5_bracketPairs yX5_bracketPairs ∈ TB := tb_of (tbl2 (List.mem_of_getElem? (i := 228) (by decide +kernel))) rfl
theorem vL_102 : ZV RL 102 yX5_bracketPairs cX5_bracketPairs 1 (some .int) 0 := ⟨List.forall_mem_cons.mpr ⟨(tb_of (tbl2 (List.mem_of_getElem? (i := 226) (by decide +kernel))) rfl), List.forall_mem_cons.mpr ⟨wM_X5_bracketPairs, List.forall_mem_cons.mpr ⟨wS_X5_bracketPairs, List.forall_mem_cons.mpr ⟨wI_X5_bracketPairs, List.forall_mem_cons.mpr ⟨wC_X5_bracketPairs, fun _ h => absurd h List.not_mem_nil⟩⟩⟩⟩⟩, by decide +kernel, by decide⟩
theorem wC_X6_bracketPairs : Cond.code yX6_bracketPairs cX6_bracketPairs 3 (some .int) ∈ TB := tb_of (tbl4 (List.mem_of_getElem? (i := 193) (by decide +kernel))) rfl
theorem wI_X6_bracketPairs : Cond.initialized yX6_bracketPairs.cls ∈ TB := tb_of (tbl1 (List.mem_of_getElem? (i := 7) (by decide +kernel))) rfl
theorem wM_X6_bracketPairs : Cond.instanceMethod yX6_bracketPairs ∈ TB := tb_of (tbl4 (List.mem_of_getElem? (i := 191) (by decide +kernel))) rfl
theorem wS_X6_bracketPairs : Cond.selects yX6_bracketPairs.cls yX6_bracketPairs yX6_bracketPairs ∈ TB := tb_of (tbl4 (List.mem_of_getElem? (i := 192) (by decide +kernel))) rfl
theorem vL_105 : ZV RL 105 yX6_bracketPairs cX6_bracketPairs 3 (some .int) 0 := ⟨List.forall_mem_cons.mpr ⟨(tb_of (tbl4 (List.mem_of_getElem? (i := 190) (by decide +kernel))) rfl), List.forall_mem_cons.mpr ⟨wM_X6_bracketPairs, List.forall_mem_cons.mpr ⟨wS_X6_bracketPairs, List.forall_mem_cons.mpr ⟨wI_X6_bracketPairs, List.forall_mem_cons.mpr ⟨wC_X6_bracketPairs, fun _ h => absurd h List.not_mem_nil⟩⟩⟩⟩⟩, by decide +kernel, by decide⟩
theorem wC_X5_readWithout : Cond.code yX5_readWithout cX5_readWithout 2 (some .int) ∈ TB := tb_of (tbl2 (List.mem_of_getElem? (i := 237) (by decide +kernel))) rfl
theorem wI_X5_readWithout : Cond.initialized yX5_readWithout.cls ∈ TB := tb_of (tbl1 (List.mem_of_getElem? (i := 1) (by decide +kernel))) rfl
theorem wM_X5_readWithout : Cond.instanceMethod yX5_readWithout ∈ TB := tb_of (tbl2 (List.mem_of_getElem? (i := 235) (by decide +kernel))) rfl
theorem wS_X5_readWithout : Cond.selects yX5_readWithout.cls yX5_readWithout yX5_readWithout ∈ TB := tb_of (tbl2 (List.mem_of_getElem? (i := 236) (by decide +kernel))) rfl
theorem vL_106 : ZV RL 106 yX5_readWithout cX5_readWithout 2 (some .int) 1 := ⟨List.forall_mem_cons.mpr ⟨(tb_of (tbl2 (List.mem_of_getElem? (i := 234) (by decide +kernel))) rfl), List.forall_mem_cons.mpr ⟨wM_X5_readWithout, List.forall_mem_cons.mpr ⟨wS_X5_readWithout, List.forall_mem_cons.mpr ⟨wI_X5_readWithout, List.forall_mem_cons.mpr ⟨wC_X5_readWithout, fun _ h => absurd h List.not_mem_nil⟩⟩⟩⟩⟩, by decide +kernel, by decide⟩
theorem wC_X6_readWithout : Cond.code yX6_readWithout cX6_readWithout 5 (some .int) ∈ TB := tb_of (tbl4 (List.mem_of_getElem? (i := 197) (by decide +kernel))) rfl
theorem wI_X6_readWithout : Cond.initialized yX6_readWithout.cls ∈ TB := tb_of (tbl1 (List.mem_of_getElem? (i := 7) (by decide +kernel))) rfl
theorem wM_X6_readWithout : Cond.instanceMethod yX6_readWithout ∈ TB := tb_of (tbl4 (List.mem_of_getElem? (i := 195) (by decide +kernel))) rfl
theorem wS_X6_readWithout : Cond.selects yX6_readWithout.cls yX6_readWithout yX6_readWithout ∈ TB := tb_of (tbl4 (List.mem_of_getElem? (i := 196) (by decide +kernel))) rfl
theorem vL_109 : ZV RL 109 yX6_readWithout cX6_readWithout 5 (some .int) 1 := ⟨List.forall_mem_cons.mpr ⟨(tb_of (tbl4 (List.mem_of_getElem? (i := 194) (by decide +kernel))) rfl), List.forall_mem_cons.mpr ⟨wM_X6_readWithout, List.forall_mem_cons.mpr ⟨wS_X6_readWithout, List.forall_mem_cons.mpr ⟨wI_X6_readWithout, List.forall_mem_cons.mpr ⟨wC_X6_readWithout, fun _ h => absurd h List.not_mem_nil⟩⟩⟩⟩⟩, by decide +kernel, by decide⟩
theorem wC_X5_append : Cond.code yX5_append cX5_append 2 (some .int) ∈ TB := tb_of (tbl3 (List.mem_of_getElem? (i := 96) (by decide +kernel))) rfl
theorem wI_X5_append : Cond.initialized yX5_append.cls ∈ TB := tb_of (tbl1 (List.mem_of_getElem? (i := 1) (by decide +kernel))) rfl
theorem wM_X5_append : Cond.instanceMethod yX5_append ∈ TB := tb_of (tbl3 (List.mem_of_getElem? (i := 94) (by decide +kernel))) rfl
theorem wS_X5_append : Cond.selects yX5_append.cls yX5_append yX5_append ∈ TB := tb_of (tbl3 (List.mem_of_getElem? (i := 95) (by decide +kernel))) rfl
theorem vL_110 : ZV RL 110 yX5_append cX5_append 2 (some .int) 1 := ⟨List.forall_mem_cons.mpr ⟨(tb_of (tbl3 (List.mem_of_getElem? (i := 93) (by decide +kernel))) rfl), List.forall_mem_cons.mpr ⟨wM_X5_append, List.forall_mem_cons.mpr ⟨wS_X5_append, List.forall_mem_cons.mpr ⟨wI_X5_append, List.forall_mem_cons.mpr ⟨wC_X5_append, fun _ h => absurd h List.not_mem_nil⟩⟩⟩⟩⟩, by decide +kernel, by decide⟩
theorem wC_X6_append : Cond.code yX6_append cX6_append 2 (some .int) ∈ TB := tb_of (tbl5 (List.mem_of_getElem? (i := 14) (by decide +kernel))) rfl
theorem wI_X6_append : Cond.initialized yX6_append.cls ∈ TB := tb_of (tbl1 (List.mem_of_getElem? (i := 7) (by decide +kernel))) rfl
theorem wM_X6_append : Cond.instanceMethod yX6_append ∈ TB := tb_of (tbl5 (List.mem_of_getElem? (i := 12) (by decide +kernel))) rfl
theorem wS_X6_append : Cond.selects yX6_append.cls yX6_append yX6_append ∈ TB := tb_of (tbl5 (List.mem_of_getElem? (i := 13) (by decide +kernel))) rfl
theorem vL_113 : ZV RL 113 yX6_append cX6_append 2 (some .int) 1 := ⟨List.forall_mem_cons.mpr ⟨(tb_of (tbl5 (List.mem_of_getElem? (i := 11) (by decide +kernel))) rfl), List.forall_mem_cons.mpr ⟨wM_X6_append, List.forall_mem_cons.mpr ⟨wS_X6_append, List.forall_mem_cons.mpr ⟨wI_X6_append, List.forall_mem_cons.mpr ⟨wC_X6_append, fun _ h => absurd h List.not_mem_nil⟩⟩⟩⟩⟩, by decide +kernel, by decide⟩
theorem wC_X5_copyOutput : Cond.code yX5_copyOutput cX5_copyOutput 1 (some .int) ∈ TB := tb_of (tbl3 (List.mem_of_getElem? (i := 101) (by decide +kernel))) rfl
theorem wI_X5_copyOutput : Cond.initialized yX5_copyOutput.cls ∈ TB := tb_of (tbl1 (List.mem_of_getElem? (i := 1) (by decide +kernel))) rfl
theorem wM_X5_copyOutput : Cond.instanceMethod yX5_copyOutput ∈ TB := tb_of (tbl3 (List.mem_of_getElem? (i := 99) (by decide +kernel))) rfl
theorem wS_X5_copyOutput : Cond.selects yX5_copyOutput.cls yX5_copyOutput yX5_copyOutput ∈ TB := tb_of (tbl3 (List.mem_of_getElem? (i := 100) (by decide +kernel))) rfl
theorem vL_114 : ZV RL 114 yX5_copyOutput cX5_copyOutput 1 (some .int) 0 := ⟨List.forall_mem_cons.mpr ⟨(tb_of (tbl3 (List.mem_of_getElem? (i := 98) (by decide +kernel))) rfl), List.forall_mem_cons.mpr ⟨wM_X5_copyOutput, List.forall_mem_cons.mpr ⟨wS_X5_copyOutput, List.forall_mem_cons.mpr ⟨wI_X5_copyOutput, List.forall_mem_cons.mpr ⟨wC_X5_copyOutput, fun _ h => absurd h List.not_mem_nil⟩⟩⟩⟩⟩, by decide +kernel, by decide⟩
theorem wC_X6_copyOutput : Cond.code yX6_copyOutput cX6_copyOutput 2 (some .int) ∈ TB := tb_of (tbl5 (List.mem_of_getElem? (i := 18) (by decide +kernel))) rfl
theorem wI_X6_copyOutput : Cond.initialized yX6_copyOutput.cls ∈ TB := tb_of (tbl1 (List.mem_of_getElem? (i := 7) (by decide +kernel))) rfl
theorem wM_X6_copyOutput : Cond.instanceMethod yX6_copyOutput ∈ TB := tb_of (tbl5 (List.mem_of_getElem? (i := 16) (by decide +kernel))) rfl
theorem wS_X6_copyOutput : Cond.selects yX6_copyOutput.cls yX6_copyOutput yX6_copyOutput ∈ TB := tb_of (tbl5 (List.mem_of_getElem? (i := 17) (by decide +kernel))) rfl
theorem vL_117 : ZV RL 117 yX6_copyOutput cX6_copyOutput 2 (some .int) 0 := ⟨List.forall_mem_cons.mpr ⟨(tb_of (tbl5 (List.mem_of_getElem? (i := 15) (by decide +kernel))) rfl), List.forall_mem_cons.mpr ⟨wM_X6_copyOutput, List.forall_mem_cons.mpr ⟨wS_X6_copyOutput, List.forall_mem_cons.mpr ⟨wI_X6_copyOutput, List.forall_mem_cons.mpr ⟨wC_X6_copyOutput, fun _ h => absurd h List.not_mem_nil⟩⟩⟩⟩⟩, by decide +kernel, by decide⟩
theorem wC_X5_clearInput : Cond.code yX5_clearInput cX5_clearInput 2 (some .int) ∈ TB := tb_of (tbl3 (List.mem_of_getElem? (i := 109) (by decide +kernel))) rfl
theorem wI_X5_clearInput : Cond.initialized yX5_clearInput.cls ∈ TB := tb_of (tbl1 (List.mem_of_getElem? (i := 1) (by decide +kernel))) rfl
theorem wM_X5_clearInput : Cond.instanceMethod yX5_clearInput ∈ TB := tb_of (tbl3 (List.mem_of_getElem? (i := 107) (by decide +kernel))) rfl
theorem wS_X5_clearInput : Cond.selects yX5_clearInput.cls yX5_clearInput yX5_clearInput ∈ TB := tb_of (tbl3 (List.mem_of_getElem? (i := 108) (by decide +kernel))) rfl
theorem vL_118 : ZV RL 118 yX5_clearInput cX5_clearInput 2 (some .int) 0 := ⟨List.forall_mem_cons.mpr ⟨(tb_of (tbl3 (List.mem_of_getElem? (i := 106) (by decide +kernel))) rfl), List.forall_mem_cons.mpr ⟨wM_X5_clearInput, List.forall_mem_cons.mpr ⟨wS_X5_clearInput, List.forall_mem_cons.mpr ⟨wI_X5_clearInput, List.forall_mem_cons.mpr ⟨wC_X5_clearInput, fun _ h => absurd h List.not_mem_nil⟩⟩⟩⟩⟩, by decide +kernel, by decide⟩
theorem wC_X6_clearInput : Cond.code yX6_clearInput cX6_clearInput 2 (some .int) ∈ TB := tb_of (tbl5 (List.mem_of_getElem? (i := 22) (by decide +kernel))) rfl
theorem wI_X6_clearInput : Cond.initialized yX6_clearInput.cls ∈ TB := tb_of (tbl1 (List.mem_of_getElem? (i := 7) (by decide +kernel))) rfl
theorem wM_X6_clearInput : Cond.instanceMethod yX6_clearInput ∈ TB := tb_of (tbl5 (List.mem_of_getElem? (i := 20) (by decide +kernel))) rfl
theorem wS_X6_clearInput : Cond.selects yX6_clearInput.cls yX6_clearInput yX6_clearInput ∈ TB := tb_of (tbl5 (List.mem_of_getElem? (i := 21) (by decide +kernel))) rfl
theorem vL_121 : ZV RL 121 yX6_clearInput cX6_clearInput 2 (some .int) 0 := ⟨List.forall_mem_cons.mpr ⟨(tb_of (tbl5 (List.mem_of_getElem? (i := 19) (by decide +kernel))) rfl), List.forall_mem_cons.mpr ⟨wM_X6_clearInput, List.forall_mem_cons.mpr ⟨wS_X6_clearInput, List.forall_mem_cons.mpr ⟨wI_X6_clearInput, List.forall_mem_cons.mpr ⟨wC_X6_clearInput, fun _ h => absurd h List.not_mem_nil⟩⟩⟩⟩⟩, by decide +kernel, by decide⟩
theorem wC_X5_parse : Cond.code yX5_parse cX5_parse 1 (some .int) ∈ TB := tb_of (tbl3 (List.mem_of_getElem? (i := 113) (by decide +kernel))) rfl
theorem wI_X5_parse : Cond.initialized yX5_parse.cls ∈ TB := tb_of (tbl1 (List.mem_of_getElem? (i := 1) (by decide +kernel))) rfl
theorem wM_X5_parse : Cond.instanceMethod yX5_parse ∈ TB := tb_of (tbl3 (List.mem_of_getElem? (i := 111) (by decide +kernel))) rfl
theorem wS_X5_parse : Cond.selects yX5_parse.cls yX5_parse yX5_parse ∈ TB := tb_of (tbl3 (List.mem_of_getElem? (i := 112) (by decide +kernel))) rfl
theorem vL_122 : ZV RL 122 yX5_parse cX5_parse 1 (some .int) 0 := ⟨List.forall_mem_cons.mpr ⟨(tb_of (tbl3 (List.mem_of_getElem? (i := 110) (by decide +kernel))) rfl), List.forall_mem_cons.mpr ⟨wM_X5_parse, List.forall_mem_cons.mpr ⟨wS_X5_parse, List.forall_mem_cons.mpr ⟨wI_X5_parse, List.forall_mem_cons.mpr ⟨wC_X5_parse, fun _ h => absurd h List.not_mem_nil⟩⟩⟩⟩⟩, by decide +kernel, by decide⟩
theorem wC_X6_parse : Cond.code yX6_parse cX6_parse 6 (some .int) ∈ TB := tb_of (tbl5 (List.mem_of_getElem? (i := 26) (by decide +kernel))) rfl
theorem wI_X6_parse : Cond.initialized yX6_parse.cls ∈ TB := tb_of (tbl1 (List.mem_of_getElem? (i := 7) (by decide +kernel))) rfl
theorem wM_X6_parse : Cond.instanceMethod yX6_parse ∈ TB := tb_of (tbl5 (List.mem_of_getElem? (i := 24) (by decide +kernel))) rfl
theorem wS_X6_parse : Cond.selects yX6_parse.cls yX6_parse yX6_parse ∈ TB := tb_of (tbl5 (List.mem_of_getElem? (i := 25) (by decide +kernel))) rfl
theorem vL_125 : ZV RL 125 yX6_parse cX6_parse 6 (some .int) 0 := ⟨List.forall_mem_cons.mpr ⟨(tb_of (tbl5 (List.mem_of_getElem? (i := 23) (by decide +kernel))) rfl), List.forall_mem_cons.mpr ⟨wM_X6_parse, List.forall_mem_cons.mpr ⟨wS_X6_parse, List.forall_mem_cons.mpr ⟨wI_X6_parse, List.forall_mem_cons.mpr ⟨wC_X6_parse, fun _ h => absurd h List.not_mem_nil⟩⟩⟩⟩⟩, by decide +kernel, by decide⟩
theorem wC_X5_errorKind : Cond.code yX5_errorKind cX5_errorKind 1 (some .int) ∈ TB := tb_of (tbl3 (List.mem_of_getElem? (i := 133) (by decide +kernel))) rfl
theorem wI_X5_errorKind : Cond.initialized yX5_errorKind.cls ∈ TB := tb_of (tbl1 (List.mem_of_getElem? (i := 1) (by decide +kernel))) rfl
theorem wM_X5_errorKind : Cond.instanceMethod yX5_errorKind ∈ TB := tb_of (tbl3 (List.mem_of_getElem? (i := 131) (by decide +kernel))) rfl
theorem wS_X5_errorKind : Cond.selects yX5_errorKind.cls yX5_errorKind yX5_errorKind ∈ TB := tb_of (tbl3 (List.mem_of_getElem? (i := 132) (by decide +kernel))) rfl
theorem vL_126 : ZV RL 126 yX5_errorKind cX5_errorKind 1 (some .int) 0 := ⟨List.forall_mem_cons.mpr ⟨(tb_of (tbl3 (List.mem_of_getElem? (i := 130) (by decide +kernel))) rfl), List.forall_mem_cons.mpr ⟨wM_X5_errorKind, List.forall_mem_cons.mpr ⟨wS_X5_errorKind, List.forall_mem_cons.mpr ⟨wI_X5_errorKind, List.forall_mem_cons.mpr ⟨wC_X5_errorKind, fun _ h => absurd h List.not_mem_nil⟩⟩⟩⟩⟩, by decide +kernel, by decide⟩
theorem wC_X6_errorKind : Cond.code yX6_errorKind cX6_errorKind 1 (some .int) ∈ TB := tb_of (tbl5 (List.mem_of_getElem? (i := 30) (by decide +kernel))) rfl
theorem wI_X6_errorKind : Cond.initialized yX6_errorKind.cls ∈ TB := tb_of (tbl1 (List.mem_of_getElem? (i := 7) (by decide +kernel))) rfl
theorem wM_X6_errorKind : Cond.instanceMethod yX6_errorKind ∈ TB := tb_of (tbl5 (List.mem_of_getElem? (i := 28) (by decide +kernel))) rfl
theorem wS_X6_errorKind : Cond.selects yX6_errorKind.cls yX6_errorKind yX6_errorKind ∈ TB := tb_of (tbl5 (List.mem_of_getElem? (i := 29) (by decide +kernel))) rfl
theorem vL_129 : ZV RL 129 yX6_errorKind cX6_errorKind 1 (some .int) 0 := ⟨List.forall_mem_cons.mpr ⟨(tb_of (tbl5 (List.mem_of_getElem? (i := 27) (by decide +kernel))) rfl), List.forall_mem_cons.mpr ⟨wM_X6_errorKind, List.forall_mem_cons.mpr ⟨wS_X6_errorKind, List.forall_mem_cons.mpr ⟨wI_X6_errorKind, List.forall_mem_cons.mpr ⟨wC_X6_errorKind, fun _ h => absurd h List.not_mem_nil⟩⟩⟩⟩⟩, by decide +kernel, by decide⟩
theorem wC_X5_errorPosition : Cond.code yX5_errorPosition cX5_errorPosition 1 (some .int) ∈ TB := tb_of (tbl3 (List.mem_of_getElem? (i := 137) (by decide +kernel))) rfl
theorem wI_X5_errorPosition : Cond.initialized yX5_errorPosition.cls ∈ TB := tb_of (tbl1 (List.mem_of_getElem? (i := 1) (by decide +kernel))) rfl
theorem wM_X5_errorPosition : Cond.instanceMethod yX5_errorPosition ∈ TB := tb_of (tbl3 (List.mem_of_getElem? (i := 135) (by decide +kernel))) rfl
theorem wS_X5_errorPosition : Cond.selects yX5_errorPosition.cls yX5_errorPosition yX5_errorPosition ∈ TB := tb_of (tbl3 (List.mem_of_getElem? (i := 136) (by decide +kernel))) rfl
theorem vL_130 : ZV RL 130 yX5_errorPosition cX5_errorPosition 1 (some .int) 0 := ⟨List.forall_mem_cons.mpr ⟨(tb_of (tbl3 (List.mem_of_getElem? (i := 134) (by decide +kernel))) rfl), List.forall_mem_cons.mpr ⟨wM_X5_errorPosition, List.forall_mem_cons.mpr ⟨wS_X5_errorPosition, List.forall_mem_cons.mpr ⟨wI_X5_errorPosition, List.forall_mem_cons.mpr ⟨wC_X5_errorPosition, fun _ h => absurd h List.not_mem_nil⟩⟩⟩⟩⟩, by decide +kernel, by decide⟩
theorem wC_X6_errorPosition : Cond.code yX6_errorPosition cX6_errorPosition 1 (some .int) ∈ TB := tb_of (tbl5 (List.mem_of_getElem? (i := 34) (by decide +kernel))) rfl
theorem wI_X6_errorPosition : Cond.initialized yX6_errorPosition.cls ∈ TB := tb_of (tbl1 (List.mem_of_getElem? (i := 7) (by decide +kernel))) rfl
theorem wM_X6_errorPosition : Cond.instanceMethod yX6_errorPosition ∈ TB := tb_of (tbl5 (List.mem_of_getElem? (i := 32) (by decide +kernel))) rfl
theorem wS_X6_errorPosition : Cond.selects yX6_errorPosition.cls yX6_errorPosition yX6_errorPosition ∈ TB := tb_of (tbl5 (List.mem_of_getElem? (i := 33) (by decide +kernel))) rfl
theorem vL_133 : ZV RL 133 yX6_errorPosition cX6_errorPosition 1 (some .int) 0 := ⟨List.forall_mem_cons.mpr ⟨(tb_of (tbl5 (List.mem_of_getElem? (i := 31) (by decide +kernel))) rfl), List.forall_mem_cons.mpr ⟨wM_X6_errorPosition, List.forall_mem_cons.mpr ⟨wS_X6_errorPosition, List.forall_mem_cons.mpr ⟨wI_X6_errorPosition, List.forall_mem_cons.mpr ⟨wC_X6_errorPosition, fun _ h => absurd h List.not_mem_nil⟩⟩⟩⟩⟩, by decide +kernel, by decide⟩
theorem wC_X0_sizeAt : Cond.code yX0_sizeAt cX0_sizeAt 2 (some .int) ∈ TB := tb_of (tbl2 (List.mem_of_getElem? (i := 61) (by decide +kernel))) rfl
theorem wI_X0_sizeAt : Cond.initialized yX0_sizeAt.cls ∈ TB := tb_of (tbl1 (List.mem_of_getElem? (i := 3) (by decide +kernel))) rfl
theorem wM_X0_sizeAt : Cond.instanceMethod yX0_sizeAt ∈ TB := tb_of (tbl2 (List.mem_of_getElem? (i := 59) (by decide +kernel))) rfl
theorem wS_X0_sizeAt : Cond.selects yX0_sizeAt.cls yX0_sizeAt yX0_sizeAt ∈ TB := tb_of (tbl2 (List.mem_of_getElem? (i := 60) (by decide +kernel))) rfl
theorem vX0_31 : ZV RX0 31 yX0_sizeAt cX0_sizeAt 2 (some .int) 1 := ⟨List.forall_mem_cons.mpr ⟨(tb_of (tbl2 (List.mem_of_getElem? (i := 58) (by decide +kernel))) rfl), List.forall_mem_cons.mpr ⟨wM_X0_sizeAt, List.forall_mem_cons.mpr ⟨wS_X0_sizeAt, List.forall_mem_cons.mpr ⟨wI_X0_sizeAt, List.forall_mem_cons.mpr ⟨wC_X0_sizeAt, fun _ h => absurd h List.not_mem_nil⟩⟩⟩⟩⟩, by decide +kernel, by decide⟩
theorem wC_X0_shifted : Cond.code yX0_shifted cX0_shifted 2 (some .int) ∈ TB := tb_of (tbl3 (List.mem_of_getElem? (i := 128) (by decide +kernel))) rfl
theorem wI_X0_shifted : Cond.initialized yX0_shifted.cls ∈ TB := tb_of (tbl1 (List.mem_of_getElem? (i := 3) (by decide +kernel))) rfl
theorem wT_X0_shifted : Cond.static yX0_shifted ∈ TB := tb_of (tbl3 (List.mem_of_getElem? (i := 127) (by decide +kernel))) rfl
theorem vX0_35 : ZS RX0 35 yX0_shifted cX0_shifted 2 (some .int) 2 := ⟨List.forall_mem_cons.mpr ⟨(tb_of (tbl3 (List.mem_of_getElem? (i := 126) (by decide +kernel))) rfl), List.forall_mem_cons.mpr ⟨wT_X0_shifted, List.forall_mem_cons.mpr ⟨wI_X0_shifted, List.forall_mem_cons.mpr ⟨wC_X0_shifted, fun _ h => absurd h List.not_mem_nil⟩⟩⟩⟩, by decide +kernel, by decide⟩
theorem wC_X0_add : Cond.code yX0_add cX0_add 5 (some .int) ∈ TB := tb_of (tbl2 (List.mem_of_getElem? (i := 57) (by decide +kernel))) rfl
theorem wI_X0_add : Cond.initialized yX0_add.cls ∈ TB := tb_of (tbl1 (List.mem_of_getElem? (i := 3) (by decide +kernel))) rfl
theorem wM_X0_add : Cond.instanceMethod yX0_add ∈ TB := tb_of (tbl2 (List.mem_of_getElem? (i := 55) (by decide +kernel))) rfl
theorem wS_X0_add : Cond.selects yX0_add.cls yX0_add yX0_add ∈ TB := tb_of (tbl2 (List.mem_of_getElem? (i := 56) (by decide +kernel))) rfl
theorem vX0_39 : ZV RX0 39 yX0_add cX0_add 5 (some .int) 4 := ⟨List.forall_mem_cons.mpr ⟨(tb_of (tbl3 (List.mem_of_getElem? (i := 129) (by decide +kernel))) rfl), List.forall_mem_cons.mpr ⟨wM_X0_add, List.forall_mem_cons.mpr ⟨wS_X0_add, List.forall_mem_cons.mpr ⟨wI_X0_add, List.forall_mem_cons.mpr ⟨wC_X0_add, fun _ h => absurd h List.not_mem_nil⟩⟩⟩⟩⟩, by decide +kernel, by decide⟩
theorem wC_X0_has : Cond.code yX0_has cX0_has 2 (some .boolean) ∈ TB := tb_of (tbl2 (List.mem_of_getElem? (i := 65) (by decide +kernel))) rfl
theorem wI_X0_has : Cond.initialized yX0_has.cls ∈ TB := tb_of (tbl1 (List.mem_of_getElem? (i := 3) (by decide +kernel))) rfl
theorem wM_X0_has : Cond.instanceMethod yX0_has ∈ TB := tb_of (tbl2 (List.mem_of_getElem? (i := 63) (by decide +kernel))) rfl
theorem wS_X0_has : Cond.selects yX0_has.cls yX0_has yX0_has ∈ TB := tb_of (tbl2 (List.mem_of_getElem? (i := 64) (by decide +kernel))) rfl
theorem vX0_43 : ZV RX0 43 yX0_has cX0_has 2 (some .boolean) 1 := ⟨List.forall_mem_cons.mpr ⟨(tb_of (tbl2 (List.mem_of_getElem? (i := 62) (by decide +kernel))) rfl), List.forall_mem_cons.mpr ⟨wM_X0_has, List.forall_mem_cons.mpr ⟨wS_X0_has, List.forall_mem_cons.mpr ⟨wI_X0_has, List.forall_mem_cons.mpr ⟨wC_X0_has, fun _ h => absurd h List.not_mem_nil⟩⟩⟩⟩⟩, by decide +kernel, by decide⟩
theorem wC_X0_beforeAt : Cond.code yX0_beforeAt cX0_beforeAt 2 (some .int) ∈ TB := tb_of (tbl2 (List.mem_of_getElem? (i := 111) (by decide +kernel))) rfl
theorem wI_X0_beforeAt : Cond.initialized yX0_beforeAt.cls ∈ TB := tb_of (tbl1 (List.mem_of_getElem? (i := 3) (by decide +kernel))) rfl
theorem wM_X0_beforeAt : Cond.instanceMethod yX0_beforeAt ∈ TB := tb_of (tbl2 (List.mem_of_getElem? (i := 109) (by decide +kernel))) rfl
theorem wS_X0_beforeAt : Cond.selects yX0_beforeAt.cls yX0_beforeAt yX0_beforeAt ∈ TB := tb_of (tbl2 (List.mem_of_getElem? (i := 110) (by decide +kernel))) rfl
theorem vX0_47 : ZV RX0 47 yX0_beforeAt cX0_beforeAt 2 (some .int) 1 := ⟨List.forall_mem_cons.mpr ⟨(tb_of (tbl2 (List.mem_of_getElem? (i := 108) (by decide +kernel))) rfl), List.forall_mem_cons.mpr ⟨wM_X0_beforeAt, List.forall_mem_cons.mpr ⟨wS_X0_beforeAt, List.forall_mem_cons.mpr ⟨wI_X0_beforeAt, List.forall_mem_cons.mpr ⟨wC_X0_beforeAt, fun _ h => absurd h List.not_mem_nil⟩⟩⟩⟩⟩, by decide +kernel, by decide⟩
theorem wC_X0_afterAt : Cond.code yX0_afterAt cX0_afterAt 2 (some .int) ∈ TB := tb_of (tbl2 (List.mem_of_getElem? (i := 115) (by decide +kernel))) rfl
theorem wI_X0_afterAt : Cond.initialized yX0_afterAt.cls ∈ TB := tb_of (tbl1 (List.mem_of_getElem? (i := 3) (by decide +kernel))) rfl
theorem wM_X0_afterAt : Cond.instanceMethod yX0_afterAt ∈ TB := tb_of (tbl2 (List.mem_of_getElem? (i := 113) (by decide +kernel))) rfl
theorem wS_X0_afterAt : Cond.selects yX0_afterAt.cls yX0_afterAt yX0_afterAt ∈ TB := tb_of (tbl2 (List.mem_of_getElem? (i := 114) (by decide +kernel))) rfl
theorem vX0_50 : ZV RX0 50 yX0_afterAt cX0_afterAt 2 (some .int) 1 := ⟨List.forall_mem_cons.mpr ⟨(tb_of (tbl2 (List.mem_of_getElem? (i := 112) (by decide +kernel))) rfl), List.forall_mem_cons.mpr ⟨wM_X0_afterAt, List.forall_mem_cons.mpr ⟨wS_X0_afterAt, List.forall_mem_cons.mpr ⟨wI_X0_afterAt, List.forall_mem_cons.mpr ⟨wC_X0_afterAt, fun _ h => absurd h List.not_mem_nil⟩⟩⟩⟩⟩, by decide +kernel, by decide⟩
theorem wC_X1_has : Cond.code yX1_has cX1_has 2 (some .boolean) ∈ TB := tb_of (tbl1 (List.mem_of_getElem? (i := 235) (by decide +kernel))) rfl
theorem wI_X1_has : Cond.initialized yX1_has.cls ∈ TB := tb_of (tbl1 (List.mem_of_getElem? (i := 2) (by decide +kernel))) rfl
theorem wM_X1_has : Cond.instanceMethod yX1_has ∈ TB := tb_of (tbl1 (List.mem_of_getElem? (i := 233) (by decide +kernel))) rfl
theorem wS_X1_has : Cond.selects yX1_has.cls yX1_has yX1_has ∈ TB := tb_of (tbl1 (List.mem_of_getElem? (i := 234) (by decide +kernel))) rfl
theorem vX1_32 : ZV RX1 32 yX1_has cX1_has 2 (some .boolean) 1 := ⟨List.forall_mem_cons.mpr ⟨(tb_of (tbl2 (List.mem_of_getElem? (i := 0) (by decide +kernel))) rfl), List.forall_mem_cons.mpr ⟨wM_X1_has, List.forall_mem_cons.mpr ⟨wS_X1_has, List.forall_mem_cons.mpr ⟨wI_X1_has, List.forall_mem_cons.mpr ⟨wC_X1_has, fun _ h => absurd h List.not_mem_nil⟩⟩⟩⟩⟩, by decide +kernel, by decide⟩
theorem wC_X1_levelAt : Cond.code yX1_levelAt cX1_levelAt 2 (some .int) ∈ TB := tb_of (tbl2 (List.mem_of_getElem? (i := 20) (by decide +kernel))) rfl
theorem wI_X1_levelAt : Cond.initialized yX1_levelAt.cls ∈ TB := tb_of (tbl1 (List.mem_of_getElem? (i := 2) (by decide +kernel))) rfl
theorem wM_X1_levelAt : Cond.instanceMethod yX1_levelAt ∈ TB := tb_of (tbl2 (List.mem_of_getElem? (i := 18) (by decide +kernel))) rfl
theorem wS_X1_levelAt : Cond.selects yX1_levelAt.cls yX1_levelAt yX1_levelAt ∈ TB := tb_of (tbl2 (List.mem_of_getElem? (i := 19) (by decide +kernel))) rfl
theorem vX1_36 : ZV RX1 36 yX1_levelAt cX1_levelAt 2 (some .int) 1 := ⟨List.forall_mem_cons.mpr ⟨(tb_of (tbl2 (List.mem_of_getElem? (i := 17) (by decide +kernel))) rfl), List.forall_mem_cons.mpr ⟨wM_X1_levelAt, List.forall_mem_cons.mpr ⟨wS_X1_levelAt, List.forall_mem_cons.mpr ⟨wI_X1_levelAt, List.forall_mem_cons.mpr ⟨wC_X1_levelAt, fun _ h => absurd h List.not_mem_nil⟩⟩⟩⟩⟩, by decide +kernel, by decide⟩
theorem wC_X5_isLevel : Cond.code yX5_isLevel cX5_isLevel 1 (some .boolean) ∈ TB := tb_of (tbl1 (List.mem_of_getElem? (i := 203) (by decide +kernel))) rfl
theorem wI_X5_isLevel : Cond.initialized yX5_isLevel.cls ∈ TB := tb_of (tbl1 (List.mem_of_getElem? (i := 1) (by decide +kernel))) rfl
theorem wT_X5_isLevel : Cond.static yX5_isLevel ∈ TB := tb_of (tbl1 (List.mem_of_getElem? (i := 202) (by decide +kernel))) rfl
theorem vX1_40 : ZSN RX1 40 yX5_isLevel cX5_isLevel 1 (some .boolean) 1 := ⟨⟨Or.inl rfl, List.forall_mem_cons.mpr ⟨wT_X5_isLevel, List.forall_mem_cons.mpr ⟨wI_X5_isLevel, List.forall_mem_cons.mpr ⟨wC_X5_isLevel, fun _ h => absurd h List.not_mem_nil⟩⟩⟩⟩, by decide +kernel, by decide⟩
theorem wC_X1_associativityAt : Cond.code yX1_associativityAt cX1_associativityAt 2 (some .int) ∈ TB := tb_of (tbl2 (List.mem_of_getElem? (i := 32) (by decide +kernel))) rfl
theorem wI_X1_associativityAt : Cond.initialized yX1_associativityAt.cls ∈ TB := tb_of (tbl1 (List.mem_of_getElem? (i := 2) (by decide +kernel))) rfl
theorem wM_X1_associativityAt : Cond.instanceMethod yX1_associativityAt ∈ TB := tb_of (tbl2 (List.mem_of_getElem? (i := 31) (by decide +kernel))) rfl
theorem wS_X1_associativityAt : Cond.selects yX1_associativityAt.cls yX1_associativityAt yX1_associativityAt ∈ TB := tb_of (tblS (List.mem_of_getElem? (i := 1) (by decide +kernel))) rfl
theorem vX1_43 : ZV RX1 43 yX1_associativityAt cX1_associativityAt 2 (some .int) 1 := ⟨List.forall_mem_cons.mpr ⟨(tb_of (tbl2 (List.mem_of_getElem? (i := 29) (by decide +kernel))) rfl), List.forall_mem_cons.mpr ⟨wM_X1_associativityAt, List.forall_mem_cons.mpr ⟨wS_X1_associativityAt, List.forall_mem_cons.mpr ⟨wI_X1_associativityAt, List.forall_mem_cons.mpr ⟨wC_X1_associativityAt, fun _ h => absurd h List.not_mem_nil⟩⟩⟩⟩⟩, by decide +kernel, by decide⟩
theorem wC_X1_isForbidden : Cond.code yX1_isForbidden cX1_isForbidden 3 (some .boolean) ∈ TB := tb_of (tbl2 (List.mem_of_getElem? (i := 45) (by decide +kernel))) rfl
theorem wI_X1_isForbidden : Cond.initialized yX1_isForbidden.cls ∈ TB := tb_of (tbl1 (List.mem_of_getElem? (i := 2) (by decide +kernel))) rfl
theorem wM_X1_isForbidden : Cond.instanceMethod yX1_isForbidden ∈ TB := tb_of (tbl2 (List.mem_of_getElem? (i := 43) (by decide +kernel))) rfl
theorem wS_X1_isForbidden : Cond.selects yX1_isForbidden.cls yX1_isForbidden yX1_isForbidden ∈ TB := tb_of (tbl2 (List.mem_of_getElem? (i := 44) (by decide +kernel))) rfl
theorem vX1_46 : ZV RX1 46 yX1_isForbidden cX1_isForbidden 3 (some .boolean) 2 := ⟨List.forall_mem_cons.mpr ⟨(tb_of (tbl2 (List.mem_of_getElem? (i := 42) (by decide +kernel))) rfl), List.forall_mem_cons.mpr ⟨wM_X1_isForbidden, List.forall_mem_cons.mpr ⟨wS_X1_isForbidden, List.forall_mem_cons.mpr ⟨wI_X1_isForbidden, List.forall_mem_cons.mpr ⟨wC_X1_isForbidden, fun _ h => absurd h List.not_mem_nil⟩⟩⟩⟩⟩, by decide +kernel, by decide⟩
theorem wC_X1_kindAt : Cond.code yX1_kindAt cX1_kindAt 2 (some .int) ∈ TB := tb_of (tbl2 (List.mem_of_getElem? (i := 8) (by decide +kernel))) rfl
theorem wI_X1_kindAt : Cond.initialized yX1_kindAt.cls ∈ TB := tb_of (tbl1 (List.mem_of_getElem? (i := 2) (by decide +kernel))) rfl
theorem wM_X1_kindAt : Cond.instanceMethod yX1_kindAt ∈ TB := tb_of (tbl2 (List.mem_of_getElem? (i := 6) (by decide +kernel))) rfl
theorem wS_X1_kindAt : Cond.selects yX1_kindAt.cls yX1_kindAt yX1_kindAt ∈ TB := tb_of (tbl2 (List.mem_of_getElem? (i := 7) (by decide +kernel))) rfl
theorem vX1_50 : ZV RX1 50 yX1_kindAt cX1_kindAt 2 (some .int) 1 := ⟨List.forall_mem_cons.mpr ⟨(tb_of (tbl2 (List.mem_of_getElem? (i := 190) (by decide +kernel))) rfl), List.forall_mem_cons.mpr ⟨wM_X1_kindAt, List.forall_mem_cons.mpr ⟨wS_X1_kindAt, List.forall_mem_cons.mpr ⟨wI_X1_kindAt, List.forall_mem_cons.mpr ⟨wC_X1_kindAt, fun _ h => absurd h List.not_mem_nil⟩⟩⟩⟩⟩, by decide +kernel, by decide⟩
theorem wC_X2_start : Cond.code yX2_start cX2_start 1 none ∈ TB := tb_of (tbl3 (List.mem_of_getElem? (i := 22) (by decide +kernel))) rfl
theorem wI_X2_start : Cond.initialized yX2_start.cls ∈ TB := tb_of (tbl1 (List.mem_of_getElem? (i := 5) (by decide +kernel))) rfl
theorem wM_X2_start : Cond.instanceMethod yX2_start ∈ TB := tb_of (tbl3 (List.mem_of_getElem? (i := 21) (by decide +kernel))) rfl
theorem wS_X2_start : Cond.selects yX2_start.cls yX2_start yX2_start ∈ TB := tb_of (tblS (List.mem_of_getElem? (i := 15) (by decide +kernel))) rfl
theorem vX2_40 : ZV RX2 40 yX2_start cX2_start 1 none 0 := ⟨List.forall_mem_cons.mpr ⟨(tb_of (tbl3 (List.mem_of_getElem? (i := 19) (by decide +kernel))) rfl), List.forall_mem_cons.mpr ⟨wM_X2_start, List.forall_mem_cons.mpr ⟨wS_X2_start, List.forall_mem_cons.mpr ⟨wI_X2_start, List.forall_mem_cons.mpr ⟨wC_X2_start, fun _ h => absurd h List.not_mem_nil⟩⟩⟩⟩⟩, by decide +kernel, by decide⟩
theorem wC_X2_readOperand : Cond.code yX2_readOperand cX2_readOperand 3 none ∈ TB := tb_of (tbl3 (List.mem_of_getElem? (i := 30) (by decide +kernel))) rfl
theorem wI_X2_readOperand : Cond.initialized yX2_readOperand.cls ∈ TB := tb_of (tbl1 (List.mem_of_getElem? (i := 5) (by decide +kernel))) rfl
theorem wM_X2_readOperand : Cond.instanceMethod yX2_readOperand ∈ TB := tb_of (tbl3 (List.mem_of_getElem? (i := 29) (by decide +kernel))) rfl
theorem wS_X2_readOperand : Cond.selects yX2_readOperand.cls yX2_readOperand yX2_readOperand ∈ TB := tb_of (tblS (List.mem_of_getElem? (i := 16) (by decide +kernel))) rfl
theorem vX2_50 : ZV RX2 50 yX2_readOperand cX2_readOperand 3 none 0 := ⟨List.forall_mem_cons.mpr ⟨(tb_of (tbl3 (List.mem_of_getElem? (i := 27) (by decide +kernel))) rfl), List.forall_mem_cons.mpr ⟨wM_X2_readOperand, List.forall_mem_cons.mpr ⟨wS_X2_readOperand, List.forall_mem_cons.mpr ⟨wI_X2_readOperand, List.forall_mem_cons.mpr ⟨wC_X2_readOperand, fun _ h => absurd h List.not_mem_nil⟩⟩⟩⟩⟩, by decide +kernel, by decide⟩
theorem wC_X2_readOperator : Cond.code yX2_readOperator cX2_readOperator 3 none ∈ TB := tb_of (tbl3 (List.mem_of_getElem? (i := 50) (by decide +kernel))) rfl
theorem wI_X2_readOperator : Cond.initialized yX2_readOperator.cls ∈ TB := tb_of (tbl1 (List.mem_of_getElem? (i := 5) (by decide +kernel))) rfl
theorem wM_X2_readOperator : Cond.instanceMethod yX2_readOperator ∈ TB := tb_of (tbl3 (List.mem_of_getElem? (i := 49) (by decide +kernel))) rfl
theorem wS_X2_readOperator : Cond.selects yX2_readOperator.cls yX2_readOperator yX2_readOperator ∈ TB := tb_of (tblS (List.mem_of_getElem? (i := 20) (by decide +kernel))) rfl
theorem vX2_53 : ZV RX2 53 yX2_readOperator cX2_readOperator 3 none 0 := ⟨List.forall_mem_cons.mpr ⟨(tb_of (tbl3 (List.mem_of_getElem? (i := 47) (by decide +kernel))) rfl), List.forall_mem_cons.mpr ⟨wM_X2_readOperator, List.forall_mem_cons.mpr ⟨wS_X2_readOperator, List.forall_mem_cons.mpr ⟨wI_X2_readOperator, List.forall_mem_cons.mpr ⟨wC_X2_readOperator, fun _ h => absurd h List.not_mem_nil⟩⟩⟩⟩⟩, by decide +kernel, by decide⟩
theorem wC_X0_empty : Cond.code yX0_empty cX0_empty 1 none ∈ TB := tb_of (tbl3 (List.mem_of_getElem? (i := 26) (by decide +kernel))) rfl
theorem wI_X0_empty : Cond.initialized yX0_empty.cls ∈ TB := tb_of (tbl1 (List.mem_of_getElem? (i := 3) (by decide +kernel))) rfl
theorem wM_X0_empty : Cond.instanceMethod yX0_empty ∈ TB := tb_of (tbl3 (List.mem_of_getElem? (i := 24) (by decide +kernel))) rfl
theorem wS_X0_empty : Cond.selects yX0_empty.cls yX0_empty yX0_empty ∈ TB := tb_of (tbl3 (List.mem_of_getElem? (i := 25) (by decide +kernel))) rfl
theorem vX2_56 : ZV RX2 56 yX0_empty cX0_empty 1 none 0 := ⟨List.forall_mem_cons.mpr ⟨(tb_of (tbl3 (List.mem_of_getElem? (i := 23) (by decide +kernel))) rfl), List.forall_mem_cons.mpr ⟨wM_X0_empty, List.forall_mem_cons.mpr ⟨wS_X0_empty, List.forall_mem_cons.mpr ⟨wI_X0_empty, List.forall_mem_cons.mpr ⟨wC_X0_empty, fun _ h => absurd h List.not_mem_nil⟩⟩⟩⟩⟩, by decide +kernel, by decide⟩
theorem wC_X3_at : Cond.code yX3_at cX3_at 2 (some .int) ∈ TB := tb_of (tbl2 (List.mem_of_getElem? (i := 225) (by decide +kernel))) rfl
theorem wI_X3_at : Cond.initialized yX3_at.cls ∈ TB := tb_of (tbl1 (List.mem_of_getElem? (i := 4) (by decide +kernel))) rfl
theorem wM_X3_at : Cond.instanceMethod yX3_at ∈ TB := tb_of (tbl2 (List.mem_of_getElem? (i := 223) (by decide +kernel))) rfl
theorem wS_X3_at : Cond.selects yX3_at.cls yX3_at yX3_at ∈ TB := tb_of (tbl2 (List.mem_of_getElem? (i := 224) (by decide +kernel))) rfl
theorem vX2_73 : ZV RX2 73 yX3_at cX3_at 2 (some .int) 1 := ⟨List.forall_mem_cons.mpr ⟨(tb_of (tbl3 (List.mem_of_getElem? (i := 31) (by decide +kernel))) rfl), List.forall_mem_cons.mpr ⟨wM_X3_at, List.forall_mem_cons.mpr ⟨wS_X3_at, List.forall_mem_cons.mpr ⟨wI_X3_at, List.forall_mem_cons.mpr ⟨wC_X3_at, fun _ h => absurd h List.not_mem_nil⟩⟩⟩⟩⟩, by decide +kernel, by decide⟩
theorem wC_X1_find : Cond.code yX1_find cX1_find 4 (some .int) ∈ TB := tb_of (tbl1 (List.mem_of_getElem? (i := 207) (by decide +kernel))) rfl
theorem wI_X1_find : Cond.initialized yX1_find.cls ∈ TB := tb_of (tbl1 (List.mem_of_getElem? (i := 2) (by decide +kernel))) rfl
theorem wM_X1_find : Cond.instanceMethod yX1_find ∈ TB := tb_of (tbl1 (List.mem_of_getElem? (i := 205) (by decide +kernel))) rfl
theorem wS_X1_find : Cond.selects yX1_find.cls yX1_find yX1_find ∈ TB := tb_of (tbl1 (List.mem_of_getElem? (i := 206) (by decide +kernel))) rfl
theorem vX2_79 : ZV RX2 79 yX1_find cX1_find 4 (some .int) 2 := ⟨List.forall_mem_cons.mpr ⟨(tb_of (tbl3 (List.mem_of_getElem? (i := 32) (by decide +kernel))) rfl), List.forall_mem_cons.mpr ⟨wM_X1_find, List.forall_mem_cons.mpr ⟨wS_X1_find, List.forall_mem_cons.mpr ⟨wI_X1_find, List.forall_mem_cons.mpr ⟨wC_X1_find, fun _ h => absurd h List.not_mem_nil⟩⟩⟩⟩⟩, by decide +kernel, by decide⟩
theorem wC_X5_isLetter : Cond.code yX5_isLetter cX5_isLetter 1 (some .boolean) ∈ TB := tb_of (tbl1 (List.mem_of_getElem? (i := 200) (by decide +kernel))) rfl
theorem wI_X5_isLetter : Cond.initialized yX5_isLetter.cls ∈ TB := tb_of (tbl1 (List.mem_of_getElem? (i := 1) (by decide +kernel))) rfl
theorem wT_X5_isLetter : Cond.static yX5_isLetter ∈ TB := tb_of (tbl1 (List.mem_of_getElem? (i := 199) (by decide +kernel))) rfl
theorem vX2_85 : ZSN RX2 85 yX5_isLetter cX5_isLetter 1 (some .boolean) 1 := ⟨⟨Or.inr rfl, List.forall_mem_cons.mpr ⟨wT_X5_isLetter, List.forall_mem_cons.mpr ⟨wI_X5_isLetter, List.forall_mem_cons.mpr ⟨wC_X5_isLetter, fun _ h => absurd h List.not_mem_nil⟩⟩⟩⟩, by decide +kernel, by decide⟩
theorem vX2_89 : ZV RX2 89 yX0_add cX0_add 5 (some .int) 4 := ⟨List.forall_mem_cons.mpr ⟨(tb_of (tbl3 (List.mem_of_getElem? (i := 34) (by decide +kernel))) rfl), List.forall_mem_cons.mpr ⟨wM_X0_add, List.forall_mem_cons.mpr ⟨wS_X0_add, List.forall_mem_cons.mpr ⟨wI_X0_add, List.forall_mem_cons.mpr ⟨wC_X0_add, fun _ h => absurd h List.not_mem_nil⟩⟩⟩⟩⟩, by decide +kernel, by decide⟩
theorem wC_X2_takeLeftSide : Cond.code yX2_takeLeftSide cX2_takeLeftSide 2 none ∈ TB := tb_of (tbl3 (List.mem_of_getElem? (i := 38) (by decide +kernel))) rfl
theorem wI_X2_takeLeftSide : Cond.initialized yX2_takeLeftSide.cls ∈ TB := tb_of (tbl1 (List.mem_of_getElem? (i := 5) (by decide +kernel))) rfl
theorem wM_X2_takeLeftSide : Cond.instanceMethod yX2_takeLeftSide ∈ TB := tb_of (tbl3 (List.mem_of_getElem? (i := 37) (by decide +kernel))) rfl
theorem wS_X2_takeLeftSide : Cond.selects yX2_takeLeftSide.cls yX2_takeLeftSide yX2_takeLeftSide ∈ TB := tb_of (tblS (List.mem_of_getElem? (i := 17) (by decide +kernel))) rfl
theorem vX2_93 : ZV RX2 93 yX2_takeLeftSide cX2_takeLeftSide 2 none 1 := ⟨List.forall_mem_cons.mpr ⟨(tb_of (tbl3 (List.mem_of_getElem? (i := 35) (by decide +kernel))) rfl), List.forall_mem_cons.mpr ⟨wM_X2_takeLeftSide, List.forall_mem_cons.mpr ⟨wS_X2_takeLeftSide, List.forall_mem_cons.mpr ⟨wI_X2_takeLeftSide, List.forall_mem_cons.mpr ⟨wC_X2_takeLeftSide, fun _ h => absurd h List.not_mem_nil⟩⟩⟩⟩⟩, by decide +kernel, by decide⟩
theorem wC_X2_openFrame : Cond.code yX2_openFrame cX2_openFrame 3 none ∈ TB := tb_of (tbl3 (List.mem_of_getElem? (i := 42) (by decide +kernel))) rfl
theorem wI_X2_openFrame : Cond.initialized yX2_openFrame.cls ∈ TB := tb_of (tbl1 (List.mem_of_getElem? (i := 5) (by decide +kernel))) rfl
theorem wM_X2_openFrame : Cond.instanceMethod yX2_openFrame ∈ TB := tb_of (tbl3 (List.mem_of_getElem? (i := 41) (by decide +kernel))) rfl
theorem wS_X2_openFrame : Cond.selects yX2_openFrame.cls yX2_openFrame yX2_openFrame ∈ TB := tb_of (tblS (List.mem_of_getElem? (i := 18) (by decide +kernel))) rfl
theorem vX2_97 : ZV RX2 97 yX2_openFrame cX2_openFrame 3 none 2 := ⟨List.forall_mem_cons.mpr ⟨(tb_of (tbl3 (List.mem_of_getElem? (i := 39) (by decide +kernel))) rfl), List.forall_mem_cons.mpr ⟨wM_X2_openFrame, List.forall_mem_cons.mpr ⟨wS_X2_openFrame, List.forall_mem_cons.mpr ⟨wI_X2_openFrame, List.forall_mem_cons.mpr ⟨wC_X2_openFrame, fun _ h => absurd h List.not_mem_nil⟩⟩⟩⟩⟩, by decide +kernel, by decide⟩
theorem wC_X2_fail : Cond.code yX2_fail cX2_fail 3 none ∈ TB := tb_of (tbl3 (List.mem_of_getElem? (i := 46) (by decide +kernel))) rfl
theorem wI_X2_fail : Cond.initialized yX2_fail.cls ∈ TB := tb_of (tbl1 (List.mem_of_getElem? (i := 5) (by decide +kernel))) rfl
theorem wM_X2_fail : Cond.instanceMethod yX2_fail ∈ TB := tb_of (tbl3 (List.mem_of_getElem? (i := 45) (by decide +kernel))) rfl
theorem wS_X2_fail : Cond.selects yX2_fail.cls yX2_fail yX2_fail ∈ TB := tb_of (tblS (List.mem_of_getElem? (i := 19) (by decide +kernel))) rfl
theorem vX2_101 : ZV RX2 101 yX2_fail cX2_fail 3 none 2 := ⟨List.forall_mem_cons.mpr ⟨(tb_of (tbl3 (List.mem_of_getElem? (i := 43) (by decide +kernel))) rfl), List.forall_mem_cons.mpr ⟨wM_X2_fail, List.forall_mem_cons.mpr ⟨wS_X2_fail, List.forall_mem_cons.mpr ⟨wI_X2_fail, List.forall_mem_cons.mpr ⟨wC_X2_fail, fun _ h => absurd h List.not_mem_nil⟩⟩⟩⟩⟩, by decide +kernel, by decide⟩
theorem wC_X2_endFrame : Cond.code yX2_endFrame cX2_endFrame 2 none ∈ TB := tb_of (tbl3 (List.mem_of_getElem? (i := 54) (by decide +kernel))) rfl
theorem wI_X2_endFrame : Cond.initialized yX2_endFrame.cls ∈ TB := tb_of (tbl1 (List.mem_of_getElem? (i := 5) (by decide +kernel))) rfl
theorem wM_X2_endFrame : Cond.instanceMethod yX2_endFrame ∈ TB := tb_of (tbl3 (List.mem_of_getElem? (i := 53) (by decide +kernel))) rfl
theorem wS_X2_endFrame : Cond.selects yX2_endFrame.cls yX2_endFrame yX2_endFrame ∈ TB := tb_of (tblS (List.mem_of_getElem? (i := 21) (by decide +kernel))) rfl
theorem vX2_104 : ZV RX2 104 yX2_endFrame cX2_endFrame 2 none 0 := ⟨List.forall_mem_cons.mpr ⟨(tb_of (tbl3 (List.mem_of_getElem? (i := 51) (by decide +kernel))) rfl), List.forall_mem_cons.mpr ⟨wM_X2_endFrame, List.forall_mem_cons.mpr ⟨wS_X2_endFrame, List.forall_mem_cons.mpr ⟨wI_X2_endFrame, List.forall_mem_cons.mpr ⟨wC_X2_endFrame, fun _ h => absurd h List.not_mem_nil⟩⟩⟩⟩⟩, by decide +kernel, by decide⟩
theorem vX2_107 : ZV RX2 107 yX1_levelAt cX1_levelAt 2 (some .int) 1 := ⟨List.forall_mem_cons.mpr ⟨(tb_of (tbl3 (List.mem_of_getElem? (i := 77) (by decide +kernel))) rfl), List.forall_mem_cons.mpr ⟨wM_X1_levelAt, List.forall_mem_cons.mpr ⟨wS_X1_levelAt, List.forall_mem_cons.mpr ⟨wI_X1_levelAt, List.forall_mem_cons.mpr ⟨wC_X1_levelAt, fun _ h => absurd h List.not_mem_nil⟩⟩⟩⟩⟩, by decide +kernel, by decide⟩
theorem wC_X2_frameMin : Cond.code yX2_frameMin cX2_frameMin 2 (some .int) ∈ TB := tb_of (tbl3 (List.mem_of_getElem? (i := 81) (by decide +kernel))) rfl
theorem wI_X2_frameMin : Cond.initialized yX2_frameMin.cls ∈ TB := tb_of (tbl1 (List.mem_of_getElem? (i := 5) (by decide +kernel))) rfl
theorem wM_X2_frameMin : Cond.instanceMethod yX2_frameMin ∈ TB := tb_of (tbl3 (List.mem_of_getElem? (i := 80) (by decide +kernel))) rfl
theorem wS_X2_frameMin : Cond.selects yX2_frameMin.cls yX2_frameMin yX2_frameMin ∈ TB := tb_of (tblS (List.mem_of_getElem? (i := 27) (by decide +kernel))) rfl
theorem vX2_110 : ZV RX2 110 yX2_frameMin cX2_frameMin 2 (some .int) 0 := ⟨List.forall_mem_cons.mpr ⟨(tb_of (tbl3 (List.mem_of_getElem? (i := 78) (by decide +kernel))) rfl), List.forall_mem_cons.mpr ⟨wM_X2_frameMin, List.forall_mem_cons.mpr ⟨wS_X2_frameMin, List.forall_mem_cons.mpr ⟨wI_X2_frameMin, List.forall_mem_cons.mpr ⟨wC_X2_frameMin, fun _ h => absurd h List.not_mem_nil⟩⟩⟩⟩⟩, by decide +kernel, by decide⟩
theorem wC_X2_joinLeftSide : Cond.code yX2_joinLeftSide cX2_joinLeftSide 2 none ∈ TB := tb_of (tbl3 (List.mem_of_getElem? (i := 86) (by decide +kernel))) rfl
theorem wI_X2_joinLeftSide : Cond.initialized yX2_joinLeftSide.cls ∈ TB := tb_of (tbl1 (List.mem_of_getElem? (i := 5) (by decide +kernel))) rfl
theorem wM_X2_joinLeftSide : Cond.instanceMethod yX2_joinLeftSide ∈ TB := tb_of (tbl3 (List.mem_of_getElem? (i := 85) (by decide +kernel))) rfl
theorem wS_X2_joinLeftSide : Cond.selects yX2_joinLeftSide.cls yX2_joinLeftSide yX2_joinLeftSide ∈ TB := tb_of (tblS (List.mem_of_getElem? (i := 28) (by decide +kernel))) rfl
theorem vX2_114 : ZV RX2 114 yX2_joinLeftSide cX2_joinLeftSide 2 none 1 := ⟨List.forall_mem_cons.mpr ⟨(tb_of (tbl3 (List.mem_of_getElem? (i := 83) (by decide +kernel))) rfl), List.forall_mem_cons.mpr ⟨wM_X2_joinLeftSide, List.forall_mem_cons.mpr ⟨wS_X2_joinLeftSide, List.forall_mem_cons.mpr ⟨wI_X2_joinLeftSide, List.forall_mem_cons.mpr ⟨wC_X2_joinLeftSide, fun _ h => absurd h List.not_mem_nil⟩⟩⟩⟩⟩, by decide +kernel, by decide⟩
theorem wC_X0_operatorAt : Cond.code yX0_operatorAt cX0_operatorAt 2 (some .int) ∈ TB := tb_of (tbl2 (List.mem_of_getElem? (i := 91) (by decide +kernel))) rfl
theorem wI_X0_operatorAt : Cond.initialized yX0_operatorAt.cls ∈ TB := tb_of (tbl1 (List.mem_of_getElem? (i := 3) (by decide +kernel))) rfl
theorem wM_X0_operatorAt : Cond.instanceMethod yX0_operatorAt ∈ TB := tb_of (tbl2 (List.mem_of_getElem? (i := 89) (by decide +kernel))) rfl
theorem wS_X0_operatorAt : Cond.selects yX0_operatorAt.cls yX0_operatorAt yX0_operatorAt ∈ TB := tb_of (tbl2 (List.mem_of_getElem? (i := 90) (by decide +kernel))) rfl
theorem vX2_117 : ZV RX2 117 yX0_operatorAt cX0_operatorAt 2 (some .int) 1 := ⟨List.forall_mem_cons.mpr ⟨(tb_of (tbl3 (List.mem_of_getElem? (i := 75) (by decide +kernel))) rfl), List.forall_mem_cons.mpr ⟨wM_X0_operatorAt, List.forall_mem_cons.mpr ⟨wS_X0_operatorAt, List.forall_mem_cons.mpr ⟨wI_X0_operatorAt, List.forall_mem_cons.mpr ⟨wC_X0_operatorAt, fun _ h => absurd h List.not_mem_nil⟩⟩⟩⟩⟩, by decide +kernel, by decide⟩
theorem wC_X1_isNotAssociative : Cond.code yX1_isNotAssociative cX1_isNotAssociative 4 (some .boolean) ∈ TB := tb_of (tbl2 (List.mem_of_getElem? (i := 189) (by decide +kernel))) rfl
theorem wI_X1_isNotAssociative : Cond.initialized yX1_isNotAssociative.cls ∈ TB := tb_of (tbl1 (List.mem_of_getElem? (i := 2) (by decide +kernel))) rfl
theorem wM_X1_isNotAssociative : Cond.instanceMethod yX1_isNotAssociative ∈ TB := tb_of (tbl2 (List.mem_of_getElem? (i := 187) (by decide +kernel))) rfl
theorem wS_X1_isNotAssociative : Cond.selects yX1_isNotAssociative.cls yX1_isNotAssociative yX1_isNotAssociative ∈ TB := tb_of (tbl2 (List.mem_of_getElem? (i := 188) (by decide +kernel))) rfl
theorem vX2_120 : ZV RX2 120 yX1_isNotAssociative cX1_isNotAssociative 4 (some .boolean) 2 := ⟨List.forall_mem_cons.mpr ⟨(tb_of (tbl3 (List.mem_of_getElem? (i := 87) (by decide +kernel))) rfl), List.forall_mem_cons.mpr ⟨wM_X1_isNotAssociative, List.forall_mem_cons.mpr ⟨wS_X1_isNotAssociative, List.forall_mem_cons.mpr ⟨wI_X1_isNotAssociative, List.forall_mem_cons.mpr ⟨wC_X1_isNotAssociative, fun _ h => absurd h List.not_mem_nil⟩⟩⟩⟩⟩, by decide +kernel, by decide⟩
theorem wC_X2_isForbiddenUnder : Cond.code yX2_isForbiddenUnder cX2_isForbiddenUnder 2 (some .boolean) ∈ TB := tb_of (tbl3 (List.mem_of_getElem? (i := 74) (by decide +kernel))) rfl
theorem wI_X2_isForbiddenUnder : Cond.initialized yX2_isForbiddenUnder.cls ∈ TB := tb_of (tbl1 (List.mem_of_getElem? (i := 5) (by decide +kernel))) rfl
theorem wM_X2_isForbiddenUnder : Cond.instanceMethod yX2_isForbiddenUnder ∈ TB := tb_of (tbl3 (List.mem_of_getElem? (i := 73) (by decide +kernel))) rfl
theorem wS_X2_isForbiddenUnder : Cond.selects yX2_isForbiddenUnder.cls yX2_isForbiddenUnder yX2_isForbiddenUnder ∈ TB := tb_of (tblS (List.mem_of_getElem? (i := 26) (by decide +kernel))) rfl
theorem vX2_124 : ZV RX2 124 yX2_isForbiddenUnder cX2_isForbiddenUnder 2 (some .boolean) 1 := ⟨List.forall_mem_cons.mpr ⟨(tb_of (tbl3 (List.mem_of_getElem? (i := 71) (by decide +kernel))) rfl), List.forall_mem_cons.mpr ⟨wM_X2_isForbiddenUnder, List.forall_mem_cons.mpr ⟨wS_X2_isForbiddenUnder, List.forall_mem_cons.mpr ⟨wI_X2_isForbiddenUnder, List.forall_mem_cons.mpr ⟨wC_X2_isForbiddenUnder, fun _ h => absurd h List.not_mem_nil⟩⟩⟩⟩⟩, by decide +kernel, by decide⟩
theorem vX2_127 : ZV RX2 127 yX1_kindAt cX1_kindAt 2 (some .int) 1 := ⟨List.forall_mem_cons.mpr ⟨(tb_of (tbl3 (List.mem_of_getElem? (i := 88) (by decide +kernel))) rfl), List.forall_mem_cons.mpr ⟨wM_X1_kindAt, List.forall_mem_cons.mpr ⟨wS_X1_kindAt, List.forall_mem_cons.mpr ⟨wI_X1_kindAt, List.forall_mem_cons.mpr ⟨wC_X1_kindAt, fun _ h => absurd h List.not_mem_nil⟩⟩⟩⟩⟩, by decide +kernel, by decide⟩
theorem wC_X2_topFrame : Cond.code yX2_topFrame cX2_topFrame 1 (some .int) ∈ TB := tb_of (tbl3 (List.mem_of_getElem? (i := 58) (by decide +kernel))) rfl
theorem wI_X2_topFrame : Cond.initialized yX2_topFrame.cls ∈ TB := tb_of (tbl1 (List.mem_of_getElem? (i := 5) (by decide +kernel))) rfl
theorem wM_X2_topFrame : Cond.instanceMethod yX2_topFrame ∈ TB := tb_of (tbl3 (List.mem_of_getElem? (i := 57) (by decide +kernel))) rfl
theorem wS_X2_topFrame : Cond.selects yX2_topFrame.cls yX2_topFrame yX2_topFrame ∈ TB := tb_of (tblS (List.mem_of_getElem? (i := 22) (by decide +kernel))) rfl
theorem vX2_130 : ZV RX2 130 yX2_topFrame cX2_topFrame 1 (some .int) 0 := ⟨List.forall_mem_cons.mpr ⟨(tb_of (tbl3 (List.mem_of_getElem? (i := 55) (by decide +kernel))) rfl), List.forall_mem_cons.mpr ⟨wM_X2_topFrame, List.forall_mem_cons.mpr ⟨wS_X2_topFrame, List.forall_mem_cons.mpr ⟨wI_X2_topFrame, List.forall_mem_cons.mpr ⟨wC_X2_topFrame, fun _ h => absurd h List.not_mem_nil⟩⟩⟩⟩⟩, by decide +kernel, by decide⟩
theorem wC_X1_minAfter : Cond.code yX1_minAfter cX1_minAfter 4 (some .int) ∈ TB := tb_of (tbl2 (List.mem_of_getElem? (i := 176) (by decide +kernel))) rfl
theorem wI_X1_minAfter : Cond.initialized yX1_minAfter.cls ∈ TB := tb_of (tbl1 (List.mem_of_getElem? (i := 2) (by decide +kernel))) rfl
theorem wM_X1_minAfter : Cond.instanceMethod yX1_minAfter ∈ TB := tb_of (tbl2 (List.mem_of_getElem? (i := 174) (by decide +kernel))) rfl
theorem wS_X1_minAfter : Cond.selects yX1_minAfter.cls yX1_minAfter yX1_minAfter ∈ TB := tb_of (tbl2 (List.mem_of_getElem? (i := 175) (by decide +kernel))) rfl
theorem vX2_133 : ZV RX2 133 yX1_minAfter cX1_minAfter 4 (some .int) 1 := ⟨List.forall_mem_cons.mpr ⟨(tb_of (tbl3 (List.mem_of_getElem? (i := 82) (by decide +kernel))) rfl), List.forall_mem_cons.mpr ⟨wM_X1_minAfter, List.forall_mem_cons.mpr ⟨wS_X1_minAfter, List.forall_mem_cons.mpr ⟨wI_X1_minAfter, List.forall_mem_cons.mpr ⟨wC_X1_minAfter, fun _ h => absurd h List.not_mem_nil⟩⟩⟩⟩⟩, by decide +kernel, by decide⟩
theorem wC_X2_endText : Cond.code yX2_endText cX2_endText 1 none ∈ TB := tb_of (tbl3 (List.mem_of_getElem? (i := 62) (by decide +kernel))) rfl
theorem wI_X2_endText : Cond.initialized yX2_endText.cls ∈ TB := tb_of (tbl1 (List.mem_of_getElem? (i := 5) (by decide +kernel))) rfl
theorem wM_X2_endText : Cond.instanceMethod yX2_endText ∈ TB := tb_of (tbl3 (List.mem_of_getElem? (i := 61) (by decide +kernel))) rfl
theorem wS_X2_endText : Cond.selects yX2_endText.cls yX2_endText yX2_endText ∈ TB := tb_of (tblS (List.mem_of_getElem? (i := 23) (by decide +kernel))) rfl
theorem vX2_136 : ZV RX2 136 yX2_endText cX2_endText 1 none 0 := ⟨List.forall_mem_cons.mpr ⟨(tb_of (tbl3 (List.mem_of_getElem? (i := 59) (by decide +kernel))) rfl), List.forall_mem_cons.mpr ⟨wM_X2_endText, List.forall_mem_cons.mpr ⟨wS_X2_endText, List.forall_mem_cons.mpr ⟨wI_X2_endText, List.forall_mem_cons.mpr ⟨wC_X2_endText, fun _ h => absurd h List.not_mem_nil⟩⟩⟩⟩⟩, by decide +kernel, by decide⟩
theorem wC_X2_endBracket : Cond.code yX2_endBracket cX2_endBracket 1 none ∈ TB := tb_of (tbl3 (List.mem_of_getElem? (i := 66) (by decide +kernel))) rfl
theorem wI_X2_endBracket : Cond.initialized yX2_endBracket.cls ∈ TB := tb_of (tbl1 (List.mem_of_getElem? (i := 5) (by decide +kernel))) rfl
theorem wM_X2_endBracket : Cond.instanceMethod yX2_endBracket ∈ TB := tb_of (tbl3 (List.mem_of_getElem? (i := 65) (by decide +kernel))) rfl
theorem wS_X2_endBracket : Cond.selects yX2_endBracket.cls yX2_endBracket yX2_endBracket ∈ TB := tb_of (tblS (List.mem_of_getElem? (i := 24) (by decide +kernel))) rfl
theorem vX2_139 : ZV RX2 139 yX2_endBracket cX2_endBracket 1 none 0 := ⟨List.forall_mem_cons.mpr ⟨(tb_of (tbl3 (List.mem_of_getElem? (i := 63) (by decide +kernel))) rfl), List.forall_mem_cons.mpr ⟨wM_X2_endBracket, List.forall_mem_cons.mpr ⟨wS_X2_endBracket, List.forall_mem_cons.mpr ⟨wI_X2_endBracket, List.forall_mem_cons.mpr ⟨wC_X2_endBracket, fun _ h => absurd h List.not_mem_nil⟩⟩⟩⟩⟩, by decide +kernel, by decide⟩
theorem wC_X2_completeNode : Cond.code yX2_completeNode cX2_completeNode 3 none ∈ TB := tb_of (tbl3 (List.mem_of_getElem? (i := 70) (by decide +kernel))) rfl
theorem wI_X2_completeNode : Cond.initialized yX2_completeNode.cls ∈ TB := tb_of (tbl1 (List.mem_of_getElem? (i := 5) (by decide +kernel))) rfl
theorem wM_X2_completeNode : Cond.instanceMethod yX2_completeNode ∈ TB := tb_of (tbl3 (List.mem_of_getElem? (i := 69) (by decide +kernel))) rfl
theorem wS_X2_completeNode : Cond.selects yX2_completeNode.cls yX2_completeNode yX2_completeNode ∈ TB := tb_of (tblS (List.mem_of_getElem? (i := 25) (by decide +kernel))) rfl
theorem vX2_142 : ZV RX2 142 yX2_completeNode cX2_completeNode 3 none 1 := ⟨List.forall_mem_cons.mpr ⟨(tb_of (tbl3 (List.mem_of_getElem? (i := 67) (by decide +kernel))) rfl), List.forall_mem_cons.mpr ⟨wM_X2_completeNode, List.forall_mem_cons.mpr ⟨wS_X2_completeNode, List.forall_mem_cons.mpr ⟨wI_X2_completeNode, List.forall_mem_cons.mpr ⟨wC_X2_completeNode, fun _ h => absurd h List.not_mem_nil⟩⟩⟩⟩⟩, by decide +kernel, by decide⟩
theorem vX2_145 : ZV RX2 145 yX1_isForbidden cX1_isForbidden 3 (some .boolean) 2 := ⟨List.forall_mem_cons.mpr ⟨(tb_of (tbl3 (List.mem_of_getElem? (i := 76) (by decide +kernel))) rfl), List.forall_mem_cons.mpr ⟨wM_X1_isForbidden, List.forall_mem_cons.mpr ⟨wS_X1_isForbidden, List.forall_mem_cons.mpr ⟨wI_X1_isForbidden, List.forall_mem_cons.mpr ⟨wC_X1_isForbidden, fun _ h => absurd h List.not_mem_nil⟩⟩⟩⟩⟩, by decide +kernel, by decide⟩
theorem wC_X3_empty : Cond.code yX3_empty cX3_empty 1 none ∈ TB := tb_of (tbl2 (List.mem_of_getElem? (i := 140) (by decide +kernel))) rfl
theorem wI_X3_empty : Cond.initialized yX3_empty.cls ∈ TB := tb_of (tbl1 (List.mem_of_getElem? (i := 4) (by decide +kernel))) rfl
theorem wM_X3_empty : Cond.instanceMethod yX3_empty ∈ TB := tb_of (tbl2 (List.mem_of_getElem? (i := 138) (by decide +kernel))) rfl
theorem wS_X3_empty : Cond.selects yX3_empty.cls yX3_empty yX3_empty ∈ TB := tb_of (tbl2 (List.mem_of_getElem? (i := 139) (by decide +kernel))) rfl
theorem vX3_19 : ZV RX3 19 yX3_empty cX3_empty 1 none 0 := ⟨List.forall_mem_cons.mpr ⟨(tb_of (tbl3 (List.mem_of_getElem? (i := 13) (by decide +kernel))) rfl), List.forall_mem_cons.mpr ⟨wM_X3_empty, List.forall_mem_cons.mpr ⟨wS_X3_empty, List.forall_mem_cons.mpr ⟨wI_X3_empty, List.forall_mem_cons.mpr ⟨wC_X3_empty, fun _ h => absurd h List.not_mem_nil⟩⟩⟩⟩⟩, by decide +kernel, by decide⟩
theorem wC_X3_put : Cond.code yX3_put cX3_put 2 (some .boolean) ∈ TB := tb_of (tbl2 (List.mem_of_getElem? (i := 203) (by decide +kernel))) rfl
theorem wI_X3_put : Cond.initialized yX3_put.cls ∈ TB := tb_of (tbl1 (List.mem_of_getElem? (i := 4) (by decide +kernel))) rfl
theorem wM_X3_put : Cond.instanceMethod yX3_put ∈ TB := tb_of (tbl2 (List.mem_of_getElem? (i := 201) (by decide +kernel))) rfl
theorem wS_X3_put : Cond.selects yX3_put.cls yX3_put yX3_put ∈ TB := tb_of (tbl2 (List.mem_of_getElem? (i := 202) (by decide +kernel))) rfl
theorem vX3_22 : ZV RX3 22 yX3_put cX3_put 2 (some .boolean) 1 := ⟨List.forall_mem_cons.mpr ⟨(tb_of (tbl3 (List.mem_of_getElem? (i := 14) (by decide +kernel))) rfl), List.forall_mem_cons.mpr ⟨wM_X3_put, List.forall_mem_cons.mpr ⟨wS_X3_put, List.forall_mem_cons.mpr ⟨wI_X3_put, List.forall_mem_cons.mpr ⟨wC_X3_put, fun _ h => absurd h List.not_mem_nil⟩⟩⟩⟩⟩, by decide +kernel, by decide⟩
theorem wC_X3_openOf : Cond.code yX3_openOf cX3_openOf 4 (some .int) ∈ TB := tb_of (tbl3 (List.mem_of_getElem? (i := 5) (by decide +kernel))) rfl
theorem wI_X3_openOf : Cond.initialized yX3_openOf.cls ∈ TB := tb_of (tbl1 (List.mem_of_getElem? (i := 4) (by decide +kernel))) rfl
theorem wM_X3_openOf : Cond.instanceMethod yX3_openOf ∈ TB := tb_of (tbl3 (List.mem_of_getElem? (i := 4) (by decide +kernel))) rfl
theorem wS_X3_openOf : Cond.selects yX3_openOf.cls yX3_openOf yX3_openOf ∈ TB := tb_of (tblS (List.mem_of_getElem? (i := 13) (by decide +kernel))) rfl
theorem vX3_26 : ZV RX3 26 yX3_openOf cX3_openOf 4 (some .int) 1 := ⟨List.forall_mem_cons.mpr ⟨(tb_of (tbl3 (List.mem_of_getElem? (i := 2) (by decide +kernel))) rfl), List.forall_mem_cons.mpr ⟨wM_X3_openOf, List.forall_mem_cons.mpr ⟨wS_X3_openOf, List.forall_mem_cons.mpr ⟨wI_X3_openOf, List.forall_mem_cons.mpr ⟨wC_X3_openOf, fun _ h => absurd h List.not_mem_nil⟩⟩⟩⟩⟩, by decide +kernel, by decide⟩
theorem wC_X3_closeOf : Cond.code yX3_closeOf cX3_closeOf 4 (some .int) ∈ TB := tb_of (tbl3 (List.mem_of_getElem? (i := 9) (by decide +kernel))) rfl
theorem wI_X3_closeOf : Cond.initialized yX3_closeOf.cls ∈ TB := tb_of (tbl1 (List.mem_of_getElem? (i := 4) (by decide +kernel))) rfl
theorem wM_X3_closeOf : Cond.instanceMethod yX3_closeOf ∈ TB := tb_of (tbl3 (List.mem_of_getElem? (i := 8) (by decide +kernel))) rfl
theorem wS_X3_closeOf : Cond.selects yX3_closeOf.cls yX3_closeOf yX3_closeOf ∈ TB := tb_of (tblS (List.mem_of_getElem? (i := 14) (by decide +kernel))) rfl
theorem vX3_30 : ZV RX3 30 yX3_closeOf cX3_closeOf 4 (some .int) 1 := ⟨List.forall_mem_cons.mpr ⟨(tb_of (tbl3 (List.mem_of_getElem? (i := 6) (by decide +kernel))) rfl), List.forall_mem_cons.mpr ⟨wM_X3_closeOf, List.forall_mem_cons.mpr ⟨wS_X3_closeOf, List.forall_mem_cons.mpr ⟨wI_X3_closeOf, List.forall_mem_cons.mpr ⟨wC_X3_closeOf, fun _ h => absurd h List.not_mem_nil⟩⟩⟩⟩⟩, by decide +kernel, by decide⟩
theorem vX3_33 : ZMt RX3 33 Lib.Math.max.name Lib.Math.max.code := by intro w hw; refine tb_of ?_ ?_ <;> (revert w; decide +kernel)
theorem wC_X4_markNeeded : Cond.code yX4_markNeeded cX4_markNeeded 3 none ∈ TB := tb_of (tbl2 (List.mem_of_getElem? (i := 148) (by decide +kernel))) rfl
theorem wI_X4_markNeeded : Cond.initialized yX4_markNeeded.cls ∈ TB := tb_of (tbl1 (List.mem_of_getElem? (i := 6) (by decide +kernel))) rfl
theorem wM_X4_markNeeded : Cond.instanceMethod yX4_markNeeded ∈ TB := tb_of (tbl2 (List.mem_of_getElem? (i := 147) (by decide +kernel))) rfl
theorem wS_X4_markNeeded : Cond.selects yX4_markNeeded.cls yX4_markNeeded yX4_markNeeded ∈ TB := tb_of (tblS (List.mem_of_getElem? (i := 4) (by decide +kernel))) rfl
theorem vX4_31 : ZV RX4 31 yX4_markNeeded cX4_markNeeded 3 none 1 := ⟨List.forall_mem_cons.mpr ⟨(tb_of (tbl2 (List.mem_of_getElem? (i := 145) (by decide +kernel))) rfl), List.forall_mem_cons.mpr ⟨wM_X4_markNeeded, List.forall_mem_cons.mpr ⟨wS_X4_markNeeded, List.forall_mem_cons.mpr ⟨wI_X4_markNeeded, List.forall_mem_cons.mpr ⟨wC_X4_markNeeded, fun _ h => absurd h List.not_mem_nil⟩⟩⟩⟩⟩, by decide +kernel, by decide⟩
theorem wC_X4_countNeeded : Cond.code yX4_countNeeded cX4_countNeeded 3 none ∈ TB := tb_of (tbl2 (List.mem_of_getElem? (i := 161) (by decide +kernel))) rfl
theorem wI_X4_countNeeded : Cond.initialized yX4_countNeeded.cls ∈ TB := tb_of (tbl1 (List.mem_of_getElem? (i := 6) (by decide +kernel))) rfl
theorem wM_X4_countNeeded : Cond.instanceMethod yX4_countNeeded ∈ TB := tb_of (tbl2 (List.mem_of_getElem? (i := 160) (by decide +kernel))) rfl
theorem wS_X4_countNeeded : Cond.selects yX4_countNeeded.cls yX4_countNeeded yX4_countNeeded ∈ TB := tb_of (tblS (List.mem_of_getElem? (i := 6) (by decide +kernel))) rfl
theorem vX4_35 : ZV RX4 35 yX4_countNeeded cX4_countNeeded 3 none 1 := ⟨List.forall_mem_cons.mpr ⟨(tb_of (tbl2 (List.mem_of_getElem? (i := 158) (by decide +kernel))) rfl), List.forall_mem_cons.mpr ⟨wM_X4_countNeeded, List.forall_mem_cons.mpr ⟨wS_X4_countNeeded, List.forall_mem_cons.mpr ⟨wI_X4_countNeeded, List.forall_mem_cons.mpr ⟨wC_X4_countNeeded, fun _ h => absurd h List.not_mem_nil⟩⟩⟩⟩⟩, by decide +kernel, by decide⟩
theorem wC_X4_mark : Cond.code yX4_mark cX4_mark 2 none ∈ TB := tb_of (tbl2 (List.mem_of_getElem? (i := 152) (by decide +kernel))) rfl
theorem wI_X4_mark : Cond.initialized yX4_mark.cls ∈ TB := tb_of (tbl1 (List.mem_of_getElem? (i := 6) (by decide +kernel))) rfl
theorem wM_X4_mark : Cond.instanceMethod yX4_mark ∈ TB := tb_of (tbl2 (List.mem_of_getElem? (i := 151) (by decide +kernel))) rfl
theorem wS_X4_mark : Cond.selects yX4_mark.cls yX4_mark yX4_mark ∈ TB := tb_of (tblS (List.mem_of_getElem? (i := 5) (by decide +kernel))) rfl
theorem vX4_38 : ZV RX4 38 yX4_mark cX4_mark 2 none 1 := ⟨List.forall_mem_cons.mpr ⟨(tb_of (tbl2 (List.mem_of_getElem? (i := 149) (by decide +kernel))) rfl), List.forall_mem_cons.mpr ⟨wM_X4_mark, List.forall_mem_cons.mpr ⟨wS_X4_mark, List.forall_mem_cons.mpr ⟨wI_X4_mark, List.forall_mem_cons.mpr ⟨wC_X4_mark, fun _ h => absurd h List.not_mem_nil⟩⟩⟩⟩⟩, by decide +kernel, by decide⟩
theorem vX4_41 : ZMt RX4 41 Lib.Math.min.name Lib.Math.min.code := by intro w hw; refine tb_of ?_ ?_ <;> (revert w; decide +kernel)
theorem vX4_47 : ZV RX4 47 yX0_beforeAt cX0_beforeAt 2 (some .int) 1 := ⟨List.forall_mem_cons.mpr ⟨(tb_of (tbl2 (List.mem_of_getElem? (i := 156) (by decide +kernel))) rfl), List.forall_mem_cons.mpr ⟨wM_X0_beforeAt, List.forall_mem_cons.mpr ⟨wS_X0_beforeAt, List.forall_mem_cons.mpr ⟨wI_X0_beforeAt, List.forall_mem_cons.mpr ⟨wC_X0_beforeAt, fun _ h => absurd h List.not_mem_nil⟩⟩⟩⟩⟩, by decide +kernel, by decide⟩
theorem vX4_53 : ZV RX4 53 yX0_afterAt cX0_afterAt 2 (some .int) 1 := ⟨List.forall_mem_cons.mpr ⟨(tb_of (tbl2 (List.mem_of_getElem? (i := 157) (by decide +kernel))) rfl), List.forall_mem_cons.mpr ⟨wM_X0_afterAt, List.forall_mem_cons.mpr ⟨wS_X0_afterAt, List.forall_mem_cons.mpr ⟨wI_X0_afterAt, List.forall_mem_cons.mpr ⟨wC_X0_afterAt, fun _ h => absurd h List.not_mem_nil⟩⟩⟩⟩⟩, by decide +kernel, by decide⟩
theorem wC_X4_pairsInside : Cond.code yX4_pairsInside cX4_pairsInside 6 (some .int) ∈ TB := tb_of (tbl2 (List.mem_of_getElem? (i := 165) (by decide +kernel))) rfl
theorem wI_X4_pairsInside : Cond.initialized yX4_pairsInside.cls ∈ TB := tb_of (tbl1 (List.mem_of_getElem? (i := 6) (by decide +kernel))) rfl
theorem wM_X4_pairsInside : Cond.instanceMethod yX4_pairsInside ∈ TB := tb_of (tbl2 (List.mem_of_getElem? (i := 164) (by decide +kernel))) rfl
theorem wS_X4_pairsInside : Cond.selects yX4_pairsInside.cls yX4_pairsInside yX4_pairsInside ∈ TB := tb_of (tblS (List.mem_of_getElem? (i := 7) (by decide +kernel))) rfl
theorem vX4_56 : ZV RX4 56 yX4_pairsInside cX4_pairsInside 6 (some .int) 4 := ⟨List.forall_mem_cons.mpr ⟨(tb_of (tbl2 (List.mem_of_getElem? (i := 162) (by decide +kernel))) rfl), List.forall_mem_cons.mpr ⟨wM_X4_pairsInside, List.forall_mem_cons.mpr ⟨wS_X4_pairsInside, List.forall_mem_cons.mpr ⟨wI_X4_pairsInside, List.forall_mem_cons.mpr ⟨wC_X4_pairsInside, fun _ h => absurd h List.not_mem_nil⟩⟩⟩⟩⟩, by decide +kernel, by decide⟩
theorem vX4_60 : ZV RX4 60 yX0_operatorAt cX0_operatorAt 2 (some .int) 1 := ⟨List.forall_mem_cons.mpr ⟨(tb_of (tbl2 (List.mem_of_getElem? (i := 166) (by decide +kernel))) rfl), List.forall_mem_cons.mpr ⟨wM_X0_operatorAt, List.forall_mem_cons.mpr ⟨wS_X0_operatorAt, List.forall_mem_cons.mpr ⟨wI_X0_operatorAt, List.forall_mem_cons.mpr ⟨wC_X0_operatorAt, fun _ h => absurd h List.not_mem_nil⟩⟩⟩⟩⟩, by decide +kernel, by decide⟩
theorem wC_X4_isReadWhole : Cond.code yX4_isReadWhole cX4_isReadWhole 7 (some .boolean) ∈ TB := tb_of (tbl2 (List.mem_of_getElem? (i := 170) (by decide +kernel))) rfl
theorem wI_X4_isReadWhole : Cond.initialized yX4_isReadWhole.cls ∈ TB := tb_of (tbl1 (List.mem_of_getElem? (i := 6) (by decide +kernel))) rfl
theorem wM_X4_isReadWhole : Cond.instanceMethod yX4_isReadWhole ∈ TB := tb_of (tbl2 (List.mem_of_getElem? (i := 169) (by decide +kernel))) rfl
theorem wS_X4_isReadWhole : Cond.selects yX4_isReadWhole.cls yX4_isReadWhole yX4_isReadWhole ∈ TB := tb_of (tblS (List.mem_of_getElem? (i := 8) (by decide +kernel))) rfl
theorem vX4_63 : ZV RX4 63 yX4_isReadWhole cX4_isReadWhole 7 (some .boolean) 3 := ⟨List.forall_mem_cons.mpr ⟨(tb_of (tbl2 (List.mem_of_getElem? (i := 167) (by decide +kernel))) rfl), List.forall_mem_cons.mpr ⟨wM_X4_isReadWhole, List.forall_mem_cons.mpr ⟨wS_X4_isReadWhole, List.forall_mem_cons.mpr ⟨wI_X4_isReadWhole, List.forall_mem_cons.mpr ⟨wC_X4_isReadWhole, fun _ h => absurd h List.not_mem_nil⟩⟩⟩⟩⟩, by decide +kernel, by decide⟩
theorem vX4_67 : ZV RX4 67 yX1_levelAt cX1_levelAt 2 (some .int) 1 := ⟨List.forall_mem_cons.mpr ⟨(tb_of (tbl2 (List.mem_of_getElem? (i := 172) (by decide +kernel))) rfl), List.forall_mem_cons.mpr ⟨wM_X1_levelAt, List.forall_mem_cons.mpr ⟨wS_X1_levelAt, List.forall_mem_cons.mpr ⟨wI_X1_levelAt, List.forall_mem_cons.mpr ⟨wC_X1_levelAt, fun _ h => absurd h List.not_mem_nil⟩⟩⟩⟩⟩, by decide +kernel, by decide⟩
theorem wC_X4_pairsOfOperand : Cond.code yX4_pairsOfOperand cX4_pairsOfOperand 6 (some .int) ∈ TB := tb_of (tbl2 (List.mem_of_getElem? (i := 180) (by decide +kernel))) rfl
theorem wI_X4_pairsOfOperand : Cond.initialized yX4_pairsOfOperand.cls ∈ TB := tb_of (tbl1 (List.mem_of_getElem? (i := 6) (by decide +kernel))) rfl
theorem wM_X4_pairsOfOperand : Cond.instanceMethod yX4_pairsOfOperand ∈ TB := tb_of (tbl2 (List.mem_of_getElem? (i := 179) (by decide +kernel))) rfl
theorem wS_X4_pairsOfOperand : Cond.selects yX4_pairsOfOperand.cls yX4_pairsOfOperand yX4_pairsOfOperand ∈ TB := tb_of (tblS (List.mem_of_getElem? (i := 9) (by decide +kernel))) rfl
theorem vX4_72 : ZV RX4 72 yX4_pairsOfOperand cX4_pairsOfOperand 6 (some .int) 5 := ⟨List.forall_mem_cons.mpr ⟨(tb_of (tbl2 (List.mem_of_getElem? (i := 177) (by decide +kernel))) rfl), List.forall_mem_cons.mpr ⟨wM_X4_pairsOfOperand, List.forall_mem_cons.mpr ⟨wS_X4_pairsOfOperand, List.forall_mem_cons.mpr ⟨wI_X4_pairsOfOperand, List.forall_mem_cons.mpr ⟨wC_X4_pairsOfOperand, fun _ h => absurd h List.not_mem_nil⟩⟩⟩⟩⟩, by decide +kernel, by decide⟩
theorem vX4_76 : ZV RX4 76 yX1_minAfter cX1_minAfter 4 (some .int) 1 := ⟨List.forall_mem_cons.mpr ⟨(tb_of (tbl2 (List.mem_of_getElem? (i := 173) (by decide +kernel))) rfl), List.forall_mem_cons.mpr ⟨wM_X1_minAfter, List.forall_mem_cons.mpr ⟨wS_X1_minAfter, List.forall_mem_cons.mpr ⟨wI_X1_minAfter, List.forall_mem_cons.mpr ⟨wC_X1_minAfter, fun _ h => absurd h List.not_mem_nil⟩⟩⟩⟩⟩, by decide +kernel, by decide⟩
theorem vX4_79 : ZV RX4 79 yX1_kindAt cX1_kindAt 2 (some .int) 1 := ⟨List.forall_mem_cons.mpr ⟨(tb_of (tbl2 (List.mem_of_getElem? (i := 171) (by decide +kernel))) rfl), List.forall_mem_cons.mpr ⟨wM_X1_kindAt, List.forall_mem_cons.mpr ⟨wS_X1_kindAt, List.forall_mem_cons.mpr ⟨wI_X1_kindAt, List.forall_mem_cons.mpr ⟨wC_X1_kindAt, fun _ h => absurd h List.not_mem_nil⟩⟩⟩⟩⟩, by decide +kernel, by decide⟩
theorem wC_X4_pairsIfOpen : Cond.code yX4_pairsIfOpen cX4_pairsIfOpen 7 (some .int) ∈ TB := tb_of (tbl2 (List.mem_of_getElem? (i := 184) (by decide +kernel))) rfl
theorem wI_X4_pairsIfOpen : Cond.initialized yX4_pairsIfOpen.cls ∈ TB := tb_of (tbl1 (List.mem_of_getElem? (i := 6) (by decide +kernel))) rfl
theorem wM_X4_pairsIfOpen : Cond.instanceMethod yX4_pairsIfOpen ∈ TB := tb_of (tbl2 (List.mem_of_getElem? (i := 183) (by decide +kernel))) rfl
theorem wS_X4_pairsIfOpen : Cond.selects yX4_pairsIfOpen.cls yX4_pairsIfOpen yX4_pairsIfOpen ∈ TB := tb_of (tblS (List.mem_of_getElem? (i := 10) (by decide +kernel))) rfl
theorem vX4_82 : ZV RX4 82 yX4_pairsIfOpen cX4_pairsIfOpen 7 (some .int) 5 := ⟨List.forall_mem_cons.mpr ⟨(tb_of (tbl2 (List.mem_of_getElem? (i := 181) (by decide +kernel))) rfl), List.forall_mem_cons.mpr ⟨wM_X4_pairsIfOpen, List.forall_mem_cons.mpr ⟨wS_X4_pairsIfOpen, List.forall_mem_cons.mpr ⟨wI_X4_pairsIfOpen, List.forall_mem_cons.mpr ⟨wC_X4_pairsIfOpen, fun _ h => absurd h List.not_mem_nil⟩⟩⟩⟩⟩, by decide +kernel, by decide⟩
theorem wC_X4_pairsIfBracketed : Cond.code yX4_pairsIfBracketed cX4_pairsIfBracketed 2 (some .int) ∈ TB := tb_of (tbl2 (List.mem_of_getElem? (i := 194) (by decide +kernel))) rfl
theorem wI_X4_pairsIfBracketed : Cond.initialized yX4_pairsIfBracketed.cls ∈ TB := tb_of (tbl1 (List.mem_of_getElem? (i := 6) (by decide +kernel))) rfl
theorem wM_X4_pairsIfBracketed : Cond.instanceMethod yX4_pairsIfBracketed ∈ TB := tb_of (tbl2 (List.mem_of_getElem? (i := 193) (by decide +kernel))) rfl
theorem wS_X4_pairsIfBracketed : Cond.selects yX4_pairsIfBracketed.cls yX4_pairsIfBracketed yX4_pairsIfBracketed ∈ TB := tb_of (tblS (List.mem_of_getElem? (i := 11) (by decide +kernel))) rfl
theorem vX4_85 : ZV RX4 85 yX4_pairsIfBracketed cX4_pairsIfBracketed 2 (some .int) 1 := ⟨List.forall_mem_cons.mpr ⟨(tb_of (tbl2 (List.mem_of_getElem? (i := 191) (by decide +kernel))) rfl), List.forall_mem_cons.mpr ⟨wM_X4_pairsIfBracketed, List.forall_mem_cons.mpr ⟨wS_X4_pairsIfBracketed, List.forall_mem_cons.mpr ⟨wI_X4_pairsIfBracketed, List.forall_mem_cons.mpr ⟨wC_X4_pairsIfBracketed, fun _ h => absurd h List.not_mem_nil⟩⟩⟩⟩⟩, by decide +kernel, by decide⟩
theorem vX4_88 : ZV RX4 88 yX1_isForbidden cX1_isForbidden 3 (some .boolean) 2 := ⟨List.forall_mem_cons.mpr ⟨(tb_of (tbl2 (List.mem_of_getElem? (i := 185) (by decide +kernel))) rfl), List.forall_mem_cons.mpr ⟨wM_X1_isForbidden, List.forall_mem_cons.mpr ⟨wS_X1_isForbidden, List.forall_mem_cons.mpr ⟨wI_X1_isForbidden, List.forall_mem_cons.mpr ⟨wC_X1_isForbidden, fun _ h => absurd h List.not_mem_nil⟩⟩⟩⟩⟩, by decide +kernel, by decide⟩
theorem vX4_92 : ZV RX4 92 yX1_isNotAssociative cX1_isNotAssociative 4 (some .boolean) 2 := ⟨List.forall_mem_cons.mpr ⟨(tb_of (tbl2 (List.mem_of_getElem? (i := 186) (by decide +kernel))) rfl), List.forall_mem_cons.mpr ⟨wM_X1_isNotAssociative, List.forall_mem_cons.mpr ⟨wS_X1_isNotAssociative, List.forall_mem_cons.mpr ⟨wI_X1_isNotAssociative, List.forall_mem_cons.mpr ⟨wC_X1_isNotAssociative, fun _ h => absurd h List.not_mem_nil⟩⟩⟩⟩⟩, by decide +kernel, by decide⟩
theorem wC_X0_letterAt : Cond.code yX0_letterAt cX0_letterAt 2 (some .int) ∈ TB := tb_of (tbl2 (List.mem_of_getElem? (i := 99) (by decide +kernel))) rfl
theorem wI_X0_letterAt : Cond.initialized yX0_letterAt.cls ∈ TB := tb_of (tbl1 (List.mem_of_getElem? (i := 3) (by decide +kernel))) rfl
theorem wM_X0_letterAt : Cond.instanceMethod yX0_letterAt ∈ TB := tb_of (tbl2 (List.mem_of_getElem? (i := 97) (by decide +kernel))) rfl
theorem wS_X0_letterAt : Cond.selects yX0_letterAt.cls yX0_letterAt yX0_letterAt ∈ TB := tb_of (tbl2 (List.mem_of_getElem? (i := 98) (by decide +kernel))) rfl
theorem vX4_95 : ZV RX4 95 yX0_letterAt cX0_letterAt 2 (some .int) 1 := ⟨List.forall_mem_cons.mpr ⟨(tb_of (tbl2 (List.mem_of_getElem? (i := 199) (by decide +kernel))) rfl), List.forall_mem_cons.mpr ⟨wM_X0_letterAt, List.forall_mem_cons.mpr ⟨wS_X0_letterAt, List.forall_mem_cons.mpr ⟨wI_X0_letterAt, List.forall_mem_cons.mpr ⟨wC_X0_letterAt, fun _ h => absurd h List.not_mem_nil⟩⟩⟩⟩⟩, by decide +kernel, by decide⟩
theorem vX4_98 : ZV RX4 98 yX3_put cX3_put 2 (some .boolean) 1 := ⟨List.forall_mem_cons.mpr ⟨(tb_of (tbl2 (List.mem_of_getElem? (i := 200) (by decide +kernel))) rfl), List.forall_mem_cons.mpr ⟨wM_X3_put, List.forall_mem_cons.mpr ⟨wS_X3_put, List.forall_mem_cons.mpr ⟨wI_X3_put, List.forall_mem_cons.mpr ⟨wC_X3_put, fun _ h => absurd h List.not_mem_nil⟩⟩⟩⟩⟩, by decide +kernel, by decide⟩
theorem wC_X4_writeOperand : Cond.code yX4_writeOperand cX4_writeOperand 7 none ∈ TB := tb_of (tbl2 (List.mem_of_getElem? (i := 207) (by decide +kernel))) rfl
theorem wI_X4_writeOperand : Cond.initialized yX4_writeOperand.cls ∈ TB := tb_of (tbl1 (List.mem_of_getElem? (i := 6) (by decide +kernel))) rfl
theorem wM_X4_writeOperand : Cond.instanceMethod yX4_writeOperand ∈ TB := tb_of (tbl2 (List.mem_of_getElem? (i := 206) (by decide +kernel))) rfl
theorem wS_X4_writeOperand : Cond.selects yX4_writeOperand.cls yX4_writeOperand yX4_writeOperand ∈ TB := tb_of (tblS (List.mem_of_getElem? (i := 12) (by decide +kernel))) rfl
theorem vX4_104 : ZV RX4 104 yX4_writeOperand cX4_writeOperand 7 none 5 := ⟨List.forall_mem_cons.mpr ⟨(tb_of (tbl2 (List.mem_of_getElem? (i := 204) (by decide +kernel))) rfl), List.forall_mem_cons.mpr ⟨wM_X4_writeOperand, List.forall_mem_cons.mpr ⟨wS_X4_writeOperand, List.forall_mem_cons.mpr ⟨wI_X4_writeOperand, List.forall_mem_cons.mpr ⟨wC_X4_writeOperand, fun _ h => absurd h List.not_mem_nil⟩⟩⟩⟩⟩, by decide +kernel, by decide⟩
theorem wC_X1_symbolAt : Cond.code yX1_symbolAt cX1_symbolAt 2 (some .int) ∈ TB := tb_of (tbl1 (List.mem_of_getElem? (i := 239) (by decide +kernel))) rfl
theorem wI_X1_symbolAt : Cond.initialized yX1_symbolAt.cls ∈ TB := tb_of (tbl1 (List.mem_of_getElem? (i := 2) (by decide +kernel))) rfl
theorem wM_X1_symbolAt : Cond.instanceMethod yX1_symbolAt ∈ TB := tb_of (tbl1 (List.mem_of_getElem? (i := 237) (by decide +kernel))) rfl
theorem wS_X1_symbolAt : Cond.selects yX1_symbolAt.cls yX1_symbolAt yX1_symbolAt ∈ TB := tb_of (tbl1 (List.mem_of_getElem? (i := 238) (by decide +kernel))) rfl
theorem vX4_108 : ZV RX4 108 yX1_symbolAt cX1_symbolAt 2 (some .int) 1 := ⟨List.forall_mem_cons.mpr ⟨(tb_of (tbl2 (List.mem_of_getElem? (i := 209) (by decide +kernel))) rfl), List.forall_mem_cons.mpr ⟨wM_X1_symbolAt, List.forall_mem_cons.mpr ⟨wS_X1_symbolAt, List.forall_mem_cons.mpr ⟨wI_X1_symbolAt, List.forall_mem_cons.mpr ⟨wC_X1_symbolAt, fun _ h => absurd h List.not_mem_nil⟩⟩⟩⟩⟩, by decide +kernel, by decide⟩
theorem wC_X4_writeNode : Cond.code yX4_writeNode cX4_writeNode 6 none ∈ TB := tb_of (tbl2 (List.mem_of_getElem? (i := 198) (by decide +kernel))) rfl
theorem wI_X4_writeNode : Cond.initialized yX4_writeNode.cls ∈ TB := tb_of (tbl1 (List.mem_of_getElem? (i := 6) (by decide +kernel))) rfl
theorem wM_X4_writeNode : Cond.instanceMethod yX4_writeNode ∈ TB := tb_of (tbl2 (List.mem_of_getElem? (i := 196) (by decide +kernel))) rfl
theorem wS_X4_writeNode : Cond.selects yX4_writeNode.cls yX4_writeNode yX4_writeNode ∈ TB := tb_of (tbl2 (List.mem_of_getElem? (i := 197) (by decide +kernel))) rfl
theorem vX4_111 : ZV RX4 111 yX4_writeNode cX4_writeNode 6 none 4 := ⟨List.forall_mem_cons.mpr ⟨(tb_of (tbl2 (List.mem_of_getElem? (i := 208) (by decide +kernel))) rfl), List.forall_mem_cons.mpr ⟨wM_X4_writeNode, List.forall_mem_cons.mpr ⟨wS_X4_writeNode, List.forall_mem_cons.mpr ⟨wI_X4_writeNode, List.forall_mem_cons.mpr ⟨wC_X4_writeNode, fun _ h => absurd h List.not_mem_nil⟩⟩⟩⟩⟩, by decide +kernel, by decide⟩
theorem wC_X5_defineOperator : Cond.code yX5_defineOperator cX5_defineOperator 5 (some .int) ∈ TB := tb_of (tbl1 (List.mem_of_getElem? (i := 194) (by decide +kernel))) rfl
theorem wI_X5_defineOperator : Cond.initialized yX5_defineOperator.cls ∈ TB := tb_of (tbl1 (List.mem_of_getElem? (i := 1) (by decide +kernel))) rfl
theorem wM_X5_defineOperator : Cond.instanceMethod yX5_defineOperator ∈ TB := tb_of (tbl1 (List.mem_of_getElem? (i := 193) (by decide +kernel))) rfl
theorem wS_X5_defineOperator : Cond.selects yX5_defineOperator.cls yX5_defineOperator yX5_defineOperator ∈ TB := tb_of (tblS (List.mem_of_getElem? (i := 0) (by decide +kernel))) rfl
theorem vX5_65 : ZV RX5 65 yX5_defineOperator cX5_defineOperator 5 (some .int) 3 := ⟨List.forall_mem_cons.mpr ⟨(tb_of (tbl1 (List.mem_of_getElem? (i := 191) (by decide +kernel))) rfl), List.forall_mem_cons.mpr ⟨wM_X5_defineOperator, List.forall_mem_cons.mpr ⟨wS_X5_defineOperator, List.forall_mem_cons.mpr ⟨wI_X5_defineOperator, List.forall_mem_cons.mpr ⟨wC_X5_defineOperator, fun _ h => absurd h List.not_mem_nil⟩⟩⟩⟩⟩, by decide +kernel, by decide⟩
theorem wC_X5_canBeSymbol : Cond.code yX5_canBeSymbol cX5_canBeSymbol 1 (some .boolean) ∈ TB := tb_of (tbl1 (List.mem_of_getElem? (i := 197) (by decide +kernel))) rfl
theorem wI_X5_canBeSymbol : Cond.initialized yX5_canBeSymbol.cls ∈ TB := tb_of (tbl1 (List.mem_of_getElem? (i := 1) (by decide +kernel))) rfl
theorem wT_X5_canBeSymbol : Cond.static yX5_canBeSymbol ∈ TB := tb_of (tbl1 (List.mem_of_getElem? (i := 196) (by decide +kernel))) rfl
theorem vX5_69 : ZS RX5 69 yX5_canBeSymbol cX5_canBeSymbol 1 (some .boolean) 1 := ⟨List.forall_mem_cons.mpr ⟨(tb_of (tbl1 (List.mem_of_getElem? (i := 195) (by decide +kernel))) rfl), List.forall_mem_cons.mpr ⟨wT_X5_canBeSymbol, List.forall_mem_cons.mpr ⟨wI_X5_canBeSymbol, List.forall_mem_cons.mpr ⟨wC_X5_canBeSymbol, fun _ h => absurd h List.not_mem_nil⟩⟩⟩⟩, by decide +kernel, by decide⟩
theorem vX5_73 : ZS RX5 73 yX5_isLevel cX5_isLevel 1 (some .boolean) 1 := ⟨List.forall_mem_cons.mpr ⟨(tb_of (tbl1 (List.mem_of_getElem? (i := 201) (by decide +kernel))) rfl), List.forall_mem_cons.mpr ⟨wT_X5_isLevel, List.forall_mem_cons.mpr ⟨wI_X5_isLevel, List.forall_mem_cons.mpr ⟨wC_X5_isLevel, fun _ h => absurd h List.not_mem_nil⟩⟩⟩⟩, by decide +kernel, by decide⟩
theorem vX5_76 : ZV RX5 76 yX1_find cX1_find 4 (some .int) 2 := ⟨List.forall_mem_cons.mpr ⟨(tb_of (tbl1 (List.mem_of_getElem? (i := 204) (by decide +kernel))) rfl), List.forall_mem_cons.mpr ⟨wM_X1_find, List.forall_mem_cons.mpr ⟨wS_X1_find, List.forall_mem_cons.mpr ⟨wI_X1_find, List.forall_mem_cons.mpr ⟨wC_X1_find, fun _ h => absurd h List.not_mem_nil⟩⟩⟩⟩⟩, by decide +kernel, by decide⟩
theorem wC_X1_add : Cond.code yX1_add cX1_add 4 (some .int) ∈ TB := tb_of (tbl1 (List.mem_of_getElem? (i := 211) (by decide +kernel))) rfl
theorem wI_X1_add : Cond.initialized yX1_add.cls ∈ TB := tb_of (tbl1 (List.mem_of_getElem? (i := 2) (by decide +kernel))) rfl
theorem wM_X1_add : Cond.instanceMethod yX1_add ∈ TB := tb_of (tbl1 (List.mem_of_getElem? (i := 209) (by decide +kernel))) rfl
theorem wS_X1_add : Cond.selects yX1_add.cls yX1_add yX1_add ∈ TB := tb_of (tbl1 (List.mem_of_getElem? (i := 210) (by decide +kernel))) rfl
theorem vX5_80 : ZV RX5 80 yX1_add cX1_add 4 (some .int) 3 := ⟨List.forall_mem_cons.mpr ⟨(tb_of (tbl1 (List.mem_of_getElem? (i := 208) (by decide +kernel))) rfl), List.forall_mem_cons.mpr ⟨wM_X1_add, List.forall_mem_cons.mpr ⟨wS_X1_add, List.forall_mem_cons.mpr ⟨wI_X1_add, List.forall_mem_cons.mpr ⟨wC_X1_add, fun _ h => absurd h List.not_mem_nil⟩⟩⟩⟩⟩, by decide +kernel, by decide⟩
theorem wC_X1_count : Cond.code yX1_count cX1_count 1 (some .int) ∈ TB := tb_of (tbl1 (List.mem_of_getElem? (i := 227) (by decide +kernel))) rfl
theorem wI_X1_count : Cond.initialized yX1_count.cls ∈ TB := tb_of (tbl1 (List.mem_of_getElem? (i := 2) (by decide +kernel))) rfl
theorem wM_X1_count : Cond.instanceMethod yX1_count ∈ TB := tb_of (tbl1 (List.mem_of_getElem? (i := 225) (by decide +kernel))) rfl
theorem wS_X1_count : Cond.selects yX1_count.cls yX1_count yX1_count ∈ TB := tb_of (tbl1 (List.mem_of_getElem? (i := 226) (by decide +kernel))) rfl
theorem vX5_83 : ZV RX5 83 yX1_count cX1_count 1 (some .int) 0 := ⟨List.forall_mem_cons.mpr ⟨(tb_of (tbl1 (List.mem_of_getElem? (i := 224) (by decide +kernel))) rfl), List.forall_mem_cons.mpr ⟨wM_X1_count, List.forall_mem_cons.mpr ⟨wS_X1_count, List.forall_mem_cons.mpr ⟨wI_X1_count, List.forall_mem_cons.mpr ⟨wC_X1_count, fun _ h => absurd h List.not_mem_nil⟩⟩⟩⟩⟩, by decide +kernel, by decide⟩
theorem vX5_87 : ZV RX5 87 yX1_has cX1_has 2 (some .boolean) 1 := ⟨List.forall_mem_cons.mpr ⟨(tb_of (tbl1 (List.mem_of_getElem? (i := 232) (by decide +kernel))) rfl), List.forall_mem_cons.mpr ⟨wM_X1_has, List.forall_mem_cons.mpr ⟨wS_X1_has, List.forall_mem_cons.mpr ⟨wI_X1_has, List.forall_mem_cons.mpr ⟨wC_X1_has, fun _ h => absurd h List.not_mem_nil⟩⟩⟩⟩⟩, by decide +kernel, by decide⟩
theorem vX5_90 : ZV RX5 90 yX1_symbolAt cX1_symbolAt 2 (some .int) 1 := ⟨List.forall_mem_cons.mpr ⟨(tb_of (tbl1 (List.mem_of_getElem? (i := 236) (by decide +kernel))) rfl), List.forall_mem_cons.mpr ⟨wM_X1_symbolAt, List.forall_mem_cons.mpr ⟨wS_X1_symbolAt, List.forall_mem_cons.mpr ⟨wI_X1_symbolAt, List.forall_mem_cons.mpr ⟨wC_X1_symbolAt, fun _ h => absurd h List.not_mem_nil⟩⟩⟩⟩⟩, by decide +kernel, by decide⟩
theorem vX5_94 : ZV RX5 94 yX1_kindAt cX1_kindAt 2 (some .int) 1 := ⟨List.forall_mem_cons.mpr ⟨(tb_of (tbl2 (List.mem_of_getElem? (i := 5) (by decide +kernel))) rfl), List.forall_mem_cons.mpr ⟨wM_X1_kindAt, List.forall_mem_cons.mpr ⟨wS_X1_kindAt, List.forall_mem_cons.mpr ⟨wI_X1_kindAt, List.forall_mem_cons.mpr ⟨wC_X1_kindAt, fun _ h => absurd h List.not_mem_nil⟩⟩⟩⟩⟩, by decide +kernel, by decide⟩
theorem wC_X1_replaceLevel : Cond.code yX1_replaceLevel cX1_replaceLevel 4 (some .int) ∈ TB := tb_of (tbl2 (List.mem_of_getElem? (i := 16) (by decide +kernel))) rfl
theorem wI_X1_replaceLevel : Cond.initialized yX1_replaceLevel.cls ∈ TB := tb_of (tbl1 (List.mem_of_getElem? (i := 2) (by decide +kernel))) rfl
theorem wM_X1_replaceLevel : Cond.instanceMethod yX1_replaceLevel ∈ TB := tb_of (tbl2 (List.mem_of_getElem? (i := 14) (by decide +kernel))) rfl
theorem wS_X1_replaceLevel : Cond.selects yX1_replaceLevel.cls yX1_replaceLevel yX1_replaceLevel ∈ TB := tb_of (tbl2 (List.mem_of_getElem? (i := 15) (by decide +kernel))) rfl
theorem vX5_97 : ZV RX5 97 yX1_replaceLevel cX1_replaceLevel 4 (some .int) 2 := ⟨List.forall_mem_cons.mpr ⟨(tb_of (tbl2 (List.mem_of_getElem? (i := 13) (by decide +kernel))) rfl), List.forall_mem_cons.mpr ⟨wM_X1_replaceLevel, List.forall_mem_cons.mpr ⟨wS_X1_replaceLevel, List.forall_mem_cons.mpr ⟨wI_X1_replaceLevel, List.forall_mem_cons.mpr ⟨wC_X1_replaceLevel, fun _ h => absurd h List.not_mem_nil⟩⟩⟩⟩⟩, by decide +kernel, by decide⟩
theorem wC_X1_replaceAssociativity : Cond.code yX1_replaceAssociativity cX1_replaceAssociativity 4 (some .int) ∈ TB := tb_of (tbl2 (List.mem_of_getElem? (i := 28) (by decide +kernel))) rfl
theorem wI_X1_replaceAssociativity : Cond.initialized yX1_replaceAssociativity.cls ∈ TB := tb_of (tbl1 (List.mem_of_getElem? (i := 2) (by decide +kernel))) rfl
theorem wM_X1_replaceAssociativity : Cond.instanceMethod yX1_replaceAssociativity ∈ TB := tb_of (tbl2 (List.mem_of_getElem? (i := 26) (by decide +kernel))) rfl
theorem wS_X1_replaceAssociativity : Cond.selects yX1_replaceAssociativity.cls yX1_replaceAssociativity yX1_replaceAssociativity ∈ TB := tb_of (tbl2 (List.mem_of_getElem? (i := 27) (by decide +kernel))) rfl
theorem vX5_101 : ZV RX5 101 yX1_replaceAssociativity cX1_replaceAssociativity 4 (some .int) 2 := ⟨List.forall_mem_cons.mpr ⟨(tb_of (tbl2 (List.mem_of_getElem? (i := 25) (by decide +kernel))) rfl), List.forall_mem_cons.mpr ⟨wM_X1_replaceAssociativity, List.forall_mem_cons.mpr ⟨wS_X1_replaceAssociativity, List.forall_mem_cons.mpr ⟨wI_X1_replaceAssociativity, List.forall_mem_cons.mpr ⟨wC_X1_replaceAssociativity, fun _ h => absurd h List.not_mem_nil⟩⟩⟩⟩⟩, by decide +kernel, by decide⟩
theorem wC_X1_replaceForbidden : Cond.code yX1_replaceForbidden cX1_replaceForbidden 5 (some .boolean) ∈ TB := tb_of (tbl2 (List.mem_of_getElem? (i := 41) (by decide +kernel))) rfl
theorem wI_X1_replaceForbidden : Cond.initialized yX1_replaceForbidden.cls ∈ TB := tb_of (tbl1 (List.mem_of_getElem? (i := 2) (by decide +kernel))) rfl
theorem wM_X1_replaceForbidden : Cond.instanceMethod yX1_replaceForbidden ∈ TB := tb_of (tbl2 (List.mem_of_getElem? (i := 39) (by decide +kernel))) rfl
theorem wS_X1_replaceForbidden : Cond.selects yX1_replaceForbidden.cls yX1_replaceForbidden yX1_replaceForbidden ∈ TB := tb_of (tbl2 (List.mem_of_getElem? (i := 40) (by decide +kernel))) rfl
theorem vX5_104 : ZV RX5 104 yX1_replaceForbidden cX1_replaceForbidden 5 (some .boolean) 3 := ⟨List.forall_mem_cons.mpr ⟨(tb_of (tbl2 (List.mem_of_getElem? (i := 38) (by decide +kernel))) rfl), List.forall_mem_cons.mpr ⟨wM_X1_replaceForbidden, List.forall_mem_cons.mpr ⟨wS_X1_replaceForbidden, List.forall_mem_cons.mpr ⟨wI_X1_replaceForbidden, List.forall_mem_cons.mpr ⟨wC_X1_replaceForbidden, fun _ h => absurd h List.not_mem_nil⟩⟩⟩⟩⟩, by decide +kernel, by decide⟩
theorem vX5_108 : ZS RX5 108 yX5_isLetter cX5_isLetter 1 (some .boolean) 1 := ⟨List.forall_mem_cons.mpr ⟨(tb_of (tbl1 (List.mem_of_getElem? (i := 198) (by decide +kernel))) rfl), List.forall_mem_cons.mpr ⟨wT_X5_isLetter, List.forall_mem_cons.mpr ⟨wI_X5_isLetter, List.forall_mem_cons.mpr ⟨wC_X5_isLetter, fun _ h => absurd h List.not_mem_nil⟩⟩⟩⟩, by decide +kernel, by decide⟩
theorem wC_X0_count : Cond.code yX0_count cX0_count 1 (some .int) ∈ TB := tb_of (tbl2 (List.mem_of_getElem? (i := 53) (by decide +kernel))) rfl
theorem wI_X0_count : Cond.initialized yX0_count.cls ∈ TB := tb_of (tbl1 (List.mem_of_getElem? (i := 3) (by decide +kernel))) rfl
theorem wM_X0_count : Cond.instanceMethod yX0_count ∈ TB := tb_of (tbl2 (List.mem_of_getElem? (i := 51) (by decide +kernel))) rfl
theorem wS_X0_count : Cond.selects yX0_count.cls yX0_count yX0_count ∈ TB := tb_of (tbl2 (List.mem_of_getElem? (i := 52) (by decide +kernel))) rfl
theorem vX5_111 : ZV RX5 111 yX0_count cX0_count 1 (some .int) 0 := ⟨List.forall_mem_cons.mpr ⟨(tb_of (tbl2 (List.mem_of_getElem? (i := 50) (by decide +kernel))) rfl), List.forall_mem_cons.mpr ⟨wM_X0_count, List.forall_mem_cons.mpr ⟨wS_X0_count, List.forall_mem_cons.mpr ⟨wI_X0_count, List.forall_mem_cons.mpr ⟨wC_X0_count, fun _ h => absurd h List.not_mem_nil⟩⟩⟩⟩⟩, by decide +kernel, by decide⟩
theorem vX5_112 : ZV RX5 112 yX0_add cX0_add 5 (some .int) 4 := ⟨List.forall_mem_cons.mpr ⟨(tb_of (tbl2 (List.mem_of_getElem? (i := 54) (by decide +kernel))) rfl), List.forall_mem_cons.mpr ⟨wM_X0_add, List.forall_mem_cons.mpr ⟨wS_X0_add, List.forall_mem_cons.mpr ⟨wI_X0_add, List.forall_mem_cons.mpr ⟨wC_X0_add, fun _ h => absurd h List.not_mem_nil⟩⟩⟩⟩⟩, by decide +kernel, by decide⟩
theorem vX5_115 : ZV RX5 115 yX0_has cX0_has 2 (some .boolean) 1 := ⟨List.forall_mem_cons.mpr ⟨(tb_of (tbl2 (List.mem_of_getElem? (i := 70) (by decide +kernel))) rfl), List.forall_mem_cons.mpr ⟨wM_X0_has, List.forall_mem_cons.mpr ⟨wS_X0_has, List.forall_mem_cons.mpr ⟨wI_X0_has, List.forall_mem_cons.mpr ⟨wC_X0_has, fun _ h => absurd h List.not_mem_nil⟩⟩⟩⟩⟩, by decide +kernel, by decide⟩
theorem wC_X5_addOperatorNode : Cond.code yX5_addOperatorNode cX5_addOperatorNode 4 (some .int) ∈ TB := tb_of (tbl2 (List.mem_of_getElem? (i := 74) (by decide +kernel))) rfl
theorem wI_X5_addOperatorNode : Cond.initialized yX5_addOperatorNode.cls ∈ TB := tb_of (tbl1 (List.mem_of_getElem? (i := 1) (by decide +kernel))) rfl
theorem wM_X5_addOperatorNode : Cond.instanceMethod yX5_addOperatorNode ∈ TB := tb_of (tbl2 (List.mem_of_getElem? (i := 73) (by decide +kernel))) rfl
theorem wS_X5_addOperatorNode : Cond.selects yX5_addOperatorNode.cls yX5_addOperatorNode yX5_addOperatorNode ∈ TB := tb_of (tblS (List.mem_of_getElem? (i := 2) (by decide +kernel))) rfl
theorem vX5_116 : ZV RX5 116 yX5_addOperatorNode cX5_addOperatorNode 4 (some .int) 3 := ⟨List.forall_mem_cons.mpr ⟨(tb_of (tbl2 (List.mem_of_getElem? (i := 71) (by decide +kernel))) rfl), List.forall_mem_cons.mpr ⟨wM_X5_addOperatorNode, List.forall_mem_cons.mpr ⟨wS_X5_addOperatorNode, List.forall_mem_cons.mpr ⟨wI_X5_addOperatorNode, List.forall_mem_cons.mpr ⟨wC_X5_addOperatorNode, fun _ h => absurd h List.not_mem_nil⟩⟩⟩⟩⟩, by decide +kernel, by decide⟩
theorem vX5_119 : ZV RX5 119 yX0_sizeAt cX0_sizeAt 2 (some .int) 1 := ⟨List.forall_mem_cons.mpr ⟨(tb_of (tbl2 (List.mem_of_getElem? (i := 75) (by decide +kernel))) rfl), List.forall_mem_cons.mpr ⟨wM_X0_sizeAt, List.forall_mem_cons.mpr ⟨wS_X0_sizeAt, List.forall_mem_cons.mpr ⟨wI_X0_sizeAt, List.forall_mem_cons.mpr ⟨wC_X0_sizeAt, fun _ h => absurd h List.not_mem_nil⟩⟩⟩⟩⟩, by decide +kernel, by decide⟩
theorem vX5_122 : ZV RX5 122 yX0_operatorAt cX0_operatorAt 2 (some .int) 1 := ⟨List.forall_mem_cons.mpr ⟨(tb_of (tbl2 (List.mem_of_getElem? (i := 88) (by decide +kernel))) rfl), List.forall_mem_cons.mpr ⟨wM_X0_operatorAt, List.forall_mem_cons.mpr ⟨wS_X0_operatorAt, List.forall_mem_cons.mpr ⟨wI_X0_operatorAt, List.forall_mem_cons.mpr ⟨wC_X0_operatorAt, fun _ h => absurd h List.not_mem_nil⟩⟩⟩⟩⟩, by decide +kernel, by decide⟩
theorem vX5_125 : ZV RX5 125 yX0_letterAt cX0_letterAt 2 (some .int) 1 := ⟨List.forall_mem_cons.mpr ⟨(tb_of (tbl2 (List.mem_of_getElem? (i := 96) (by decide +kernel))) rfl), List.forall_mem_cons.mpr ⟨wM_X0_letterAt, List.forall_mem_cons.mpr ⟨wS_X0_letterAt, List.forall_mem_cons.mpr ⟨wI_X0_letterAt, List.forall_mem_cons.mpr ⟨wC_X0_letterAt, fun _ h => absurd h List.not_mem_nil⟩⟩⟩⟩⟩, by decide +kernel, by decide⟩
theorem wC_X0_operandAt : Cond.code yX0_operandAt cX0_operandAt 5 (some .int) ∈ TB := tb_of (tbl2 (List.mem_of_getElem? (i := 107) (by decide +kernel))) rfl
theorem wI_X0_operandAt : Cond.initialized yX0_operandAt.cls ∈ TB := tb_of (tbl1 (List.mem_of_getElem? (i := 3) (by decide +kernel))) rfl
theorem wM_X0_operandAt : Cond.instanceMethod yX0_operandAt ∈ TB := tb_of (tbl2 (List.mem_of_getElem? (i := 105) (by decide +kernel))) rfl
theorem wS_X0_operandAt : Cond.selects yX0_operandAt.cls yX0_operandAt yX0_operandAt ∈ TB := tb_of (tbl2 (List.mem_of_getElem? (i := 106) (by decide +kernel))) rfl
theorem vX5_128 : ZV RX5 128 yX0_operandAt cX0_operandAt 5 (some .int) 2 := ⟨List.forall_mem_cons.mpr ⟨(tb_of (tbl2 (List.mem_of_getElem? (i := 104) (by decide +kernel))) rfl), List.forall_mem_cons.mpr ⟨wM_X0_operandAt, List.forall_mem_cons.mpr ⟨wS_X0_operandAt, List.forall_mem_cons.mpr ⟨wI_X0_operandAt, List.forall_mem_cons.mpr ⟨wC_X0_operandAt, fun _ h => absurd h List.not_mem_nil⟩⟩⟩⟩⟩, by decide +kernel, by decide⟩
theorem wC_X5_sameTree : Cond.code yX5_sameTree cX5_sameTree 5 (some .boolean) ∈ TB := tb_of (tbl2 (List.mem_of_getElem? (i := 126) (by decide +kernel))) rfl
theorem wI_X5_sameTree : Cond.initialized yX5_sameTree.cls ∈ TB := tb_of (tbl1 (List.mem_of_getElem? (i := 1) (by decide +kernel))) rfl
theorem wT_X5_sameTree : Cond.static yX5_sameTree ∈ TB := tb_of (tbl2 (List.mem_of_getElem? (i := 125) (by decide +kernel))) rfl
theorem vX5_131 : ZS RX5 131 yX5_sameTree cX5_sameTree 5 (some .boolean) 5 := ⟨List.forall_mem_cons.mpr ⟨(tb_of (tbl2 (List.mem_of_getElem? (i := 124) (by decide +kernel))) rfl), List.forall_mem_cons.mpr ⟨wT_X5_sameTree, List.forall_mem_cons.mpr ⟨wI_X5_sameTree, List.forall_mem_cons.mpr ⟨wC_X5_sameTree, fun _ h => absurd h List.not_mem_nil⟩⟩⟩⟩, by decide +kernel, by decide⟩
theorem vX5_135 : ZV RX5 135 yX0_beforeAt cX0_beforeAt 2 (some .int) 1 := ⟨List.forall_mem_cons.mpr ⟨(tb_of (tbl2 (List.mem_of_getElem? (i := 127) (by decide +kernel))) rfl), List.forall_mem_cons.mpr ⟨wM_X0_beforeAt, List.forall_mem_cons.mpr ⟨wS_X0_beforeAt, List.forall_mem_cons.mpr ⟨wI_X0_beforeAt, List.forall_mem_cons.mpr ⟨wC_X0_beforeAt, fun _ h => absurd h List.not_mem_nil⟩⟩⟩⟩⟩, by decide +kernel, by decide⟩
theorem vX5_138 : ZV RX5 138 yX0_afterAt cX0_afterAt 2 (some .int) 1 := ⟨List.forall_mem_cons.mpr ⟨(tb_of (tbl2 (List.mem_of_getElem? (i := 128) (by decide +kernel))) rfl), List.forall_mem_cons.mpr ⟨wM_X0_afterAt, List.forall_mem_cons.mpr ⟨wS_X0_afterAt, List.forall_mem_cons.mpr ⟨wI_X0_afterAt, List.forall_mem_cons.mpr ⟨wC_X0_afterAt, fun _ h => absurd h List.not_mem_nil⟩⟩⟩⟩⟩, by decide +kernel, by decide⟩
theorem wC_X5_writeTree : Cond.code yX5_writeTree cX5_writeTree 3 (some .int) ∈ TB := tb_of (tbl2 (List.mem_of_getElem? (i := 136) (by decide +kernel))) rfl
theorem wI_X5_writeTree : Cond.initialized yX5_writeTree.cls ∈ TB := tb_of (tbl1 (List.mem_of_getElem? (i := 1) (by decide +kernel))) rfl
theorem wM_X5_writeTree : Cond.instanceMethod yX5_writeTree ∈ TB := tb_of (tbl2 (List.mem_of_getElem? (i := 135) (by decide +kernel))) rfl
theorem wS_X5_writeTree : Cond.selects yX5_writeTree.cls yX5_writeTree yX5_writeTree ∈ TB := tb_of (tblS (List.mem_of_getElem? (i := 3) (by decide +kernel))) rfl
theorem vX5_141 : ZV RX5 141 yX5_writeTree cX5_writeTree 3 (some .int) 2 := ⟨List.forall_mem_cons.mpr ⟨(tb_of (tbl2 (List.mem_of_getElem? (i := 133) (by decide +kernel))) rfl), List.forall_mem_cons.mpr ⟨wM_X5_writeTree, List.forall_mem_cons.mpr ⟨wS_X5_writeTree, List.forall_mem_cons.mpr ⟨wI_X5_writeTree, List.forall_mem_cons.mpr ⟨wC_X5_writeTree, fun _ h => absurd h List.not_mem_nil⟩⟩⟩⟩⟩, by decide +kernel, by decide⟩
theorem vX5_144 : ZV RX5 144 yX3_empty cX3_empty 1 none 0 := ⟨List.forall_mem_cons.mpr ⟨(tb_of (tbl2 (List.mem_of_getElem? (i := 137) (by decide +kernel))) rfl), List.forall_mem_cons.mpr ⟨wM_X3_empty, List.forall_mem_cons.mpr ⟨wS_X3_empty, List.forall_mem_cons.mpr ⟨wI_X3_empty, List.forall_mem_cons.mpr ⟨wC_X3_empty, fun _ h => absurd h List.not_mem_nil⟩⟩⟩⟩⟩, by decide +kernel, by decide⟩
theorem wC_X4_prepare : Cond.code yX4_prepare cX4_prepare 3 none ∈ TB := tb_of (tbl2 (List.mem_of_getElem? (i := 144) (by decide +kernel))) rfl
theorem wI_X4_prepare : Cond.initialized yX4_prepare.cls ∈ TB := tb_of (tbl1 (List.mem_of_getElem? (i := 6) (by decide +kernel))) rfl
theorem wM_X4_prepare : Cond.instanceMethod yX4_prepare ∈ TB := tb_of (tbl2 (List.mem_of_getElem? (i := 142) (by decide +kernel))) rfl
theorem wS_X4_prepare : Cond.selects yX4_prepare.cls yX4_prepare yX4_prepare ∈ TB := tb_of (tbl2 (List.mem_of_getElem? (i := 143) (by decide +kernel))) rfl
theorem vX5_147 : ZV RX5 147 yX4_prepare cX4_prepare 3 none 2 := ⟨List.forall_mem_cons.mpr ⟨(tb_of (tbl2 (List.mem_of_getElem? (i := 141) (by decide +kernel))) rfl), List.forall_mem_cons.mpr ⟨wM_X4_prepare, List.forall_mem_cons.mpr ⟨wS_X4_prepare, List.forall_mem_cons.mpr ⟨wI_X4_prepare, List.forall_mem_cons.mpr ⟨wC_X4_prepare, fun _ h => absurd h List.not_mem_nil⟩⟩⟩⟩⟩, by decide +kernel, by decide⟩
theorem vX5_151 : ZV RX5 151 yX4_writeNode cX4_writeNode 6 none 4 := ⟨List.forall_mem_cons.mpr ⟨(tb_of (tbl2 (List.mem_of_getElem? (i := 195) (by decide +kernel))) rfl), List.forall_mem_cons.mpr ⟨wM_X4_writeNode, List.forall_mem_cons.mpr ⟨wS_X4_writeNode, List.forall_mem_cons.mpr ⟨wI_X4_writeNode, List.forall_mem_cons.mpr ⟨wC_X4_writeNode, fun _ h => absurd h List.not_mem_nil⟩⟩⟩⟩⟩, by decide +kernel, by decide⟩
theorem wC_X3_length : Cond.code yX3_length cX3_length 1 (some .int) ∈ TB := tb_of (tbl2 (List.mem_of_getElem? (i := 213) (by decide +kernel))) rfl
theorem wI_X3_length : Cond.initialized yX3_length.cls ∈ TB := tb_of (tbl1 (List.mem_of_getElem? (i := 4) (by decide +kernel))) rfl
theorem wM_X3_length : Cond.instanceMethod yX3_length ∈ TB := tb_of (tbl2 (List.mem_of_getElem? (i := 211) (by decide +kernel))) rfl
theorem wS_X3_length : Cond.selects yX3_length.cls yX3_length yX3_length ∈ TB := tb_of (tbl2 (List.mem_of_getElem? (i := 212) (by decide +kernel))) rfl
theorem vX5_155 : ZV RX5 155 yX3_length cX3_length 1 (some .int) 0 := ⟨List.forall_mem_cons.mpr ⟨(tb_of (tbl2 (List.mem_of_getElem? (i := 210) (by decide +kernel))) rfl), List.forall_mem_cons.mpr ⟨wM_X3_length, List.forall_mem_cons.mpr ⟨wS_X3_length, List.forall_mem_cons.mpr ⟨wI_X3_length, List.forall_mem_cons.mpr ⟨wC_X3_length, fun _ h => absurd h List.not_mem_nil⟩⟩⟩⟩⟩, by decide +kernel, by decide⟩
theorem vX5_158 : ZV RX5 158 yX3_at cX3_at 2 (some .int) 1 := ⟨List.forall_mem_cons.mpr ⟨(tb_of (tbl2 (List.mem_of_getElem? (i := 222) (by decide +kernel))) rfl), List.forall_mem_cons.mpr ⟨wM_X3_at, List.forall_mem_cons.mpr ⟨wS_X3_at, List.forall_mem_cons.mpr ⟨wI_X3_at, List.forall_mem_cons.mpr ⟨wC_X3_at, fun _ h => absurd h List.not_mem_nil⟩⟩⟩⟩⟩, by decide +kernel, by decide⟩
theorem wC_X3_countPairs : Cond.code yX3_countPairs cX3_countPairs 3 (some .int) ∈ TB := tb_of (tbl2 (List.mem_of_getElem? (i := 233) (by decide +kernel))) rfl
theorem wI_X3_countPairs : Cond.initialized yX3_countPairs.cls ∈ TB := tb_of (tbl1 (List.mem_of_getElem? (i := 4) (by decide +kernel))) rfl
theorem wM_X3_countPairs : Cond.instanceMethod yX3_countPairs ∈ TB := tb_of (tbl2 (List.mem_of_getElem? (i := 231) (by decide +kernel))) rfl
theorem wS_X3_countPairs : Cond.selects yX3_countPairs.cls yX3_countPairs yX3_countPairs ∈ TB := tb_of (tbl2 (List.mem_of_getElem? (i := 232) (by decide +kernel))) rfl
theorem vX5_161 : ZV RX5 161 yX3_countPairs cX3_countPairs 3 (some .int) 0 := ⟨List.forall_mem_cons.mpr ⟨(tb_of (tbl2 (List.mem_of_getElem? (i := 230) (by decide +kernel))) rfl), List.forall_mem_cons.mpr ⟨wM_X3_countPairs, List.forall_mem_cons.mpr ⟨wS_X3_countPairs, List.forall_mem_cons.mpr ⟨wI_X3_countPairs, List.forall_mem_cons.mpr ⟨wC_X3_countPairs, fun _ h => absurd h List.not_mem_nil⟩⟩⟩⟩⟩, by decide +kernel, by decide⟩
theorem wC_X3_copyWithoutPair : Cond.code yX3_copyWithoutPair cX3_copyWithoutPair 6 none ∈ TB := tb_of (tbl3 (List.mem_of_getElem? (i := 1) (by decide +kernel))) rfl
theorem wI_X3_copyWithoutPair : Cond.initialized yX3_copyWithoutPair.cls ∈ TB := tb_of (tbl1 (List.mem_of_getElem? (i := 4) (by decide +kernel))) rfl
theorem wM_X3_copyWithoutPair : Cond.instanceMethod yX3_copyWithoutPair ∈ TB := tb_of (tbl2 (List.mem_of_getElem? (i := 239) (by decide +kernel))) rfl
theorem wS_X3_copyWithoutPair : Cond.selects yX3_copyWithoutPair.cls yX3_copyWithoutPair yX3_copyWithoutPair ∈ TB := tb_of (tbl3 (List.mem_of_getElem? (i := 0) (by decide +kernel))) rfl
theorem vX5_164 : ZV RX5 164 yX3_copyWithoutPair cX3_copyWithoutPair 6 none 2 := ⟨List.forall_mem_cons.mpr ⟨(tb_of (tbl2 (List.mem_of_getElem? (i := 238) (by decide +kernel))) rfl), List.forall_mem_cons.mpr ⟨wM_X3_copyWithoutPair, List.forall_mem_cons.mpr ⟨wS_X3_copyWithoutPair, List.forall_mem_cons.mpr ⟨wI_X3_copyWithoutPair, List.forall_mem_cons.mpr ⟨wC_X3_copyWithoutPair, fun _ h => absurd h List.not_mem_nil⟩⟩⟩⟩⟩, by decide +kernel, by decide⟩
theorem wC_X2_reads : Cond.code yX2_reads cX2_reads 2 (some .boolean) ∈ TB := tb_of (tbl3 (List.mem_of_getElem? (i := 18) (by decide +kernel))) rfl
theorem wI_X2_reads : Cond.initialized yX2_reads.cls ∈ TB := tb_of (tbl1 (List.mem_of_getElem? (i := 5) (by decide +kernel))) rfl
theorem wM_X2_reads : Cond.instanceMethod yX2_reads ∈ TB := tb_of (tbl3 (List.mem_of_getElem? (i := 16) (by decide +kernel))) rfl
theorem wS_X2_reads : Cond.selects yX2_reads.cls yX2_reads yX2_reads ∈ TB := tb_of (tbl3 (List.mem_of_getElem? (i := 17) (by decide +kernel))) rfl
theorem vX5_168 : ZV RX5 168 yX2_reads cX2_reads 2 (some .boolean) 0 := ⟨List.forall_mem_cons.mpr ⟨(tb_of (tbl3 (List.mem_of_getElem? (i := 15) (by decide +kernel))) rfl), List.forall_mem_cons.mpr ⟨wM_X2_reads, List.forall_mem_cons.mpr ⟨wS_X2_reads, List.forall_mem_cons.mpr ⟨wI_X2_reads, List.forall_mem_cons.mpr ⟨wC_X2_reads, fun _ h => absurd h List.not_mem_nil⟩⟩⟩⟩⟩, by decide +kernel, by decide⟩
theorem wC_X0_last : Cond.code yX0_last cX0_last 1 (some .int) ∈ TB := tb_of (tbl3 (List.mem_of_getElem? (i := 92) (by decide +kernel))) rfl
theorem wI_X0_last : Cond.initialized yX0_last.cls ∈ TB := tb_of (tbl1 (List.mem_of_getElem? (i := 3) (by decide +kernel))) rfl
theorem wM_X0_last : Cond.instanceMethod yX0_last ∈ TB := tb_of (tbl3 (List.mem_of_getElem? (i := 90) (by decide +kernel))) rfl
theorem wS_X0_last : Cond.selects yX0_last.cls yX0_last yX0_last ∈ TB := tb_of (tbl3 (List.mem_of_getElem? (i := 91) (by decide +kernel))) rfl
theorem vX5_172 : ZV RX5 172 yX0_last cX0_last 1 (some .int) 0 := ⟨List.forall_mem_cons.mpr ⟨(tb_of (tbl3 (List.mem_of_getElem? (i := 89) (by decide +kernel))) rfl), List.forall_mem_cons.mpr ⟨wM_X0_last, List.forall_mem_cons.mpr ⟨wS_X0_last, List.forall_mem_cons.mpr ⟨wI_X0_last, List.forall_mem_cons.mpr ⟨wC_X0_last, fun _ h => absurd h List.not_mem_nil⟩⟩⟩⟩⟩, by decide +kernel, by decide⟩
theorem vX5_175 : ZV RX5 175 yX3_put cX3_put 2 (some .boolean) 1 := ⟨List.forall_mem_cons.mpr ⟨(tb_of (tbl3 (List.mem_of_getElem? (i := 97) (by decide +kernel))) rfl), List.forall_mem_cons.mpr ⟨wM_X3_put, List.forall_mem_cons.mpr ⟨wS_X3_put, List.forall_mem_cons.mpr ⟨wI_X3_put, List.forall_mem_cons.mpr ⟨wC_X3_put, fun _ h => absurd h List.not_mem_nil⟩⟩⟩⟩⟩, by decide +kernel, by decide⟩
theorem wC_X3_copyFrom : Cond.code yX3_copyFrom cX3_copyFrom 3 none ∈ TB := tb_of (tbl3 (List.mem_of_getElem? (i := 105) (by decide +kernel))) rfl
theorem wI_X3_copyFrom : Cond.initialized yX3_copyFrom.cls ∈ TB := tb_of (tbl1 (List.mem_of_getElem? (i := 4) (by decide +kernel))) rfl
theorem wM_X3_copyFrom : Cond.instanceMethod yX3_copyFrom ∈ TB := tb_of (tbl3 (List.mem_of_getElem? (i := 103) (by decide +kernel))) rfl
theorem wS_X3_copyFrom : Cond.selects yX3_copyFrom.cls yX3_copyFrom yX3_copyFrom ∈ TB := tb_of (tbl3 (List.mem_of_getElem? (i := 104) (by decide +kernel))) rfl
theorem vX5_178 : ZV RX5 178 yX3_copyFrom cX3_copyFrom 3 none 1 := ⟨List.forall_mem_cons.mpr ⟨(tb_of (tbl3 (List.mem_of_getElem? (i := 102) (by decide +kernel))) rfl), List.forall_mem_cons.mpr ⟨wM_X3_copyFrom, List.forall_mem_cons.mpr ⟨wS_X3_copyFrom, List.forall_mem_cons.mpr ⟨wI_X3_copyFrom, List.forall_mem_cons.mpr ⟨wC_X3_copyFrom, fun _ h => absurd h List.not_mem_nil⟩⟩⟩⟩⟩, by decide +kernel, by decide⟩
theorem wC_X2_faultKind : Cond.code yX2_faultKind cX2_faultKind 1 (some .int) ∈ TB := tb_of (tbl3 (List.mem_of_getElem? (i := 117) (by decide +kernel))) rfl
theorem wI_X2_faultKind : Cond.initialized yX2_faultKind.cls ∈ TB := tb_of (tbl1 (List.mem_of_getElem? (i := 5) (by decide +kernel))) rfl
theorem wM_X2_faultKind : Cond.instanceMethod yX2_faultKind ∈ TB := tb_of (tbl3 (List.mem_of_getElem? (i := 115) (by decide +kernel))) rfl
theorem wS_X2_faultKind : Cond.selects yX2_faultKind.cls yX2_faultKind yX2_faultKind ∈ TB := tb_of (tbl3 (List.mem_of_getElem? (i := 116) (by decide +kernel))) rfl
theorem vX5_182 : ZV RX5 182 yX2_faultKind cX2_faultKind 1 (some .int) 0 := ⟨List.forall_mem_cons.mpr ⟨(tb_of (tbl3 (List.mem_of_getElem? (i := 114) (by decide +kernel))) rfl), List.forall_mem_cons.mpr ⟨wM_X2_faultKind, List.forall_mem_cons.mpr ⟨wS_X2_faultKind, List.forall_mem_cons.mpr ⟨wI_X2_faultKind, List.forall_mem_cons.mpr ⟨wC_X2_faultKind, fun _ h => absurd h List.not_mem_nil⟩⟩⟩⟩⟩, by decide +kernel, by decide⟩
theorem wC_X2_faultPosition : Cond.code yX2_faultPosition cX2_faultPosition 1 (some .int) ∈ TB := tb_of (tbl3 (List.mem_of_getElem? (i := 121) (by decide +kernel))) rfl
theorem wI_X2_faultPosition : Cond.initialized yX2_faultPosition.cls ∈ TB := tb_of (tbl1 (List.mem_of_getElem? (i := 5) (by decide +kernel))) rfl
theorem wM_X2_faultPosition : Cond.instanceMethod yX2_faultPosition ∈ TB := tb_of (tbl3 (List.mem_of_getElem? (i := 119) (by decide +kernel))) rfl
theorem wS_X2_faultPosition : Cond.selects yX2_faultPosition.cls yX2_faultPosition yX2_faultPosition ∈ TB := tb_of (tbl3 (List.mem_of_getElem? (i := 120) (by decide +kernel))) rfl
theorem vX5_185 : ZV RX5 185 yX2_faultPosition cX2_faultPosition 1 (some .int) 0 := ⟨List.forall_mem_cons.mpr ⟨(tb_of (tbl3 (List.mem_of_getElem? (i := 118) (by decide +kernel))) rfl), List.forall_mem_cons.mpr ⟨wM_X2_faultPosition, List.forall_mem_cons.mpr ⟨wS_X2_faultPosition, List.forall_mem_cons.mpr ⟨wI_X2_faultPosition, List.forall_mem_cons.mpr ⟨wC_X2_faultPosition, fun _ h => absurd h List.not_mem_nil⟩⟩⟩⟩⟩, by decide +kernel, by decide⟩
theorem wC_X0_addAllOf : Cond.code yX0_addAllOf cX0_addAllOf 4 none ∈ TB := tb_of (tbl3 (List.mem_of_getElem? (i := 125) (by decide +kernel))) rfl
theorem wI_X0_addAllOf : Cond.initialized yX0_addAllOf.cls ∈ TB := tb_of (tbl1 (List.mem_of_getElem? (i := 3) (by decide +kernel))) rfl
theorem wM_X0_addAllOf : Cond.instanceMethod yX0_addAllOf ∈ TB := tb_of (tbl3 (List.mem_of_getElem? (i := 123) (by decide +kernel))) rfl
theorem wS_X0_addAllOf : Cond.selects yX0_addAllOf.cls yX0_addAllOf yX0_addAllOf ∈ TB := tb_of (tbl3 (List.mem_of_getElem? (i := 124) (by decide +kernel))) rfl
theorem vX5_188 : ZV RX5 188 yX0_addAllOf cX0_addAllOf 4 none 1 := ⟨List.forall_mem_cons.mpr ⟨(tb_of (tbl3 (List.mem_of_getElem? (i := 122) (by decide +kernel))) rfl), List.forall_mem_cons.mpr ⟨wM_X0_addAllOf, List.forall_mem_cons.mpr ⟨wS_X0_addAllOf, List.forall_mem_cons.mpr ⟨wI_X0_addAllOf, List.forall_mem_cons.mpr ⟨wC_X0_addAllOf, fun _ h => absurd h List.not_mem_nil⟩⟩⟩⟩⟩, by decide +kernel, by decide⟩
theorem wC_X6_in : Cond.code yX6_in cX6_in 3 (some .boolean) ∈ TB := tb_of (tbl4 (List.mem_of_getElem? (i := 35) (by decide +kernel))) rfl
theorem wI_X6_in : Cond.initialized yX6_in.cls ∈ TB := tb_of (tbl1 (List.mem_of_getElem? (i := 7) (by decide +kernel))) rfl
theorem wT_X6_in : Cond.static yX6_in ∈ TB := tb_of (tbl4 (List.mem_of_getElem? (i := 34) (by decide +kernel))) rfl
theorem vX6_90 : ZS RX6 90 yX6_in cX6_in 3 (some .boolean) 3 := ⟨List.forall_mem_cons.mpr ⟨(tb_of (tbl4 (List.mem_of_getElem? (i := 33) (by decide +kernel))) rfl), List.forall_mem_cons.mpr ⟨wT_X6_in, List.forall_mem_cons.mpr ⟨wI_X6_in, List.forall_mem_cons.mpr ⟨wC_X6_in, fun _ h => absurd h List.not_mem_nil⟩⟩⟩⟩, by decide +kernel, by decide⟩
theorem wC_X6_isLetter : Cond.code yX6_isLetter cX6_isLetter 1 (some .boolean) ∈ TB := tb_of (tbl4 (List.mem_of_getElem? (i := 38) (by decide +kernel))) rfl
theorem wI_X6_isLetter : Cond.initialized yX6_isLetter.cls ∈ TB := tb_of (tbl1 (List.mem_of_getElem? (i := 7) (by decide +kernel))) rfl
theorem wT_X6_isLetter : Cond.static yX6_isLetter ∈ TB := tb_of (tbl4 (List.mem_of_getElem? (i := 37) (by decide +kernel))) rfl
theorem vX6_97 : ZS RX6 97 yX6_isLetter cX6_isLetter 1 (some .boolean) 1 := ⟨List.forall_mem_cons.mpr ⟨(tb_of (tbl4 (List.mem_of_getElem? (i := 36) (by decide +kernel))) rfl), List.forall_mem_cons.mpr ⟨wT_X6_isLetter, List.forall_mem_cons.mpr ⟨wI_X6_isLetter, List.forall_mem_cons.mpr ⟨wC_X6_isLetter, fun _ h => absurd h List.not_mem_nil⟩⟩⟩⟩, by decide +kernel, by decide⟩
theorem wC_X6_operatorFor : Cond.code yX6_operatorFor cX6_operatorFor 4 (some .int) ∈ TB := tb_of (tbl4 (List.mem_of_getElem? (i := 42) (by decide +kernel))) rfl
theorem wI_X6_operatorFor : Cond.initialized yX6_operatorFor.cls ∈ TB := tb_of (tbl1 (List.mem_of_getElem? (i := 7) (by decide +kernel))) rfl
theorem wM_X6_operatorFor : Cond.instanceMethod yX6_operatorFor ∈ TB := tb_of (tbl4 (List.mem_of_getElem? (i := 41) (by decide +kernel))) rfl
theorem wS_X6_operatorFor : Cond.selects yX6_operatorFor.cls yX6_operatorFor yX6_operatorFor ∈ TB := tb_of (tblS (List.mem_of_getElem? (i := 30) (by decide +kernel))) rfl
theorem vX6_101 : ZV RX6 101 yX6_operatorFor cX6_operatorFor 4 (some .int) 2 := ⟨List.forall_mem_cons.mpr ⟨(tb_of (tbl4 (List.mem_of_getElem? (i := 39) (by decide +kernel))) rfl), List.forall_mem_cons.mpr ⟨wM_X6_operatorFor, List.forall_mem_cons.mpr ⟨wS_X6_operatorFor, List.forall_mem_cons.mpr ⟨wI_X6_operatorFor, List.forall_mem_cons.mpr ⟨wC_X6_operatorFor, fun _ h => absurd h List.not_mem_nil⟩⟩⟩⟩⟩, by decide +kernel, by decide⟩
theorem wC_X6_define : Cond.code yX6_define cX6_define 4 (some .int) ∈ TB := tb_of (tbl4 (List.mem_of_getElem? (i := 32) (by decide +kernel))) rfl
theorem wI_X6_define : Cond.initialized yX6_define.cls ∈ TB := tb_of (tbl1 (List.mem_of_getElem? (i := 7) (by decide +kernel))) rfl
theorem wM_X6_define : Cond.instanceMethod yX6_define ∈ TB := tb_of (tbl4 (List.mem_of_getElem? (i := 31) (by decide +kernel))) rfl
theorem wS_X6_define : Cond.selects yX6_define.cls yX6_define yX6_define ∈ TB := tb_of (tblS (List.mem_of_getElem? (i := 29) (by decide +kernel))) rfl
theorem vX6_105 : ZV RX6 105 yX6_define cX6_define 4 (some .int) 3 := ⟨List.forall_mem_cons.mpr ⟨(tb_of (tbl4 (List.mem_of_getElem? (i := 29) (by decide +kernel))) rfl), List.forall_mem_cons.mpr ⟨wM_X6_define, List.forall_mem_cons.mpr ⟨wS_X6_define, List.forall_mem_cons.mpr ⟨wI_X6_define, List.forall_mem_cons.mpr ⟨wC_X6_define, fun _ h => absurd h List.not_mem_nil⟩⟩⟩⟩⟩, by decide +kernel, by decide⟩
theorem wC_X6_isOperator : Cond.code yX6_isOperator cX6_isOperator 2 (some .boolean) ∈ TB := tb_of (tbl4 (List.mem_of_getElem? (i := 62) (by decide +kernel))) rfl
theorem wI_X6_isOperator : Cond.initialized yX6_isOperator.cls ∈ TB := tb_of (tbl1 (List.mem_of_getElem? (i := 7) (by decide +kernel))) rfl
theorem wM_X6_isOperator : Cond.instanceMethod yX6_isOperator ∈ TB := tb_of (tbl4 (List.mem_of_getElem? (i := 61) (by decide +kernel))) rfl
theorem wS_X6_isOperator : Cond.selects yX6_isOperator.cls yX6_isOperator yX6_isOperator ∈ TB := tb_of (tblS (List.mem_of_getElem? (i := 31) (by decide +kernel))) rfl
theorem vX6_109 : ZV RX6 109 yX6_isOperator cX6_isOperator 2 (some .boolean) 1 := ⟨List.forall_mem_cons.mpr ⟨(tb_of (tbl4 (List.mem_of_getElem? (i := 59) (by decide +kernel))) rfl), List.forall_mem_cons.mpr ⟨wM_X6_isOperator, List.forall_mem_cons.mpr ⟨wS_X6_isOperator, List.forall_mem_cons.mpr ⟨wI_X6_isOperator, List.forall_mem_cons.mpr ⟨wC_X6_isOperator, fun _ h => absurd h List.not_mem_nil⟩⟩⟩⟩⟩, by decide +kernel, by decide⟩
theorem wC_X6_addNode : Cond.code yX6_addNode cX6_addNode 5 (some .int) ∈ TB := tb_of (tbl4 (List.mem_of_getElem? (i := 86) (by decide +kernel))) rfl
theorem wI_X6_addNode : Cond.initialized yX6_addNode.cls ∈ TB := tb_of (tbl1 (List.mem_of_getElem? (i := 7) (by decide +kernel))) rfl
theorem wM_X6_addNode : Cond.instanceMethod yX6_addNode ∈ TB := tb_of (tbl4 (List.mem_of_getElem? (i := 85) (by decide +kernel))) rfl
theorem wS_X6_addNode : Cond.selects yX6_addNode.cls yX6_addNode yX6_addNode ∈ TB := tb_of (tblS (List.mem_of_getElem? (i := 32) (by decide +kernel))) rfl
theorem vX6_112 : ZV RX6 112 yX6_addNode cX6_addNode 5 (some .int) 4 := ⟨List.forall_mem_cons.mpr ⟨(tb_of (tbl4 (List.mem_of_getElem? (i := 83) (by decide +kernel))) rfl), List.forall_mem_cons.mpr ⟨wM_X6_addNode, List.forall_mem_cons.mpr ⟨wS_X6_addNode, List.forall_mem_cons.mpr ⟨wI_X6_addNode, List.forall_mem_cons.mpr ⟨wC_X6_addNode, fun _ h => absurd h List.not_mem_nil⟩⟩⟩⟩⟩, by decide +kernel, by decide⟩
theorem wC_X6_isNode : Cond.code yX6_isNode cX6_isNode 2 (some .boolean) ∈ TB := tb_of (tbl4 (List.mem_of_getElem? (i := 94) (by decide +kernel))) rfl
theorem wI_X6_isNode : Cond.initialized yX6_isNode.cls ∈ TB := tb_of (tbl1 (List.mem_of_getElem? (i := 7) (by decide +kernel))) rfl
theorem wM_X6_isNode : Cond.instanceMethod yX6_isNode ∈ TB := tb_of (tbl4 (List.mem_of_getElem? (i := 93) (by decide +kernel))) rfl
theorem wS_X6_isNode : Cond.selects yX6_isNode.cls yX6_isNode yX6_isNode ∈ TB := tb_of (tblS (List.mem_of_getElem? (i := 33) (by decide +kernel))) rfl
theorem vX6_116 : ZV RX6 116 yX6_isNode cX6_isNode 2 (some .boolean) 1 := ⟨List.forall_mem_cons.mpr ⟨(tb_of (tbl4 (List.mem_of_getElem? (i := 91) (by decide +kernel))) rfl), List.forall_mem_cons.mpr ⟨wM_X6_isNode, List.forall_mem_cons.mpr ⟨wS_X6_isNode, List.forall_mem_cons.mpr ⟨wI_X6_isNode, List.forall_mem_cons.mpr ⟨wC_X6_isNode, fun _ h => absurd h List.not_mem_nil⟩⟩⟩⟩⟩, by decide +kernel, by decide⟩
theorem wC_X6_isBarred : Cond.code yX6_isBarred cX6_isBarred 3 (some .boolean) ∈ TB := tb_of (tbl4 (List.mem_of_getElem? (i := 154) (by decide +kernel))) rfl
theorem wI_X6_isBarred : Cond.initialized yX6_isBarred.cls ∈ TB := tb_of (tbl1 (List.mem_of_getElem? (i := 7) (by decide +kernel))) rfl
theorem wM_X6_isBarred : Cond.instanceMethod yX6_isBarred ∈ TB := tb_of (tbl4 (List.mem_of_getElem? (i := 153) (by decide +kernel))) rfl
theorem wS_X6_isBarred : Cond.selects yX6_isBarred.cls yX6_isBarred yX6_isBarred ∈ TB := tb_of (tblS (List.mem_of_getElem? (i := 40) (by decide +kernel))) rfl
theorem vX6_119 : ZV RX6 119 yX6_isBarred cX6_isBarred 3 (some .boolean) 2 := ⟨List.forall_mem_cons.mpr ⟨(tb_of (tbl4 (List.mem_of_getElem? (i := 151) (by decide +kernel))) rfl), List.forall_mem_cons.mpr ⟨wM_X6_isBarred, List.forall_mem_cons.mpr ⟨wS_X6_isBarred, List.forall_mem_cons.mpr ⟨wI_X6_isBarred, List.forall_mem_cons.mpr ⟨wC_X6_isBarred, fun _ h => absurd h List.not_mem_nil⟩⟩⟩⟩⟩, by decide +kernel, by decide⟩
theorem wC_X6_isClash : Cond.code yX6_isClash cX6_isClash 3 (some .boolean) ∈ TB := tb_of (tbl4 (List.mem_of_getElem? (i := 158) (by decide +kernel))) rfl
theorem wI_X6_isClash : Cond.initialized yX6_isClash.cls ∈ TB := tb_of (tbl1 (List.mem_of_getElem? (i := 7) (by decide +kernel))) rfl
theorem wM_X6_isClash : Cond.instanceMethod yX6_isClash ∈ TB := tb_of (tbl4 (List.mem_of_getElem? (i := 157) (by decide +kernel))) rfl
theorem wS_X6_isClash : Cond.selects yX6_isClash.cls yX6_isClash yX6_isClash ∈ TB := tb_of (tblS (List.mem_of_getElem? (i := 41) (by decide +kernel))) rfl
theorem vX6_123 : ZV RX6 123 yX6_isClash cX6_isClash 3 (some .boolean) 2 := ⟨List.forall_mem_cons.mpr ⟨(tb_of (tbl4 (List.mem_of_getElem? (i := 155) (by decide +kernel))) rfl), List.forall_mem_cons.mpr ⟨wM_X6_isClash, List.forall_mem_cons.mpr ⟨wS_X6_isClash, List.forall_mem_cons.mpr ⟨wI_X6_isClash, List.forall_mem_cons.mpr ⟨wC_X6_isClash, fun _ h => absurd h List.not_mem_nil⟩⟩⟩⟩⟩, by decide +kernel, by decide⟩
theorem wC_X6_mayBeBare : Cond.code yX6_mayBeBare cX6_mayBeBare 5 (some .boolean) ∈ TB := tb_of (tbl4 (List.mem_of_getElem? (i := 150) (by decide +kernel))) rfl
theorem wI_X6_mayBeBare : Cond.initialized yX6_mayBeBare.cls ∈ TB := tb_of (tbl1 (List.mem_of_getElem? (i := 7) (by decide +kernel))) rfl
theorem wM_X6_mayBeBare : Cond.instanceMethod yX6_mayBeBare ∈ TB := tb_of (tbl4 (List.mem_of_getElem? (i := 149) (by decide +kernel))) rfl
theorem wS_X6_mayBeBare : Cond.selects yX6_mayBeBare.cls yX6_mayBeBare yX6_mayBeBare ∈ TB := tb_of (tblS (List.mem_of_getElem? (i := 39) (by decide +kernel))) rfl
theorem vX6_126 : ZV RX6 126 yX6_mayBeBare cX6_mayBeBare 5 (some .boolean) 3 := ⟨List.forall_mem_cons.mpr ⟨(tb_of (tbl4 (List.mem_of_getElem? (i := 147) (by decide +kernel))) rfl), List.forall_mem_cons.mpr ⟨wM_X6_mayBeBare, List.forall_mem_cons.mpr ⟨wS_X6_mayBeBare, List.forall_mem_cons.mpr ⟨wI_X6_mayBeBare, List.forall_mem_cons.mpr ⟨wC_X6_mayBeBare, fun _ h => absurd h List.not_mem_nil⟩⟩⟩⟩⟩, by decide +kernel, by decide⟩
theorem wC_X6_cell : Cond.code yX6_cell cX6_cell 3 (some .int) ∈ TB := tb_of (tbl4 (List.mem_of_getElem? (i := 161) (by decide +kernel))) rfl
theorem wI_X6_cell : Cond.initialized yX6_cell.cls ∈ TB := tb_of (tbl1 (List.mem_of_getElem? (i := 7) (by decide +kernel))) rfl
theorem wT_X6_cell : Cond.static yX6_cell ∈ TB := tb_of (tbl4 (List.mem_of_getElem? (i := 160) (by decide +kernel))) rfl
theorem vX6_130 : ZS RX6 130 yX6_cell cX6_cell 3 (some .int) 3 := ⟨List.forall_mem_cons.mpr ⟨(tb_of (tbl4 (List.mem_of_getElem? (i := 159) (by decide +kernel))) rfl), List.forall_mem_cons.mpr ⟨wT_X6_cell, List.forall_mem_cons.mpr ⟨wI_X6_cell, List.forall_mem_cons.mpr ⟨wC_X6_cell, fun _ h => absurd h List.not_mem_nil⟩⟩⟩⟩, by decide +kernel, by decide⟩
theorem wC_X6_bareCost : Cond.code yX6_bareCost cX6_bareCost 6 (some .int) ∈ TB := tb_of (tbl4 (List.mem_of_getElem? (i := 146) (by decide +kernel))) rfl
theorem wI_X6_bareCost : Cond.initialized yX6_bareCost.cls ∈ TB := tb_of (tbl1 (List.mem_of_getElem? (i := 7) (by decide +kernel))) rfl
theorem wM_X6_bareCost : Cond.instanceMethod yX6_bareCost ∈ TB := tb_of (tbl4 (List.mem_of_getElem? (i := 145) (by decide +kernel))) rfl
theorem wS_X6_bareCost : Cond.selects yX6_bareCost.cls yX6_bareCost yX6_bareCost ∈ TB := tb_of (tblS (List.mem_of_getElem? (i := 38) (by decide +kernel))) rfl
theorem vX6_133 : ZV RX6 133 yX6_bareCost cX6_bareCost 6 (some .int) 5 := ⟨List.forall_mem_cons.mpr ⟨(tb_of (tbl4 (List.mem_of_getElem? (i := 143) (by decide +kernel))) rfl), List.forall_mem_cons.mpr ⟨wM_X6_bareCost, List.forall_mem_cons.mpr ⟨wS_X6_bareCost, List.forall_mem_cons.mpr ⟨wI_X6_bareCost, List.forall_mem_cons.mpr ⟨wC_X6_bareCost, fun _ h => absurd h List.not_mem_nil⟩⟩⟩⟩⟩, by decide +kernel, by decide⟩
theorem wC_X6_operandCost : Cond.code yX6_operandCost cX6_operandCost 8 (some .int) ∈ TB := tb_of (tbl4 (List.mem_of_getElem? (i := 142) (by decide +kernel))) rfl
theorem wI_X6_operandCost : Cond.initialized yX6_operandCost.cls ∈ TB := tb_of (tbl1 (List.mem_of_getElem? (i := 7) (by decide +kernel))) rfl
theorem wM_X6_operandCost : Cond.instanceMethod yX6_operandCost ∈ TB := tb_of (tbl4 (List.mem_of_getElem? (i := 141) (by decide +kernel))) rfl
theorem wS_X6_operandCost : Cond.selects yX6_operandCost.cls yX6_operandCost yX6_operandCost ∈ TB := tb_of (tblS (List.mem_of_getElem? (i := 37) (by decide +kernel))) rfl
theorem vX6_137 : ZV RX6 137 yX6_operandCost cX6_operandCost 8 (some .int) 5 := ⟨List.forall_mem_cons.mpr ⟨(tb_of (tbl4 (List.mem_of_getElem? (i := 139) (by decide +kernel))) rfl), List.forall_mem_cons.mpr ⟨wM_X6_operandCost, List.forall_mem_cons.mpr ⟨wS_X6_operandCost, List.forall_mem_cons.mpr ⟨wI_X6_operandCost, List.forall_mem_cons.mpr ⟨wC_X6_operandCost, fun _ h => absurd h List.not_mem_nil⟩⟩⟩⟩⟩, by decide +kernel, by decide⟩
theorem wC_X6_rightLevel : Cond.code yX6_rightLevel cX6_rightLevel 2 (some .int) ∈ TB := tb_of (tbl4 (List.mem_of_getElem? (i := 165) (by decide +kernel))) rfl
theorem wI_X6_rightLevel : Cond.initialized yX6_rightLevel.cls ∈ TB := tb_of (tbl1 (List.mem_of_getElem? (i := 7) (by decide +kernel))) rfl
theorem wM_X6_rightLevel : Cond.instanceMethod yX6_rightLevel ∈ TB := tb_of (tbl4 (List.mem_of_getElem? (i := 164) (by decide +kernel))) rfl
theorem wS_X6_rightLevel : Cond.selects yX6_rightLevel.cls yX6_rightLevel yX6_rightLevel ∈ TB := tb_of (tblS (List.mem_of_getElem? (i := 42) (by decide +kernel))) rfl
theorem vX6_140 : ZV RX6 140 yX6_rightLevel cX6_rightLevel 2 (some .int) 1 := ⟨List.forall_mem_cons.mpr ⟨(tb_of (tbl4 (List.mem_of_getElem? (i := 162) (by decide +kernel))) rfl), List.forall_mem_cons.mpr ⟨wM_X6_rightLevel, List.forall_mem_cons.mpr ⟨wS_X6_rightLevel, List.forall_mem_cons.mpr ⟨wI_X6_rightLevel, List.forall_mem_cons.mpr ⟨wC_X6_rightLevel, fun _ h => absurd h List.not_mem_nil⟩⟩⟩⟩⟩, by decide +kernel, by decide⟩
theorem wC_X6_costOf : Cond.code yX6_costOf cX6_costOf 7 (some .int) ∈ TB := tb_of (tbl4 (List.mem_of_getElem? (i := 138) (by decide +kernel))) rfl
theorem wI_X6_costOf : Cond.initialized yX6_costOf.cls ∈ TB := tb_of (tbl1 (List.mem_of_getElem? (i := 7) (by decide +kernel))) rfl
theorem wM_X6_costOf : Cond.instanceMethod yX6_costOf ∈ TB := tb_of (tbl4 (List.mem_of_getElem? (i := 137) (by decide +kernel))) rfl
theorem wS_X6_costOf : Cond.selects yX6_costOf.cls yX6_costOf yX6_costOf ∈ TB := tb_of (tblS (List.mem_of_getElem? (i := 36) (by decide +kernel))) rfl
theorem vX6_144 : ZV RX6 144 yX6_costOf cX6_costOf 7 (some .int) 3 := ⟨List.forall_mem_cons.mpr ⟨(tb_of (tbl4 (List.mem_of_getElem? (i := 135) (by decide +kernel))) rfl), List.forall_mem_cons.mpr ⟨wM_X6_costOf, List.forall_mem_cons.mpr ⟨wS_X6_costOf, List.forall_mem_cons.mpr ⟨wI_X6_costOf, List.forall_mem_cons.mpr ⟨wC_X6_costOf, fun _ h => absurd h List.not_mem_nil⟩⟩⟩⟩⟩, by decide +kernel, by decide⟩
theorem wC_X6_push : Cond.code yX6_push cX6_push 5 none ∈ TB := tb_of (tbl4 (List.mem_of_getElem? (i := 169) (by decide +kernel))) rfl
theorem wI_X6_push : Cond.initialized yX6_push.cls ∈ TB := tb_of (tbl1 (List.mem_of_getElem? (i := 7) (by decide +kernel))) rfl
theorem wM_X6_push : Cond.instanceMethod yX6_push ∈ TB := tb_of (tbl4 (List.mem_of_getElem? (i := 168) (by decide +kernel))) rfl
theorem wS_X6_push : Cond.selects yX6_push.cls yX6_push yX6_push ∈ TB := tb_of (tblS (List.mem_of_getElem? (i := 43) (by decide +kernel))) rfl
theorem vX6_150 : ZV RX6 150 yX6_push cX6_push 5 none 4 := ⟨List.forall_mem_cons.mpr ⟨(tb_of (tbl4 (List.mem_of_getElem? (i := 166) (by decide +kernel))) rfl), List.forall_mem_cons.mpr ⟨wM_X6_push, List.forall_mem_cons.mpr ⟨wS_X6_push, List.forall_mem_cons.mpr ⟨wI_X6_push, List.forall_mem_cons.mpr ⟨wC_X6_push, fun _ h => absurd h List.not_mem_nil⟩⟩⟩⟩⟩, by decide +kernel, by decide⟩
theorem wC_X6_pushOperand : Cond.code yX6_pushOperand cX6_pushOperand 8 none ∈ TB := tb_of (tbl4 (List.mem_of_getElem? (i := 181) (by decide +kernel))) rfl
theorem wI_X6_pushOperand : Cond.initialized yX6_pushOperand.cls ∈ TB := tb_of (tbl1 (List.mem_of_getElem? (i := 7) (by decide +kernel))) rfl
theorem wM_X6_pushOperand : Cond.instanceMethod yX6_pushOperand ∈ TB := tb_of (tbl4 (List.mem_of_getElem? (i := 180) (by decide +kernel))) rfl
theorem wS_X6_pushOperand : Cond.selects yX6_pushOperand.cls yX6_pushOperand yX6_pushOperand ∈ TB := tb_of (tblS (List.mem_of_getElem? (i := 46) (by decide +kernel))) rfl
theorem vX6_157 : ZV RX6 157 yX6_pushOperand cX6_pushOperand 8 none 6 := ⟨List.forall_mem_cons.mpr ⟨(tb_of (tbl4 (List.mem_of_getElem? (i := 178) (by decide +kernel))) rfl), List.forall_mem_cons.mpr ⟨wM_X6_pushOperand, List.forall_mem_cons.mpr ⟨wS_X6_pushOperand, List.forall_mem_cons.mpr ⟨wI_X6_pushOperand, List.forall_mem_cons.mpr ⟨wC_X6_pushOperand, fun _ h => absurd h List.not_mem_nil⟩⟩⟩⟩⟩, by decide +kernel, by decide⟩
theorem wC_X6_layCosts : Cond.code yX6_layCosts cX6_layCosts 6 none ∈ TB := tb_of (tbl4 (List.mem_of_getElem? (i := 134) (by decide +kernel))) rfl
theorem wI_X6_layCosts : Cond.initialized yX6_layCosts.cls ∈ TB := tb_of (tbl1 (List.mem_of_getElem? (i := 7) (by decide +kernel))) rfl
theorem wM_X6_layCosts : Cond.instanceMethod yX6_layCosts ∈ TB := tb_of (tbl4 (List.mem_of_getElem? (i := 133) (by decide +kernel))) rfl
theorem wS_X6_layCosts : Cond.selects yX6_layCosts.cls yX6_layCosts yX6_layCosts ∈ TB := tb_of (tblS (List.mem_of_getElem? (i := 35) (by decide +kernel))) rfl
theorem vX6_161 : ZV RX6 161 yX6_layCosts cX6_layCosts 6 none 1 := ⟨List.forall_mem_cons.mpr ⟨(tb_of (tbl4 (List.mem_of_getElem? (i := 131) (by decide +kernel))) rfl), List.forall_mem_cons.mpr ⟨wM_X6_layCosts, List.forall_mem_cons.mpr ⟨wS_X6_layCosts, List.forall_mem_cons.mpr ⟨wI_X6_layCosts, List.forall_mem_cons.mpr ⟨wC_X6_layCosts, fun _ h => absurd h List.not_mem_nil⟩⟩⟩⟩⟩, by decide +kernel, by decide⟩
theorem wC_X6_write : Cond.code yX6_write cX6_write 2 none ∈ TB := tb_of (tbl4 (List.mem_of_getElem? (i := 173) (by decide +kernel))) rfl
theorem wI_X6_write : Cond.initialized yX6_write.cls ∈ TB := tb_of (tbl1 (List.mem_of_getElem? (i := 7) (by decide +kernel))) rfl
theorem wM_X6_write : Cond.instanceMethod yX6_write ∈ TB := tb_of (tbl4 (List.mem_of_getElem? (i := 172) (by decide +kernel))) rfl
theorem wS_X6_write : Cond.selects yX6_write.cls yX6_write yX6_write ∈ TB := tb_of (tblS (List.mem_of_getElem? (i := 44) (by decide +kernel))) rfl
theorem vX6_165 : ZV RX6 165 yX6_write cX6_write 2 none 1 := ⟨List.forall_mem_cons.mpr ⟨(tb_of (tbl4 (List.mem_of_getElem? (i := 170) (by decide +kernel))) rfl), List.forall_mem_cons.mpr ⟨wM_X6_write, List.forall_mem_cons.mpr ⟨wS_X6_write, List.forall_mem_cons.mpr ⟨wI_X6_write, List.forall_mem_cons.mpr ⟨wC_X6_write, fun _ h => absurd h List.not_mem_nil⟩⟩⟩⟩⟩, by decide +kernel, by decide⟩
theorem wC_X6_pushParts : Cond.code yX6_pushParts cX6_pushParts 6 none ∈ TB := tb_of (tbl4 (List.mem_of_getElem? (i := 177) (by decide +kernel))) rfl
theorem wI_X6_pushParts : Cond.initialized yX6_pushParts.cls ∈ TB := tb_of (tbl1 (List.mem_of_getElem? (i := 7) (by decide +kernel))) rfl
theorem wM_X6_pushParts : Cond.instanceMethod yX6_pushParts ∈ TB := tb_of (tbl4 (List.mem_of_getElem? (i := 176) (by decide +kernel))) rfl
theorem wS_X6_pushParts : Cond.selects yX6_pushParts.cls yX6_pushParts yX6_pushParts ∈ TB := tb_of (tblS (List.mem_of_getElem? (i := 45) (by decide +kernel))) rfl
theorem vX6_168 : ZV RX6 168 yX6_pushParts cX6_pushParts 6 none 4 := ⟨List.forall_mem_cons.mpr ⟨(tb_of (tbl4 (List.mem_of_getElem? (i := 174) (by decide +kernel))) rfl), List.forall_mem_cons.mpr ⟨wM_X6_pushParts, List.forall_mem_cons.mpr ⟨wS_X6_pushParts, List.forall_mem_cons.mpr ⟨wI_X6_pushParts, List.forall_mem_cons.mpr ⟨wC_X6_pushParts, fun _ h => absurd h List.not_mem_nil⟩⟩⟩⟩⟩, by decide +kernel, by decide⟩
theorem wC_X6_printTree : Cond.code yX6_printTree cX6_printTree 5 (some .int) ∈ TB := tb_of (tbl4 (List.mem_of_getElem? (i := 130) (by decide +kernel))) rfl
theorem wI_X6_printTree : Cond.initialized yX6_printTree.cls ∈ TB := tb_of (tbl1 (List.mem_of_getElem? (i := 7) (by decide +kernel))) rfl
theorem wM_X6_printTree : Cond.instanceMethod yX6_printTree ∈ TB := tb_of (tbl4 (List.mem_of_getElem? (i := 129) (by decide +kernel))) rfl
theorem wS_X6_printTree : Cond.selects yX6_printTree.cls yX6_printTree yX6_printTree ∈ TB := tb_of (tblS (List.mem_of_getElem? (i := 34) (by decide +kernel))) rfl
theorem vX6_172 : ZV RX6 172 yX6_printTree cX6_printTree 5 (some .int) 2 := ⟨List.forall_mem_cons.mpr ⟨(tb_of (tbl4 (List.mem_of_getElem? (i := 127) (by decide +kernel))) rfl), List.forall_mem_cons.mpr ⟨wM_X6_printTree, List.forall_mem_cons.mpr ⟨wS_X6_printTree, List.forall_mem_cons.mpr ⟨wI_X6_printTree, List.forall_mem_cons.mpr ⟨wC_X6_printTree, fun _ h => absurd h List.not_mem_nil⟩⟩⟩⟩⟩, by decide +kernel, by decide⟩
theorem wC_X6_addRead : Cond.code yX6_addRead cX6_addRead 5 (some .int) ∈ TB := tb_of (tbl4 (List.mem_of_getElem? (i := 218) (by decide +kernel))) rfl
theorem wI_X6_addRead : Cond.initialized yX6_addRead.cls ∈ TB := tb_of (tbl1 (List.mem_of_getElem? (i := 7) (by decide +kernel))) rfl
theorem wM_X6_addRead : Cond.instanceMethod yX6_addRead ∈ TB := tb_of (tbl4 (List.mem_of_getElem? (i := 217) (by decide +kernel))) rfl
theorem wS_X6_addRead : Cond.selects yX6_addRead.cls yX6_addRead yX6_addRead ∈ TB := tb_of (tblS (List.mem_of_getElem? (i := 51) (by decide +kernel))) rfl
theorem vX6_200 : ZV RX6 200 yX6_addRead cX6_addRead 5 (some .int) 4 := ⟨List.forall_mem_cons.mpr ⟨(tb_of (tbl4 (List.mem_of_getElem? (i := 215) (by decide +kernel))) rfl), List.forall_mem_cons.mpr ⟨wM_X6_addRead, List.forall_mem_cons.mpr ⟨wS_X6_addRead, List.forall_mem_cons.mpr ⟨wI_X6_addRead, List.forall_mem_cons.mpr ⟨wC_X6_addRead, fun _ h => absurd h List.not_mem_nil⟩⟩⟩⟩⟩, by decide +kernel, by decide⟩
theorem wC_X6_openCall : Cond.code yX6_openCall cX6_openCall 5 none ∈ TB := tb_of (tbl4 (List.mem_of_getElem? (i := 222) (by decide +kernel))) rfl
theorem wI_X6_openCall : Cond.initialized yX6_openCall.cls ∈ TB := tb_of (tbl1 (List.mem_of_getElem? (i := 7) (by decide +kernel))) rfl
theorem wM_X6_openCall : Cond.instanceMethod yX6_openCall ∈ TB := tb_of (tbl4 (List.mem_of_getElem? (i := 221) (by decide +kernel))) rfl
theorem wS_X6_openCall : Cond.selects yX6_openCall.cls yX6_openCall yX6_openCall ∈ TB := tb_of (tblS (List.mem_of_getElem? (i := 52) (by decide +kernel))) rfl
theorem vX6_209 : ZV RX6 209 yX6_openCall cX6_openCall 5 none 4 := ⟨List.forall_mem_cons.mpr ⟨(tb_of (tbl4 (List.mem_of_getElem? (i := 219) (by decide +kernel))) rfl), List.forall_mem_cons.mpr ⟨wM_X6_openCall, List.forall_mem_cons.mpr ⟨wS_X6_openCall, List.forall_mem_cons.mpr ⟨wI_X6_openCall, List.forall_mem_cons.mpr ⟨wC_X6_openCall, fun _ h => absurd h List.not_mem_nil⟩⟩⟩⟩⟩, by decide +kernel, by decide⟩
theorem wC_X6_fail : Cond.code yX6_fail cX6_fail 3 none ∈ TB := tb_of (tbl4 (List.mem_of_getElem? (i := 226) (by decide +kernel))) rfl
theorem wI_X6_fail : Cond.initialized yX6_fail.cls ∈ TB := tb_of (tbl1 (List.mem_of_getElem? (i := 7) (by decide +kernel))) rfl
theorem wM_X6_fail : Cond.instanceMethod yX6_fail ∈ TB := tb_of (tbl4 (List.mem_of_getElem? (i := 225) (by decide +kernel))) rfl
theorem wS_X6_fail : Cond.selects yX6_fail.cls yX6_fail yX6_fail ∈ TB := tb_of (tblS (List.mem_of_getElem? (i := 53) (by decide +kernel))) rfl
theorem vX6_212 : ZV RX6 212 yX6_fail cX6_fail 3 none 2 := ⟨List.forall_mem_cons.mpr ⟨(tb_of (tbl4 (List.mem_of_getElem? (i := 223) (by decide +kernel))) rfl), List.forall_mem_cons.mpr ⟨wM_X6_fail, List.forall_mem_cons.mpr ⟨wS_X6_fail, List.forall_mem_cons.mpr ⟨wI_X6_fail, List.forall_mem_cons.mpr ⟨wC_X6_fail, fun _ h => absurd h List.not_mem_nil⟩⟩⟩⟩⟩, by decide +kernel, by decide⟩
theorem wC_X6_isBareAndBarred : Cond.code yX6_isBareAndBarred cX6_isBareAndBarred 2 (some .boolean) ∈ TB := tb_of (tbl4 (List.mem_of_getElem? (i := 238) (by decide +kernel))) rfl
theorem wI_X6_isBareAndBarred : Cond.initialized yX6_isBareAndBarred.cls ∈ TB := tb_of (tbl1 (List.mem_of_getElem? (i := 7) (by decide +kernel))) rfl
theorem wM_X6_isBareAndBarred : Cond.instanceMethod yX6_isBareAndBarred ∈ TB := tb_of (tbl4 (List.mem_of_getElem? (i := 237) (by decide +kernel))) rfl
theorem wS_X6_isBareAndBarred : Cond.selects yX6_isBareAndBarred.cls yX6_isBareAndBarred yX6_isBareAndBarred ∈ TB := tb_of (tblS (List.mem_of_getElem? (i := 56) (by decide +kernel))) rfl
theorem vX6_216 : ZV RX6 216 yX6_isBareAndBarred cX6_isBareAndBarred 2 (some .boolean) 1 := ⟨List.forall_mem_cons.mpr ⟨(tb_of (tbl4 (List.mem_of_getElem? (i := 235) (by decide +kernel))) rfl), List.forall_mem_cons.mpr ⟨wM_X6_isBareAndBarred, List.forall_mem_cons.mpr ⟨wS_X6_isBareAndBarred, List.forall_mem_cons.mpr ⟨wI_X6_isBareAndBarred, List.forall_mem_cons.mpr ⟨wC_X6_isBareAndBarred, fun _ h => absurd h List.not_mem_nil⟩⟩⟩⟩⟩, by decide +kernel, by decide⟩
theorem wC_X6_readPostfix : Cond.code yX6_readPostfix cX6_readPostfix 2 none ∈ TB := tb_of (tbl4 (List.mem_of_getElem? (i := 234) (by decide +kernel))) rfl
theorem wI_X6_readPostfix : Cond.initialized yX6_readPostfix.cls ∈ TB := tb_of (tbl1 (List.mem_of_getElem? (i := 7) (by decide +kernel))) rfl
theorem wM_X6_readPostfix : Cond.instanceMethod yX6_readPostfix ∈ TB := tb_of (tbl4 (List.mem_of_getElem? (i := 233) (by decide +kernel))) rfl
theorem wS_X6_readPostfix : Cond.selects yX6_readPostfix.cls yX6_readPostfix yX6_readPostfix ∈ TB := tb_of (tblS (List.mem_of_getElem? (i := 55) (by decide +kernel))) rfl
theorem vX6_219 : ZV RX6 219 yX6_readPostfix cX6_readPostfix 2 none 1 := ⟨List.forall_mem_cons.mpr ⟨(tb_of (tbl4 (List.mem_of_getElem? (i := 231) (by decide +kernel))) rfl), List.forall_mem_cons.mpr ⟨wM_X6_readPostfix, List.forall_mem_cons.mpr ⟨wS_X6_readPostfix, List.forall_mem_cons.mpr ⟨wI_X6_readPostfix, List.forall_mem_cons.mpr ⟨wC_X6_readPostfix, fun _ h => absurd h List.not_mem_nil⟩⟩⟩⟩⟩, by decide +kernel, by decide⟩
theorem wC_X6_readInfix : Cond.code yX6_readInfix cX6_readInfix 2 none ∈ TB := tb_of (tbl5 (List.mem_of_getElem? (i := 2) (by decide +kernel))) rfl
theorem wI_X6_readInfix : Cond.initialized yX6_readInfix.cls ∈ TB := tb_of (tbl1 (List.mem_of_getElem? (i := 7) (by decide +kernel))) rfl
theorem wM_X6_readInfix : Cond.instanceMethod yX6_readInfix ∈ TB := tb_of (tbl5 (List.mem_of_getElem? (i := 1) (by decide +kernel))) rfl
theorem wS_X6_readInfix : Cond.selects yX6_readInfix.cls yX6_readInfix yX6_readInfix ∈ TB := tb_of (tblS (List.mem_of_getElem? (i := 57) (by decide +kernel))) rfl
theorem vX6_222 : ZV RX6 222 yX6_readInfix cX6_readInfix 2 none 1 := ⟨List.forall_mem_cons.mpr ⟨(tb_of (tbl4 (List.mem_of_getElem? (i := 239) (by decide +kernel))) rfl), List.forall_mem_cons.mpr ⟨wM_X6_readInfix, List.forall_mem_cons.mpr ⟨wS_X6_readInfix, List.forall_mem_cons.mpr ⟨wI_X6_readInfix, List.forall_mem_cons.mpr ⟨wC_X6_readInfix, fun _ h => absurd h List.not_mem_nil⟩⟩⟩⟩⟩, by decide +kernel, by decide⟩
theorem wC_X6_endCall : Cond.code yX6_endCall cX6_endCall 4 none ∈ TB := tb_of (tbl5 (List.mem_of_getElem? (i := 6) (by decide +kernel))) rfl
theorem wI_X6_endCall : Cond.initialized yX6_endCall.cls ∈ TB := tb_of (tbl1 (List.mem_of_getElem? (i := 7) (by decide +kernel))) rfl
theorem wM_X6_endCall : Cond.instanceMethod yX6_endCall ∈ TB := tb_of (tbl5 (List.mem_of_getElem? (i := 5) (by decide +kernel))) rfl
theorem wS_X6_endCall : Cond.selects yX6_endCall.cls yX6_endCall yX6_endCall ∈ TB := tb_of (tblS (List.mem_of_getElem? (i := 58) (by decide +kernel))) rfl
theorem vX6_225 : ZV RX6 225 yX6_endCall cX6_endCall 4 none 0 := ⟨List.forall_mem_cons.mpr ⟨(tb_of (tbl5 (List.mem_of_getElem? (i := 3) (by decide +kernel))) rfl), List.forall_mem_cons.mpr ⟨wM_X6_endCall, List.forall_mem_cons.mpr ⟨wS_X6_endCall, List.forall_mem_cons.mpr ⟨wI_X6_endCall, List.forall_mem_cons.mpr ⟨wC_X6_endCall, fun _ h => absurd h List.not_mem_nil⟩⟩⟩⟩⟩, by decide +kernel, by decide⟩
theorem wC_X6_readOperand : Cond.code yX6_readOperand cX6_readOperand 3 none ∈ TB := tb_of (tbl4 (List.mem_of_getElem? (i := 214) (by decide +kernel))) rfl
theorem wI_X6_readOperand : Cond.initialized yX6_readOperand.cls ∈ TB := tb_of (tbl1 (List.mem_of_getElem? (i := 7) (by decide +kernel))) rfl
theorem wM_X6_readOperand : Cond.instanceMethod yX6_readOperand ∈ TB := tb_of (tbl4 (List.mem_of_getElem? (i := 213) (by decide +kernel))) rfl
theorem wS_X6_readOperand : Cond.selects yX6_readOperand.cls yX6_readOperand yX6_readOperand ∈ TB := tb_of (tblS (List.mem_of_getElem? (i := 50) (by decide +kernel))) rfl
theorem vX6_228 : ZV RX6 228 yX6_readOperand cX6_readOperand 3 none 0 := ⟨List.forall_mem_cons.mpr ⟨(tb_of (tbl4 (List.mem_of_getElem? (i := 211) (by decide +kernel))) rfl), List.forall_mem_cons.mpr ⟨wM_X6_readOperand, List.forall_mem_cons.mpr ⟨wS_X6_readOperand, List.forall_mem_cons.mpr ⟨wI_X6_readOperand, List.forall_mem_cons.mpr ⟨wC_X6_readOperand, fun _ h => absurd h List.not_mem_nil⟩⟩⟩⟩⟩, by decide +kernel, by decide⟩
theorem wC_X6_goOn : Cond.code yX6_goOn cX6_goOn 3 (some .boolean) ∈ TB := tb_of (tbl4 (List.mem_of_getElem? (i := 230) (by decide +kernel))) rfl
theorem wI_X6_goOn : Cond.initialized yX6_goOn.cls ∈ TB := tb_of (tbl1 (List.mem_of_getElem? (i := 7) (by decide +kernel))) rfl
theorem wM_X6_goOn : Cond.instanceMethod yX6_goOn ∈ TB := tb_of (tbl4 (List.mem_of_getElem? (i := 229) (by decide +kernel))) rfl
theorem wS_X6_goOn : Cond.selects yX6_goOn.cls yX6_goOn yX6_goOn ∈ TB := tb_of (tblS (List.mem_of_getElem? (i := 54) (by decide +kernel))) rfl
theorem vX6_231 : ZV RX6 231 yX6_goOn cX6_goOn 3 (some .boolean) 0 := ⟨List.forall_mem_cons.mpr ⟨(tb_of (tbl4 (List.mem_of_getElem? (i := 227) (by decide +kernel))) rfl), List.forall_mem_cons.mpr ⟨wM_X6_goOn, List.forall_mem_cons.mpr ⟨wS_X6_goOn, List.forall_mem_cons.mpr ⟨wI_X6_goOn, List.forall_mem_cons.mpr ⟨wC_X6_goOn, fun _ h => absurd h List.not_mem_nil⟩⟩⟩⟩⟩, by decide +kernel, by decide⟩
theorem vX6_235 : ZV RX6 235 yX6_bracketPairs cX6_bracketPairs 3 (some .int) 0 := ⟨List.forall_mem_cons.mpr ⟨(tb_of (tbl4 (List.mem_of_getElem? (i := 198) (by decide +kernel))) rfl), List.forall_mem_cons.mpr ⟨wM_X6_bracketPairs, List.forall_mem_cons.mpr ⟨wS_X6_bracketPairs, List.forall_mem_cons.mpr ⟨wI_X6_bracketPairs, List.forall_mem_cons.mpr ⟨wC_X6_bracketPairs, fun _ h => absurd h List.not_mem_nil⟩⟩⟩⟩⟩, by decide +kernel, by decide⟩
theorem wC_X6_openingOf : Cond.code yX6_openingOf cX6_openingOf 4 (some .int) ∈ TB := tb_of (tbl4 (List.mem_of_getElem? (i := 202) (by decide +kernel))) rfl
theorem wI_X6_openingOf : Cond.initialized yX6_openingOf.cls ∈ TB := tb_of (tbl1 (List.mem_of_getElem? (i := 7) (by decide +kernel))) rfl
theorem wM_X6_openingOf : Cond.instanceMethod yX6_openingOf ∈ TB := tb_of (tbl4 (List.mem_of_getElem? (i := 201) (by decide +kernel))) rfl
theorem wS_X6_openingOf : Cond.selects yX6_openingOf.cls yX6_openingOf yX6_openingOf ∈ TB := tb_of (tblS (List.mem_of_getElem? (i := 47) (by decide +kernel))) rfl
theorem vX6_239 : ZV RX6 239 yX6_openingOf cX6_openingOf 4 (some .int) 1 := ⟨List.forall_mem_cons.mpr ⟨(tb_of (tbl4 (List.mem_of_getElem? (i := 199) (by decide +kernel))) rfl), List.forall_mem_cons.mpr ⟨wM_X6_openingOf, List.forall_mem_cons.mpr ⟨wS_X6_openingOf, List.forall_mem_cons.mpr ⟨wI_X6_openingOf, List.forall_mem_cons.mpr ⟨wC_X6_openingOf, fun _ h => absurd h List.not_mem_nil⟩⟩⟩⟩⟩, by decide +kernel, by decide⟩
theorem wC_X6_closingOf : Cond.code yX6_closingOf cX6_closingOf 4 (some .int) ∈ TB := tb_of (tbl4 (List.mem_of_getElem? (i := 206) (by decide +kernel))) rfl
theorem wI_X6_closingOf : Cond.initialized yX6_closingOf.cls ∈ TB := tb_of (tbl1 (List.mem_of_getElem? (i := 7) (by decide +kernel))) rfl
theorem wM_X6_closingOf : Cond.instanceMethod yX6_closingOf ∈ TB := tb_of (tbl4 (List.mem_of_getElem? (i := 205) (by decide +kernel))) rfl
theorem wS_X6_closingOf : Cond.selects yX6_closingOf.cls yX6_closingOf yX6_closingOf ∈ TB := tb_of (tblS (List.mem_of_getElem? (i := 48) (by decide +kernel))) rfl
theorem vX6_242 : ZV RX6 242 yX6_closingOf cX6_closingOf 4 (some .int) 1 := ⟨List.forall_mem_cons.mpr ⟨(tb_of (tbl4 (List.mem_of_getElem? (i := 203) (by decide +kernel))) rfl), List.forall_mem_cons.mpr ⟨wM_X6_closingOf, List.forall_mem_cons.mpr ⟨wS_X6_closingOf, List.forall_mem_cons.mpr ⟨wI_X6_closingOf, List.forall_mem_cons.mpr ⟨wC_X6_closingOf, fun _ h => absurd h List.not_mem_nil⟩⟩⟩⟩⟩, by decide +kernel, by decide⟩
theorem wC_X6_readAll : Cond.code yX6_readAll cX6_readAll 2 (some .boolean) ∈ TB := tb_of (tbl4 (List.mem_of_getElem? (i := 210) (by decide +kernel))) rfl
theorem wI_X6_readAll : Cond.initialized yX6_readAll.cls ∈ TB := tb_of (tbl1 (List.mem_of_getElem? (i := 7) (by decide +kernel))) rfl
theorem wM_X6_readAll : Cond.instanceMethod yX6_readAll ∈ TB := tb_of (tbl4 (List.mem_of_getElem? (i := 209) (by decide +kernel))) rfl
theorem wS_X6_readAll : Cond.selects yX6_readAll.cls yX6_readAll yX6_readAll ∈ TB := tb_of (tblS (List.mem_of_getElem? (i := 49) (by decide +kernel))) rfl
theorem vX6_245 : ZV RX6 245 yX6_readAll cX6_readAll 2 (some .boolean) 0 := ⟨List.forall_mem_cons.mpr ⟨(tb_of (tbl4 (List.mem_of_getElem? (i := 207) (by decide +kernel))) rfl), List.forall_mem_cons.mpr ⟨wM_X6_readAll, List.forall_mem_cons.mpr ⟨wS_X6_readAll, List.forall_mem_cons.mpr ⟨wI_X6_readAll, List.forall_mem_cons.mpr ⟨wC_X6_readAll, fun _ h => absurd h List.not_mem_nil⟩⟩⟩⟩⟩, by decide +kernel, by decide⟩
theorem wC_X6_isSameAs : Cond.code yX6_isSameAs cX6_isSameAs 5 (some .boolean) ∈ TB := tb_of (tbl5 (List.mem_of_getElem? (i := 10) (by decide +kernel))) rfl
theorem wI_X6_isSameAs : Cond.initialized yX6_isSameAs.cls ∈ TB := tb_of (tbl1 (List.mem_of_getElem? (i := 7) (by decide +kernel))) rfl
theorem wM_X6_isSameAs : Cond.instanceMethod yX6_isSameAs ∈ TB := tb_of (tbl5 (List.mem_of_getElem? (i := 9) (by decide +kernel))) rfl
theorem wS_X6_isSameAs : Cond.selects yX6_isSameAs.cls yX6_isSameAs yX6_isSameAs ∈ TB := tb_of (tblS (List.mem_of_getElem? (i := 59) (by decide +kernel))) rfl
theorem vX6_248 : ZV RX6 248 yX6_isSameAs cX6_isSameAs 5 (some .boolean) 1 := ⟨List.forall_mem_cons.mpr ⟨(tb_of (tbl5 (List.mem_of_getElem? (i := 7) (by decide +kernel))) rfl), List.forall_mem_cons.mpr ⟨wM_X6_isSameAs, List.forall_mem_cons.mpr ⟨wS_X6_isSameAs, List.forall_mem_cons.mpr ⟨wI_X6_isSameAs, List.forall_mem_cons.mpr ⟨wC_X6_isSameAs, fun _ h => absurd h List.not_mem_nil⟩⟩⟩⟩⟩, by decide +kernel, by decide⟩
theorem sh0 : zSH[0]? = some (.inr (5, [some 1, some 7, some 13, some 25, some 29, some 19, some 21, some 23, none, none, none])) := rfl
theorem sh1 : zSH[1]? = some (.inr (1, [some 2, some 3, some 4, some 5, some 6, none])) := rfl
theorem sh2 : zSH[2]? = some (.inl (0, 16)) := rfl
theorem sh3 : zSH[3]? = some (.inl (0, 16)) := rfl
theorem sh4 : zSH[4]? = some (.inl (0, 16)) := rfl
theorem sh5 : zSH[5]? = some (.inl (0, 10)) := rfl
theorem sh6 : zSH[6]? = some (.inl (1, 256)) := rfl
theorem sh7 : zSH[7]? = some (.inr (0, [some 8, some 9, some 10, some 11, some 12, none])) := rfl
theorem sh8 : zSH[8]? = some (.inl (0, 120)) := rfl
theorem sh9 : zSH[9]? = some (.inl (0, 120)) := rfl
theorem sh10 : zSH[10]? = some (.inl (0, 120)) := rfl
theorem sh11 : zSH[11]? = some (.inl (0, 120)) := rfl
theorem sh12 : zSH[12]? = some (.inl (0, 120)) := rfl
theorem sh13 : zSH[13]? = some (.inr (0, [some 14, some 15, some 16, some 17, some 18, none])) := rfl
theorem sh14 : zSH[14]? = some (.inl (0, 120)) := rfl
theorem sh15 : zSH[15]? = some (.inl (0, 120)) := rfl
theorem sh16 : zSH[16]? = some (.inl (0, 120)) := rfl
theorem sh17 : zSH[17]? = some (.inl (0, 120)) := rfl
theorem sh18 : zSH[18]? = some (.inl (0, 120)) := rfl
theorem sh19 : zSH[19]? = some (.inr (3, [some 20, none])) := rfl
theorem sh20 : zSH[20]? = some (.inl (0, 120)) := rfl
theorem sh21 : zSH[21]? = some (.inr (3, [some 22, none])) := rfl
theorem sh22 : zSH[22]? = some (.inl (0, 120)) := rfl
theorem sh23 : zSH[23]? = some (.inr (3, [some 24, none])) := rfl
theorem sh24 : zSH[24]? = some (.inl (0, 120)) := rfl
theorem sh25 : zSH[25]? = some (.inr (2, [some 1, some 13, some 23, some 26, some 27, some 28, none, none, none, none, none, none, none, none])) := rfl
theorem sh26 : zSH[26]? = some (.inl (0, 120)) := rfl
theorem sh27 : zSH[27]? = some (.inl (0, 120)) := rfl
theorem sh28 : zSH[28]? = some (.inl (0, 120)) := rfl
theorem sh29 : zSH[29]? = some (.inr (4, [some 1, some 7, some 21, some 30, none])) := rfl
theorem sh30 : zSH[30]? = some (.inl (0, 100)) := rfl
theorem sh31 : zSH[31]? = some (.inr (6, [some 32, some 33, some 34, none, some 35, some 36, some 37, some 38, some 39, some 40, some 41, none, some 42, none, none, some 43, none, none, none, some 44, some 45, some 46, some 47, none, some 48, none, some 49, some 50, some 51, some 52, none, some 53, none, none, none, none, none, none, none, none])) := rfl
theorem sh32 : zSH[32]? = some (.inl (0, 16)) := rfl
theorem sh33 : zSH[33]? = some (.inl (0, 16)) := rfl
theorem sh34 : zSH[34]? = some (.inl (0, 16)) := rfl
theorem sh35 : zSH[35]? = some (.inl (0, 10)) := rfl
theorem sh36 : zSH[36]? = some (.inl (1, 256)) := rfl
theorem sh37 : zSH[37]? = some (.inl (0, 100)) := rfl
theorem sh38 : zSH[38]? = some (.inl (0, 100)) := rfl
theorem sh39 : zSH[39]? = some (.inl (0, 100)) := rfl
theorem sh40 : zSH[40]? = some (.inl (0, 100)) := rfl
theorem sh41 : zSH[41]? = some (.inl (0, 100)) := rfl
theorem sh42 : zSH[42]? = some (.inl (0, 120)) := rfl
theorem sh43 : zSH[43]? = some (.inl (0, 120)) := rfl
theorem sh44 : zSH[44]? = some (.inl (0, 256)) := rfl
theorem sh45 : zSH[45]? = some (.inl (0, 256)) := rfl
theorem sh46 : zSH[46]? = some (.inl (0, 12100)) := rfl
theorem sh47 : zSH[47]? = some (.inl (0, 1200)) := rfl
theorem sh48 : zSH[48]? = some (.inl (0, 120)) := rfl
theorem sh49 : zSH[49]? = some (.inl (0, 130)) := rfl
theorem sh50 : zSH[50]? = some (.inl (0, 130)) := rfl
theorem sh51 : zSH[51]? = some (.inl (0, 130)) := rfl
theorem sh52 : zSH[52]? = some (.inl (0, 130)) := rfl
theorem sh53 : zSH[53]? = some (.inl (0, 700)) := rfl
theorem shNT {k : Nat} (hk : k = 7 ∨ k = 13) : zSH[k]? = some (.inr (0, [some (k + 1), some (k + 2), some (k + 3), some (k + 4), some (k + 5), none])) := by rcases hk with rfl | rfl <;> rfl
theorem shNT1 {k : Nat} (hk : k = 7 ∨ k = 13) : zSH[k + 1]? = some (.inl (0, 120)) := by rcases hk with rfl | rfl <;> rfl
theorem shNT2 {k : Nat} (hk : k = 7 ∨ k = 13) : zSH[k + 2]? = some (.inl (0, 120)) := by rcases hk with rfl | rfl <;> rfl
theorem shNT3 {k : Nat} (hk : k = 7 ∨ k = 13) : zSH[k + 3]? = some (.inl (0, 120)) := by rcases hk with rfl | rfl <;> rfl
theorem shNT4 {k : Nat} (hk : k = 7 ∨ k = 13) : zSH[k + 4]? = some (.inl (0, 120)) := by rcases hk with rfl | rfl <;> rfl
theorem shNT5 {k : Nat} (hk : k = 7 ∨ k = 13) : zSH[k + 5]? = some (.inl (0, 120)) := by rcases hk with rfl | rfl <;> rfl
theorem shTX {k : Nat} (hk : k = 19 ∨ k = 21 ∨ k = 23) : zSH[k]? = some (.inr (3, [some (k + 1), none])) := by rcases hk with rfl | rfl | rfl <;> rfl
theorem shTX1 {k : Nat} (hk : k = 19 ∨ k = 21 ∨ k = 23) : zSH[k + 1]? = some (.inl (0, 120)) := by rcases hk with rfl | rfl | rfl <;> rfl
end
section
/-! ===== truth as a number; small rows ===== -/
noncomputable def zb (c : Prop) : Int := @ite Int c (Classical.propDecidable c) 1 0
theorem zb_t {c : Prop} (h : c) : zb c = 1 := by unfold zb; exact if_pos h
theorem zb_f {c : Prop} (h : ¬ c) : zb c = 0 := by unfold zb; exact if_neg h
theorem zb_one {c : Prop} (h : c) : (1 : Int) = zb c := (zb_t h).symm
theorem zb_zero {c : Prop} (h : ¬ c) : (0 : Int) = zb c := (zb_f h).symm
theorem zb01 {c : Prop} {r : Int} (h : r = zb c) : r = 0 ∨ r = 1 := by
  by_cases hc : c
  · right; rw [h, zb_t hc]
  · left; rw [h, zb_f hc]
theorem zb0 {c : Prop} {r : Int} (h : r = zb c) (h0 : r = 0) : ¬ c := fun hc => by rw [h, zb_t hc] at h0; omega
theorem zb1 {c : Prop} {r : Int} (h : r = zb c) (h0 : r ≠ 0) : c := by
  by_cases hc : c
  · exact hc
  · exact absurd (by rw [h, zb_f hc]) h0
theorem zb_iff {c d : Prop} (h : c ↔ d) : zb c = zb d := by
  by_cases hc : c
  · rw [zb_t hc, zb_t (h.mp hc)]
  · rw [zb_f hc, zb_f (fun q => hc (h.mpr q))]
theorem zRgL {n : Int} (h : (decide (-2147483648 ≤ n) && decide (n < 2147483648)) = true) : zRg n := by
  simp only [Bool.and_eq_true, decide_eq_true_eq] at h
  exact h
theorem zup_same (σ : ZSt) (k j : Nat) (v : Int) : zup σ k j v k j = v := by simp [zup]
theorem zup_cell {σ : ZSt} {k k' j j' : Nat} {v : Int} (h : k' ≠ k) : zup σ k j v k' j' = σ k' j' := by simp [zup, h]
theorem zup_place {σ : ZSt} {k k' j j' : Nat} {v : Int} (h : j' ≠ j) : zup σ k j v k' j' = σ k' j' := by simp [zup, h]
end
section
/-! ===== the class, read as functions of the state ===== -/
theorem zup_row {σ : ZSt} {k k' j : Nat} {v : Int} (h : k' ≠ k) : zup σ k j v k' = σ k' := funext (fun _ => zup_cell h)
def zget (n : Int) (f : Nat → Int) (a df : Int) : Int := if 0 ≤ a ∧ a < n then f a.toNat else df
theorem zget_in {n : Int} {f : Nat → Int} {a df : Int} (h : 0 ≤ a ∧ a < n) : zget n f a df = f a.toNat := if_pos h
theorem zget_out {n : Int} {f : Nat → Int} {a df : Int} (h : ¬ (0 ≤ a ∧ a < n)) : zget n f a df = df := if_neg h
/-- the first place, from i on and n places far, with a symbol of a kind (b = 1: a prefix); -1: none -/
def zfnd (sym kind : Nat → Int) (s b : Int) : Nat → Nat → Int
  | _, 0 => -1
  | i, n + 1 => if sym i = s ∧ (if kind i = 1 then (1 : Int) else 0) = b then (i : Int) else zfnd sym kind s b (i + 1) n
/-- the bounds that the class's rows keep: how many operators, nodes, nodes read, signs, frames; the levels -/
def IX (σ : ZSt) : Prop := (0 ≤ σ 1 5 ∧ σ 1 5 ≤ 16) ∧ (0 ≤ σ 7 5 ∧ σ 7 5 ≤ 120) ∧ (0 ≤ σ 13 5 ∧ σ 13 5 ≤ 120) ∧ (0 ≤ σ 19 1 ∧ σ 19 1 ≤ 120) ∧ (0 ≤ σ 21 1 ∧ σ 21 1 ≤ 120) ∧ (0 ≤ σ 23 1 ∧ σ 23 1 ≤ 120) ∧ (0 ≤ σ 25 6 ∧ σ 25 6 ≤ 120) ∧ ∀ i, 0 ≤ σ 4 i ∧ σ 4 i ≤ 9
theorem IX.nt {σ : ZSt} (h : IX σ) {k : Nat} (hk : k = 7 ∨ k = 13) : 0 ≤ σ k 5 ∧ σ k 5 ≤ 120 := by
  obtain ⟨h1, h2, h3, h4⟩ := h
  rcases hk with rfl | rfl
  · exact h2
  · exact h3
theorem IX.tx {σ : ZSt} (h : IX σ) {k : Nat} (hk : k = 19 ∨ k = 21 ∨ k = 23) : 0 ≤ σ k 1 ∧ σ k 1 ≤ 120 := by
  obtain ⟨h1, h2, h3, h4, h5, h6, h7⟩ := h
  rcases hk with rfl | rfl | rfl
  · exact h4
  · exact h5
  · exact h6
theorem IX.lev {σ : ZSt} (h : IX σ) (i : Nat) : 0 ≤ σ 4 i ∧ σ 4 i ≤ 9 := h.2.2.2.2.2.2.2 i
theorem IX.ops {σ : ZSt} (h : IX σ) : 0 ≤ σ 1 5 ∧ σ 1 5 ≤ 16 := h.1
theorem IX.frm {σ : ZSt} (h : IX σ) : 0 ≤ σ 25 6 ∧ σ 25 6 ≤ 120 := h.2.2.2.2.2.2.1
/-- a write elsewhere -/
def zfree (k j : Nat) : Bool := !((k == 1 && j == 5) || (k == 7 && j == 5) || (k == 13 && j == 5) || (k == 19 && j == 1) || (k == 21 && j == 1) || (k == 23 && j == 1) || (k == 25 && j == 6) || k == 4)
theorem IX.of {σ τ : ZSt} (h : IX σ) (h1 : τ 1 5 = σ 1 5) (h2 : τ 7 5 = σ 7 5) (h3 : τ 13 5 = σ 13 5) (h4 : τ 19 1 = σ 19 1) (h5 : τ 21 1 = σ 21 1) (h6 : τ 23 1 = σ 23 1) (h7 : τ 25 6 = σ 25 6) (h8 : ∀ i, τ 4 i = σ 4 i) : IX τ := by
  unfold IX at h ⊢
  rw [h1, h2, h3, h4, h5, h6, h7]
  simp only [h8]
  exact h
theorem IX.upF {σ : ZSt} (h : IX σ) {k j : Nat} {v : Int} (hf : zfree k j = true) : IX (zup σ k j v) := by
  simp only [zfree, Bool.not_eq_true', Bool.or_eq_false_iff, Bool.and_eq_false_iff, beq_eq_false_iff_ne] at hf
  refine h.of ?_ ?_ ?_ ?_ ?_ ?_ ?_ (fun i => ?_) <;> (unfold zup; rw [if_neg (by omega)])
theorem IX.upA {σ : ZSt} (h : IX σ) {k j : Nat} {v : Int} (hf : (k == 1 || k == 4 || k == 7 || k == 13 || k == 19 || k == 21 || k == 23 || k == 25) = false) : IX (zup σ k j v) := by
  simp only [Bool.or_eq_false_iff, beq_eq_false_iff_ne] at hf
  refine h.of ?_ ?_ ?_ ?_ ?_ ?_ ?_ (fun i => ?_) <;> (unfold zup; rw [if_neg (by omega)])
theorem IX.upNTa {σ : ZSt} (h : IX σ) {k d j : Nat} {v : Int} (hk : k = 7 ∨ k = 13) (hd : 1 ≤ d ∧ d ≤ 5) : IX (zup σ (k + d) j v) := by
  refine h.of ?_ ?_ ?_ ?_ ?_ ?_ ?_ (fun i => ?_) <;> (unfold zup; rw [if_neg (by omega)])
theorem IX.upTXa {σ : ZSt} (h : IX σ) {k j : Nat} {v : Int} (hk : k = 19 ∨ k = 21 ∨ k = 23) : IX (zup σ (k + 1) j v) := by
  refine h.of ?_ ?_ ?_ ?_ ?_ ?_ ?_ (fun i => ?_) <;> (unfold zup; rw [if_neg (by omega)])
theorem IX.upNT {σ : ZSt} (h : IX σ) {k : Nat} {v : Int} (hk : k = 7 ∨ k = 13) (hv : 0 ≤ v ∧ v ≤ 120) : IX (zup σ k 5 v) := by
  obtain ⟨h1, h2, h3, h4, h5, h6, h7, h8⟩ := h
  rcases hk with rfl | rfl
  · exact ⟨h1, hv, h3, h4, h5, h6, h7, h8⟩
  · exact ⟨h1, h2, hv, h4, h5, h6, h7, h8⟩
theorem IX.upTX {σ : ZSt} (h : IX σ) {k : Nat} {v : Int} (hk : k = 19 ∨ k = 21 ∨ k = 23) (hv : 0 ≤ v ∧ v ≤ 120) : IX (zup σ k 1 v) := by
  obtain ⟨h1, h2, h3, h4, h5, h6, h7, h8⟩ := h
  rcases hk with rfl | rfl | rfl
  · exact ⟨h1, h2, h3, hv, h5, h6, h7, h8⟩
  · exact ⟨h1, h2, h3, h4, hv, h6, h7, h8⟩
  · exact ⟨h1, h2, h3, h4, h5, hv, h7, h8⟩
theorem IX.up15 {σ : ZSt} (h : IX σ) {v : Int} (hv : 0 ≤ v ∧ v ≤ 16) : IX (zup σ 1 5 v) := by
  obtain ⟨h1, h2, h3, h4, h5, h6, h7, h8⟩ := h
  exact ⟨hv, h2, h3, h4, h5, h6, h7, h8⟩
theorem IX.upfr {σ : ZSt} (h : IX σ) {v : Int} (hv : 0 ≤ v ∧ v ≤ 120) : IX (zup σ 25 6 v) := by
  obtain ⟨h1, h2, h3, h4, h5, h6, h7, h8⟩ := h
  exact ⟨h1, h2, h3, h4, h5, h6, hv, h8⟩
theorem IX.up4 {σ : ZSt} (h : IX σ) {j : Nat} {v : Int} (hv : 0 ≤ v ∧ v ≤ 9) : IX (zup σ 4 j v) := by
  obtain ⟨h1, h2, h3, h4, h5, h6, h7, h8⟩ := h
  refine ⟨h1, h2, h3, h4, h5, h6, h7, fun i => ?_⟩
  by_cases hi : i = j
  · rw [hi, zup_same]; exact hv
  · rw [zup_place hi]; exact h8 i
-- the operators
def xasc (σ : ZSt) (a : Int) : Int := if 1 ≤ a ∧ a ≤ 9 then σ 5 a.toNat else 0
def xsym (σ : ZSt) (a : Int) : Int := zget (σ 1 5) (σ 2) a (-1)
def xkind (σ : ZSt) (a : Int) : Int := zget (σ 1 5) (σ 3) a (-1)
def xlev (σ : ZSt) (a : Int) : Int := zget (σ 1 5) (σ 4) a 0
def xfind (σ : ZSt) (a b : Int) : Int := zfnd (σ 2) (σ 3) a b 0 (σ 1 5).toNat
def xfb (σ : ZSt) (o i : Int) : Prop := (0 ≤ o ∧ o < σ 1 5) ∧ (0 ≤ i ∧ i < σ 1 5) ∧ σ 6 (o * 16 + i).toNat ≠ 0
def xna (σ : ZSt) (o l : Int) : Prop := xkind σ o = 0 ∧ xkind σ l = 0 ∧ xlev σ l = xlev σ o ∧ xasc σ (xlev σ o) = 2
def xmin (σ : ZSt) (o : Int) : Int := if 0 ≤ o ∧ o < σ 1 5 then (if σ 3 o.toNat = 0 ∧ ¬ ((1 ≤ σ 4 o.toNat ∧ σ 4 o.toNat ≤ 9) ∧ σ 5 (σ 4 o.toNat).toNat = 1) then σ 4 o.toNat + 1 else σ 4 o.toNat) else 0
def xopadd (σ : ZSt) (a b c : Int) : ZSt := if 16 ≤ σ 1 5 then σ else zup (zup (zup (zup σ 2 (σ 1 5).toNat a) 3 (σ 1 5).toNat b) 4 (σ 1 5).toNat c) 1 5 (σ 1 5 + 1)
-- the nodes of a table k
def xnop (σ : ZSt) (k : Nat) (a : Int) : Int := zget (σ k 5) (σ (k + 1)) a (-1)
def xnlet (σ : ZSt) (k : Nat) (a : Int) : Int := zget (σ k 5) (σ (k + 2)) a (-1)
def xnbef (σ : ZSt) (k : Nat) (a : Int) : Int := zget (σ k 5) (σ (k + 3)) a (-1)
def xnaft (σ : ZSt) (k : Nat) (a : Int) : Int := zget (σ k 5) (σ (k + 4)) a (-1)
def xnsz (σ : ZSt) (k : Nat) (a : Int) : Int := zget (σ k 5) (σ (k + 5)) a 0
def zw (v : Int) : Int := (zi v).toInt
theorem zw_rg (v : Int) : zRg (zw v) := zRg_of _
theorem zw_id {v : Int} (h : zRg v) : zw v = v := zi_toInt h
theorem zw_iv (v : Int) : ziv (zw v) = ziv v := by unfold ziv zw; rw [zi_of]
def xnadd (σ : ZSt) (k : Nat) (o l b a : Int) : ZSt := if 120 ≤ σ k 5 then σ else
  zup (zup (zup (zup (zup (zup σ (k + 1) (σ k 5).toNat o) (k + 2) (σ k 5).toNat l) (k + 3) (σ k 5).toNat b) (k + 4) (σ k 5).toNat a) (k + 5) (σ k 5).toNat (zw (1 + xnsz σ k b + xnsz σ k a))) k 5 (σ k 5 + 1)
def xnaddr (σ : ZSt) (k : Nat) : Int := if 120 ≤ σ k 5 then -1 else σ k 5
def xshift (a b : Int) : Int := if a = -1 then -1 else a + b
-- texts
def xat (σ : ZSt) (k : Nat) (a : Int) : Int := zget (σ k 1) (σ (k + 1)) a (-1)
def xput (σ : ZSt) (k : Nat) (a : Int) : ZSt := if 120 ≤ σ k 1 then σ else zup (zup σ (k + 1) (σ k 1).toNat a) k 1 (σ k 1 + 1)
-- further rows: a read that is told otherwise, a write of a number out of range
section MORE
variable {E : ZE} {Γ : ZT} {h : Nat} {own : String} {cc : ByteArray} {pc : Nat} {lv : List (Option Value)} {st : List Value} {σ : ZSt}
theorem z_getIe (C : ZC E Γ h own cc) {index ci j k : Nat} {fin : Bool} {ty : FieldType} {fs : List (Option Nat)} {v : Int} (f : ZF own index ci j fin ty) (hs : zSH[k]? = some (.inr (ci, fs))) (hf : fs[j]? = some none) (hd : decode cc pc = .ok (.getfield index, 3)) (hv : σ k j = v) (kk : ZG E Γ (pc + 3) lv (ziv v :: st) σ) : ZG E Γ pc lv (zrf E k :: st) σ := z_getI C f hs hf hd (by rw [hv]; exact kk)
theorem z_ialde (C : ZC E Γ h own cc) {k n : Nat} {i v : Int} (hs : zSH[k]? = some (.inl (0, n))) (h0 : 0 ≤ i) (h1 : i < n) (hd : decode cc pc = .ok (.iaload, 1)) (hv : σ k i.toNat = v) (kk : ZG E Γ (pc + 1) lv (ziv v :: st) σ) : ZG E Γ pc lv (ziv i :: zrf E k :: st) σ := z_iald C hs h0 h1 hd (by rw [hv]; exact kk)
theorem z_zalde (C : ZC E Γ h own cc) {k n : Nat} {i v : Int} (hs : zSH[k]? = some (.inl (1, n))) (h0 : 0 ≤ i) (h1 : i < n) (hd : decode cc pc = .ok (.baload, 1)) (hv : σ k i.toNat = v) (kk : ZG E Γ (pc + 1) lv (ziv v :: st) σ) : ZG E Γ pc lv (ziv i :: zrf E k :: st) σ := z_zald C hs h0 h1 hd (by rw [hv]; exact kk)
theorem z_iastW (C : ZC E Γ h own cc) (hR : zRs σ) {k n : Nat} {i v : Int} (hs : zSH[k]? = some (.inl (0, n))) (h0 : 0 ≤ i) (h1 : i < n) (hd : decode cc pc = .ok (.iastore, 1)) (kk : ∀ σ1 : ZSt, σ1 = zup σ k i.toNat (zw v) → zRs σ1 → ZG E Γ (pc + 1) lv st σ1) : ZG E Γ pc lv (ziv v :: ziv i :: zrf E k :: st) σ := by
  rw [← zw_iv v]
  exact z_iast C hR hs h0 h1 (zw_rg v) hd kk
end MORE
end
section
set_option maxRecDepth 20000 in
theorem C_X5_isLetter (E : ZE) (σ : ZSt) (hR : zRs σ) (a : Int) (ha : zRg a) : ZMi E 0 yX5_isLetter cX5_isLetter 1 (some .boolean) [ziv a] σ (fun r σ' => (r = zb (97 ≤ a ∧ a ≤ 122)) ∧ σ' = σ) := by
  refine ZMi.introZ (by decide) rfl (Nat.le_of_ble_eq_true rfl) (fun Γ C hN hret => ?_)
  show ZG E Γ 0 [some (ziv a)] [] σ
  refine z_iload_n (pc := 0) C dX5_isLetter_0 rfl rfl ?_
  refine z_bipush (pc := 1) C dX5_isLetter_1 (by decide) ?_
  refine z_icmp_lt (pc := 3) C 16 ha (zRgL rfl) dX5_isLetter_3 rfl (fun c_3 => ?_) (fun c_3 => ?_)
  · refine z_iconst (pc := 16) C dX5_isLetter_16 ?_
    refine hret 17 _ _ _ dX5_isLetter_17 (Or.inl rfl) hR ?_
    exact ⟨zb_zero (by (try simp only [IX] at *); (first | omega | simp_all | grind)), rfl⟩
  · refine z_iload_n (pc := 6) C dX5_isLetter_6 rfl rfl ?_
    refine z_bipush (pc := 7) C dX5_isLetter_7 (by decide) ?_
    refine z_icmp_gt (pc := 9) C 16 ha (zRgL rfl) dX5_isLetter_9 rfl (fun c_9 => ?_) (fun c_9 => ?_)
    · refine z_iconst (pc := 16) C dX5_isLetter_16 ?_
      refine hret 17 _ _ _ dX5_isLetter_17 (Or.inl rfl) hR ?_
      exact ⟨zb_zero (by (try simp only [IX] at *); (first | omega | simp_all | grind)), rfl⟩
    · refine z_iconst (pc := 12) C dX5_isLetter_12 ?_
      refine z_goto (pc := 13) C 17 dX5_isLetter_13 rfl ?_
      refine hret 17 _ _ _ dX5_isLetter_17 (Or.inr rfl) hR ?_
      exact ⟨zb_one (by (try simp only [IX] at *); (first | omega | simp_all | grind)), rfl⟩
set_option maxRecDepth 20000 in
theorem C_X5_isLevel (E : ZE) (σ : ZSt) (hR : zRs σ) (a : Int) (ha : zRg a) : ZMi E 0 yX5_isLevel cX5_isLevel 1 (some .boolean) [ziv a] σ (fun r σ' => (r = zb (1 ≤ a ∧ a ≤ 9)) ∧ σ' = σ) := by
  refine ZMi.introZ (by decide) rfl (Nat.le_of_ble_eq_true rfl) (fun Γ C hN hret => ?_)
  show ZG E Γ 0 [some (ziv a)] [] σ
  refine z_iload_n (pc := 0) C dX5_isLevel_0 rfl rfl ?_
  refine z_iconst (pc := 1) C dX5_isLevel_1 ?_
  refine z_icmp_lt (pc := 2) C 15 ha (zRgL rfl) dX5_isLevel_2 rfl (fun c_2 => ?_) (fun c_2 => ?_)
  · refine z_iconst (pc := 15) C dX5_isLevel_15 ?_
    refine hret 16 _ _ _ dX5_isLevel_16 (Or.inl rfl) hR ?_
    exact ⟨zb_zero (by (try simp only [IX] at *); (first | omega | simp_all | grind)), rfl⟩
  · refine z_iload_n (pc := 5) C dX5_isLevel_5 rfl rfl ?_
    refine z_bipush (pc := 6) C dX5_isLevel_6 (by decide) ?_
    refine z_icmp_gt (pc := 8) C 15 ha (zRgL rfl) dX5_isLevel_8 rfl (fun c_8 => ?_) (fun c_8 => ?_)
    · refine z_iconst (pc := 15) C dX5_isLevel_15 ?_
      refine hret 16 _ _ _ dX5_isLevel_16 (Or.inl rfl) hR ?_
      exact ⟨zb_zero (by (try simp only [IX] at *); (first | omega | simp_all | grind)), rfl⟩
    · refine z_iconst (pc := 11) C dX5_isLevel_11 ?_
      refine z_goto (pc := 12) C 16 dX5_isLevel_12 rfl ?_
      refine hret 16 _ _ _ dX5_isLevel_16 (Or.inr rfl) hR ?_
      exact ⟨zb_one (by (try simp only [IX] at *); (first | omega | simp_all | grind)), rfl⟩
set_option maxRecDepth 20000 in
theorem C_X5_canBeSymbol (E : ZE) (σ : ZSt) (hR : zRs σ) (a : Int) (ha : zRg a) : ZMi E 1 yX5_canBeSymbol cX5_canBeSymbol 1 (some .boolean) [ziv a] σ (fun r σ' => (r = zb (33 ≤ a ∧ a ≤ 126 ∧ ¬ (97 ≤ a ∧ a ≤ 122) ∧ a ≠ 40 ∧ a ≠ 41)) ∧ σ' = σ) := by
  refine ZMi.introZ (by decide) rfl (Nat.le_of_ble_eq_true rfl) (fun Γ C hN hret => ?_)
  show ZG E Γ 0 [some (ziv a)] [] σ
  refine z_iload_n (pc := 0) C dX5_canBeSymbol_0 rfl rfl ?_
  refine z_bipush (pc := 1) C dX5_canBeSymbol_1 (by decide) ?_
  refine z_icmp_lt (pc := 3) C 35 ha (zRgL rfl) dX5_canBeSymbol_3 rfl (fun c_3 => ?_) (fun c_3 => ?_)
  · refine z_iconst (pc := 35) C dX5_canBeSymbol_35 ?_
    refine hret 36 _ _ _ dX5_canBeSymbol_36 (Or.inl rfl) hR ?_
    exact ⟨zb_zero (by (try simp only [IX] at *); (first | omega | simp_all | grind)), rfl⟩
  · refine z_iload_n (pc := 6) C dX5_canBeSymbol_6 rfl rfl ?_
    refine z_bipush (pc := 7) C dX5_canBeSymbol_7 (by decide) ?_
    refine z_icmp_gt (pc := 9) C 35 ha (zRgL rfl) dX5_canBeSymbol_9 rfl (fun c_9 => ?_) (fun c_9 => ?_)
    · refine z_iconst (pc := 35) C dX5_canBeSymbol_35 ?_
      refine hret 36 _ _ _ dX5_canBeSymbol_36 (Or.inl rfl) hR ?_
      exact ⟨zb_zero (by (try simp only [IX] at *); (first | omega | simp_all | grind)), rfl⟩
    · refine z_iload_n (pc := 12) C dX5_canBeSymbol_12 rfl rfl ?_
      refine z_callSp (pc := 13) (rest := []) C (C_X5_isLetter E σ hR a ha) vX5_108 (by decide) rfl rfl (Nat.le_of_ble_eq_true rfl) dX5_canBeSymbol_13 (fun r_13 g_13 hp_13 => ?_)
      refine z_if_ne (pc := 16) C 35 g_13 dX5_canBeSymbol_16 rfl (fun c_16 => ?_) (fun c_16 => ?_)
      · have c_16 := zb1 hp_13 c_16
        refine z_iconst (pc := 35) C dX5_canBeSymbol_35 ?_
        refine hret 36 _ _ _ dX5_canBeSymbol_36 (Or.inl rfl) hR ?_
        exact ⟨zb_zero (by (try simp only [IX] at *); (first | omega | simp_all | grind)), rfl⟩
      · have c_16 := zb0 hp_13 c_16
        refine z_iload_n (pc := 19) C dX5_canBeSymbol_19 rfl rfl ?_
        refine z_bipush (pc := 20) C dX5_canBeSymbol_20 (by decide) ?_
        refine z_icmp_eq (pc := 22) C 35 ha (zRgL rfl) dX5_canBeSymbol_22 rfl (fun c_22 => ?_) (fun c_22 => ?_)
        · refine z_iconst (pc := 35) C dX5_canBeSymbol_35 ?_
          refine hret 36 _ _ _ dX5_canBeSymbol_36 (Or.inl rfl) hR ?_
          exact ⟨zb_zero (by (try simp only [IX] at *); (first | omega | simp_all | grind)), rfl⟩
        · refine z_iload_n (pc := 25) C dX5_canBeSymbol_25 rfl rfl ?_
          refine z_bipush (pc := 26) C dX5_canBeSymbol_26 (by decide) ?_
          refine z_icmp_eq (pc := 28) C 35 ha (zRgL rfl) dX5_canBeSymbol_28 rfl (fun c_28 => ?_) (fun c_28 => ?_)
          · refine z_iconst (pc := 35) C dX5_canBeSymbol_35 ?_
            refine hret 36 _ _ _ dX5_canBeSymbol_36 (Or.inl rfl) hR ?_
            exact ⟨zb_zero (by (try simp only [IX] at *); (first | omega | simp_all | grind)), rfl⟩
          · refine z_iconst (pc := 31) C dX5_canBeSymbol_31 ?_
            refine z_goto (pc := 32) C 36 dX5_canBeSymbol_32 rfl ?_
            refine hret 36 _ _ _ dX5_canBeSymbol_36 (Or.inr rfl) hR ?_
            exact ⟨zb_one (by (try simp only [IX] at *); (first | omega | simp_all | grind)), rfl⟩
set_option maxRecDepth 20000 in
theorem C_X1_count (E : ZE) (σ : ZSt) (hR : zRs σ) : ZMi E 0 yX1_count cX1_count 1 (some .int) [zrf E 1] σ (fun r σ' => (r = σ 1 5) ∧ σ' = σ) := by
  refine ZMi.intro (by decide) rfl (Nat.le_of_ble_eq_true rfl) (fun Γ C hN hret => ?_)
  show ZG E Γ 0 [some (zrf E 1)] [] σ
  refine z_aload_nZ (pc := 0) C dX1_count_0 rfl rfl ?_
  refine z_getI (pc := 1) C fX1_28 sh1 rfl dX1_count_1 ?_
  refine hret 4 _ _ _ dX1_count_4 (hR 1 _) hR ?_
  exact ⟨by (first | rfl | omega | (split <;> first | rfl | omega) | (simp_all; done) | (split <;> split <;> first | rfl | omega) | grind), rfl⟩
set_option maxRecDepth 20000 in
theorem C_X1_has (E : ZE) (σ : ZSt) (hR : zRs σ) (a : Int) (ha : zRg a) : ZMi E 0 yX1_has cX1_has 2 (some .boolean) [zrf E 1, ziv a] σ (fun r σ' => (r = zb (0 ≤ a ∧ a < σ 1 5)) ∧ σ' = σ) := by
  refine ZMi.introZ (by decide) rfl (Nat.le_of_ble_eq_true rfl) (fun Γ C hN hret => ?_)
  show ZG E Γ 0 [some (zrf E 1), some (ziv a)] [] σ
  refine z_iload_n (pc := 0) C dX1_has_0 rfl rfl ?_
  refine z_if_lt (pc := 1) C 16 ha dX1_has_1 rfl (fun c_1 => ?_) (fun c_1 => ?_)
  · refine z_iconst (pc := 16) C dX1_has_16 ?_
    refine hret 17 _ _ _ dX1_has_17 (Or.inl rfl) hR ?_
    exact ⟨zb_zero (by (try simp only [IX] at *); (first | omega | simp_all | grind)), rfl⟩
  · refine z_iload_n (pc := 4) C dX1_has_4 rfl rfl ?_
    refine z_aload_nZ (pc := 5) C dX1_has_5 rfl rfl ?_
    refine z_getI (pc := 6) C fX1_28 sh1 rfl dX1_has_6 ?_
    refine z_icmp_ge (pc := 9) C 16 ha (hR 1 _) dX1_has_9 rfl (fun c_9 => ?_) (fun c_9 => ?_)
    · refine z_iconst (pc := 16) C dX1_has_16 ?_
      refine hret 17 _ _ _ dX1_has_17 (Or.inl rfl) hR ?_
      exact ⟨zb_zero (by (try simp only [IX] at *); (first | omega | simp_all | grind)), rfl⟩
    · refine z_iconst (pc := 12) C dX1_has_12 ?_
      refine z_goto (pc := 13) C 17 dX1_has_13 rfl ?_
      refine hret 17 _ _ _ dX1_has_17 (Or.inr rfl) hR ?_
      exact ⟨zb_one (by (try simp only [IX] at *); (first | omega | simp_all | grind)), rfl⟩
set_option maxRecDepth 20000 in
theorem C_X1_symbolAt (E : ZE) (σ : ZSt) (hR : zRs σ) (a : Int) (ha : zRg a) (hI : IX σ) : ZMi E 1 yX1_symbolAt cX1_symbolAt 2 (some .int) [zrf E 1, ziv a] σ (fun r σ' => (r = xsym σ a) ∧ σ' = σ) := by
  refine ZMi.intro (by decide) rfl (Nat.le_of_ble_eq_true rfl) (fun Γ C hN hret => ?_)
  show ZG E Γ 0 [some (zrf E 1), some (ziv a)] [] σ
  refine z_aload_nZ (pc := 0) C dX1_symbolAt_0 rfl rfl ?_
  refine z_iload_n (pc := 1) C dX1_symbolAt_1 rfl rfl ?_
  refine z_callVp (pc := 2) (rest := []) C (C_X1_has E σ hR a ha) vX1_32 (by decide) sh1 rfl rfl rfl (Nat.le_of_ble_eq_true rfl) dX1_symbolAt_2 (fun r_2 g_2 hp_2 => ?_)
  refine z_if_eq (pc := 5) C 17 g_2 dX1_symbolAt_5 rfl (fun c_5 => ?_) (fun c_5 => ?_)
  · have c_5 := zb0 hp_2 c_5
    refine z_iconst (pc := 17) C dX1_symbolAt_17 ?_
    refine hret 18 _ _ _ dX1_symbolAt_18 (zRgL rfl) hR ?_
    exact ⟨by unfold xsym; first | exact (zget_in (by assumption)).symm | exact (zget_out (by assumption)).symm, rfl⟩
  · have c_5 := zb1 hp_2 c_5
    refine z_aload_nZ (pc := 8) C dX1_symbolAt_8 rfl rfl ?_
    refine z_getR (pc := 9) C fX1_9 sh1 rfl dX1_symbolAt_9 ?_
    refine z_iload_n (pc := 12) C dX1_symbolAt_12 rfl rfl ?_
    refine z_iald (pc := 13) C sh2 (by (try unfold zRg at *); (try simp only [IX] at *); omega) (by (try unfold zRg at *); (try simp only [IX] at *); omega) dX1_symbolAt_13 ?_
    refine z_goto (pc := 14) C 18 dX1_symbolAt_14 rfl ?_
    refine hret 18 _ _ _ dX1_symbolAt_18 (hR 2 _) hR ?_
    exact ⟨by unfold xsym; first | exact (zget_in (by assumption)).symm | exact (zget_out (by assumption)).symm, rfl⟩
set_option maxRecDepth 20000 in
theorem C_X1_kindAt (E : ZE) (σ : ZSt) (hR : zRs σ) (a : Int) (ha : zRg a) (hI : IX σ) : ZMi E 1 yX1_kindAt cX1_kindAt 2 (some .int) [zrf E 1, ziv a] σ (fun r σ' => (r = xkind σ a) ∧ σ' = σ) := by
  refine ZMi.intro (by decide) rfl (Nat.le_of_ble_eq_true rfl) (fun Γ C hN hret => ?_)
  show ZG E Γ 0 [some (zrf E 1), some (ziv a)] [] σ
  refine z_aload_nZ (pc := 0) C dX1_kindAt_0 rfl rfl ?_
  refine z_iload_n (pc := 1) C dX1_kindAt_1 rfl rfl ?_
  refine z_callVp (pc := 2) (rest := []) C (C_X1_has E σ hR a ha) vX1_32 (by decide) sh1 rfl rfl rfl (Nat.le_of_ble_eq_true rfl) dX1_kindAt_2 (fun r_2 g_2 hp_2 => ?_)
  refine z_if_eq (pc := 5) C 17 g_2 dX1_kindAt_5 rfl (fun c_5 => ?_) (fun c_5 => ?_)
  · have c_5 := zb0 hp_2 c_5
    refine z_iconst (pc := 17) C dX1_kindAt_17 ?_
    refine hret 18 _ _ _ dX1_kindAt_18 (zRgL rfl) hR ?_
    exact ⟨by unfold xkind; first | exact (zget_in (by assumption)).symm | exact (zget_out (by assumption)).symm, rfl⟩
  · have c_5 := zb1 hp_2 c_5
    refine z_aload_nZ (pc := 8) C dX1_kindAt_8 rfl rfl ?_
    refine z_getR (pc := 9) C fX1_15 sh1 rfl dX1_kindAt_9 ?_
    refine z_iload_n (pc := 12) C dX1_kindAt_12 rfl rfl ?_
    refine z_iald (pc := 13) C sh3 (by (try unfold zRg at *); (try simp only [IX] at *); omega) (by (try unfold zRg at *); (try simp only [IX] at *); omega) dX1_kindAt_13 ?_
    refine z_goto (pc := 14) C 18 dX1_kindAt_14 rfl ?_
    refine hret 18 _ _ _ dX1_kindAt_18 (hR 3 _) hR ?_
    exact ⟨by unfold xkind; first | exact (zget_in (by assumption)).symm | exact (zget_out (by assumption)).symm, rfl⟩
set_option maxRecDepth 20000 in
theorem C_X1_levelAt (E : ZE) (σ : ZSt) (hR : zRs σ) (a : Int) (ha : zRg a) (hI : IX σ) : ZMi E 1 yX1_levelAt cX1_levelAt 2 (some .int) [zrf E 1, ziv a] σ (fun r σ' => (r = xlev σ a) ∧ σ' = σ) := by
  refine ZMi.intro (by decide) rfl (Nat.le_of_ble_eq_true rfl) (fun Γ C hN hret => ?_)
  show ZG E Γ 0 [some (zrf E 1), some (ziv a)] [] σ
  refine z_aload_nZ (pc := 0) C dX1_levelAt_0 rfl rfl ?_
  refine z_iload_n (pc := 1) C dX1_levelAt_1 rfl rfl ?_
  refine z_callVp (pc := 2) (rest := []) C (C_X1_has E σ hR a ha) vX1_32 (by decide) sh1 rfl rfl rfl (Nat.le_of_ble_eq_true rfl) dX1_levelAt_2 (fun r_2 g_2 hp_2 => ?_)
  refine z_if_eq (pc := 5) C 17 g_2 dX1_levelAt_5 rfl (fun c_5 => ?_) (fun c_5 => ?_)
  · have c_5 := zb0 hp_2 c_5
    refine z_iconst (pc := 17) C dX1_levelAt_17 ?_
    refine hret 18 _ _ _ dX1_levelAt_18 (zRgL rfl) hR ?_
    exact ⟨by unfold xlev; first | exact (zget_in (by assumption)).symm | exact (zget_out (by assumption)).symm, rfl⟩
  · have c_5 := zb1 hp_2 c_5
    refine z_aload_nZ (pc := 8) C dX1_levelAt_8 rfl rfl ?_
    refine z_getR (pc := 9) C fX1_18 sh1 rfl dX1_levelAt_9 ?_
    refine z_iload_n (pc := 12) C dX1_levelAt_12 rfl rfl ?_
    refine z_iald (pc := 13) C sh4 (by (try unfold zRg at *); (try simp only [IX] at *); omega) (by (try unfold zRg at *); (try simp only [IX] at *); omega) dX1_levelAt_13 ?_
    refine z_goto (pc := 14) C 18 dX1_levelAt_14 rfl ?_
    refine hret 18 _ _ _ dX1_levelAt_18 (hR 4 _) hR ?_
    exact ⟨by unfold xlev; first | exact (zget_in (by assumption)).symm | exact (zget_out (by assumption)).symm, rfl⟩
set_option maxRecDepth 20000 in
theorem C_X0_count (E : ZE) (σ : ZSt) (hR : zRs σ) (k : Nat) (hk : k = 7 ∨ k = 13) : ZMi E 0 yX0_count cX0_count 1 (some .int) [zrf E k] σ (fun r σ' => (r = σ k 5) ∧ σ' = σ) := by
  refine ZMi.intro (by decide) rfl (Nat.le_of_ble_eq_true rfl) (fun Γ C hN hret => ?_)
  show ZG E Γ 0 [some (zrf E k)] [] σ
  refine z_aload_nZ (pc := 0) C dX0_count_0 rfl rfl ?_
  refine z_getI (pc := 1) C fX0_27 (shNT hk) rfl dX0_count_1 ?_
  refine hret 4 _ _ _ dX0_count_4 (hR k _) hR ?_
  exact ⟨by (first | rfl | omega | (split <;> first | rfl | omega) | (simp_all; done) | (split <;> split <;> first | rfl | omega) | grind), rfl⟩
set_option maxRecDepth 20000 in
theorem C_X0_last (E : ZE) (σ : ZSt) (hR : zRs σ) (k : Nat) (hk : k = 7 ∨ k = 13) (hI : IX σ) : ZMi E 0 yX0_last cX0_last 1 (some .int) [zrf E k] σ (fun r σ' => (r = σ k 5 - 1) ∧ σ' = σ) := by
  refine ZMi.intro (by decide) rfl (Nat.le_of_ble_eq_true rfl) (fun Γ C hN hret => ?_)
  show ZG E Γ 0 [some (zrf E k)] [] σ
  have hbd := hI.nt hk
  refine z_aload_nZ (pc := 0) C dX0_last_0 rfl rfl ?_
  refine z_getI (pc := 1) C fX0_27 (shNT hk) rfl dX0_last_1 ?_
  refine z_iconst (pc := 4) C dX0_last_4 ?_
  refine z_isub (pc := 5) C dX0_last_5 ?_
  refine hret 6 _ _ _ dX0_last_6 (by (try unfold zRg at *); (try simp only [IX] at *); omega) hR ?_
  exact ⟨by (first | rfl | omega | (split <;> first | rfl | omega) | (simp_all; done) | (split <;> split <;> first | rfl | omega) | grind), rfl⟩
set_option maxRecDepth 20000 in
theorem C_X0_has (E : ZE) (σ : ZSt) (hR : zRs σ) (k : Nat) (hk : k = 7 ∨ k = 13) (a : Int) (ha : zRg a) : ZMi E 0 yX0_has cX0_has 2 (some .boolean) [zrf E k, ziv a] σ (fun r σ' => (r = zb (0 ≤ a ∧ a < σ k 5)) ∧ σ' = σ) := by
  refine ZMi.introZ (by decide) rfl (Nat.le_of_ble_eq_true rfl) (fun Γ C hN hret => ?_)
  show ZG E Γ 0 [some (zrf E k), some (ziv a)] [] σ
  refine z_iload_n (pc := 0) C dX0_has_0 rfl rfl ?_
  refine z_if_lt (pc := 1) C 16 ha dX0_has_1 rfl (fun c_1 => ?_) (fun c_1 => ?_)
  · refine z_iconst (pc := 16) C dX0_has_16 ?_
    refine hret 17 _ _ _ dX0_has_17 (Or.inl rfl) hR ?_
    exact ⟨zb_zero (by (try simp only [IX] at *); (first | omega | simp_all | grind)), rfl⟩
  · refine z_iload_n (pc := 4) C dX0_has_4 rfl rfl ?_
    refine z_aload_nZ (pc := 5) C dX0_has_5 rfl rfl ?_
    refine z_getI (pc := 6) C fX0_27 (shNT hk) rfl dX0_has_6 ?_
    refine z_icmp_ge (pc := 9) C 16 ha (hR k _) dX0_has_9 rfl (fun c_9 => ?_) (fun c_9 => ?_)
    · refine z_iconst (pc := 16) C dX0_has_16 ?_
      refine hret 17 _ _ _ dX0_has_17 (Or.inl rfl) hR ?_
      exact ⟨zb_zero (by (try simp only [IX] at *); (first | omega | simp_all | grind)), rfl⟩
    · refine z_iconst (pc := 12) C dX0_has_12 ?_
      refine z_goto (pc := 13) C 17 dX0_has_13 rfl ?_
      refine hret 17 _ _ _ dX0_has_17 (Or.inr rfl) hR ?_
      exact ⟨zb_one (by (try simp only [IX] at *); (first | omega | simp_all | grind)), rfl⟩
set_option maxRecDepth 20000 in
theorem C_X0_operatorAt (E : ZE) (σ : ZSt) (hR : zRs σ) (k : Nat) (hk : k = 7 ∨ k = 13) (a : Int) (ha : zRg a) (hI : IX σ) : ZMi E 1 yX0_operatorAt cX0_operatorAt 2 (some .int) [zrf E k, ziv a] σ (fun r σ' => (r = xnop σ k a) ∧ σ' = σ) := by
  refine ZMi.intro (by decide) rfl (Nat.le_of_ble_eq_true rfl) (fun Γ C hN hret => ?_)
  show ZG E Γ 0 [some (zrf E k), some (ziv a)] [] σ
  have hbd := hI.nt hk
  refine z_aload_nZ (pc := 0) C dX0_operatorAt_0 rfl rfl ?_
  refine z_iload_n (pc := 1) C dX0_operatorAt_1 rfl rfl ?_
  refine z_callVp (pc := 2) (rest := []) C (C_X0_has E σ hR k hk a ha) vX0_43 (by decide) (shNT hk) rfl rfl rfl (Nat.le_of_ble_eq_true rfl) dX0_operatorAt_2 (fun r_2 g_2 hp_2 => ?_)
  refine z_if_eq (pc := 5) C 17 g_2 dX0_operatorAt_5 rfl (fun c_5 => ?_) (fun c_5 => ?_)
  · have c_5 := zb0 hp_2 c_5
    refine z_iconst (pc := 17) C dX0_operatorAt_17 ?_
    refine hret 18 _ _ _ dX0_operatorAt_18 (zRgL rfl) hR ?_
    exact ⟨by unfold xnop; first | exact (zget_in (by assumption)).symm | exact (zget_out (by assumption)).symm, rfl⟩
  · have c_5 := zb1 hp_2 c_5
    refine z_aload_nZ (pc := 8) C dX0_operatorAt_8 rfl rfl ?_
    refine z_getR (pc := 9) C fX0_11 (shNT hk) rfl dX0_operatorAt_9 ?_
    refine z_iload_n (pc := 12) C dX0_operatorAt_12 rfl rfl ?_
    refine z_iald (pc := 13) C (shNT1 hk) (by (try unfold zRg at *); (try simp only [IX] at *); omega) (by (try unfold zRg at *); (try simp only [IX] at *); omega) dX0_operatorAt_13 ?_
    refine z_goto (pc := 14) C 18 dX0_operatorAt_14 rfl ?_
    refine hret 18 _ _ _ dX0_operatorAt_18 (hR (k + 1) _) hR ?_
    exact ⟨by unfold xnop; first | exact (zget_in (by assumption)).symm | exact (zget_out (by assumption)).symm, rfl⟩
set_option maxRecDepth 20000 in
theorem C_X0_letterAt (E : ZE) (σ : ZSt) (hR : zRs σ) (k : Nat) (hk : k = 7 ∨ k = 13) (a : Int) (ha : zRg a) (hI : IX σ) : ZMi E 1 yX0_letterAt cX0_letterAt 2 (some .int) [zrf E k, ziv a] σ (fun r σ' => (r = xnlet σ k a) ∧ σ' = σ) := by
  refine ZMi.intro (by decide) rfl (Nat.le_of_ble_eq_true rfl) (fun Γ C hN hret => ?_)
  show ZG E Γ 0 [some (zrf E k), some (ziv a)] [] σ
  have hbd := hI.nt hk
  refine z_aload_nZ (pc := 0) C dX0_letterAt_0 rfl rfl ?_
  refine z_iload_n (pc := 1) C dX0_letterAt_1 rfl rfl ?_
  refine z_callVp (pc := 2) (rest := []) C (C_X0_has E σ hR k hk a ha) vX0_43 (by decide) (shNT hk) rfl rfl rfl (Nat.le_of_ble_eq_true rfl) dX0_letterAt_2 (fun r_2 g_2 hp_2 => ?_)
  refine z_if_eq (pc := 5) C 17 g_2 dX0_letterAt_5 rfl (fun c_5 => ?_) (fun c_5 => ?_)
  · have c_5 := zb0 hp_2 c_5
    refine z_iconst (pc := 17) C dX0_letterAt_17 ?_
    refine hret 18 _ _ _ dX0_letterAt_18 (zRgL rfl) hR ?_
    exact ⟨by unfold xnlet; first | exact (zget_in (by assumption)).symm | exact (zget_out (by assumption)).symm, rfl⟩
  · have c_5 := zb1 hp_2 c_5
    refine z_aload_nZ (pc := 8) C dX0_letterAt_8 rfl rfl ?_
    refine z_getR (pc := 9) C fX0_15 (shNT hk) rfl dX0_letterAt_9 ?_
    refine z_iload_n (pc := 12) C dX0_letterAt_12 rfl rfl ?_
    refine z_iald (pc := 13) C (shNT2 hk) (by (try unfold zRg at *); (try simp only [IX] at *); omega) (by (try unfold zRg at *); (try simp only [IX] at *); omega) dX0_letterAt_13 ?_
    refine z_goto (pc := 14) C 18 dX0_letterAt_14 rfl ?_
    refine hret 18 _ _ _ dX0_letterAt_18 (hR (k + 2) _) hR ?_
    exact ⟨by unfold xnlet; first | exact (zget_in (by assumption)).symm | exact (zget_out (by assumption)).symm, rfl⟩
set_option maxRecDepth 20000 in
theorem C_X0_beforeAt (E : ZE) (σ : ZSt) (hR : zRs σ) (k : Nat) (hk : k = 7 ∨ k = 13) (a : Int) (ha : zRg a) (hI : IX σ) : ZMi E 1 yX0_beforeAt cX0_beforeAt 2 (some .int) [zrf E k, ziv a] σ (fun r σ' => (r = xnbef σ k a) ∧ σ' = σ) := by
  refine ZMi.intro (by decide) rfl (Nat.le_of_ble_eq_true rfl) (fun Γ C hN hret => ?_)
  show ZG E Γ 0 [some (zrf E k), some (ziv a)] [] σ
  have hbd := hI.nt hk
  refine z_aload_nZ (pc := 0) C dX0_beforeAt_0 rfl rfl ?_
  refine z_iload_n (pc := 1) C dX0_beforeAt_1 rfl rfl ?_
  refine z_callVp (pc := 2) (rest := []) C (C_X0_has E σ hR k hk a ha) vX0_43 (by decide) (shNT hk) rfl rfl rfl (Nat.le_of_ble_eq_true rfl) dX0_beforeAt_2 (fun r_2 g_2 hp_2 => ?_)
  refine z_if_eq (pc := 5) C 17 g_2 dX0_beforeAt_5 rfl (fun c_5 => ?_) (fun c_5 => ?_)
  · have c_5 := zb0 hp_2 c_5
    refine z_iconst (pc := 17) C dX0_beforeAt_17 ?_
    refine hret 18 _ _ _ dX0_beforeAt_18 (zRgL rfl) hR ?_
    exact ⟨by unfold xnbef; first | exact (zget_in (by assumption)).symm | exact (zget_out (by assumption)).symm, rfl⟩
  · have c_5 := zb1 hp_2 c_5
    refine z_aload_nZ (pc := 8) C dX0_beforeAt_8 rfl rfl ?_
    refine z_getR (pc := 9) C fX0_18 (shNT hk) rfl dX0_beforeAt_9 ?_
    refine z_iload_n (pc := 12) C dX0_beforeAt_12 rfl rfl ?_
    refine z_iald (pc := 13) C (shNT3 hk) (by (try unfold zRg at *); (try simp only [IX] at *); omega) (by (try unfold zRg at *); (try simp only [IX] at *); omega) dX0_beforeAt_13 ?_
    refine z_goto (pc := 14) C 18 dX0_beforeAt_14 rfl ?_
    refine hret 18 _ _ _ dX0_beforeAt_18 (hR (k + 3) _) hR ?_
    exact ⟨by unfold xnbef; first | exact (zget_in (by assumption)).symm | exact (zget_out (by assumption)).symm, rfl⟩
set_option maxRecDepth 20000 in
theorem C_X0_afterAt (E : ZE) (σ : ZSt) (hR : zRs σ) (k : Nat) (hk : k = 7 ∨ k = 13) (a : Int) (ha : zRg a) (hI : IX σ) : ZMi E 1 yX0_afterAt cX0_afterAt 2 (some .int) [zrf E k, ziv a] σ (fun r σ' => (r = xnaft σ k a) ∧ σ' = σ) := by
  refine ZMi.intro (by decide) rfl (Nat.le_of_ble_eq_true rfl) (fun Γ C hN hret => ?_)
  show ZG E Γ 0 [some (zrf E k), some (ziv a)] [] σ
  have hbd := hI.nt hk
  refine z_aload_nZ (pc := 0) C dX0_afterAt_0 rfl rfl ?_
  refine z_iload_n (pc := 1) C dX0_afterAt_1 rfl rfl ?_
  refine z_callVp (pc := 2) (rest := []) C (C_X0_has E σ hR k hk a ha) vX0_43 (by decide) (shNT hk) rfl rfl rfl (Nat.le_of_ble_eq_true rfl) dX0_afterAt_2 (fun r_2 g_2 hp_2 => ?_)
  refine z_if_eq (pc := 5) C 17 g_2 dX0_afterAt_5 rfl (fun c_5 => ?_) (fun c_5 => ?_)
  · have c_5 := zb0 hp_2 c_5
    refine z_iconst (pc := 17) C dX0_afterAt_17 ?_
    refine hret 18 _ _ _ dX0_afterAt_18 (zRgL rfl) hR ?_
    exact ⟨by unfold xnaft; first | exact (zget_in (by assumption)).symm | exact (zget_out (by assumption)).symm, rfl⟩
  · have c_5 := zb1 hp_2 c_5
    refine z_aload_nZ (pc := 8) C dX0_afterAt_8 rfl rfl ?_
    refine z_getR (pc := 9) C fX0_21 (shNT hk) rfl dX0_afterAt_9 ?_
    refine z_iload_n (pc := 12) C dX0_afterAt_12 rfl rfl ?_
    refine z_iald (pc := 13) C (shNT4 hk) (by (try unfold zRg at *); (try simp only [IX] at *); omega) (by (try unfold zRg at *); (try simp only [IX] at *); omega) dX0_afterAt_13 ?_
    refine z_goto (pc := 14) C 18 dX0_afterAt_14 rfl ?_
    refine hret 18 _ _ _ dX0_afterAt_18 (hR (k + 4) _) hR ?_
    exact ⟨by unfold xnaft; first | exact (zget_in (by assumption)).symm | exact (zget_out (by assumption)).symm, rfl⟩
set_option maxRecDepth 20000 in
theorem C_X0_sizeAt (E : ZE) (σ : ZSt) (hR : zRs σ) (k : Nat) (hk : k = 7 ∨ k = 13) (a : Int) (ha : zRg a) (hI : IX σ) : ZMi E 1 yX0_sizeAt cX0_sizeAt 2 (some .int) [zrf E k, ziv a] σ (fun r σ' => (r = xnsz σ k a) ∧ σ' = σ) := by
  refine ZMi.intro (by decide) rfl (Nat.le_of_ble_eq_true rfl) (fun Γ C hN hret => ?_)
  show ZG E Γ 0 [some (zrf E k), some (ziv a)] [] σ
  have hbd := hI.nt hk
  refine z_aload_nZ (pc := 0) C dX0_sizeAt_0 rfl rfl ?_
  refine z_iload_n (pc := 1) C dX0_sizeAt_1 rfl rfl ?_
  refine z_callVp (pc := 2) (rest := []) C (C_X0_has E σ hR k hk a ha) vX0_43 (by decide) (shNT hk) rfl rfl rfl (Nat.le_of_ble_eq_true rfl) dX0_sizeAt_2 (fun r_2 g_2 hp_2 => ?_)
  refine z_if_eq (pc := 5) C 17 g_2 dX0_sizeAt_5 rfl (fun c_5 => ?_) (fun c_5 => ?_)
  · have c_5 := zb0 hp_2 c_5
    refine z_iconst (pc := 17) C dX0_sizeAt_17 ?_
    refine hret 18 _ _ _ dX0_sizeAt_18 (zRgL rfl) hR ?_
    exact ⟨by unfold xnsz; first | exact (zget_in (by assumption)).symm | exact (zget_out (by assumption)).symm, rfl⟩
  · have c_5 := zb1 hp_2 c_5
    refine z_aload_nZ (pc := 8) C dX0_sizeAt_8 rfl rfl ?_
    refine z_getR (pc := 9) C fX0_24 (shNT hk) rfl dX0_sizeAt_9 ?_
    refine z_iload_n (pc := 12) C dX0_sizeAt_12 rfl rfl ?_
    refine z_iald (pc := 13) C (shNT5 hk) (by (try unfold zRg at *); (try simp only [IX] at *); omega) (by (try unfold zRg at *); (try simp only [IX] at *); omega) dX0_sizeAt_13 ?_
    refine z_goto (pc := 14) C 18 dX0_sizeAt_14 rfl ?_
    refine hret 18 _ _ _ dX0_sizeAt_18 (hR (k + 5) _) hR ?_
    exact ⟨by unfold xnsz; first | exact (zget_in (by assumption)).symm | exact (zget_out (by assumption)).symm, rfl⟩
set_option maxRecDepth 20000 in
theorem C_X3_length (E : ZE) (σ : ZSt) (hR : zRs σ) (k : Nat) (hk : k = 19 ∨ k = 21 ∨ k = 23) : ZMi E 0 yX3_length cX3_length 1 (some .int) [zrf E k] σ (fun r σ' => (r = σ k 1) ∧ σ' = σ) := by
  refine ZMi.intro (by decide) rfl (Nat.le_of_ble_eq_true rfl) (fun Γ C hN hret => ?_)
  show ZG E Γ 0 [some (zrf E k)] [] σ
  refine z_aload_nZ (pc := 0) C dX3_length_0 rfl rfl ?_
  refine z_getI (pc := 1) C fX3_15 (shTX hk) rfl dX3_length_1 ?_
  refine hret 4 _ _ _ dX3_length_4 (hR k _) hR ?_
  exact ⟨by (first | rfl | omega | (split <;> first | rfl | omega) | (simp_all; done) | (split <;> split <;> first | rfl | omega) | grind), rfl⟩
set_option maxRecDepth 20000 in
theorem C_X3_at (E : ZE) (σ : ZSt) (hR : zRs σ) (k : Nat) (hk : k = 19 ∨ k = 21 ∨ k = 23) (a : Int) (ha : zRg a) (hI : IX σ) : ZMi E 0 yX3_at cX3_at 2 (some .int) [zrf E k, ziv a] σ (fun r σ' => (r = xat σ k a) ∧ σ' = σ) := by
  refine ZMi.intro (by decide) rfl (Nat.le_of_ble_eq_true rfl) (fun Γ C hN hret => ?_)
  show ZG E Γ 0 [some (zrf E k), some (ziv a)] [] σ
  have hbd := hI.tx hk
  refine z_iload_n (pc := 0) C dX3_at_0 rfl rfl ?_
  refine z_if_lt (pc := 1) C 21 ha dX3_at_1 rfl (fun c_1 => ?_) (fun c_1 => ?_)
  · refine z_iconst (pc := 21) C dX3_at_21 ?_
    refine hret 22 _ _ _ dX3_at_22 (zRgL rfl) hR ?_
    exact ⟨by unfold xat; first | exact (zget_in (by omega)).symm | exact (zget_out (by omega)).symm, rfl⟩
  · refine z_iload_n (pc := 4) C dX3_at_4 rfl rfl ?_
    refine z_aload_nZ (pc := 5) C dX3_at_5 rfl rfl ?_
    refine z_getI (pc := 6) C fX3_15 (shTX hk) rfl dX3_at_6 ?_
    refine z_icmp_ge (pc := 9) C 21 ha (hR k _) dX3_at_9 rfl (fun c_9 => ?_) (fun c_9 => ?_)
    · refine z_iconst (pc := 21) C dX3_at_21 ?_
      refine hret 22 _ _ _ dX3_at_22 (zRgL rfl) hR ?_
      exact ⟨by unfold xat; first | exact (zget_in (by omega)).symm | exact (zget_out (by omega)).symm, rfl⟩
    · refine z_aload_nZ (pc := 12) C dX3_at_12 rfl rfl ?_
      refine z_getR (pc := 13) C fX3_9 (shTX hk) rfl dX3_at_13 ?_
      refine z_iload_n (pc := 16) C dX3_at_16 rfl rfl ?_
      refine z_iald (pc := 17) C (shTX1 hk) (by (try unfold zRg at *); (try simp only [IX] at *); omega) (by (try unfold zRg at *); (try simp only [IX] at *); omega) dX3_at_17 ?_
      refine z_goto (pc := 18) C 22 dX3_at_18 rfl ?_
      refine hret 22 _ _ _ dX3_at_22 (hR (k + 1) _) hR ?_
      exact ⟨by unfold xat; first | exact (zget_in (by omega)).symm | exact (zget_out (by omega)).symm, rfl⟩
end
section
theorem X1_find_st {σ : ZSt} {a b i : Int} (h : 0 ≤ i ∧ i < σ 1 5) : zfnd (σ 2) (σ 3) a b i.toNat (σ 1 5 - i).toNat = if σ 2 i.toNat = a ∧ (if σ 3 i.toNat = 1 then (1 : Int) else 0) = b then i else zfnd (σ 2) (σ 3) a b (i + 1).toNat (σ 1 5 - (i + 1)).toNat := by
  obtain ⟨n, hn⟩ : ∃ n : Nat, (σ 1 5 - i).toNat = n + 1 := ⟨(σ 1 5 - i).toNat - 1, by omega⟩
  rw [hn]
  show (if _ then ((i.toNat : Nat) : Int) else _) = _
  rw [show (σ 1 5 - (i + 1)).toNat = n by omega, show (i + 1).toNat = i.toNat + 1 by omega, show ((i.toNat : Nat) : Int) = i by omega]
set_option maxRecDepth 20000 in
theorem C_X1_find (E : ZE) (σ : ZSt) (hR : zRs σ) (a : Int) (ha : zRg a) (b : Int) (hb : b = 0 ∨ b = 1) (hI : IX σ) : ZMi E 0 yX1_find cX1_find 4 (some .int) [zrf E 1, ziv a, ziv b] σ (fun r σ' => (r = xfind σ a b) ∧ σ' = σ) := by
  refine ZMi.intro (by decide) rfl (Nat.le_of_ble_eq_true rfl) (fun Γ C hN hret => ?_)
  show ZG E Γ 0 [some (zrf E 1), some (ziv a), some (ziv b), none] [] σ
  refine z_iconst (pc := 0) C dX1_find_0 ?_
  refine z_istore_n (pc := 1) (lv' := [some (zrf E 1), some (ziv a), some (ziv b), some (ziv 0)]) C hN dX1_find_1 rfl (by decide) rfl ?_
  have L2 : ∀ (n : Nat) (i : Int), zRg i → 0 ≤ i ∧ i ≤ σ 1 5 → xfind σ a b = zfnd (σ 2) (σ 3) a b i.toNat (σ 1 5 - i).toNat → (σ 1 5 - i).toNat < n → ZG E Γ 2 [some (zrf E 1), some (ziv a), some (ziv b), some (ziv i)] [] σ := by
    intro n
    induction n with
    | zero => intro i hi h0 hf hm; exact absurd hm (by omega)
    | succ n ih =>
      intro i hi h0 hf hm
      refine z_iload_n (pc := 2) C dX1_find_2 rfl rfl ?_
      refine z_aload_nZ (pc := 3) C dX1_find_3 rfl rfl ?_
      refine z_getI (pc := 4) C fX1_28 sh1 rfl dX1_find_4 ?_
      refine z_icmp_ge (pc := 7) C 47 hi (hR 1 _) dX1_find_7 rfl (fun c_7 => ?_) (fun c_7 => ?_)
      · refine z_iconst (pc := 47) C dX1_find_47 ?_
        refine hret 48 _ _ _ dX1_find_48 (zRgL rfl) hR ?_
        exact ⟨by rw [hf, show (σ 1 5 - i).toNat = 0 by omega]; rfl, rfl⟩
      · refine z_aload_nZ (pc := 10) C dX1_find_10 rfl rfl ?_
        refine z_getR (pc := 11) C fX1_9 sh1 rfl dX1_find_11 ?_
        refine z_iload_n (pc := 14) C dX1_find_14 rfl rfl ?_
        refine z_iald (pc := 15) C sh2 (by (try unfold zRg at *); (try simp only [IX] at *); omega) (by (try unfold zRg at *); (try simp only [IX] at *); omega) dX1_find_15 ?_
        refine z_iload_n (pc := 16) C dX1_find_16 rfl rfl ?_
        refine z_icmp_ne (pc := 17) C 41 (hR 2 _) ha dX1_find_17 rfl (fun c_17 => ?_) (fun c_17 => ?_)
        · refine z_iinc (pc := 41) (lv' := [some (zrf E 1), some (ziv a), some (ziv b), some (ziv (i + 1))]) C hN dX1_find_41 (by decide) rfl rfl ?_
          refine z_goto (pc := 44) C 2 dX1_find_44 rfl ?_
          exact ih _ (by (try unfold zRg at *); (try simp only [IX] at *); omega) (by omega) (by rw [hf, X1_find_st (by omega)]; first | (rw [if_neg (by simp_all)]; done) | grind) (by omega)
        · refine z_aload_nZ (pc := 20) C dX1_find_20 rfl rfl ?_
          refine z_getR (pc := 21) C fX1_15 sh1 rfl dX1_find_21 ?_
          refine z_iload_n (pc := 24) C dX1_find_24 rfl rfl ?_
          refine z_iald (pc := 25) C sh3 (by (try unfold zRg at *); (try simp only [IX] at *); omega) (by (try unfold zRg at *); (try simp only [IX] at *); omega) dX1_find_25 ?_
          refine z_iconst (pc := 26) C dX1_find_26 ?_
          refine z_icmp_ne (pc := 27) C 34 (hR 3 _) (zRgL rfl) dX1_find_27 rfl (fun c_27 => ?_) (fun c_27 => ?_)
          · refine z_iconst (pc := 34) C dX1_find_34 ?_
            refine z_iload_n (pc := 35) C dX1_find_35 rfl rfl ?_
            refine z_icmp_ne (pc := 36) C 41 (zRgL rfl) (zRg01 hb) dX1_find_36 rfl (fun c_36 => ?_) (fun c_36 => ?_)
            · refine z_iinc (pc := 41) (lv' := [some (zrf E 1), some (ziv a), some (ziv b), some (ziv (i + 1))]) C hN dX1_find_41 (by decide) rfl rfl ?_
              refine z_goto (pc := 44) C 2 dX1_find_44 rfl ?_
              exact ih _ (by (try unfold zRg at *); (try simp only [IX] at *); omega) (by omega) (by rw [hf, X1_find_st (by omega)]; first | (rw [if_neg (by simp_all)]; done) | grind) (by omega)
            · refine z_iload_n (pc := 39) C dX1_find_39 rfl rfl ?_
              refine hret 40 _ _ _ dX1_find_40 hi hR ?_
              exact ⟨by rw [hf, X1_find_st (by omega), if_pos (by simp_all)], rfl⟩
          · refine z_iconst (pc := 30) C dX1_find_30 ?_
            refine z_goto (pc := 31) C 35 dX1_find_31 rfl ?_
            refine z_iload_n (pc := 35) C dX1_find_35 rfl rfl ?_
            refine z_icmp_ne (pc := 36) C 41 (zRgL rfl) (zRg01 hb) dX1_find_36 rfl (fun c_36 => ?_) (fun c_36 => ?_)
            · refine z_iinc (pc := 41) (lv' := [some (zrf E 1), some (ziv a), some (ziv b), some (ziv (i + 1))]) C hN dX1_find_41 (by decide) rfl rfl ?_
              refine z_goto (pc := 44) C 2 dX1_find_44 rfl ?_
              exact ih _ (by (try unfold zRg at *); (try simp only [IX] at *); omega) (by omega) (by rw [hf, X1_find_st (by omega)]; first | (rw [if_neg (by simp_all)]; done) | grind) (by omega)
            · refine z_iload_n (pc := 39) C dX1_find_39 rfl rfl ?_
              refine hret 40 _ _ _ dX1_find_40 hi hR ?_
              exact ⟨by rw [hf, X1_find_st (by omega), if_pos (by simp_all)], rfl⟩
  exact L2 _ 0 (zRgL rfl) (by (try simp only [IX] at *); omega) (by simp [xfind]) (Nat.lt_succ_self _)
set_option maxRecDepth 20000 in
theorem C_X1_add (E : ZE) (σ : ZSt) (hR : zRs σ) (a : Int) (ha : zRg a) (b : Int) (hb : zRg b) (c : Int) (hc : zRg c) (hI : IX σ) (hc9 : 0 ≤ c ∧ c ≤ 9) : ZMi E 0 yX1_add cX1_add 4 (some .int) [zrf E 1, ziv a, ziv b, ziv c] σ (fun r σ' => r = (if 16 ≤ σ 1 5 then -1 else σ 1 5) ∧ σ' = xopadd σ a b c) := by
  refine ZMi.intro (by decide) rfl (Nat.le_of_ble_eq_true rfl) (fun Γ C hN hret => ?_)
  show ZG E Γ 0 [some (zrf E 1), some (ziv a), some (ziv b), some (ziv c)] [] σ
  refine z_aload_nZ (pc := 0) C dX1_add_0 rfl rfl ?_
  refine z_getI (pc := 1) C fX1_28 sh1 rfl dX1_add_1 ?_
  refine z_bipush (pc := 4) C dX1_add_4 (by decide) ?_
  refine z_icmp_lt (pc := 6) C 11 (hR 1 _) (zRgL rfl) dX1_add_6 rfl (fun c_6 => ?_) (fun c_6 => ?_)
  · refine z_aload_nZ (pc := 11) C dX1_add_11 rfl rfl ?_
    refine z_getR (pc := 12) C fX1_9 sh1 rfl dX1_add_12 ?_
    refine z_aload_nZ (pc := 15) C dX1_add_15 rfl rfl ?_
    refine z_getI (pc := 16) C fX1_28 sh1 rfl dX1_add_16 ?_
    refine z_iload_n (pc := 19) C dX1_add_19 rfl rfl ?_
    refine z_iast (pc := 20) C hR sh2 (by (try unfold zRg at *); (try simp only [IX] at *); omega) (by (try unfold zRg at *); (try simp only [IX] at *); omega) ha dX1_add_20 (fun σ_20 e_20 hR_20 => ?_)
    have hI_20 : IX σ_20 := by rw [e_20]; exact hI.upA rfl
    refine z_aload_nZ (pc := 21) C dX1_add_21 rfl rfl ?_
    refine z_getR (pc := 22) C fX1_15 sh1 rfl dX1_add_22 ?_
    refine z_aload_nZ (pc := 25) C dX1_add_25 rfl rfl ?_
    refine z_getIe (pc := 26) (v := σ 1 5) C fX1_28 sh1 rfl dX1_add_26 (by rw [e_20, zup_cell (by omega)]) ?_
    refine z_iload_n (pc := 29) C dX1_add_29 rfl rfl ?_
    refine z_iast (pc := 30) C hR_20 sh3 (by (try unfold zRg at *); (try simp only [IX] at *); omega) (by (try unfold zRg at *); (try simp only [IX] at *); omega) hb dX1_add_30 (fun σ_30 e_30 hR_30 => ?_)
    have hI_30 : IX σ_30 := by rw [e_30]; exact hI_20.upA rfl
    refine z_aload_nZ (pc := 31) C dX1_add_31 rfl rfl ?_
    refine z_getR (pc := 32) C fX1_18 sh1 rfl dX1_add_32 ?_
    refine z_aload_nZ (pc := 35) C dX1_add_35 rfl rfl ?_
    refine z_getIe (pc := 36) (v := σ 1 5) C fX1_28 sh1 rfl dX1_add_36 (by rw [e_30, zup_cell (by omega), e_20, zup_cell (by omega)]) ?_
    refine z_iload_n (pc := 39) C dX1_add_39 rfl rfl ?_
    refine z_iast (pc := 40) C hR_30 sh4 (by (try unfold zRg at *); (try simp only [IX] at *); omega) (by (try unfold zRg at *); (try simp only [IX] at *); omega) hc dX1_add_40 (fun σ_40 e_40 hR_40 => ?_)
    have hI_40 : IX σ_40 := by rw [e_40]; exact hI_30.up4 (by (try unfold zRg at *); (try simp only [IX] at *); omega)
    refine z_aload_nZ (pc := 41) C dX1_add_41 rfl rfl ?_
    refine z_dup (pc := 42) C dX1_add_42 rfl ?_
    refine z_getIe (pc := 43) (v := σ 1 5) C fX1_28 sh1 rfl dX1_add_43 (by rw [e_40, zup_cell (by omega), e_30, zup_cell (by omega), e_20, zup_cell (by omega)]) ?_
    refine z_iconst (pc := 46) C dX1_add_46 ?_
    refine z_iadd (pc := 47) C dX1_add_47 ?_
    refine z_putI (pc := 48) C hR_40 fX1_28 sh1 rfl (by (try unfold zRg at *); (try simp only [IX] at *); omega) dX1_add_48 (fun σ_48 e_48 hR_48 => ?_)
    have hI_48 : IX σ_48 := by rw [e_48]; exact hI_40.up15 (by (try unfold zRg at *); (try simp only [IX] at *); omega)
    refine z_aload_nZ (pc := 51) C dX1_add_51 rfl rfl ?_
    refine z_getIe (pc := 52) (v := (σ 1 5) + 1) C fX1_28 sh1 rfl dX1_add_52 (by rw [e_48, zup_same]) ?_
    refine z_iconst (pc := 55) C dX1_add_55 ?_
    refine z_isub (pc := 56) C dX1_add_56 ?_
    refine hret 57 _ _ _ dX1_add_57 (by (try unfold zRg at *); (try simp only [IX] at *); omega) hR_48 ?_
    exact ⟨by rw [if_neg (by omega)]; omega, by unfold xopadd; rw [if_neg (by omega)]; subst_vars; rfl⟩
  · refine z_iconst (pc := 9) C dX1_add_9 ?_
    refine hret 10 _ _ _ dX1_add_10 (zRgL rfl) hR ?_
    exact ⟨by rw [if_pos (by omega)], by unfold xopadd; rw [if_pos (by omega)]⟩
set_option maxRecDepth 20000 in
theorem C_X1_replaceLevel (E : ZE) (σ : ZSt) (hR : zRs σ) (a : Int) (ha : zRg a) (b : Int) (hb : zRg b) (hI : IX σ) (hb9 : 0 ≤ b ∧ b ≤ 9) : ZMi E 2 yX1_replaceLevel cX1_replaceLevel 4 (some .int) [zrf E 1, ziv a, ziv b] σ (fun r σ' => r = xlev σ a ∧ σ' = if 0 ≤ a ∧ a < σ 1 5 then zup σ 4 a.toNat b else σ) := by
  refine ZMi.intro (by decide) rfl (Nat.le_of_ble_eq_true rfl) (fun Γ C hN hret => ?_)
  show ZG E Γ 0 [some (zrf E 1), some (ziv a), some (ziv b), none] [] σ
  refine z_aload_nZ (pc := 0) C dX1_replaceLevel_0 rfl rfl ?_
  refine z_iload_n (pc := 1) C dX1_replaceLevel_1 rfl rfl ?_
  refine z_callVp (pc := 2) (rest := []) C (C_X1_levelAt E σ hR a ha hI) vX1_36 (by decide) sh1 rfl rfl rfl (Nat.le_of_ble_eq_true rfl) dX1_replaceLevel_2 (fun r_2 g_2 hp_2 => ?_)
  refine z_istore_n (pc := 5) (lv' := [some (zrf E 1), some (ziv a), some (ziv b), some (ziv r_2)]) C hN dX1_replaceLevel_5 rfl (by decide) rfl ?_
  refine z_aload_nZ (pc := 6) C dX1_replaceLevel_6 rfl rfl ?_
  refine z_iload_n (pc := 7) C dX1_replaceLevel_7 rfl rfl ?_
  refine z_callVp (pc := 8) (rest := []) C (C_X1_has E σ hR a ha) vX1_32 (by decide) sh1 rfl rfl rfl (Nat.le_of_ble_eq_true rfl) dX1_replaceLevel_8 (fun r_8 g_8 hp_8 => ?_)
  refine z_if_eq (pc := 11) C 21 g_8 dX1_replaceLevel_11 rfl (fun c_11 => ?_) (fun c_11 => ?_)
  · have c_11 := zb0 hp_8 c_11
    refine z_iload_n (pc := 21) C dX1_replaceLevel_21 rfl rfl ?_
    refine hret 22 _ _ _ dX1_replaceLevel_22 g_2 hR ?_
    exact ⟨by assumption, by first | (rw [if_pos (by assumption)]; assumption) | rw [if_neg (by assumption)]⟩
  · have c_11 := zb1 hp_8 c_11
    refine z_aload_nZ (pc := 14) C dX1_replaceLevel_14 rfl rfl ?_
    refine z_getR (pc := 15) C fX1_18 sh1 rfl dX1_replaceLevel_15 ?_
    refine z_iload_n (pc := 18) C dX1_replaceLevel_18 rfl rfl ?_
    refine z_iload_n (pc := 19) C dX1_replaceLevel_19 rfl rfl ?_
    refine z_iast (pc := 20) C hR sh4 (by (try unfold zRg at *); (try simp only [IX] at *); omega) (by (try unfold zRg at *); (try simp only [IX] at *); omega) hb dX1_replaceLevel_20 (fun σ_20 e_20 hR_20 => ?_)
    have hI_20 : IX σ_20 := by rw [e_20]; exact hI.up4 (by (try unfold zRg at *); (try simp only [IX] at *); omega)
    refine z_iload_n (pc := 21) C dX1_replaceLevel_21 rfl rfl ?_
    refine hret 22 _ _ _ dX1_replaceLevel_22 g_2 hR_20 ?_
    exact ⟨by assumption, by first | (rw [if_pos (by assumption)]; assumption) | rw [if_neg (by assumption)]⟩
set_option maxRecDepth 20000 in
theorem C_X1_associativityAt (E : ZE) (σ : ZSt) (hR : zRs σ) (a : Int) (ha : zRg a) (hI : IX σ) : ZMi E 1 yX1_associativityAt cX1_associativityAt 2 (some .int) [zrf E 1, ziv a] σ (fun r σ' => (r = xasc σ a) ∧ σ' = σ) := by
  refine ZMi.intro (by decide) rfl (Nat.le_of_ble_eq_true rfl) (fun Γ C hN hret => ?_)
  show ZG E Γ 0 [some (zrf E 1), some (ziv a)] [] σ
  refine z_iload_n (pc := 0) C dX1_associativityAt_0 rfl rfl ?_
  refine z_callNp (pc := 1) (rest := []) C (C_X5_isLevel E σ hR a ha) vX1_40 (by decide) rfl rfl (Nat.le_of_ble_eq_true rfl) dX1_associativityAt_1 (fun r_1 g_1 hp_1 => ?_)
  refine z_if_eq (pc := 4) C 16 g_1 dX1_associativityAt_4 rfl (fun c_4 => ?_) (fun c_4 => ?_)
  · have c_4 := zb0 hp_1 c_4
    refine z_iconst (pc := 16) C dX1_associativityAt_16 ?_
    refine hret 17 _ _ _ dX1_associativityAt_17 (zRgL rfl) hR ?_
    exact ⟨by unfold xasc; first | rw [if_pos (by omega)] | rw [if_neg (by omega)], rfl⟩
  · have c_4 := zb1 hp_1 c_4
    refine z_aload_nZ (pc := 7) C dX1_associativityAt_7 rfl rfl ?_
    refine z_getR (pc := 8) C fX1_21 sh1 rfl dX1_associativityAt_8 ?_
    refine z_iload_n (pc := 11) C dX1_associativityAt_11 rfl rfl ?_
    refine z_iald (pc := 12) C sh5 (by (try unfold zRg at *); (try simp only [IX] at *); omega) (by (try unfold zRg at *); (try simp only [IX] at *); omega) dX1_associativityAt_12 ?_
    refine z_goto (pc := 13) C 17 dX1_associativityAt_13 rfl ?_
    refine hret 17 _ _ _ dX1_associativityAt_17 (hR 5 _) hR ?_
    exact ⟨by unfold xasc; first | rw [if_pos (by omega)] | rw [if_neg (by omega)], rfl⟩
set_option maxRecDepth 20000 in
theorem C_X1_replaceAssociativity (E : ZE) (σ : ZSt) (hR : zRs σ) (a : Int) (ha : zRg a) (b : Int) (hb : zRg b) (hI : IX σ) : ZMi E 2 yX1_replaceAssociativity cX1_replaceAssociativity 4 (some .int) [zrf E 1, ziv a, ziv b] σ (fun r σ' => r = xasc σ a ∧ σ' = if 1 ≤ a ∧ a ≤ 9 then zup σ 5 a.toNat b else σ) := by
  refine ZMi.intro (by decide) rfl (Nat.le_of_ble_eq_true rfl) (fun Γ C hN hret => ?_)
  show ZG E Γ 0 [some (zrf E 1), some (ziv a), some (ziv b), none] [] σ
  refine z_aload_nZ (pc := 0) C dX1_replaceAssociativity_0 rfl rfl ?_
  refine z_iload_n (pc := 1) C dX1_replaceAssociativity_1 rfl rfl ?_
  refine z_callVp (pc := 2) (rest := []) C (C_X1_associativityAt E σ hR a ha hI) vX1_43 (by decide) sh1 rfl rfl rfl (Nat.le_of_ble_eq_true rfl) dX1_replaceAssociativity_2 (fun r_2 g_2 hp_2 => ?_)
  refine z_istore_n (pc := 5) (lv' := [some (zrf E 1), some (ziv a), some (ziv b), some (ziv r_2)]) C hN dX1_replaceAssociativity_5 rfl (by decide) rfl ?_
  refine z_iload_n (pc := 6) C dX1_replaceAssociativity_6 rfl rfl ?_
  refine z_callNp (pc := 7) (rest := []) C (C_X5_isLevel E σ hR a ha) vX1_40 (by decide) rfl rfl (Nat.le_of_ble_eq_true rfl) dX1_replaceAssociativity_7 (fun r_7 g_7 hp_7 => ?_)
  refine z_if_eq (pc := 10) C 20 g_7 dX1_replaceAssociativity_10 rfl (fun c_10 => ?_) (fun c_10 => ?_)
  · have c_10 := zb0 hp_7 c_10
    refine z_iload_n (pc := 20) C dX1_replaceAssociativity_20 rfl rfl ?_
    refine hret 21 _ _ _ dX1_replaceAssociativity_21 g_2 hR ?_
    exact ⟨by assumption, by first | (rw [if_pos (by assumption)]; assumption) | rw [if_neg (by assumption)]⟩
  · have c_10 := zb1 hp_7 c_10
    refine z_aload_nZ (pc := 13) C dX1_replaceAssociativity_13 rfl rfl ?_
    refine z_getR (pc := 14) C fX1_21 sh1 rfl dX1_replaceAssociativity_14 ?_
    refine z_iload_n (pc := 17) C dX1_replaceAssociativity_17 rfl rfl ?_
    refine z_iload_n (pc := 18) C dX1_replaceAssociativity_18 rfl rfl ?_
    refine z_iast (pc := 19) C hR sh5 (by (try unfold zRg at *); (try simp only [IX] at *); omega) (by (try unfold zRg at *); (try simp only [IX] at *); omega) hb dX1_replaceAssociativity_19 (fun σ_19 e_19 hR_19 => ?_)
    have hI_19 : IX σ_19 := by rw [e_19]; exact hI.upA rfl
    refine z_iload_n (pc := 20) C dX1_replaceAssociativity_20 rfl rfl ?_
    refine hret 21 _ _ _ dX1_replaceAssociativity_21 g_2 hR_19 ?_
    exact ⟨by assumption, by first | (rw [if_pos (by assumption)]; assumption) | rw [if_neg (by assumption)]⟩
set_option maxRecDepth 20000 in
theorem C_X1_isForbidden (E : ZE) (σ : ZSt) (hR : zRs σ) (a : Int) (ha : zRg a) (b : Int) (hb : zRg b) (hI : IX σ) : ZMi E 1 yX1_isForbidden cX1_isForbidden 3 (some .boolean) [zrf E 1, ziv a, ziv b] σ (fun r σ' => (r = zb (xfb σ a b)) ∧ σ' = σ) := by
  refine ZMi.introZ (by decide) rfl (Nat.le_of_ble_eq_true rfl) (fun Γ C hN hret => ?_)
  show ZG E Γ 0 [some (zrf E 1), some (ziv a), some (ziv b)] [] σ
  refine z_aload_nZ (pc := 0) C dX1_isForbidden_0 rfl rfl ?_
  refine z_iload_n (pc := 1) C dX1_isForbidden_1 rfl rfl ?_
  refine z_callVp (pc := 2) (rest := []) C (C_X1_has E σ hR a ha) vX1_32 (by decide) sh1 rfl rfl rfl (Nat.le_of_ble_eq_true rfl) dX1_isForbidden_2 (fun r_2 g_2 hp_2 => ?_)
  refine z_if_eq (pc := 5) C 34 g_2 dX1_isForbidden_5 rfl (fun c_5 => ?_) (fun c_5 => ?_)
  · have c_5 := zb0 hp_2 c_5
    refine z_iconst (pc := 34) C dX1_isForbidden_34 ?_
    refine hret 35 _ _ _ dX1_isForbidden_35 (Or.inl rfl) hR ?_
    exact ⟨by first | exact zb_one ⟨by assumption, by assumption, by assumption⟩ | exact zb_zero (fun q => by obtain ⟨q1, q2, q3⟩ := q; contradiction), rfl⟩
  · have c_5 := zb1 hp_2 c_5
    refine z_aload_nZ (pc := 8) C dX1_isForbidden_8 rfl rfl ?_
    refine z_iload_n (pc := 9) C dX1_isForbidden_9 rfl rfl ?_
    refine z_callVp (pc := 10) (rest := []) C (C_X1_has E σ hR b hb) vX1_32 (by decide) sh1 rfl rfl rfl (Nat.le_of_ble_eq_true rfl) dX1_isForbidden_10 (fun r_10 g_10 hp_10 => ?_)
    refine z_if_eq (pc := 13) C 34 g_10 dX1_isForbidden_13 rfl (fun c_13 => ?_) (fun c_13 => ?_)
    · have c_13 := zb0 hp_10 c_13
      refine z_iconst (pc := 34) C dX1_isForbidden_34 ?_
      refine hret 35 _ _ _ dX1_isForbidden_35 (Or.inl rfl) hR ?_
      exact ⟨by first | exact zb_one ⟨by assumption, by assumption, by assumption⟩ | exact zb_zero (fun q => by obtain ⟨q1, q2, q3⟩ := q; contradiction), rfl⟩
    · have c_13 := zb1 hp_10 c_13
      refine z_aload_nZ (pc := 16) C dX1_isForbidden_16 rfl rfl ?_
      refine z_getR (pc := 17) C fX1_24 sh1 rfl dX1_isForbidden_17 ?_
      refine z_iload_n (pc := 20) C dX1_isForbidden_20 rfl rfl ?_
      refine z_bipush (pc := 21) C dX1_isForbidden_21 (by decide) ?_
      refine z_imul (pc := 23) C dX1_isForbidden_23 ?_
      refine z_iload_n (pc := 24) C dX1_isForbidden_24 rfl rfl ?_
      refine z_iadd (pc := 25) C dX1_isForbidden_25 ?_
      refine z_zald (pc := 26) C sh6 (by (try unfold zRg at *); (try simp only [IX] at *); omega) (by (try unfold zRg at *); (try simp only [IX] at *); omega) dX1_isForbidden_26 ?_
      refine z_if_eq (pc := 27) C 34 (hR 6 _) dX1_isForbidden_27 rfl (fun c_27 => ?_) (fun c_27 => ?_)
      · refine z_iconst (pc := 34) C dX1_isForbidden_34 ?_
        refine hret 35 _ _ _ dX1_isForbidden_35 (Or.inl rfl) hR ?_
        exact ⟨by first | exact zb_one ⟨by assumption, by assumption, by assumption⟩ | exact zb_zero (fun q => by obtain ⟨q1, q2, q3⟩ := q; contradiction), rfl⟩
      · refine z_iconst (pc := 30) C dX1_isForbidden_30 ?_
        refine z_goto (pc := 31) C 35 dX1_isForbidden_31 rfl ?_
        refine hret 35 _ _ _ dX1_isForbidden_35 (Or.inr rfl) hR ?_
        exact ⟨by first | exact zb_one ⟨by assumption, by assumption, by assumption⟩ | exact zb_zero (fun q => by obtain ⟨q1, q2, q3⟩ := q; contradiction), rfl⟩
set_option maxRecDepth 20000 in
theorem C_X1_replaceForbidden (E : ZE) (σ : ZSt) (hR : zRs σ) (a : Int) (ha : zRg a) (b : Int) (hb : zRg b) (c : Int) (hc : c = 0 ∨ c = 1) (hI : IX σ) : ZMi E 2 yX1_replaceForbidden cX1_replaceForbidden 5 (some .boolean) [zrf E 1, ziv a, ziv b, ziv c] σ (fun r σ' => r = zb (xfb σ a b) ∧ σ' = if (0 ≤ a ∧ a < σ 1 5) ∧ (0 ≤ b ∧ b < σ 1 5) then zup σ 6 (a * 16 + b).toNat c else σ) := by
  refine ZMi.introZ (by decide) rfl (Nat.le_of_ble_eq_true rfl) (fun Γ C hN hret => ?_)
  show ZG E Γ 0 [some (zrf E 1), some (ziv a), some (ziv b), some (ziv c), none] [] σ
  refine z_aload_nZ (pc := 0) C dX1_replaceForbidden_0 rfl rfl ?_
  refine z_iload_n (pc := 1) C dX1_replaceForbidden_1 rfl rfl ?_
  refine z_iload_n (pc := 2) C dX1_replaceForbidden_2 rfl rfl ?_
  refine z_callVp (pc := 3) (rest := []) C (C_X1_isForbidden E σ hR a ha b hb hI) vX1_46 (by decide) sh1 rfl rfl rfl (Nat.le_of_ble_eq_true rfl) dX1_replaceForbidden_3 (fun r_3 g_3 hp_3 => ?_)
  refine z_istore (pc := 6) (lv' := [some (zrf E 1), some (ziv a), some (ziv b), some (ziv c), some (ziv r_3)]) C hN dX1_replaceForbidden_6 (by decide) rfl ?_
  refine z_aload_nZ (pc := 8) C dX1_replaceForbidden_8 rfl rfl ?_
  refine z_iload_n (pc := 9) C dX1_replaceForbidden_9 rfl rfl ?_
  refine z_callVp (pc := 10) (rest := []) C (C_X1_has E σ hR a ha) vX1_32 (by decide) sh1 rfl rfl rfl (Nat.le_of_ble_eq_true rfl) dX1_replaceForbidden_10 (fun r_10 g_10 hp_10 => ?_)
  refine z_if_eq (pc := 13) C 36 g_10 dX1_replaceForbidden_13 rfl (fun c_13 => ?_) (fun c_13 => ?_)
  · have c_13 := zb0 hp_10 c_13
    refine z_iload (pc := 36) C dX1_replaceForbidden_36 rfl ?_
    refine hret 38 _ _ _ dX1_replaceForbidden_38 (zb01 hp_3) hR ?_
    exact ⟨by assumption, by first | (rw [if_pos ⟨by assumption, by assumption⟩]; assumption) | rw [if_neg (by omega)]⟩
  · have c_13 := zb1 hp_10 c_13
    refine z_aload_nZ (pc := 16) C dX1_replaceForbidden_16 rfl rfl ?_
    refine z_iload_n (pc := 17) C dX1_replaceForbidden_17 rfl rfl ?_
    refine z_callVp (pc := 18) (rest := []) C (C_X1_has E σ hR b hb) vX1_32 (by decide) sh1 rfl rfl rfl (Nat.le_of_ble_eq_true rfl) dX1_replaceForbidden_18 (fun r_18 g_18 hp_18 => ?_)
    refine z_if_eq (pc := 21) C 36 g_18 dX1_replaceForbidden_21 rfl (fun c_21 => ?_) (fun c_21 => ?_)
    · have c_21 := zb0 hp_18 c_21
      refine z_iload (pc := 36) C dX1_replaceForbidden_36 rfl ?_
      refine hret 38 _ _ _ dX1_replaceForbidden_38 (zb01 hp_3) hR ?_
      exact ⟨by assumption, by first | (rw [if_pos ⟨by assumption, by assumption⟩]; assumption) | rw [if_neg (by omega)]⟩
    · have c_21 := zb1 hp_18 c_21
      refine z_aload_nZ (pc := 24) C dX1_replaceForbidden_24 rfl rfl ?_
      refine z_getR (pc := 25) C fX1_24 sh1 rfl dX1_replaceForbidden_25 ?_
      refine z_iload_n (pc := 28) C dX1_replaceForbidden_28 rfl rfl ?_
      refine z_bipush (pc := 29) C dX1_replaceForbidden_29 (by decide) ?_
      refine z_imul (pc := 31) C dX1_replaceForbidden_31 ?_
      refine z_iload_n (pc := 32) C dX1_replaceForbidden_32 rfl rfl ?_
      refine z_iadd (pc := 33) C dX1_replaceForbidden_33 ?_
      refine z_iload_n (pc := 34) C dX1_replaceForbidden_34 rfl rfl ?_
      refine z_zast (pc := 35) C hR sh6 (by (try unfold zRg at *); (try simp only [IX] at *); omega) (by (try unfold zRg at *); (try simp only [IX] at *); omega) hc dX1_replaceForbidden_35 (fun σ_35 e_35 hR_35 => ?_)
      have hI_35 : IX σ_35 := by rw [e_35]; exact hI.upA rfl
      refine z_iload (pc := 36) C dX1_replaceForbidden_36 rfl ?_
      refine hret 38 _ _ _ dX1_replaceForbidden_38 (zb01 hp_3) hR_35 ?_
      exact ⟨by assumption, by first | (rw [if_pos ⟨by assumption, by assumption⟩]; assumption) | rw [if_neg (by omega)]⟩
set_option maxRecDepth 20000 in
theorem C_X1_minAfter (E : ZE) (σ : ZSt) (hR : zRs σ) (a : Int) (ha : zRg a) (hI : IX σ) : ZMi E 1 yX1_minAfter cX1_minAfter 4 (some .int) [zrf E 1, ziv a] σ (fun r σ' => (r = xmin σ a) ∧ σ' = σ) := by
  refine ZMi.intro (by decide) rfl (Nat.le_of_ble_eq_true rfl) (fun Γ C hN hret => ?_)
  show ZG E Γ 0 [some (zrf E 1), some (ziv a), none, none] [] σ
  have hlev := hI.lev a.toNat
  refine z_aload_nZ (pc := 0) C dX1_minAfter_0 rfl rfl ?_
  refine z_iload_n (pc := 1) C dX1_minAfter_1 rfl rfl ?_
  refine z_callVp (pc := 2) (rest := []) C (C_X1_has E σ hR a ha) vX1_32 (by decide) sh1 rfl rfl rfl (Nat.le_of_ble_eq_true rfl) dX1_minAfter_2 (fun r_2 g_2 hp_2 => ?_)
  refine z_if_ne (pc := 5) C 10 g_2 dX1_minAfter_5 rfl (fun c_5 => ?_) (fun c_5 => ?_)
  · have c_5 := zb1 hp_2 c_5
    refine z_aload_nZ (pc := 10) C dX1_minAfter_10 rfl rfl ?_
    refine z_getR (pc := 11) C fX1_18 sh1 rfl dX1_minAfter_11 ?_
    refine z_iload_n (pc := 14) C dX1_minAfter_14 rfl rfl ?_
    refine z_iald (pc := 15) C sh4 (by (try unfold zRg at *); (try simp only [IX] at *); omega) (by (try unfold zRg at *); (try simp only [IX] at *); omega) dX1_minAfter_15 ?_
    refine z_istore_n (pc := 16) (lv' := [some (zrf E 1), some (ziv a), some (ziv (σ 4 a.toNat)), none]) C hN dX1_minAfter_16 rfl (by decide) rfl ?_
    refine z_iload_n (pc := 17) C dX1_minAfter_17 rfl rfl ?_
    refine z_callNp (pc := 18) (rest := []) C (C_X5_isLevel E σ hR (σ 4 a.toNat) (hR 4 _)) vX1_40 (by decide) rfl rfl (Nat.le_of_ble_eq_true rfl) dX1_minAfter_18 (fun r_18 g_18 hp_18 => ?_)
    refine z_if_eq (pc := 21) C 38 g_18 dX1_minAfter_21 rfl (fun c_21 => ?_) (fun c_21 => ?_)
    · have c_21 := zb0 hp_18 c_21
      refine z_iconst (pc := 38) C dX1_minAfter_38 ?_
      refine z_istore_n (pc := 39) (lv' := [some (zrf E 1), some (ziv a), some (ziv (σ 4 a.toNat)), some (ziv 0)]) C hN dX1_minAfter_39 rfl (by decide) rfl ?_
      refine z_aload_nZ (pc := 40) C dX1_minAfter_40 rfl rfl ?_
      refine z_getR (pc := 41) C fX1_15 sh1 rfl dX1_minAfter_41 ?_
      refine z_iload_n (pc := 44) C dX1_minAfter_44 rfl rfl ?_
      refine z_iald (pc := 45) C sh3 (by (try unfold zRg at *); (try simp only [IX] at *); omega) (by (try unfold zRg at *); (try simp only [IX] at *); omega) dX1_minAfter_45 ?_
      refine z_if_ne (pc := 46) C 59 (hR 3 _) dX1_minAfter_46 rfl (fun c_46 => ?_) (fun c_46 => ?_)
      · refine z_iload_n (pc := 59) C dX1_minAfter_59 rfl rfl ?_
        refine hret 60 _ _ _ dX1_minAfter_60 (hR 4 _) hR ?_
        exact ⟨by unfold xmin; first | (rw [if_neg (by assumption)]; done) | (rw [if_pos (by assumption)]; first | (rw [if_pos (by simp_all; omega)]; done) | (rw [if_neg (by simp_all)]; done) | grind), rfl⟩
      · refine z_iload_n (pc := 49) C dX1_minAfter_49 rfl rfl ?_
        refine z_if_ne (pc := 50) C 59 (zRgL rfl) dX1_minAfter_50 rfl (fun c_50 => ?_) (fun c_50 => ?_)
        · refine z_iload_n (pc := 59) C dX1_minAfter_59 rfl rfl ?_
          refine hret 60 _ _ _ dX1_minAfter_60 (hR 4 _) hR ?_
          exact ⟨by unfold xmin; first | (rw [if_neg (by assumption)]; done) | (rw [if_pos (by assumption)]; first | (rw [if_pos (by simp_all; omega)]; done) | (rw [if_neg (by simp_all)]; done) | grind), rfl⟩
        · refine z_iload_n (pc := 53) C dX1_minAfter_53 rfl rfl ?_
          refine z_iconst (pc := 54) C dX1_minAfter_54 ?_
          refine z_iadd (pc := 55) C dX1_minAfter_55 ?_
          refine z_goto (pc := 56) C 60 dX1_minAfter_56 rfl ?_
          refine hret 60 _ _ _ dX1_minAfter_60 (by (try unfold zRg at *); (try simp only [IX] at *); omega) hR ?_
          exact ⟨by unfold xmin; first | (rw [if_neg (by assumption)]; done) | (rw [if_pos (by assumption)]; first | (rw [if_pos (by simp_all; omega)]; done) | (rw [if_neg (by simp_all)]; done) | grind), rfl⟩
    · have c_21 := zb1 hp_18 c_21
      refine z_aload_nZ (pc := 24) C dX1_minAfter_24 rfl rfl ?_
      refine z_getR (pc := 25) C fX1_21 sh1 rfl dX1_minAfter_25 ?_
      refine z_iload_n (pc := 28) C dX1_minAfter_28 rfl rfl ?_
      refine z_iald (pc := 29) C sh5 (by (try unfold zRg at *); (try simp only [IX] at *); omega) (by (try unfold zRg at *); (try simp only [IX] at *); omega) dX1_minAfter_29 ?_
      refine z_iconst (pc := 30) C dX1_minAfter_30 ?_
      refine z_icmp_ne (pc := 31) C 38 (hR 5 _) (zRgL rfl) dX1_minAfter_31 rfl (fun c_31 => ?_) (fun c_31 => ?_)
      · refine z_iconst (pc := 38) C dX1_minAfter_38 ?_
        refine z_istore_n (pc := 39) (lv' := [some (zrf E 1), some (ziv a), some (ziv (σ 4 a.toNat)), some (ziv 0)]) C hN dX1_minAfter_39 rfl (by decide) rfl ?_
        refine z_aload_nZ (pc := 40) C dX1_minAfter_40 rfl rfl ?_
        refine z_getR (pc := 41) C fX1_15 sh1 rfl dX1_minAfter_41 ?_
        refine z_iload_n (pc := 44) C dX1_minAfter_44 rfl rfl ?_
        refine z_iald (pc := 45) C sh3 (by (try unfold zRg at *); (try simp only [IX] at *); omega) (by (try unfold zRg at *); (try simp only [IX] at *); omega) dX1_minAfter_45 ?_
        refine z_if_ne (pc := 46) C 59 (hR 3 _) dX1_minAfter_46 rfl (fun c_46 => ?_) (fun c_46 => ?_)
        · refine z_iload_n (pc := 59) C dX1_minAfter_59 rfl rfl ?_
          refine hret 60 _ _ _ dX1_minAfter_60 (hR 4 _) hR ?_
          exact ⟨by unfold xmin; first | (rw [if_neg (by assumption)]; done) | (rw [if_pos (by assumption)]; first | (rw [if_pos (by simp_all; omega)]; done) | (rw [if_neg (by simp_all)]; done) | grind), rfl⟩
        · refine z_iload_n (pc := 49) C dX1_minAfter_49 rfl rfl ?_
          refine z_if_ne (pc := 50) C 59 (zRgL rfl) dX1_minAfter_50 rfl (fun c_50 => ?_) (fun c_50 => ?_)
          · refine z_iload_n (pc := 59) C dX1_minAfter_59 rfl rfl ?_
            refine hret 60 _ _ _ dX1_minAfter_60 (hR 4 _) hR ?_
            exact ⟨by unfold xmin; first | (rw [if_neg (by assumption)]; done) | (rw [if_pos (by assumption)]; first | (rw [if_pos (by simp_all; omega)]; done) | (rw [if_neg (by simp_all)]; done) | grind), rfl⟩
          · refine z_iload_n (pc := 53) C dX1_minAfter_53 rfl rfl ?_
            refine z_iconst (pc := 54) C dX1_minAfter_54 ?_
            refine z_iadd (pc := 55) C dX1_minAfter_55 ?_
            refine z_goto (pc := 56) C 60 dX1_minAfter_56 rfl ?_
            refine hret 60 _ _ _ dX1_minAfter_60 (by (try unfold zRg at *); (try simp only [IX] at *); omega) hR ?_
            exact ⟨by unfold xmin; first | (rw [if_neg (by assumption)]; done) | (rw [if_pos (by assumption)]; first | (rw [if_pos (by simp_all; omega)]; done) | (rw [if_neg (by simp_all)]; done) | grind), rfl⟩
      · refine z_iconst (pc := 34) C dX1_minAfter_34 ?_
        refine z_goto (pc := 35) C 39 dX1_minAfter_35 rfl ?_
        refine z_istore_n (pc := 39) (lv' := [some (zrf E 1), some (ziv a), some (ziv (σ 4 a.toNat)), some (ziv 1)]) C hN dX1_minAfter_39 rfl (by decide) rfl ?_
        refine z_aload_nZ (pc := 40) C dX1_minAfter_40 rfl rfl ?_
        refine z_getR (pc := 41) C fX1_15 sh1 rfl dX1_minAfter_41 ?_
        refine z_iload_n (pc := 44) C dX1_minAfter_44 rfl rfl ?_
        refine z_iald (pc := 45) C sh3 (by (try unfold zRg at *); (try simp only [IX] at *); omega) (by (try unfold zRg at *); (try simp only [IX] at *); omega) dX1_minAfter_45 ?_
        refine z_if_ne (pc := 46) C 59 (hR 3 _) dX1_minAfter_46 rfl (fun c_46 => ?_) (fun c_46 => ?_)
        · refine z_iload_n (pc := 59) C dX1_minAfter_59 rfl rfl ?_
          refine hret 60 _ _ _ dX1_minAfter_60 (hR 4 _) hR ?_
          exact ⟨by unfold xmin; first | (rw [if_neg (by assumption)]; done) | (rw [if_pos (by assumption)]; first | (rw [if_pos (by simp_all; omega)]; done) | (rw [if_neg (by simp_all)]; done) | grind), rfl⟩
        · refine z_iload_n (pc := 49) C dX1_minAfter_49 rfl rfl ?_
          refine z_if_ne (pc := 50) C 59 (zRgL rfl) dX1_minAfter_50 rfl (fun c_50 => ?_) (fun c_50 => ?_)
          · refine z_iload_n (pc := 59) C dX1_minAfter_59 rfl rfl ?_
            refine hret 60 _ _ _ dX1_minAfter_60 (hR 4 _) hR ?_
            exact ⟨by unfold xmin; first | (rw [if_neg (by assumption)]; done) | (rw [if_pos (by assumption)]; first | (rw [if_pos (by simp_all; omega)]; done) | (rw [if_neg (by simp_all)]; done) | grind), rfl⟩
          · refine z_iload_n (pc := 53) C dX1_minAfter_53 rfl rfl ?_
            refine z_iconst (pc := 54) C dX1_minAfter_54 ?_
            refine z_iadd (pc := 55) C dX1_minAfter_55 ?_
            refine z_goto (pc := 56) C 60 dX1_minAfter_56 rfl ?_
            refine hret 60 _ _ _ dX1_minAfter_60 (by (try unfold zRg at *); (try simp only [IX] at *); omega) hR ?_
            exact ⟨by unfold xmin; first | (rw [if_neg (by assumption)]; done) | (rw [if_pos (by assumption)]; first | (rw [if_pos (by simp_all; omega)]; done) | (rw [if_neg (by simp_all)]; done) | grind), rfl⟩
  · have c_5 := zb0 hp_2 c_5
    refine z_iconst (pc := 8) C dX1_minAfter_8 ?_
    refine hret 9 _ _ _ dX1_minAfter_9 (zRgL rfl) hR ?_
    exact ⟨by unfold xmin; first | (rw [if_neg (by assumption)]; done) | (rw [if_pos (by assumption)]; first | (rw [if_pos (by simp_all; omega)]; done) | (rw [if_neg (by simp_all)]; done) | grind), rfl⟩
set_option maxRecDepth 20000 in
theorem C_X1_isNotAssociative (E : ZE) (σ : ZSt) (hR : zRs σ) (a : Int) (ha : zRg a) (b : Int) (hb : zRg b) (hI : IX σ) : ZMi E 2 yX1_isNotAssociative cX1_isNotAssociative 4 (some .boolean) [zrf E 1, ziv a, ziv b] σ (fun r σ' => (r = zb (xna σ a b)) ∧ σ' = σ) := by
  refine ZMi.introZ (by decide) rfl (Nat.le_of_ble_eq_true rfl) (fun Γ C hN hret => ?_)
  show ZG E Γ 0 [some (zrf E 1), some (ziv a), some (ziv b), none] [] σ
  refine z_aload_nZ (pc := 0) C dX1_isNotAssociative_0 rfl rfl ?_
  refine z_iload_n (pc := 1) C dX1_isNotAssociative_1 rfl rfl ?_
  refine z_callVp (pc := 2) (rest := []) C (C_X1_levelAt E σ hR a ha hI) vX1_36 (by decide) sh1 rfl rfl rfl (Nat.le_of_ble_eq_true rfl) dX1_isNotAssociative_2 (fun r_2 g_2 hp_2 => ?_)
  refine z_istore_n (pc := 5) (lv' := [some (zrf E 1), some (ziv a), some (ziv b), some (ziv r_2)]) C hN dX1_isNotAssociative_5 rfl (by decide) rfl ?_
  refine z_aload_nZ (pc := 6) C dX1_isNotAssociative_6 rfl rfl ?_
  refine z_iload_n (pc := 7) C dX1_isNotAssociative_7 rfl rfl ?_
  refine z_callVp (pc := 8) (rest := []) C (C_X1_kindAt E σ hR a ha hI) vX1_50 (by decide) sh1 rfl rfl rfl (Nat.le_of_ble_eq_true rfl) dX1_isNotAssociative_8 (fun r_8 g_8 hp_8 => ?_)
  refine z_if_ne (pc := 11) C 44 g_8 dX1_isNotAssociative_11 rfl (fun c_11 => ?_) (fun c_11 => ?_)
  · refine z_iconst (pc := 44) C dX1_isNotAssociative_44 ?_
    refine hret 45 _ _ _ dX1_isNotAssociative_45 (Or.inl rfl) hR ?_
    exact ⟨by first | exact zb_one (by unfold xna; subst_vars; simp_all) | exact zb_zero (by unfold xna; subst_vars; simp_all), rfl⟩
  · refine z_aload_nZ (pc := 14) C dX1_isNotAssociative_14 rfl rfl ?_
    refine z_iload_n (pc := 15) C dX1_isNotAssociative_15 rfl rfl ?_
    refine z_callVp (pc := 16) (rest := []) C (C_X1_kindAt E σ hR b hb hI) vX1_50 (by decide) sh1 rfl rfl rfl (Nat.le_of_ble_eq_true rfl) dX1_isNotAssociative_16 (fun r_16 g_16 hp_16 => ?_)
    refine z_if_ne (pc := 19) C 44 g_16 dX1_isNotAssociative_19 rfl (fun c_19 => ?_) (fun c_19 => ?_)
    · refine z_iconst (pc := 44) C dX1_isNotAssociative_44 ?_
      refine hret 45 _ _ _ dX1_isNotAssociative_45 (Or.inl rfl) hR ?_
      exact ⟨by first | exact zb_one (by unfold xna; subst_vars; simp_all) | exact zb_zero (by unfold xna; subst_vars; simp_all), rfl⟩
    · refine z_aload_nZ (pc := 22) C dX1_isNotAssociative_22 rfl rfl ?_
      refine z_iload_n (pc := 23) C dX1_isNotAssociative_23 rfl rfl ?_
      refine z_callVp (pc := 24) (rest := []) C (C_X1_levelAt E σ hR b hb hI) vX1_36 (by decide) sh1 rfl rfl rfl (Nat.le_of_ble_eq_true rfl) dX1_isNotAssociative_24 (fun r_24 g_24 hp_24 => ?_)
      refine z_iload_n (pc := 27) C dX1_isNotAssociative_27 rfl rfl ?_
      refine z_icmp_ne (pc := 28) C 44 g_24 g_2 dX1_isNotAssociative_28 rfl (fun c_28 => ?_) (fun c_28 => ?_)
      · refine z_iconst (pc := 44) C dX1_isNotAssociative_44 ?_
        refine hret 45 _ _ _ dX1_isNotAssociative_45 (Or.inl rfl) hR ?_
        exact ⟨by first | exact zb_one (by unfold xna; subst_vars; simp_all) | exact zb_zero (by unfold xna; subst_vars; simp_all), rfl⟩
      · refine z_aload_nZ (pc := 31) C dX1_isNotAssociative_31 rfl rfl ?_
        refine z_iload_n (pc := 32) C dX1_isNotAssociative_32 rfl rfl ?_
        refine z_callVp (pc := 33) (rest := []) C (C_X1_associativityAt E σ hR r_2 g_2 hI) vX1_43 (by decide) sh1 rfl rfl rfl (Nat.le_of_ble_eq_true rfl) dX1_isNotAssociative_33 (fun r_33 g_33 hp_33 => ?_)
        refine z_iconst (pc := 36) C dX1_isNotAssociative_36 ?_
        refine z_icmp_ne (pc := 37) C 44 g_33 (zRgL rfl) dX1_isNotAssociative_37 rfl (fun c_37 => ?_) (fun c_37 => ?_)
        · refine z_iconst (pc := 44) C dX1_isNotAssociative_44 ?_
          refine hret 45 _ _ _ dX1_isNotAssociative_45 (Or.inl rfl) hR ?_
          exact ⟨by first | exact zb_one (by unfold xna; subst_vars; simp_all) | exact zb_zero (by unfold xna; subst_vars; simp_all), rfl⟩
        · refine z_iconst (pc := 40) C dX1_isNotAssociative_40 ?_
          refine z_goto (pc := 41) C 45 dX1_isNotAssociative_41 rfl ?_
          refine hret 45 _ _ _ dX1_isNotAssociative_45 (Or.inr rfl) hR ?_
          exact ⟨by first | exact zb_one (by unfold xna; subst_vars; simp_all) | exact zb_zero (by unfold xna; subst_vars; simp_all), rfl⟩
set_option maxRecDepth 20000 in
theorem C_X0_empty (E : ZE) (σ : ZSt) (hR : zRs σ) (k : Nat) (hk : k = 7 ∨ k = 13) : ZMv E 0 yX0_empty cX0_empty 1 [zrf E k] σ (fun σ' => σ' = zup σ k 5 0) := by
  refine ZMv.intro (by decide) rfl (Nat.le_of_ble_eq_true rfl) (fun Γ C hN hret => ?_)
  show ZG E Γ 0 [some (zrf E k)] [] σ
  refine z_aload_nZ (pc := 0) C dX0_empty_0 rfl rfl ?_
  refine z_iconst (pc := 1) C dX0_empty_1 ?_
  refine z_putI (pc := 2) C hR fX0_27 (shNT hk) rfl (zRgL rfl) dX0_empty_2 (fun σ_2 e_2 hR_2 => ?_)
  refine hret 5 _ _ dX0_empty_5 hR_2 ?_
  assumption
set_option maxRecDepth 20000 in
theorem C_X0_add (E : ZE) (σ : ZSt) (hR : zRs σ) (k : Nat) (hk : k = 7 ∨ k = 13) (a : Int) (ha : zRg a) (b : Int) (hb : zRg b) (c : Int) (hc : zRg c) (e : Int) (he : zRg e) (hI : IX σ) : ZMi E 2 yX0_add cX0_add 5 (some .int) [zrf E k, ziv a, ziv b, ziv c, ziv e] σ (fun r σ' => r = xnaddr σ k ∧ σ' = xnadd σ k a b c e) := by
  refine ZMi.intro (by decide) rfl (Nat.le_of_ble_eq_true rfl) (fun Γ C hN hret => ?_)
  show ZG E Γ 0 [some (zrf E k), some (ziv a), some (ziv b), some (ziv c), some (ziv e)] [] σ
  have hbd := hI.nt hk
  refine z_aload_nZ (pc := 0) C dX0_add_0 rfl rfl ?_
  refine z_getI (pc := 1) C fX0_27 (shNT hk) rfl dX0_add_1 ?_
  refine z_bipush (pc := 4) C dX0_add_4 (by decide) ?_
  refine z_icmp_lt (pc := 6) C 11 (hR k _) (zRgL rfl) dX0_add_6 rfl (fun c_6 => ?_) (fun c_6 => ?_)
  · refine z_aload_nZ (pc := 11) C dX0_add_11 rfl rfl ?_
    refine z_getR (pc := 12) C fX0_11 (shNT hk) rfl dX0_add_12 ?_
    refine z_aload_nZ (pc := 15) C dX0_add_15 rfl rfl ?_
    refine z_getI (pc := 16) C fX0_27 (shNT hk) rfl dX0_add_16 ?_
    refine z_iload_n (pc := 19) C dX0_add_19 rfl rfl ?_
    refine z_iast (pc := 20) C hR (shNT1 hk) (by (try unfold zRg at *); (try simp only [IX] at *); omega) (by (try unfold zRg at *); (try simp only [IX] at *); omega) ha dX0_add_20 (fun σ_20 e_20 hR_20 => ?_)
    have hI_20 : IX σ_20 := by rw [e_20]; exact hI.upNTa hk (by decide)
    refine z_aload_nZ (pc := 21) C dX0_add_21 rfl rfl ?_
    refine z_getR (pc := 22) C fX0_15 (shNT hk) rfl dX0_add_22 ?_
    refine z_aload_nZ (pc := 25) C dX0_add_25 rfl rfl ?_
    refine z_getIe (pc := 26) (v := σ k 5) C fX0_27 (shNT hk) rfl dX0_add_26 (by rw [e_20, zup_cell (by omega)]) ?_
    refine z_iload_n (pc := 29) C dX0_add_29 rfl rfl ?_
    refine z_iast (pc := 30) C hR_20 (shNT2 hk) (by (try unfold zRg at *); (try simp only [IX] at *); omega) (by (try unfold zRg at *); (try simp only [IX] at *); omega) hb dX0_add_30 (fun σ_30 e_30 hR_30 => ?_)
    have hI_30 : IX σ_30 := by rw [e_30]; exact hI_20.upNTa hk (by decide)
    refine z_aload_nZ (pc := 31) C dX0_add_31 rfl rfl ?_
    refine z_getR (pc := 32) C fX0_18 (shNT hk) rfl dX0_add_32 ?_
    refine z_aload_nZ (pc := 35) C dX0_add_35 rfl rfl ?_
    refine z_getIe (pc := 36) (v := σ k 5) C fX0_27 (shNT hk) rfl dX0_add_36 (by rw [e_30, zup_cell (by omega), e_20, zup_cell (by omega)]) ?_
    refine z_iload_n (pc := 39) C dX0_add_39 rfl rfl ?_
    refine z_iast (pc := 40) C hR_30 (shNT3 hk) (by (try unfold zRg at *); (try simp only [IX] at *); omega) (by (try unfold zRg at *); (try simp only [IX] at *); omega) hc dX0_add_40 (fun σ_40 e_40 hR_40 => ?_)
    have hI_40 : IX σ_40 := by rw [e_40]; exact hI_30.upNTa hk (by decide)
    refine z_aload_nZ (pc := 41) C dX0_add_41 rfl rfl ?_
    refine z_getR (pc := 42) C fX0_21 (shNT hk) rfl dX0_add_42 ?_
    refine z_aload_nZ (pc := 45) C dX0_add_45 rfl rfl ?_
    refine z_getIe (pc := 46) (v := σ k 5) C fX0_27 (shNT hk) rfl dX0_add_46 (by rw [e_40, zup_cell (by omega), e_30, zup_cell (by omega), e_20, zup_cell (by omega)]) ?_
    refine z_iload (pc := 49) C dX0_add_49 rfl ?_
    refine z_iast (pc := 51) C hR_40 (shNT4 hk) (by (try unfold zRg at *); (try simp only [IX] at *); omega) (by (try unfold zRg at *); (try simp only [IX] at *); omega) he dX0_add_51 (fun σ_51 e_51 hR_51 => ?_)
    have hI_51 : IX σ_51 := by rw [e_51]; exact hI_40.upNTa hk (by decide)
    refine z_aload_nZ (pc := 52) C dX0_add_52 rfl rfl ?_
    refine z_getR (pc := 53) C fX0_24 (shNT hk) rfl dX0_add_53 ?_
    refine z_aload_nZ (pc := 56) C dX0_add_56 rfl rfl ?_
    refine z_getIe (pc := 57) (v := σ k 5) C fX0_27 (shNT hk) rfl dX0_add_57 (by rw [e_51, zup_cell (by omega), e_40, zup_cell (by omega), e_30, zup_cell (by omega), e_20, zup_cell (by omega)]) ?_
    refine z_iconst (pc := 60) C dX0_add_60 ?_
    refine z_aload_nZ (pc := 61) C dX0_add_61 rfl rfl ?_
    refine z_iload_n (pc := 62) C dX0_add_62 rfl rfl ?_
    refine z_callVp (pc := 63) (rest := [ziv 1, ziv (σ k 5), zrf E (k + 5)]) C (C_X0_sizeAt E σ_51 hR_51 k hk c hc hI_51) vX0_31 (by decide) (shNT hk) rfl rfl rfl (Nat.le_of_ble_eq_true rfl) dX0_add_63 (fun r_63 g_63 hp_63 => ?_)
    refine z_iadd (pc := 66) C dX0_add_66 ?_
    refine z_aload_nZ (pc := 67) C dX0_add_67 rfl rfl ?_
    refine z_iload (pc := 68) C dX0_add_68 rfl ?_
    refine z_callVp (pc := 70) (rest := [ziv (1 + r_63), ziv (σ k 5), zrf E (k + 5)]) C (C_X0_sizeAt E σ_51 hR_51 k hk e he hI_51) vX0_31 (by decide) (shNT hk) rfl rfl rfl (Nat.le_of_ble_eq_true rfl) dX0_add_70 (fun r_70 g_70 hp_70 => ?_)
    refine z_iadd (pc := 73) C dX0_add_73 ?_
    refine z_iastW (pc := 74) C hR_51 (shNT5 hk) (by (try unfold zRg at *); (try simp only [IX] at *); omega) (by (try unfold zRg at *); (try simp only [IX] at *); omega) dX0_add_74 (fun σ_74 e_74 hR_74 => ?_)
    have hI_74 : IX σ_74 := by rw [e_74]; exact hI_51.upNTa hk (by decide)
    refine z_aload_nZ (pc := 75) C dX0_add_75 rfl rfl ?_
    refine z_dup (pc := 76) C dX0_add_76 rfl ?_
    refine z_getIe (pc := 77) (v := σ k 5) C fX0_27 (shNT hk) rfl dX0_add_77 (by rw [e_74, zup_cell (by omega), e_51, zup_cell (by omega), e_40, zup_cell (by omega), e_30, zup_cell (by omega), e_20, zup_cell (by omega)]) ?_
    refine z_iconst (pc := 80) C dX0_add_80 ?_
    refine z_iadd (pc := 81) C dX0_add_81 ?_
    refine z_putI (pc := 82) C hR_74 fX0_27 (shNT hk) rfl (by (try unfold zRg at *); (try simp only [IX] at *); omega) dX0_add_82 (fun σ_82 e_82 hR_82 => ?_)
    have hI_82 : IX σ_82 := by rw [e_82]; exact hI_74.upNT hk (by (try unfold zRg at *); (try simp only [IX] at *); omega)
    refine z_aload_nZ (pc := 85) C dX0_add_85 rfl rfl ?_
    refine z_getIe (pc := 86) (v := (σ k 5) + 1) C fX0_27 (shNT hk) rfl dX0_add_86 (by rw [e_82, zup_same]) ?_
    refine z_iconst (pc := 89) C dX0_add_89 ?_
    refine z_isub (pc := 90) C dX0_add_90 ?_
    refine hret 91 _ _ _ dX0_add_91 (by (try unfold zRg at *); (try simp only [IX] at *); omega) hR_82 ?_
    have q1 : r_63 = xnsz σ k c := by rw [hp_63, e_51, e_40, e_30, e_20]; unfold xnsz; repeat rw [zup_row (by omega)]
    have q2 : r_70 = xnsz σ k e := by rw [hp_70, e_51, e_40, e_30, e_20]; unfold xnsz; repeat rw [zup_row (by omega)]
    exact ⟨by unfold xnaddr; rw [if_neg (by omega)]; omega, by unfold xnadd; rw [if_neg (by omega), ← q1, ← q2]; subst_vars; rfl⟩
  · refine z_iconst (pc := 9) C dX0_add_9 ?_
    refine hret 10 _ _ _ dX0_add_10 (zRgL rfl) hR ?_
    exact ⟨by unfold xnaddr; rw [if_pos (by omega)], by unfold xnadd; rw [if_pos (by omega)]⟩
set_option maxRecDepth 20000 in
theorem C_X0_operandAt (E : ZE) (σ : ZSt) (hR : zRs σ) (k : Nat) (hk : k = 7 ∨ k = 13) (a : Int) (ha : zRg a) (b : Int) (hb : zRg b) (hI : IX σ) : ZMi E 2 yX0_operandAt cX0_operandAt 5 (some .int) [zrf E k, ziv a, ziv b] σ (fun r σ' => (r = if b = 0 then (if xnbef σ k a = -1 then xnaft σ k a else xnbef σ k a) else if b = 1 ∧ xnbef σ k a ≠ -1 then xnaft σ k a else -1) ∧ σ' = σ) := by
  refine ZMi.intro (by decide) rfl (Nat.le_of_ble_eq_true rfl) (fun Γ C hN hret => ?_)
  show ZG E Γ 0 [some (zrf E k), some (ziv a), some (ziv b), none, none] [] σ
  refine z_aload_nZ (pc := 0) C dX0_operandAt_0 rfl rfl ?_
  refine z_iload_n (pc := 1) C dX0_operandAt_1 rfl rfl ?_
  refine z_callVp (pc := 2) (rest := []) C (C_X0_beforeAt E σ hR k hk a ha hI) vX0_47 (by decide) (shNT hk) rfl rfl rfl (Nat.le_of_ble_eq_true rfl) dX0_operandAt_2 (fun r_2 g_2 hp_2 => ?_)
  refine z_istore_n (pc := 5) (lv' := [some (zrf E k), some (ziv a), some (ziv b), some (ziv r_2), none]) C hN dX0_operandAt_5 rfl (by decide) rfl ?_
  refine z_aload_nZ (pc := 6) C dX0_operandAt_6 rfl rfl ?_
  refine z_iload_n (pc := 7) C dX0_operandAt_7 rfl rfl ?_
  refine z_callVp (pc := 8) (rest := []) C (C_X0_afterAt E σ hR k hk a ha hI) vX0_50 (by decide) (shNT hk) rfl rfl rfl (Nat.le_of_ble_eq_true rfl) dX0_operandAt_8 (fun r_8 g_8 hp_8 => ?_)
  refine z_istore (pc := 11) (lv' := [some (zrf E k), some (ziv a), some (ziv b), some (ziv r_2), some (ziv r_8)]) C hN dX0_operandAt_11 (by decide) rfl ?_
  refine z_iload_n (pc := 13) C dX0_operandAt_13 rfl rfl ?_
  refine z_if_ne (pc := 14) C 29 hb dX0_operandAt_14 rfl (fun c_14 => ?_) (fun c_14 => ?_)
  · refine z_iload_n (pc := 29) C dX0_operandAt_29 rfl rfl ?_
    refine z_iconst (pc := 30) C dX0_operandAt_30 ?_
    refine z_icmp_ne (pc := 31) C 44 hb (zRgL rfl) dX0_operandAt_31 rfl (fun c_31 => ?_) (fun c_31 => ?_)
    · refine z_iconst (pc := 44) C dX0_operandAt_44 ?_
      refine hret 45 _ _ _ dX0_operandAt_45 (zRgL rfl) hR ?_
      exact ⟨by (first | rfl | omega | (split <;> first | rfl | omega) | (simp_all; done) | (split <;> split <;> first | rfl | omega) | grind), rfl⟩
    · refine z_iload_n (pc := 34) C dX0_operandAt_34 rfl rfl ?_
      refine z_iconst (pc := 35) C dX0_operandAt_35 ?_
      refine z_icmp_eq (pc := 36) C 44 g_2 (zRgL rfl) dX0_operandAt_36 rfl (fun c_36 => ?_) (fun c_36 => ?_)
      · refine z_iconst (pc := 44) C dX0_operandAt_44 ?_
        refine hret 45 _ _ _ dX0_operandAt_45 (zRgL rfl) hR ?_
        exact ⟨by (first | rfl | omega | (split <;> first | rfl | omega) | (simp_all; done) | (split <;> split <;> first | rfl | omega) | grind), rfl⟩
      · refine z_iload (pc := 39) C dX0_operandAt_39 rfl ?_
        refine z_goto (pc := 41) C 45 dX0_operandAt_41 rfl ?_
        refine hret 45 _ _ _ dX0_operandAt_45 g_8 hR ?_
        exact ⟨by (first | rfl | omega | (split <;> first | rfl | omega) | (simp_all; done) | (split <;> split <;> first | rfl | omega) | grind), rfl⟩
  · refine z_iload_n (pc := 17) C dX0_operandAt_17 rfl rfl ?_
    refine z_iconst (pc := 18) C dX0_operandAt_18 ?_
    refine z_icmp_ne (pc := 19) C 27 g_2 (zRgL rfl) dX0_operandAt_19 rfl (fun c_19 => ?_) (fun c_19 => ?_)
    · refine z_iload_n (pc := 27) C dX0_operandAt_27 rfl rfl ?_
      refine hret 28 _ _ _ dX0_operandAt_28 g_2 hR ?_
      exact ⟨by (first | rfl | omega | (split <;> first | rfl | omega) | (simp_all; done) | (split <;> split <;> first | rfl | omega) | grind), rfl⟩
    · refine z_iload (pc := 22) C dX0_operandAt_22 rfl ?_
      refine z_goto (pc := 24) C 28 dX0_operandAt_24 rfl ?_
      refine hret 28 _ _ _ dX0_operandAt_28 g_8 hR ?_
      exact ⟨by (first | rfl | omega | (split <;> first | rfl | omega) | (simp_all; done) | (split <;> split <;> first | rfl | omega) | grind), rfl⟩
set_option maxRecDepth 20000 in
theorem C_X3_empty (E : ZE) (σ : ZSt) (hR : zRs σ) (k : Nat) (hk : k = 19 ∨ k = 21 ∨ k = 23) : ZMv E 0 yX3_empty cX3_empty 1 [zrf E k] σ (fun σ' => σ' = zup σ k 1 0) := by
  refine ZMv.intro (by decide) rfl (Nat.le_of_ble_eq_true rfl) (fun Γ C hN hret => ?_)
  show ZG E Γ 0 [some (zrf E k)] [] σ
  refine z_aload_nZ (pc := 0) C dX3_empty_0 rfl rfl ?_
  refine z_iconst (pc := 1) C dX3_empty_1 ?_
  refine z_putI (pc := 2) C hR fX3_15 (shTX hk) rfl (zRgL rfl) dX3_empty_2 (fun σ_2 e_2 hR_2 => ?_)
  refine hret 5 _ _ dX3_empty_5 hR_2 ?_
  assumption
set_option maxRecDepth 20000 in
theorem C_X3_put (E : ZE) (σ : ZSt) (hR : zRs σ) (k : Nat) (hk : k = 19 ∨ k = 21 ∨ k = 23) (a : Int) (ha : zRg a) (hI : IX σ) : ZMi E 0 yX3_put cX3_put 2 (some .boolean) [zrf E k, ziv a] σ (fun r σ' => r = (if 120 ≤ σ k 1 then 0 else 1) ∧ σ' = xput σ k a) := by
  refine ZMi.introZ (by decide) rfl (Nat.le_of_ble_eq_true rfl) (fun Γ C hN hret => ?_)
  show ZG E Γ 0 [some (zrf E k), some (ziv a)] [] σ
  have hbd := hI.tx hk
  refine z_aload_nZ (pc := 0) C dX3_put_0 rfl rfl ?_
  refine z_getI (pc := 1) C fX3_15 (shTX hk) rfl dX3_put_1 ?_
  refine z_bipush (pc := 4) C dX3_put_4 (by decide) ?_
  refine z_icmp_lt (pc := 6) C 11 (hR k _) (zRgL rfl) dX3_put_6 rfl (fun c_6 => ?_) (fun c_6 => ?_)
  · refine z_aload_nZ (pc := 11) C dX3_put_11 rfl rfl ?_
    refine z_getR (pc := 12) C fX3_9 (shTX hk) rfl dX3_put_12 ?_
    refine z_aload_nZ (pc := 15) C dX3_put_15 rfl rfl ?_
    refine z_getI (pc := 16) C fX3_15 (shTX hk) rfl dX3_put_16 ?_
    refine z_iload_n (pc := 19) C dX3_put_19 rfl rfl ?_
    refine z_iast (pc := 20) C hR (shTX1 hk) (by (try unfold zRg at *); (try simp only [IX] at *); omega) (by (try unfold zRg at *); (try simp only [IX] at *); omega) ha dX3_put_20 (fun σ_20 e_20 hR_20 => ?_)
    have hI_20 : IX σ_20 := by rw [e_20]; exact hI.upTXa hk
    refine z_aload_nZ (pc := 21) C dX3_put_21 rfl rfl ?_
    refine z_dup (pc := 22) C dX3_put_22 rfl ?_
    refine z_getIe (pc := 23) (v := σ k 1) C fX3_15 (shTX hk) rfl dX3_put_23 (by rw [e_20, zup_cell (by omega)]) ?_
    refine z_iconst (pc := 26) C dX3_put_26 ?_
    refine z_iadd (pc := 27) C dX3_put_27 ?_
    refine z_putI (pc := 28) C hR_20 fX3_15 (shTX hk) rfl (by (try unfold zRg at *); (try simp only [IX] at *); omega) dX3_put_28 (fun σ_28 e_28 hR_28 => ?_)
    have hI_28 : IX σ_28 := by rw [e_28]; exact hI_20.upTX hk (by (try unfold zRg at *); (try simp only [IX] at *); omega)
    refine z_iconst (pc := 31) C dX3_put_31 ?_
    refine hret 32 _ _ _ dX3_put_32 (Or.inr rfl) hR_28 ?_
    exact ⟨by rw [if_neg (by omega)], by unfold xput; rw [if_neg (by omega)]; subst_vars; rfl⟩
  · refine z_iconst (pc := 9) C dX3_put_9 ?_
    refine hret 10 _ _ _ dX3_put_10 (Or.inl rfl) hR ?_
    exact ⟨by rw [if_pos (by omega)], by unfold xput; rw [if_pos (by omega)]⟩
end
section
/-! ===== texts and tables copied ===== -/
theorem z_norm {E : ZE} {Γ : ZT} {pc : Nat} {lv : List (Option Value)} {st : List Value} {σ : ZSt} {v : Int} (kk : ZG E Γ pc lv (ziv (zw v) :: st) σ) : ZG E Γ pc lv (ziv v :: st) σ := by rw [← zw_iv v]; exact kk
/-- the text k is the first n signs of f -/
def zst (σ : ZSt) (k : Nat) (f : Nat → Int) (n : Nat) : ZSt := fun c j => if c = k + 1 ∧ j < n then f j else if c = k ∧ j = 1 then (n : Int) else σ c j
theorem zst_len (σ : ZSt) (k : Nat) (f : Nat → Int) (n : Nat) : zst σ k f n k 1 = n := by unfold zst; rw [if_neg (by omega), if_pos ⟨rfl, rfl⟩]
theorem zst_in {σ : ZSt} {k : Nat} {f : Nat → Int} {n j : Nat} (h : j < n) : zst σ k f n (k + 1) j = f j := by unfold zst; rw [if_pos ⟨rfl, h⟩]
theorem zst_row {σ : ZSt} {k : Nat} {f : Nat → Int} {n c : Nat} (h : c ≠ k ∧ c ≠ k + 1) : zst σ k f n c = σ c := by
  funext j
  unfold zst
  rw [if_neg (by omega), if_neg (by omega)]
theorem xput_zst {σ : ZSt} {k : Nat} {f : Nat → Int} {n : Nat} {v : Int} (hn : n < 120) : xput (zst σ k f n) k v = zst σ k (fun j => if j = n then v else f j) (n + 1) := by
  unfold xput
  rw [zst_len, if_neg (by omega)]
  funext c j
  unfold zup zst
  by_cases h1 : c = k
  · subst h1
    by_cases h2 : j = 1
    · subst h2; simp
    · simp [h2]
  · by_cases h2 : c = k + 1
    · subst h2
      by_cases h3 : j = n
      · subst h3; simp
      · simp [h3]
        by_cases h4 : j < n
        · rw [if_pos h4, if_pos (by omega)]
        · rw [if_neg h4, if_neg (by omega)]
    · simp [h1, h2]
theorem zst_congr {σ : ZSt} {k n : Nat} {f g : Nat → Int} (h : ∀ j, j < n → f j = g j) : zst σ k f n = zst σ k g n := by
  funext c j
  unfold zst
  by_cases h1 : c = k + 1 ∧ j < n
  · rw [if_pos h1, if_pos h1, h j h1.2]
  · rw [if_neg h1, if_neg h1]
theorem zst_empty (σ : ZSt) (k : Nat) (f : Nat → Int) : zup σ k 1 0 = zst σ k f 0 := by
  funext c j
  unfold zup zst
  by_cases h1 : c = k ∧ j = 1
  · rw [if_pos h1, if_neg (by omega), if_pos h1]; rfl
  · rw [if_neg h1, if_neg (by omega), if_neg h1]
theorem IX.zst {σ : ZSt} (h : IX σ) {k n : Nat} {f : Nat → Int} (hk : k = 19 ∨ k = 21 ∨ k = 23) (hn : n ≤ 120) : IX (zst σ k f n) := by
  obtain ⟨h1, h2, h3, h4, h5, h6, h7, h8⟩ := h
  have r : ∀ c, c ≠ k ∧ c ≠ k + 1 → _root_.Jvm.Pilot.CExpressionPrinterLaw_law_r6580_d76120.zst σ k f n c = σ c := fun c hc => zst_row hc
  have l := zst_len σ k f n
  refine ⟨?_, ?_, ?_, ?_, ?_, ?_, ?_, ?_⟩
  · rw [r 1 (by omega)]; exact h1
  · rw [r 7 (by omega)]; exact h2
  · rw [r 13 (by omega)]; exact h3
  · rcases hk with rfl | rfl | rfl
    · rw [l]; omega
    · rw [r 19 (by omega)]; exact h4
    · rw [r 19 (by omega)]; exact h4
  · rcases hk with rfl | rfl | rfl
    · rw [r 21 (by omega)]; exact h5
    · rw [l]; omega
    · rw [r 21 (by omega)]; exact h5
  · rcases hk with rfl | rfl | rfl
    · rw [r 23 (by omega)]; exact h6
    · rw [r 23 (by omega)]; exact h6
    · rw [l]; omega
  · rw [r 25 (by omega)]; exact h7
  · rw [r 4 (by omega)]; exact h8
/-- how many of the first n signs are s -/
def zcnt (f : Nat → Int) (s : Int) : Nat → Int
  | 0 => 0
  | n + 1 => zcnt f s n + (if f n = s then 1 else 0)
theorem zcnt_b (f : Nat → Int) (s : Int) (n : Nat) : 0 ≤ zcnt f s n ∧ zcnt f s n ≤ n := by
  induction n with
  | zero => exact ⟨Int.le_refl 0, Int.le_refl 0⟩
  | succ n ih =>
    unfold zcnt
    split <;> omega
/-- the place of the opening bracket number a, from p on, n far, q passed -/
def zopn (f : Nat → Int) (a : Int) : Nat → Nat → Int → Int
  | _, 0, _ => -1
  | p, n + 1, q => if f p = 40 then (if q = a then (p : Int) else zopn f a (p + 1) n (q + 1)) else zopn f a (p + 1) n q
/-- the place of the closing bracket, from p on, n far, d deep -/
def zclo (f : Nat → Int) : Nat → Nat → Int → Int
  | _, 0, _ => -1
  | p, n + 1, d => if f p = 40 then zclo f (p + 1) n (d + 1) else if f p = 41 then (if d - 1 = 0 then (p : Int) else zclo f (p + 1) n (d - 1)) else zclo f (p + 1) n d
theorem zopn_st {f : Nat → Int} {a q p l : Int} (h : 0 ≤ p ∧ p < l) : zopn f a p.toNat (l - p).toNat q = if f p.toNat = 40 then (if q = a then p else zopn f a (p + 1).toNat (l - (p + 1)).toNat (q + 1)) else zopn f a (p + 1).toNat (l - (p + 1)).toNat q := by
  obtain ⟨n, hn⟩ : ∃ n : Nat, (l - p).toNat = n + 1 := ⟨(l - p).toNat - 1, by omega⟩
  rw [hn]
  show (if _ then (if _ then ((p.toNat : Nat) : Int) else _) else _) = _
  rw [show (l - (p + 1)).toNat = n by omega, show (p + 1).toNat = p.toNat + 1 by omega, show ((p.toNat : Nat) : Int) = p by omega]
theorem zclo_st {f : Nat → Int} {d p l : Int} (h : 0 ≤ p ∧ p < l) : zclo f p.toNat (l - p).toNat d = if f p.toNat = 40 then zclo f (p + 1).toNat (l - (p + 1)).toNat (d + 1) else if f p.toNat = 41 then (if d - 1 = 0 then p else zclo f (p + 1).toNat (l - (p + 1)).toNat (d - 1)) else zclo f (p + 1).toNat (l - (p + 1)).toNat d := by
  obtain ⟨n, hn⟩ : ∃ n : Nat, (l - p).toNat = n + 1 := ⟨(l - p).toNat - 1, by omega⟩
  rw [hn]
  show (if _ then _ else if _ then (if _ then ((p.toNat : Nat) : Int) else _) else _) = _
  rw [show (l - (p + 1)).toNat = n by omega, show (p + 1).toNat = p.toNat + 1 by omega, show ((p.toNat : Nat) : Int) = p by omega]
/-- the text without the places o and c: how long, and its signs, of the first p -/
def zskn (o c : Int) : Nat → Nat
  | 0 => 0
  | p + 1 => if (p : Int) ≠ o ∧ (p : Int) ≠ c then zskn o c p + 1 else zskn o c p
def zskf (f : Nat → Int) (o c : Int) : Nat → Nat → Int
  | 0 => fun _ => 0
  | p + 1 => if (p : Int) ≠ o ∧ (p : Int) ≠ c then fun j => if j = zskn o c p then f p else zskf f o c p j else zskf f o c p
theorem zsk_keep {f : Nat → Int} {o c : Int} {p : Nat} (h : (p : Int) ≠ o ∧ (p : Int) ≠ c) : zskf f o c (p + 1) = (fun j => if j = zskn o c p then f p else zskf f o c p j) ∧ zskn o c (p + 1) = zskn o c p + 1 := ⟨if_pos h, if_pos h⟩
theorem zsk_drop {f : Nat → Int} {o c : Int} {p : Nat} (h : ¬ ((p : Int) ≠ o ∧ (p : Int) ≠ c)) : zskf f o c (p + 1) = zskf f o c p ∧ zskn o c (p + 1) = zskn o c p := ⟨if_neg h, if_neg h⟩
theorem zskn_le (o c : Int) (p : Nat) : zskn o c p ≤ p := by
  induction p with
  | zero => exact Nat.le_refl 0
  | succ p ih => unfold zskn; split <;> omega
def xopen (σ : ZSt) (k : Nat) (a : Int) : Int := zopn (σ (k + 1)) a 0 (σ k 1).toNat 0
def xclose (σ : ZSt) (k : Nat) (a : Int) : Int := zclo (σ (k + 1)) (max a 0).toNat (σ k 1 - max a 0).toNat 0
def xcopy (σ : ZSt) (k o : Nat) : ZSt := zst σ k (σ (o + 1)) (σ o 1).toNat
def xskip (σ : ZSt) (k o : Nat) (a : Int) : ZSt := zst σ k (zskf (σ (o + 1)) (xopen σ o a) (xclose σ o (xopen σ o a)) (σ o 1).toNat) (zskn (xopen σ o a) (xclose σ o (xopen σ o a)) (σ o 1).toNat)
-- the nodes that were read, added to the nodes
theorem xnadd_row {σ : ZSt} {k c : Nat} {o l b a : Int} (h : ¬ (k ≤ c ∧ c ≤ k + 5)) : xnadd σ k o l b a c = σ c := by
  unfold xnadd
  split
  · rfl
  · repeat rw [zup_row (by omega)]
def xadds (σ : ZSt) : Nat → ZSt
  | 0 => σ
  | p + 1 => xnadd (xadds σ p) 7 (σ 14 p) (σ 15 p) (if σ 16 p = -1 then -1 else zw (σ 16 p + σ 7 5)) (if σ 17 p = -1 then -1 else zw (σ 17 p + σ 7 5))
theorem xadds_row {σ : ZSt} {c : Nat} (h : ¬ (7 ≤ c ∧ c ≤ 12)) : ∀ p, xadds σ p c = σ c
  | 0 => rfl
  | p + 1 => by unfold xadds; rw [xnadd_row (by omega)]; exact xadds_row h p
theorem xnadd_cnt {σ : ZSt} {k : Nat} {o l b a : Int} (h : σ k 5 < 120) : xnadd σ k o l b a k 5 = σ k 5 + 1 := by
  unfold xnadd
  rw [if_neg (by omega), zup_same]
theorem IX.nadd {σ : ZSt} (h : IX σ) {k : Nat} (hk : k = 7 ∨ k = 13) {o l b a : Int} : IX (xnadd σ k o l b a) := by
  have hb := h.nt hk
  unfold xnadd
  split
  · exact h
  · exact ((((((h.upNTa hk (by decide)).upNTa hk (by decide)).upNTa hk (by decide)).upNTa hk (by decide)).upNTa hk (by decide)).upNT hk (by omega))
/-- two trees are the same, to the depth n -/
def xsame (σ : ZSt) (k q : Nat) : Nat → Int → Int → Prop
  | 0, a, b => (a = -1 ∨ b = -1) ∧ a = b
  | n + 1, a, b => if a = -1 ∨ b = -1 then a = b else ((xnop σ k a = xnop σ q b ∧ xnlet σ k a = xnlet σ q b) ∧ xsame σ k q n (xnbef σ k a) (xnbef σ q b) ∧ xsame σ k q n (xnaft σ k a) (xnaft σ q b))
end
section
set_option maxRecDepth 20000 in
theorem C_X0_shifted (E : ZE) (σ : ZSt) (hR : zRs σ) (a : Int) (ha : zRg a) (b : Int) (hb : zRg b) : ZMi E 0 yX0_shifted cX0_shifted 2 (some .int) [ziv a, ziv b] σ (fun r σ' => (r = if a = -1 then -1 else zw (a + b)) ∧ σ' = σ) := by
  refine ZMi.intro (by decide) rfl (Nat.le_of_ble_eq_true rfl) (fun Γ C hN hret => ?_)
  show ZG E Γ 0 [some (ziv a), some (ziv b)] [] σ
  refine z_iload_n (pc := 0) C dX0_shifted_0 rfl rfl ?_
  refine z_iconst (pc := 1) C dX0_shifted_1 ?_
  refine z_icmp_ne (pc := 2) C 9 ha (zRgL rfl) dX0_shifted_2 rfl (fun c_2 => ?_) (fun c_2 => ?_)
  · refine z_iload_n (pc := 9) C dX0_shifted_9 rfl rfl ?_
    refine z_iload_n (pc := 10) C dX0_shifted_10 rfl rfl ?_
    refine z_iadd (pc := 11) C dX0_shifted_11 ?_
    refine z_norm ?_
    refine hret 12 _ _ _ dX0_shifted_12 (zw_rg _) hR ?_
    exact ⟨by first | rw [if_pos (by omega)] | rw [if_neg (by omega)], rfl⟩
  · refine z_iconst (pc := 5) C dX0_shifted_5 ?_
    refine z_goto (pc := 6) C 12 dX0_shifted_6 rfl ?_
    refine hret 12 _ _ _ dX0_shifted_12 (zRgL rfl) hR ?_
    exact ⟨by first | rw [if_pos (by omega)] | rw [if_neg (by omega)], rfl⟩
set_option maxRecDepth 20000 in
theorem C_X0_addAllOf (E : ZE) (σ : ZSt) (hR : zRs σ) (hI : IX σ) : ZMv E 3 yX0_addAllOf cX0_addAllOf 4 [zrf E 7, zrf E 13] σ (fun σ' => σ' = xadds σ (σ 13 5).toNat) := by
  refine ZMv.intro (by decide) rfl (Nat.le_of_ble_eq_true rfl) (fun Γ C hN hret => ?_)
  show ZG E Γ 0 [some (zrf E 7), some (zrf E 13), none, none] [] σ
  refine z_aload_nZ (pc := 0) C dX0_addAllOf_0 rfl rfl ?_
  refine z_getI (pc := 1) C fX0_27 sh7 rfl dX0_addAllOf_1 ?_
  refine z_istore_n (pc := 4) (lv' := [some (zrf E 7), some (zrf E 13), some (ziv (σ 7 5)), none]) C hN dX0_addAllOf_4 rfl (by decide) rfl ?_
  refine z_iconst (pc := 5) C dX0_addAllOf_5 ?_
  refine z_istore_n (pc := 6) (lv' := [some (zrf E 7), some (zrf E 13), some (ziv (σ 7 5)), some (ziv 0)]) C hN dX0_addAllOf_6 rfl (by decide) rfl ?_
  have L7 : ∀ (n : Nat) (i : Int) (τ : ZSt), zRg i → 0 ≤ i ∧ i ≤ σ 13 5 → τ = xadds σ i.toNat → zRs τ → IX τ → (σ 13 5 - i).toNat < n → ZG E Γ 7 [some (zrf E 7), some (zrf E 13), some (ziv (σ 7 5)), some (ziv i)] [] τ := by
    intro n
    induction n with
    | zero => intro i τ hi h0 ht hRt hIt hm; exact absurd hm (by omega)
    | succ n ih =>
      intro i τ hi h0 ht hRt hIt hm
      have hq : ∀ c, 13 ≤ c → τ c = σ c := fun c hc => by rw [ht]; exact xadds_row (by omega) _
      have hbd := hI.nt (Or.inr rfl)
      refine z_iload_n (pc := 7) C dX0_addAllOf_7 rfl rfl ?_
      refine z_aload_nZ (pc := 8) C dX0_addAllOf_8 rfl rfl ?_
      refine z_getIe (pc := 9) (v := σ 13 5) C fX0_27 sh13 rfl dX0_addAllOf_9 (by rw [hq 13 (by decide)]) ?_
      refine z_icmp_ge (pc := 12) C 58 hi (hR 13 5) dX0_addAllOf_12 rfl (fun c_12 => ?_) (fun c_12 => ?_)
      · refine hret 58 _ _ dX0_addAllOf_58 hRt ?_
        rw [ht, show i = σ 13 5 by omega]
      · refine z_aload_nZ (pc := 15) C dX0_addAllOf_15 rfl rfl ?_
        refine z_aload_nZ (pc := 16) C dX0_addAllOf_16 rfl rfl ?_
        refine z_getR (pc := 17) C fX0_11 sh13 rfl dX0_addAllOf_17 ?_
        refine z_iload_n (pc := 20) C dX0_addAllOf_20 rfl rfl ?_
        refine z_ialde (pc := 21) (v := σ 14 i.toNat) C sh14 (by (try unfold zRg at *); (try simp only [IX] at *); omega) (by (try unfold zRg at *); (try simp only [IX] at *); omega) dX0_addAllOf_21 (by rw [hq 14 (by decide)]) ?_
        refine z_aload_nZ (pc := 22) C dX0_addAllOf_22 rfl rfl ?_
        refine z_getR (pc := 23) C fX0_15 sh13 rfl dX0_addAllOf_23 ?_
        refine z_iload_n (pc := 26) C dX0_addAllOf_26 rfl rfl ?_
        refine z_ialde (pc := 27) (v := σ 15 i.toNat) C sh15 (by (try unfold zRg at *); (try simp only [IX] at *); omega) (by (try unfold zRg at *); (try simp only [IX] at *); omega) dX0_addAllOf_27 (by rw [hq 15 (by decide)]) ?_
        refine z_aload_nZ (pc := 28) C dX0_addAllOf_28 rfl rfl ?_
        refine z_getR (pc := 29) C fX0_18 sh13 rfl dX0_addAllOf_29 ?_
        refine z_iload_n (pc := 32) C dX0_addAllOf_32 rfl rfl ?_
        refine z_ialde (pc := 33) (v := σ 16 i.toNat) C sh16 (by (try unfold zRg at *); (try simp only [IX] at *); omega) (by (try unfold zRg at *); (try simp only [IX] at *); omega) dX0_addAllOf_33 (by rw [hq 16 (by decide)]) ?_
        refine z_iload_n (pc := 34) C dX0_addAllOf_34 rfl rfl ?_
        refine z_callSp (pc := 35) (rest := [ziv (σ 15 i.toNat), ziv (σ 14 i.toNat), zrf E 7]) C (C_X0_shifted E τ hRt (σ 16 i.toNat) (hR 16 _) (σ 7 5) (hR 7 _)) vX0_35 (by decide) rfl rfl (Nat.le_of_ble_eq_true rfl) dX0_addAllOf_35 (fun r_35 g_35 hp_35 => ?_)
        refine z_aload_nZ (pc := 38) C dX0_addAllOf_38 rfl rfl ?_
        refine z_getR (pc := 39) C fX0_21 sh13 rfl dX0_addAllOf_39 ?_
        refine z_iload_n (pc := 42) C dX0_addAllOf_42 rfl rfl ?_
        refine z_ialde (pc := 43) (v := σ 17 i.toNat) C sh17 (by (try unfold zRg at *); (try simp only [IX] at *); omega) (by (try unfold zRg at *); (try simp only [IX] at *); omega) dX0_addAllOf_43 (by rw [hq 17 (by decide)]) ?_
        refine z_iload_n (pc := 44) C dX0_addAllOf_44 rfl rfl ?_
        refine z_callSp (pc := 45) (rest := [ziv r_35, ziv (σ 15 i.toNat), ziv (σ 14 i.toNat), zrf E 7]) C (C_X0_shifted E τ hRt (σ 17 i.toNat) (hR 17 _) (σ 7 5) (hR 7 _)) vX0_35 (by decide) rfl rfl (Nat.le_of_ble_eq_true rfl) dX0_addAllOf_45 (fun r_45 g_45 hp_45 => ?_)
        refine z_callVi (pc := 48) (rest := []) C (C_X0_add E τ hRt 7 (Or.inl rfl) (σ 14 i.toNat) (hR 14 _) (σ 15 i.toNat) (hR 15 _) r_35 g_35 r_45 g_45 hIt) vX0_39 (by decide) sh7 rfl rfl rfl (Nat.le_of_ble_eq_true rfl) dX0_addAllOf_48 (fun r_48 σ_48 g_48 hR_48 hp_48 => ?_)
        refine z_pop (pc := 51) C dX0_addAllOf_51 rfl ?_
        refine z_iinc (pc := 52) (lv' := [some (zrf E 7), some (zrf E 13), some (ziv (σ 7 5)), some (ziv (i + 1))]) C hN dX0_addAllOf_52 (by decide) rfl rfl ?_
        refine z_goto (pc := 55) C 7 dX0_addAllOf_55 rfl ?_
        exact ih _ _ (by (try unfold zRg at *); (try simp only [IX] at *); omega) (by omega) (by rw [show (i + 1).toNat = i.toNat + 1 by omega]; unfold xadds; rw [← ht, hp_48.2, hp_35, hp_45]) hR_48 (by rw [hp_48.2]; exact hIt.nadd (Or.inl rfl)) (by omega)
  exact L7 _ 0 σ (zRgL rfl) (by have := hI.nt (Or.inr rfl); omega) rfl hR hI (Nat.lt_succ_self _)
set_option maxRecDepth 20000 in
theorem C_X3_copyFrom (E : ZE) (σ : ZSt) (hR : zRs σ) (k : Nat) (hk : k = 19 ∨ k = 21 ∨ k = 23) (o : Nat) (ho : o = 19 ∨ o = 21 ∨ o = 23) (hI : IX σ) (hne : k ≠ o) : ZMv E 1 yX3_copyFrom cX3_copyFrom 3 [zrf E k, zrf E o] σ (fun σ' => σ' = xcopy σ k o) := by
  refine ZMv.intro (by decide) rfl (Nat.le_of_ble_eq_true rfl) (fun Γ C hN hret => ?_)
  show ZG E Γ 0 [some (zrf E k), some (zrf E o), none] [] σ
  refine z_aload_nZ (pc := 0) C dX3_copyFrom_0 rfl rfl ?_
  refine z_callVv (pc := 1) (rest := []) C (C_X3_empty E σ hR k hk) vX3_19 (by decide) (shTX hk) rfl rfl rfl (Nat.le_of_ble_eq_true rfl) dX3_copyFrom_1 (fun σ_1 hR_1 hp_1 => ?_)
  refine z_iconst (pc := 4) C dX3_copyFrom_4 ?_
  refine z_istore_n (pc := 5) (lv' := [some (zrf E k), some (zrf E o), some (ziv 0)]) C hN dX3_copyFrom_5 rfl (by decide) rfl ?_
  have L6 : ∀ (n : Nat) (i : Int) (τ : ZSt), zRg i → 0 ≤ i ∧ i ≤ σ o 1 → τ = zst σ k (σ (o + 1)) i.toNat → zRs τ → IX τ → (σ o 1 - i).toNat < n → ZG E Γ 6 [some (zrf E k), some (zrf E o), some (ziv i)] [] τ := by
    intro n
    induction n with
    | zero => intro i τ hi h0 ht hRt hIt hm; exact absurd hm (by omega)
    | succ n ih =>
      intro i τ hi h0 ht hRt hIt hm
      have hq : ∀ c, c ≠ k ∧ c ≠ k + 1 → τ c = σ c := fun c hc => by rw [ht]; exact zst_row hc
      have hbd := hI.tx ho
      refine z_iload_n (pc := 6) C dX3_copyFrom_6 rfl rfl ?_
      refine z_aload_nZ (pc := 7) C dX3_copyFrom_7 rfl rfl ?_
      refine z_getIe (pc := 8) (v := σ o 1) C fX3_15 (shTX ho) rfl dX3_copyFrom_8 (by rw [hq o (by omega)]) ?_
      refine z_icmp_ge (pc := 11) C 31 hi (hR o 1) dX3_copyFrom_11 rfl (fun c_11 => ?_) (fun c_11 => ?_)
      · refine hret 31 _ _ dX3_copyFrom_31 hRt ?_
        rw [ht, show i = σ o 1 by omega]; rfl
      · refine z_aload_nZ (pc := 14) C dX3_copyFrom_14 rfl rfl ?_
        refine z_aload_nZ (pc := 15) C dX3_copyFrom_15 rfl rfl ?_
        refine z_getR (pc := 16) C fX3_9 (shTX ho) rfl dX3_copyFrom_16 ?_
        refine z_iload_n (pc := 19) C dX3_copyFrom_19 rfl rfl ?_
        refine z_ialde (pc := 20) (v := σ (o + 1) i.toNat) C (shTX1 ho) (by (try unfold zRg at *); (try simp only [IX] at *); omega) (by (try unfold zRg at *); (try simp only [IX] at *); omega) dX3_copyFrom_20 (by rw [hq (o + 1) (by omega)]) ?_
        refine z_callVi (pc := 21) (rest := []) C (C_X3_put E τ hRt k hk (σ (o + 1) i.toNat) (hR (o + 1) _) hIt) vX3_22 (by decide) (shTX hk) rfl rfl rfl (Nat.le_of_ble_eq_true rfl) dX3_copyFrom_21 (fun r_21 σ_21 g_21 hR_21 hp_21 => ?_)
        refine z_pop (pc := 24) C dX3_copyFrom_24 rfl ?_
        refine z_iinc (pc := 25) (lv' := [some (zrf E k), some (zrf E o), some (ziv (i + 1))]) C hN dX3_copyFrom_25 (by decide) rfl rfl ?_
        refine z_goto (pc := 28) C 6 dX3_copyFrom_28 rfl ?_
        exact ih _ _ (by (try unfold zRg at *); (try simp only [IX] at *); omega) (by omega) (by rw [hp_21.2, ht, xput_zst (by omega), show (i + 1).toNat = i.toNat + 1 by omega]; exact zst_congr (fun j hj => by by_cases h9 : j = i.toNat <;> simp [h9])) hR_21 (by rw [hp_21.2, ht, xput_zst (by omega)]; exact hI.zst hk (by omega)) (by omega)
  exact L6 _ 0 σ_1 (zRgL rfl) (by have := hI.tx ho; omega) (by rw [hp_1]; exact zst_empty σ k _) hR_1 (by rw [hp_1]; exact hI.upTX hk (by decide)) (Nat.lt_succ_self _)
set_option maxRecDepth 20000 in
theorem C_X3_countPairs (E : ZE) (σ : ZSt) (hR : zRs σ) (k : Nat) (hk : k = 19 ∨ k = 21 ∨ k = 23) (hI : IX σ) : ZMi E 0 yX3_countPairs cX3_countPairs 3 (some .int) [zrf E k] σ (fun r σ' => (r = zcnt (σ (k + 1)) 40 (σ k 1).toNat) ∧ σ' = σ) := by
  refine ZMi.intro (by decide) rfl (Nat.le_of_ble_eq_true rfl) (fun Γ C hN hret => ?_)
  show ZG E Γ 0 [some (zrf E k), none, none] [] σ
  have hbd := hI.tx hk
  refine z_iconst (pc := 0) C dX3_countPairs_0 ?_
  refine z_istore_n (pc := 1) (lv' := [some (zrf E k), some (ziv 0), none]) C hN dX3_countPairs_1 rfl (by decide) rfl ?_
  refine z_iconst (pc := 2) C dX3_countPairs_2 ?_
  refine z_istore_n (pc := 3) (lv' := [some (zrf E k), some (ziv 0), some (ziv 0)]) C hN dX3_countPairs_3 rfl (by decide) rfl ?_
  have L4 : ∀ (n : Nat) (i q : Int), zRg i → zRg q → 0 ≤ i ∧ i ≤ σ k 1 → q = zcnt (σ (k + 1)) 40 i.toNat → (σ k 1 - i).toNat < n → ZG E Γ 4 [some (zrf E k), some (ziv q), some (ziv i)] [] σ := by
    intro n
    induction n with
    | zero => intro i q hi hq h0 hf hm; exact absurd hm (by omega)
    | succ n ih =>
      intro i q hi hq h0 hf hm
      have hz := zcnt_b (σ (k + 1)) 40 i.toNat
      refine z_iload_n (pc := 4) C dX3_countPairs_4 rfl rfl ?_
      refine z_aload_nZ (pc := 5) C dX3_countPairs_5 rfl rfl ?_
      refine z_getI (pc := 6) C fX3_15 (shTX hk) rfl dX3_countPairs_6 ?_
      refine z_icmp_ge (pc := 9) C 32 hi (hR k _) dX3_countPairs_9 rfl (fun c_9 => ?_) (fun c_9 => ?_)
      · refine z_iload_n (pc := 32) C dX3_countPairs_32 rfl rfl ?_
        refine hret 33 _ _ _ dX3_countPairs_33 hq hR ?_
        exact ⟨by rw [hf, show i = σ k 1 by omega], rfl⟩
      · refine z_aload_nZ (pc := 12) C dX3_countPairs_12 rfl rfl ?_
        refine z_getR (pc := 13) C fX3_9 (shTX hk) rfl dX3_countPairs_13 ?_
        refine z_iload_n (pc := 16) C dX3_countPairs_16 rfl rfl ?_
        refine z_iald (pc := 17) C (shTX1 hk) (by (try unfold zRg at *); (try simp only [IX] at *); omega) (by (try unfold zRg at *); (try simp only [IX] at *); omega) dX3_countPairs_17 ?_
        refine z_bipush (pc := 18) C dX3_countPairs_18 (by decide) ?_
        refine z_icmp_ne (pc := 20) C 26 (hR (k + 1) _) (zRgL rfl) dX3_countPairs_20 rfl (fun c_20 => ?_) (fun c_20 => ?_)
        · refine z_iinc (pc := 26) (lv' := [some (zrf E k), some (ziv q), some (ziv (i + 1))]) C hN dX3_countPairs_26 (by decide) rfl rfl ?_
          refine z_goto (pc := 29) C 4 dX3_countPairs_29 rfl ?_
          exact ih _ _ (by (try unfold zRg at *); (try simp only [IX] at *); omega) hq (by omega) (by rw [show (i + 1).toNat = i.toNat + 1 by omega]; unfold zcnt; first | (rw [if_pos (by assumption)]; omega) | (rw [if_neg (by assumption)]; omega)) (by omega)
        · refine z_iinc (pc := 23) (lv' := [some (zrf E k), some (ziv (q + 1)), some (ziv i)]) C hN dX3_countPairs_23 (by decide) rfl rfl ?_
          refine z_iinc (pc := 26) (lv' := [some (zrf E k), some (ziv (q + 1)), some (ziv (i + 1))]) C hN dX3_countPairs_26 (by decide) rfl rfl ?_
          refine z_goto (pc := 29) C 4 dX3_countPairs_29 rfl ?_
          exact ih _ _ (by (try unfold zRg at *); (try simp only [IX] at *); omega) (by (try unfold zRg at *); (try simp only [IX] at *); omega) (by omega) (by rw [show (i + 1).toNat = i.toNat + 1 by omega]; unfold zcnt; first | (rw [if_pos (by assumption)]; omega) | (rw [if_neg (by assumption)]; omega)) (by omega)
  exact L4 _ 0 0 (zRgL rfl) (zRgL rfl) (by omega) rfl (Nat.lt_succ_self _)
set_option maxRecDepth 20000 in
theorem C_X3_openOf (E : ZE) (σ : ZSt) (hR : zRs σ) (k : Nat) (hk : k = 19 ∨ k = 21 ∨ k = 23) (a : Int) (ha : zRg a) (hI : IX σ) : ZMi E 0 yX3_openOf cX3_openOf 4 (some .int) [zrf E k, ziv a] σ (fun r σ' => (r = xopen σ k a) ∧ σ' = σ) := by
  refine ZMi.intro (by decide) rfl (Nat.le_of_ble_eq_true rfl) (fun Γ C hN hret => ?_)
  show ZG E Γ 0 [some (zrf E k), some (ziv a), none, none] [] σ
  have hbd := hI.tx hk
  refine z_iconst (pc := 0) C dX3_openOf_0 ?_
  refine z_istore_n (pc := 1) (lv' := [some (zrf E k), some (ziv a), some (ziv 0), none]) C hN dX3_openOf_1 rfl (by decide) rfl ?_
  refine z_iconst (pc := 2) C dX3_openOf_2 ?_
  refine z_istore_n (pc := 3) (lv' := [some (zrf E k), some (ziv a), some (ziv 0), some (ziv 0)]) C hN dX3_openOf_3 rfl (by decide) rfl ?_
  have L4 : ∀ (n : Nat) (i q : Int), zRg i → zRg q → 0 ≤ i ∧ i ≤ σ k 1 → 0 ≤ q ∧ q ≤ i → xopen σ k a = zopn (σ (k + 1)) a i.toNat (σ k 1 - i).toNat q → (σ k 1 - i).toNat < n → ZG E Γ 4 [some (zrf E k), some (ziv a), some (ziv q), some (ziv i)] [] σ := by
    intro n
    induction n with
    | zero => intro i q hi hq h0 hqi hf hm; exact absurd hm (by omega)
    | succ n ih =>
      intro i q hi hq h0 hqi hf hm
      refine z_iload_n (pc := 4) C dX3_openOf_4 rfl rfl ?_
      refine z_aload_nZ (pc := 5) C dX3_openOf_5 rfl rfl ?_
      refine z_getI (pc := 6) C fX3_15 (shTX hk) rfl dX3_openOf_6 ?_
      refine z_icmp_ge (pc := 9) C 39 hi (hR k _) dX3_openOf_9 rfl (fun c_9 => ?_) (fun c_9 => ?_)
      · refine z_iconst (pc := 39) C dX3_openOf_39 ?_
        refine hret 40 _ _ _ dX3_openOf_40 (zRgL rfl) hR ?_
        exact ⟨by rw [hf, show (σ k 1 - i).toNat = 0 by omega]; rfl, rfl⟩
      · refine z_aload_nZ (pc := 12) C dX3_openOf_12 rfl rfl ?_
        refine z_getR (pc := 13) C fX3_9 (shTX hk) rfl dX3_openOf_13 ?_
        refine z_iload_n (pc := 16) C dX3_openOf_16 rfl rfl ?_
        refine z_iald (pc := 17) C (shTX1 hk) (by (try unfold zRg at *); (try simp only [IX] at *); omega) (by (try unfold zRg at *); (try simp only [IX] at *); omega) dX3_openOf_17 ?_
        refine z_bipush (pc := 18) C dX3_openOf_18 (by decide) ?_
        refine z_icmp_ne (pc := 20) C 33 (hR (k + 1) _) (zRgL rfl) dX3_openOf_20 rfl (fun c_20 => ?_) (fun c_20 => ?_)
        · refine z_iinc (pc := 33) (lv' := [some (zrf E k), some (ziv a), some (ziv q), some (ziv (i + 1))]) C hN dX3_openOf_33 (by decide) rfl rfl ?_
          refine z_goto (pc := 36) C 4 dX3_openOf_36 rfl ?_
          exact ih _ _ (by (try unfold zRg at *); (try simp only [IX] at *); omega) hq (by omega) (by omega) (by rw [hf, zopn_st (by omega)]; first | (rw [if_pos (by assumption), if_neg (by assumption)]; done) | (rw [if_neg (by assumption)]; done)) (by omega)
        · refine z_iload_n (pc := 23) C dX3_openOf_23 rfl rfl ?_
          refine z_iload_n (pc := 24) C dX3_openOf_24 rfl rfl ?_
          refine z_icmp_ne (pc := 25) C 30 hq ha dX3_openOf_25 rfl (fun c_25 => ?_) (fun c_25 => ?_)
          · refine z_iinc (pc := 30) (lv' := [some (zrf E k), some (ziv a), some (ziv (q + 1)), some (ziv i)]) C hN dX3_openOf_30 (by decide) rfl rfl ?_
            refine z_iinc (pc := 33) (lv' := [some (zrf E k), some (ziv a), some (ziv (q + 1)), some (ziv (i + 1))]) C hN dX3_openOf_33 (by decide) rfl rfl ?_
            refine z_goto (pc := 36) C 4 dX3_openOf_36 rfl ?_
            exact ih _ _ (by (try unfold zRg at *); (try simp only [IX] at *); omega) (by (try unfold zRg at *); (try simp only [IX] at *); omega) (by omega) (by omega) (by rw [hf, zopn_st (by omega)]; first | (rw [if_pos (by assumption), if_neg (by assumption)]; done) | (rw [if_neg (by assumption)]; done)) (by omega)
          · refine z_iload_n (pc := 28) C dX3_openOf_28 rfl rfl ?_
            refine hret 29 _ _ _ dX3_openOf_29 hi hR ?_
            exact ⟨by rw [hf, zopn_st (by omega), if_pos (by assumption), if_pos (by assumption)], rfl⟩
  exact L4 _ 0 0 (zRgL rfl) (zRgL rfl) (by omega) (by omega) (by simp [xopen]) (Nat.lt_succ_self _)
set_option maxRecDepth 20000 in
theorem C_X3_closeOf (E : ZE) (σ : ZSt) (hR : zRs σ) (k : Nat) (hk : k = 19 ∨ k = 21 ∨ k = 23) (a : Int) (ha : zRg a) (hI : IX σ) : ZMi E 1 yX3_closeOf cX3_closeOf 4 (some .int) [zrf E k, ziv a] σ (fun r σ' => (r = xclose σ k a) ∧ σ' = σ) := by
  refine ZMi.intro (by decide) rfl (Nat.le_of_ble_eq_true rfl) (fun Γ C hN hret => ?_)
  show ZG E Γ 0 [some (zrf E k), some (ziv a), none, none] [] σ
  have hbd := hI.tx hk
  refine z_iconst (pc := 0) C dX3_closeOf_0 ?_
  refine z_istore_n (pc := 1) (lv' := [some (zrf E k), some (ziv a), some (ziv 0), none]) C hN dX3_closeOf_1 rfl (by decide) rfl ?_
  refine z_iload_n (pc := 2) C dX3_closeOf_2 rfl rfl ?_
  refine z_iconst (pc := 3) C dX3_closeOf_3 ?_
  refine z_max (pc := 4) C vX3_33 ha (zRgL rfl) (by decide) (Nat.le_of_ble_eq_true rfl) dX3_closeOf_4 ?_
  refine z_istore_n (pc := 7) (lv' := [some (zrf E k), some (ziv a), some (ziv 0), some (ziv (max a 0))]) C hN dX3_closeOf_7 rfl (by decide) rfl ?_
  have L8 : ∀ (n : Nat) (i d : Int), zRg i → zRg d → 0 ≤ i → - i ≤ d ∧ d ≤ i → xclose σ k a = zclo (σ (k + 1)) i.toNat (σ k 1 - i).toNat d → (σ k 1 - i).toNat < n → ZG E Γ 8 [some (zrf E k), some (ziv a), some (ziv d), some (ziv i)] [] σ := by
    intro n
    induction n with
    | zero => intro i d hi hd h0 hdi hf hm; exact absurd hm (by omega)
    | succ n ih =>
      intro i d hi hd h0 hdi hf hm
      refine z_iload_n (pc := 8) C dX3_closeOf_8 rfl rfl ?_
      refine z_aload_nZ (pc := 9) C dX3_closeOf_9 rfl rfl ?_
      refine z_getI (pc := 10) C fX3_15 (shTX hk) rfl dX3_closeOf_10 ?_
      refine z_icmp_ge (pc := 13) C 59 hi (hR k _) dX3_closeOf_13 rfl (fun c_13 => ?_) (fun c_13 => ?_)
      · refine z_iconst (pc := 59) C dX3_closeOf_59 ?_
        refine hret 60 _ _ _ dX3_closeOf_60 (zRgL rfl) hR ?_
        exact ⟨by rw [hf, show (σ k 1 - i).toNat = 0 by omega]; rfl, rfl⟩
      · refine z_aload_nZ (pc := 16) C dX3_closeOf_16 rfl rfl ?_
        refine z_getR (pc := 17) C fX3_9 (shTX hk) rfl dX3_closeOf_17 ?_
        refine z_iload_n (pc := 20) C dX3_closeOf_20 rfl rfl ?_
        refine z_iald (pc := 21) C (shTX1 hk) (by (try unfold zRg at *); (try simp only [IX] at *); omega) (by (try unfold zRg at *); (try simp only [IX] at *); omega) dX3_closeOf_21 ?_
        refine z_bipush (pc := 22) C dX3_closeOf_22 (by decide) ?_
        refine z_icmp_ne (pc := 24) C 33 (hR (k + 1) _) (zRgL rfl) dX3_closeOf_24 rfl (fun c_24 => ?_) (fun c_24 => ?_)
        · refine z_aload_nZ (pc := 33) C dX3_closeOf_33 rfl rfl ?_
          refine z_getR (pc := 34) C fX3_9 (shTX hk) rfl dX3_closeOf_34 ?_
          refine z_iload_n (pc := 37) C dX3_closeOf_37 rfl rfl ?_
          refine z_iald (pc := 38) C (shTX1 hk) (by (try unfold zRg at *); (try simp only [IX] at *); omega) (by (try unfold zRg at *); (try simp only [IX] at *); omega) dX3_closeOf_38 ?_
          refine z_bipush (pc := 39) C dX3_closeOf_39 (by decide) ?_
          refine z_icmp_ne (pc := 41) C 53 (hR (k + 1) _) (zRgL rfl) dX3_closeOf_41 rfl (fun c_41 => ?_) (fun c_41 => ?_)
          · refine z_iinc (pc := 53) (lv' := [some (zrf E k), some (ziv a), some (ziv d), some (ziv (i + 1))]) C hN dX3_closeOf_53 (by decide) rfl rfl ?_
            refine z_goto (pc := 56) C 8 dX3_closeOf_56 rfl ?_
            exact ih _ _ (by (try unfold zRg at *); (try simp only [IX] at *); omega) hd (by omega) (by omega) (by rw [hf, zclo_st (by omega)]; first | (rw [if_pos (by assumption)]; done) | (rw [if_neg (by assumption), if_pos (by assumption), if_neg (by omega)]; rfl) | (rw [if_neg (by assumption), if_neg (by assumption)]; done)) (by omega)
          · refine z_iinc (pc := 44) (lv' := [some (zrf E k), some (ziv a), some (ziv (d + (-1))), some (ziv i)]) C hN dX3_closeOf_44 (by decide) rfl rfl ?_
            refine z_iload_n (pc := 47) C dX3_closeOf_47 rfl rfl ?_
            refine z_if_ne (pc := 48) C 53 (by (try unfold zRg at *); (try simp only [IX] at *); omega) dX3_closeOf_48 rfl (fun c_48 => ?_) (fun c_48 => ?_)
            · refine z_iinc (pc := 53) (lv' := [some (zrf E k), some (ziv a), some (ziv (d + (-1))), some (ziv (i + 1))]) C hN dX3_closeOf_53 (by decide) rfl rfl ?_
              refine z_goto (pc := 56) C 8 dX3_closeOf_56 rfl ?_
              exact ih _ _ (by (try unfold zRg at *); (try simp only [IX] at *); omega) (by (try unfold zRg at *); (try simp only [IX] at *); omega) (by omega) (by omega) (by rw [hf, zclo_st (by omega)]; first | (rw [if_pos (by assumption)]; done) | (rw [if_neg (by assumption), if_pos (by assumption), if_neg (by omega)]; rfl) | (rw [if_neg (by assumption), if_neg (by assumption)]; done)) (by omega)
            · refine z_iload_n (pc := 51) C dX3_closeOf_51 rfl rfl ?_
              refine hret 52 _ _ _ dX3_closeOf_52 hi hR ?_
              exact ⟨by rw [hf, zclo_st (by omega), if_neg (by assumption), if_pos (by assumption), if_pos (by omega)], rfl⟩
        · refine z_iinc (pc := 27) (lv' := [some (zrf E k), some (ziv a), some (ziv (d + 1)), some (ziv i)]) C hN dX3_closeOf_27 (by decide) rfl rfl ?_
          refine z_goto (pc := 30) C 53 dX3_closeOf_30 rfl ?_
          refine z_iinc (pc := 53) (lv' := [some (zrf E k), some (ziv a), some (ziv (d + 1)), some (ziv (i + 1))]) C hN dX3_closeOf_53 (by decide) rfl rfl ?_
          refine z_goto (pc := 56) C 8 dX3_closeOf_56 rfl ?_
          exact ih _ _ (by (try unfold zRg at *); (try simp only [IX] at *); omega) (by (try unfold zRg at *); (try simp only [IX] at *); omega) (by omega) (by omega) (by rw [hf, zclo_st (by omega)]; first | (rw [if_pos (by assumption)]; done) | (rw [if_neg (by assumption), if_pos (by assumption), if_neg (by omega)]; rfl) | (rw [if_neg (by assumption), if_neg (by assumption)]; done)) (by omega)
  exact L8 _ (max a 0) 0 (by unfold zRg at *; omega) (zRgL rfl) (by omega) (by omega) rfl (Nat.lt_succ_self _)
set_option maxRecDepth 20000 in
theorem C_X3_copyWithoutPair (E : ZE) (σ : ZSt) (hR : zRs σ) (a : Int) (ha : zRg a) (hI : IX σ) : ZMv E 2 yX3_copyWithoutPair cX3_copyWithoutPair 6 [zrf E 23, zrf E 21, ziv a] σ (fun σ' => σ' = xskip σ 23 21 a) := by
  refine ZMv.intro (by decide) rfl (Nat.le_of_ble_eq_true rfl) (fun Γ C hN hret => ?_)
  show ZG E Γ 0 [some (zrf E 23), some (zrf E 21), some (ziv a), none, none, none] [] σ
  have hbd := hI.tx (k := 21) (Or.inr (Or.inl rfl))
  refine z_aload_nZ (pc := 0) C dX3_copyWithoutPair_0 rfl rfl ?_
  refine z_iload_n (pc := 1) C dX3_copyWithoutPair_1 rfl rfl ?_
  refine z_callVp (pc := 2) (rest := []) C (C_X3_openOf E σ hR 21 (Or.inr (Or.inl rfl)) a ha hI) vX3_26 (by decide) sh21 rfl rfl rfl (Nat.le_of_ble_eq_true rfl) dX3_copyWithoutPair_2 (fun r_2 g_2 hp_2 => ?_)
  refine z_istore_n (pc := 5) (lv' := [some (zrf E 23), some (zrf E 21), some (ziv a), some (ziv r_2), none, none]) C hN dX3_copyWithoutPair_5 rfl (by decide) rfl ?_
  refine z_aload_nZ (pc := 6) C dX3_copyWithoutPair_6 rfl rfl ?_
  refine z_iload_n (pc := 7) C dX3_copyWithoutPair_7 rfl rfl ?_
  refine z_callVp (pc := 8) (rest := []) C (C_X3_closeOf E σ hR 21 (Or.inr (Or.inl rfl)) r_2 g_2 hI) vX3_30 (by decide) sh21 rfl rfl rfl (Nat.le_of_ble_eq_true rfl) dX3_copyWithoutPair_8 (fun r_8 g_8 hp_8 => ?_)
  refine z_istore (pc := 11) (lv' := [some (zrf E 23), some (zrf E 21), some (ziv a), some (ziv r_2), some (ziv r_8), none]) C hN dX3_copyWithoutPair_11 (by decide) rfl ?_
  refine z_aload_nZ (pc := 13) C dX3_copyWithoutPair_13 rfl rfl ?_
  refine z_callVv (pc := 14) (rest := []) C (C_X3_empty E σ hR 23 (Or.inr (Or.inr rfl))) vX3_19 (by decide) sh23 rfl rfl rfl (Nat.le_of_ble_eq_true rfl) dX3_copyWithoutPair_14 (fun σ_14 hR_14 hp_14 => ?_)
  refine z_iconst (pc := 17) C dX3_copyWithoutPair_17 ?_
  refine z_istore (pc := 18) (lv' := [some (zrf E 23), some (zrf E 21), some (ziv a), some (ziv r_2), some (ziv r_8), some (ziv 0)]) C hN dX3_copyWithoutPair_18 (by decide) rfl ?_
  have L20 : ∀ (n : Nat) (i : Int) (τ : ZSt), zRg i → 0 ≤ i ∧ i ≤ σ 21 1 → τ = zst σ 23 (zskf (σ 22) r_2 r_8 i.toNat) (zskn r_2 r_8 i.toNat) → zRs τ → IX τ → (σ 21 1 - i).toNat < n → ZG E Γ 20 [some (zrf E 23), some (zrf E 21), some (ziv a), some (ziv r_2), some (ziv r_8), some (ziv i)] [] τ := by
    intro n
    induction n with
    | zero => intro i τ hi h0 ht hRt hIt hm; exact absurd hm (by omega)
    | succ n ih =>
      intro i τ hi h0 ht hRt hIt hm
      have hq : ∀ c, c ≠ 23 ∧ c ≠ 24 → τ c = σ c := fun c hc => by rw [ht]; exact zst_row hc
      have hsk := zskn_le r_2 r_8 i.toNat
      have hii : ((i.toNat : Nat) : Int) = i := by omega
      refine z_iload (pc := 20) C dX3_copyWithoutPair_20 rfl ?_
      refine z_aload_nZ (pc := 22) C dX3_copyWithoutPair_22 rfl rfl ?_
      refine z_getIe (pc := 23) (v := σ 21 1) C fX3_15 sh21 rfl dX3_copyWithoutPair_23 (by rw [hq 21 (by decide)]) ?_
      refine z_icmp_ge (pc := 26) C 60 hi (hR 21 1) dX3_copyWithoutPair_26 rfl (fun c_26 => ?_) (fun c_26 => ?_)
      · refine hret 60 _ _ dX3_copyWithoutPair_60 hRt ?_
        unfold xskip; rw [ht, show i = σ 21 1 by omega, hp_8, hp_2]
      · refine z_iload (pc := 29) C dX3_copyWithoutPair_29 rfl ?_
        refine z_iload_n (pc := 31) C dX3_copyWithoutPair_31 rfl rfl ?_
        refine z_icmp_eq (pc := 32) C 54 hi g_2 dX3_copyWithoutPair_32 rfl (fun c_32 => ?_) (fun c_32 => ?_)
        · refine z_iinc (pc := 54) (lv' := [some (zrf E 23), some (zrf E 21), some (ziv a), some (ziv r_2), some (ziv r_8), some (ziv (i + 1))]) C hN dX3_copyWithoutPair_54 (by decide) rfl rfl ?_
          refine z_goto (pc := 57) C 20 dX3_copyWithoutPair_57 rfl ?_
          first
          | exact ih _ _ (by (try unfold zRg at *); (try simp only [IX] at *); omega) (by omega) (by rw [hp_50.2, ht, xput_zst (by omega), show (i + 1).toNat = i.toNat + 1 by omega, (zsk_keep ⟨by omega, by omega⟩).1, (zsk_keep (f := σ 22) (o := r_2) (c := r_8) (p := i.toNat) ⟨by omega, by omega⟩).2]) hR_50 (by rw [hp_50.2, ht, xput_zst (by omega)]; exact hI.zst (Or.inr (Or.inr rfl)) (by omega)) (by omega)
          | exact ih _ _ (by (try unfold zRg at *); (try simp only [IX] at *); omega) (by omega) (by rw [ht, show (i + 1).toNat = i.toNat + 1 by omega, (zsk_drop (by omega)).1, (zsk_drop (f := σ 22) (o := r_2) (c := r_8) (p := i.toNat) (by omega)).2]) hRt hIt (by omega)
        · refine z_iload (pc := 35) C dX3_copyWithoutPair_35 rfl ?_
          refine z_iload (pc := 37) C dX3_copyWithoutPair_37 rfl ?_
          refine z_icmp_eq (pc := 39) C 54 hi g_8 dX3_copyWithoutPair_39 rfl (fun c_39 => ?_) (fun c_39 => ?_)
          · refine z_iinc (pc := 54) (lv' := [some (zrf E 23), some (zrf E 21), some (ziv a), some (ziv r_2), some (ziv r_8), some (ziv (i + 1))]) C hN dX3_copyWithoutPair_54 (by decide) rfl rfl ?_
            refine z_goto (pc := 57) C 20 dX3_copyWithoutPair_57 rfl ?_
            first
            | exact ih _ _ (by (try unfold zRg at *); (try simp only [IX] at *); omega) (by omega) (by rw [hp_50.2, ht, xput_zst (by omega), show (i + 1).toNat = i.toNat + 1 by omega, (zsk_keep ⟨by omega, by omega⟩).1, (zsk_keep (f := σ 22) (o := r_2) (c := r_8) (p := i.toNat) ⟨by omega, by omega⟩).2]) hR_50 (by rw [hp_50.2, ht, xput_zst (by omega)]; exact hI.zst (Or.inr (Or.inr rfl)) (by omega)) (by omega)
            | exact ih _ _ (by (try unfold zRg at *); (try simp only [IX] at *); omega) (by omega) (by rw [ht, show (i + 1).toNat = i.toNat + 1 by omega, (zsk_drop (by omega)).1, (zsk_drop (f := σ 22) (o := r_2) (c := r_8) (p := i.toNat) (by omega)).2]) hRt hIt (by omega)
          · refine z_aload_nZ (pc := 42) C dX3_copyWithoutPair_42 rfl rfl ?_
            refine z_aload_nZ (pc := 43) C dX3_copyWithoutPair_43 rfl rfl ?_
            refine z_getR (pc := 44) C fX3_9 sh21 rfl dX3_copyWithoutPair_44 ?_
            refine z_iload (pc := 47) C dX3_copyWithoutPair_47 rfl ?_
            refine z_ialde (pc := 49) (v := σ 22 i.toNat) C sh22 (by (try unfold zRg at *); (try simp only [IX] at *); omega) (by (try unfold zRg at *); (try simp only [IX] at *); omega) dX3_copyWithoutPair_49 (by rw [hq 22 (by decide)]) ?_
            refine z_callVi (pc := 50) (rest := []) C (C_X3_put E τ hRt 23 (Or.inr (Or.inr rfl)) (σ 22 i.toNat) (hR 22 _) hIt) vX3_22 (by decide) sh23 rfl rfl rfl (Nat.le_of_ble_eq_true rfl) dX3_copyWithoutPair_50 (fun r_50 σ_50 g_50 hR_50 hp_50 => ?_)
            refine z_pop (pc := 53) C dX3_copyWithoutPair_53 rfl ?_
            refine z_iinc (pc := 54) (lv' := [some (zrf E 23), some (zrf E 21), some (ziv a), some (ziv r_2), some (ziv r_8), some (ziv (i + 1))]) C hN dX3_copyWithoutPair_54 (by decide) rfl rfl ?_
            refine z_goto (pc := 57) C 20 dX3_copyWithoutPair_57 rfl ?_
            first
            | exact ih _ _ (by (try unfold zRg at *); (try simp only [IX] at *); omega) (by omega) (by rw [hp_50.2, ht, xput_zst (by omega), show (i + 1).toNat = i.toNat + 1 by omega, (zsk_keep ⟨by omega, by omega⟩).1, (zsk_keep (f := σ 22) (o := r_2) (c := r_8) (p := i.toNat) ⟨by omega, by omega⟩).2]) hR_50 (by rw [hp_50.2, ht, xput_zst (by omega)]; exact hI.zst (Or.inr (Or.inr rfl)) (by omega)) (by omega)
            | exact ih _ _ (by (try unfold zRg at *); (try simp only [IX] at *); omega) (by omega) (by rw [ht, show (i + 1).toNat = i.toNat + 1 by omega, (zsk_drop (by omega)).1, (zsk_drop (f := σ 22) (o := r_2) (c := r_8) (p := i.toNat) (by omega)).2]) hRt hIt (by omega)
  exact L20 _ 0 σ_14 (zRgL rfl) (by omega) (by rw [hp_14]; exact zst_empty σ 23 _) hR_14 (by rw [hp_14]; exact hI.upTX (Or.inr (Or.inr rfl)) (by decide)) (Nat.lt_succ_self _)
theorem xsame_end {σ : ZSt} {k q n : Nat} {a b : Int} (h : a = -1 ∨ b = -1) : xsame σ k q n a b = (a = b) := by
  cases n with
  | zero => unfold xsame; exact propext ⟨fun w => w.2, fun w => ⟨h, w⟩⟩
  | succ n => unfold xsame; rw [if_pos h]
theorem xsame_go {σ : ZSt} {k q n : Nat} {a b : Int} (h : a ≠ -1 ∧ b ≠ -1) : xsame σ k q n a b = (0 < n ∧ (xnop σ k a = xnop σ q b ∧ xnlet σ k a = xnlet σ q b) ∧ xsame σ k q (n - 1) (xnbef σ k a) (xnbef σ q b) ∧ xsame σ k q (n - 1) (xnaft σ k a) (xnaft σ q b)) := by
  cases n with
  | zero => unfold xsame; exact propext ⟨fun w => by omega, fun w => by omega⟩
  | succ n =>
    show (if _ then _ else _) = _
    rw [if_neg (by omega)]
    exact propext ⟨fun w => ⟨Nat.succ_pos n, w⟩, fun w => w.2⟩
set_option maxRecDepth 20000 in
theorem C_X5_sameTree (E : ZE) (σ : ZSt) (hR : zRs σ) (hI : IX σ) (k : Nat) (hk : k = 7 ∨ k = 13) (q : Nat) (hq : q = 7 ∨ q = 13) : ∀ (N : Nat) (a : Int) (ha : zRg a) (b : Int) (hb : zRg b) (d : Int) (hd : zRg d), (40 - d).toNat < N → ZMi E (N + 2) yX5_sameTree cX5_sameTree 5 (some .boolean) [zrf E k, ziv a, zrf E q, ziv b, ziv d] σ (fun r σ' => (r = zb (xsame σ k q (40 - d).toNat a b)) ∧ σ' = σ) := by
  intro N
  induction N with
  | zero => intro a ha b hb d hd hN; exact absurd hN (by omega)
  | succ N ih =>
  intro a ha b hb d hd hlt
  refine ZMi.introZ (by decide) rfl (Nat.le_of_ble_eq_true rfl) (fun Γ C hN hret => ?_)
  show ZG E Γ 0 [some (zrf E k), some (ziv a), some (zrf E q), some (ziv b), some (ziv d)] [] σ
  refine z_iload_n (pc := 0) C dX5_sameTree_0 rfl rfl ?_
  refine z_iconst (pc := 1) C dX5_sameTree_1 ?_
  refine z_icmp_eq (pc := 2) C 10 ha (zRgL rfl) dX5_sameTree_2 rfl (fun c_2 => ?_) (fun c_2 => ?_)
  · refine z_iload_n (pc := 10) C dX5_sameTree_10 rfl rfl ?_
    refine z_iload_n (pc := 11) C dX5_sameTree_11 rfl rfl ?_
    refine z_icmp_ne (pc := 12) C 19 ha hb dX5_sameTree_12 rfl (fun c_12 => ?_) (fun c_12 => ?_)
    · refine z_iconst (pc := 19) C dX5_sameTree_19 ?_
      refine hret 20 _ _ _ dX5_sameTree_20 (Or.inl rfl) hR ?_
      exact ⟨by rw [xsame_end (by omega)]; first | exact zb_one (by assumption) | exact zb_zero (by assumption), rfl⟩
    · refine z_iconst (pc := 15) C dX5_sameTree_15 ?_
      refine z_goto (pc := 16) C 20 dX5_sameTree_16 rfl ?_
      refine hret 20 _ _ _ dX5_sameTree_20 (Or.inr rfl) hR ?_
      exact ⟨by rw [xsame_end (by omega)]; first | exact zb_one (by assumption) | exact zb_zero (by assumption), rfl⟩
  · refine z_iload_n (pc := 5) C dX5_sameTree_5 rfl rfl ?_
    refine z_iconst (pc := 6) C dX5_sameTree_6 ?_
    refine z_icmp_ne (pc := 7) C 21 hb (zRgL rfl) dX5_sameTree_7 rfl (fun c_7 => ?_) (fun c_7 => ?_)
    · refine z_iload (pc := 21) C dX5_sameTree_21 rfl ?_
      refine z_bipush (pc := 23) C dX5_sameTree_23 (by decide) ?_
      refine z_icmp_ge (pc := 25) C 54 hd (zRgL rfl) dX5_sameTree_25 rfl (fun c_25 => ?_) (fun c_25 => ?_)
      · refine z_iconst (pc := 54) C dX5_sameTree_54 ?_
        refine hret 55 _ _ _ dX5_sameTree_55 (Or.inl rfl) hR ?_
        exact ⟨zb_zero (fun w => by rw [xsame_go (by omega)] at w; obtain ⟨w1, ⟨w2, w3⟩, w4⟩ := w; first | omega | (rw [hp_30, hp_35] at c_38; exact c_38 w2) | (rw [hp_43, hp_48] at c_51; exact c_51 w3)), rfl⟩
      · refine z_aload_nZ (pc := 28) C dX5_sameTree_28 rfl rfl ?_
        refine z_iload_n (pc := 29) C dX5_sameTree_29 rfl rfl ?_
        refine z_callVp (pc := 30) (rest := []) C (C_X0_operatorAt E σ hR k hk a ha hI) vX5_122 (by omega) (shNT hk) rfl rfl rfl (Nat.le_of_ble_eq_true rfl) dX5_sameTree_30 (fun r_30 g_30 hp_30 => ?_)
        refine z_aload_nZ (pc := 33) C dX5_sameTree_33 rfl rfl ?_
        refine z_iload_n (pc := 34) C dX5_sameTree_34 rfl rfl ?_
        refine z_callVp (pc := 35) (rest := [ziv r_30]) C (C_X0_operatorAt E σ hR q hq b hb hI) vX5_122 (by omega) (shNT hq) rfl rfl rfl (Nat.le_of_ble_eq_true rfl) dX5_sameTree_35 (fun r_35 g_35 hp_35 => ?_)
        refine z_icmp_ne (pc := 38) C 54 g_30 g_35 dX5_sameTree_38 rfl (fun c_38 => ?_) (fun c_38 => ?_)
        · refine z_iconst (pc := 54) C dX5_sameTree_54 ?_
          refine hret 55 _ _ _ dX5_sameTree_55 (Or.inl rfl) hR ?_
          exact ⟨zb_zero (fun w => by rw [xsame_go (by omega)] at w; obtain ⟨w1, ⟨w2, w3⟩, w4⟩ := w; first | omega | (rw [hp_30, hp_35] at c_38; exact c_38 w2) | (rw [hp_43, hp_48] at c_51; exact c_51 w3)), rfl⟩
        · refine z_aload_nZ (pc := 41) C dX5_sameTree_41 rfl rfl ?_
          refine z_iload_n (pc := 42) C dX5_sameTree_42 rfl rfl ?_
          refine z_callVp (pc := 43) (rest := []) C (C_X0_letterAt E σ hR k hk a ha hI) vX5_125 (by omega) (shNT hk) rfl rfl rfl (Nat.le_of_ble_eq_true rfl) dX5_sameTree_43 (fun r_43 g_43 hp_43 => ?_)
          refine z_aload_nZ (pc := 46) C dX5_sameTree_46 rfl rfl ?_
          refine z_iload_n (pc := 47) C dX5_sameTree_47 rfl rfl ?_
          refine z_callVp (pc := 48) (rest := [ziv r_43]) C (C_X0_letterAt E σ hR q hq b hb hI) vX5_125 (by omega) (shNT hq) rfl rfl rfl (Nat.le_of_ble_eq_true rfl) dX5_sameTree_48 (fun r_48 g_48 hp_48 => ?_)
          refine z_icmp_eq (pc := 51) C 56 g_43 g_48 dX5_sameTree_51 rfl (fun c_51 => ?_) (fun c_51 => ?_)
          · refine z_aload_nZ (pc := 56) C dX5_sameTree_56 rfl rfl ?_
            refine z_aload_nZ (pc := 57) C dX5_sameTree_57 rfl rfl ?_
            refine z_iload_n (pc := 58) C dX5_sameTree_58 rfl rfl ?_
            refine z_callVp (pc := 59) (rest := [zrf E k]) C (C_X0_beforeAt E σ hR k hk a ha hI) vX5_135 (by omega) (shNT hk) rfl rfl rfl (Nat.le_of_ble_eq_true rfl) dX5_sameTree_59 (fun r_59 g_59 hp_59 => ?_)
            refine z_aload_nZ (pc := 62) C dX5_sameTree_62 rfl rfl ?_
            refine z_aload_nZ (pc := 63) C dX5_sameTree_63 rfl rfl ?_
            refine z_iload_n (pc := 64) C dX5_sameTree_64 rfl rfl ?_
            refine z_callVp (pc := 65) (rest := [zrf E q, ziv r_59, zrf E k]) C (C_X0_beforeAt E σ hR q hq b hb hI) vX5_135 (by omega) (shNT hq) rfl rfl rfl (Nat.le_of_ble_eq_true rfl) dX5_sameTree_65 (fun r_65 g_65 hp_65 => ?_)
            refine z_iload (pc := 68) C dX5_sameTree_68 rfl ?_
            refine z_iconst (pc := 70) C dX5_sameTree_70 ?_
            refine z_iadd (pc := 71) C dX5_sameTree_71 ?_
            refine z_callSp (pc := 72) (rest := []) C (ih r_59 g_59 r_65 g_65 (d + 1) (by (try unfold zRg at *); (try simp only [IX] at *); omega) (by omega)) vX5_131 (by omega) rfl rfl (Nat.le_of_ble_eq_true rfl) dX5_sameTree_72 (fun r_72 g_72 hp_72 => ?_)
            refine z_if_eq (pc := 75) C 104 g_72 dX5_sameTree_75 rfl (fun c_75 => ?_) (fun c_75 => ?_)
            · have c_75 := zb0 hp_72 c_75
              refine z_iconst (pc := 104) C dX5_sameTree_104 ?_
              refine hret 105 _ _ _ dX5_sameTree_105 (Or.inl rfl) hR ?_
              have e1 : (40 - (d + 1)).toNat = (40 - d).toNat - 1 := by omega
              first
              | exact ⟨zb_one (by rw [xsame_go (by omega)]; rw [hp_59, hp_65, e1] at c_75; rw [hp_81, hp_87, e1] at c_97; exact ⟨by omega, ⟨by rw [← hp_30, ← hp_35]; assumption, by rw [← hp_43, ← hp_48]; assumption⟩, c_75, c_97⟩), rfl⟩
              | exact ⟨zb_zero (fun w => by rw [xsame_go (by omega)] at w; rw [hp_59, hp_65, e1] at c_75; exact c_75 w.2.2.1), rfl⟩
              | exact ⟨zb_zero (fun w => by rw [xsame_go (by omega)] at w; rw [hp_81, hp_87, e1] at c_97; exact c_97 w.2.2.2), rfl⟩
            · have c_75 := zb1 hp_72 c_75
              refine z_aload_nZ (pc := 78) C dX5_sameTree_78 rfl rfl ?_
              refine z_aload_nZ (pc := 79) C dX5_sameTree_79 rfl rfl ?_
              refine z_iload_n (pc := 80) C dX5_sameTree_80 rfl rfl ?_
              refine z_callVp (pc := 81) (rest := [zrf E k]) C (C_X0_afterAt E σ hR k hk a ha hI) vX5_138 (by omega) (shNT hk) rfl rfl rfl (Nat.le_of_ble_eq_true rfl) dX5_sameTree_81 (fun r_81 g_81 hp_81 => ?_)
              refine z_aload_nZ (pc := 84) C dX5_sameTree_84 rfl rfl ?_
              refine z_aload_nZ (pc := 85) C dX5_sameTree_85 rfl rfl ?_
              refine z_iload_n (pc := 86) C dX5_sameTree_86 rfl rfl ?_
              refine z_callVp (pc := 87) (rest := [zrf E q, ziv r_81, zrf E k]) C (C_X0_afterAt E σ hR q hq b hb hI) vX5_138 (by omega) (shNT hq) rfl rfl rfl (Nat.le_of_ble_eq_true rfl) dX5_sameTree_87 (fun r_87 g_87 hp_87 => ?_)
              refine z_iload (pc := 90) C dX5_sameTree_90 rfl ?_
              refine z_iconst (pc := 92) C dX5_sameTree_92 ?_
              refine z_iadd (pc := 93) C dX5_sameTree_93 ?_
              refine z_callSp (pc := 94) (rest := []) C (ih r_81 g_81 r_87 g_87 (d + 1) (by (try unfold zRg at *); (try simp only [IX] at *); omega) (by omega)) vX5_131 (by omega) rfl rfl (Nat.le_of_ble_eq_true rfl) dX5_sameTree_94 (fun r_94 g_94 hp_94 => ?_)
              refine z_if_eq (pc := 97) C 104 g_94 dX5_sameTree_97 rfl (fun c_97 => ?_) (fun c_97 => ?_)
              · have c_97 := zb0 hp_94 c_97
                refine z_iconst (pc := 104) C dX5_sameTree_104 ?_
                refine hret 105 _ _ _ dX5_sameTree_105 (Or.inl rfl) hR ?_
                have e1 : (40 - (d + 1)).toNat = (40 - d).toNat - 1 := by omega
                first
                | exact ⟨zb_one (by rw [xsame_go (by omega)]; rw [hp_59, hp_65, e1] at c_75; rw [hp_81, hp_87, e1] at c_97; exact ⟨by omega, ⟨by rw [← hp_30, ← hp_35]; assumption, by rw [← hp_43, ← hp_48]; assumption⟩, c_75, c_97⟩), rfl⟩
                | exact ⟨zb_zero (fun w => by rw [xsame_go (by omega)] at w; rw [hp_59, hp_65, e1] at c_75; exact c_75 w.2.2.1), rfl⟩
                | exact ⟨zb_zero (fun w => by rw [xsame_go (by omega)] at w; rw [hp_81, hp_87, e1] at c_97; exact c_97 w.2.2.2), rfl⟩
              · have c_97 := zb1 hp_94 c_97
                refine z_iconst (pc := 100) C dX5_sameTree_100 ?_
                refine z_goto (pc := 101) C 105 dX5_sameTree_101 rfl ?_
                refine hret 105 _ _ _ dX5_sameTree_105 (Or.inr rfl) hR ?_
                have e1 : (40 - (d + 1)).toNat = (40 - d).toNat - 1 := by omega
                first
                | exact ⟨zb_one (by rw [xsame_go (by omega)]; rw [hp_59, hp_65, e1] at c_75; rw [hp_81, hp_87, e1] at c_97; exact ⟨by omega, ⟨by rw [← hp_30, ← hp_35]; assumption, by rw [← hp_43, ← hp_48]; assumption⟩, c_75, c_97⟩), rfl⟩
                | exact ⟨zb_zero (fun w => by rw [xsame_go (by omega)] at w; rw [hp_59, hp_65, e1] at c_75; exact c_75 w.2.2.1), rfl⟩
                | exact ⟨zb_zero (fun w => by rw [xsame_go (by omega)] at w; rw [hp_81, hp_87, e1] at c_97; exact c_97 w.2.2.2), rfl⟩
          · refine z_iconst (pc := 54) C dX5_sameTree_54 ?_
            refine hret 55 _ _ _ dX5_sameTree_55 (Or.inl rfl) hR ?_
            exact ⟨zb_zero (fun w => by rw [xsame_go (by omega)] at w; obtain ⟨w1, ⟨w2, w3⟩, w4⟩ := w; first | omega | (rw [hp_30, hp_35] at c_38; exact c_38 w2) | (rw [hp_43, hp_48] at c_51; exact c_51 w3)), rfl⟩
    · refine z_iload_n (pc := 10) C dX5_sameTree_10 rfl rfl ?_
      refine z_iload_n (pc := 11) C dX5_sameTree_11 rfl rfl ?_
      refine z_icmp_ne (pc := 12) C 19 ha hb dX5_sameTree_12 rfl (fun c_12 => ?_) (fun c_12 => ?_)
      · refine z_iconst (pc := 19) C dX5_sameTree_19 ?_
        refine hret 20 _ _ _ dX5_sameTree_20 (Or.inl rfl) hR ?_
        exact ⟨by rw [xsame_end (by omega)]; first | exact zb_one (by assumption) | exact zb_zero (by assumption), rfl⟩
      · refine z_iconst (pc := 15) C dX5_sameTree_15 ?_
        refine z_goto (pc := 16) C 20 dX5_sameTree_16 rfl ?_
        refine hret 20 _ _ _ dX5_sameTree_20 (Or.inr rfl) hR ?_
        exact ⟨by rw [xsame_end (by omega)]; first | exact zb_one (by assumption) | exact zb_zero (by assumption), rfl⟩
end
section
/-! ===== the class's own calls, as functions ===== -/
abbrev xcan (a : Int) : Prop := 33 ≤ a ∧ a ≤ 126 ∧ ¬ (97 ≤ a ∧ a ≤ 122) ∧ a ≠ 40 ∧ a ≠ 41
def xdefine (σ : ZSt) (a b c : Int) : Int × ZSt := if ¬ xcan a then (-3, σ) else if ¬ (1 ≤ c ∧ c ≤ 9) then (-4, σ) else if xfind σ a (if b = 1 then 1 else 0) ≠ -1 then (-5, σ) else if 16 ≤ σ 1 5 then (-6, σ) else (σ 1 5, xopadd σ a b c)
def xsetlev (σ : ZSt) (a b : Int) : Int × ZSt := if ¬ (0 ≤ a ∧ a < σ 1 5) then (-2, σ) else if ¬ (1 ≤ b ∧ b ≤ 9) then (-4, σ) else (xlev σ a, zup σ 4 a.toNat b)
def xsetasc (σ : ZSt) (a b : Int) : Int × ZSt := if ¬ ((1 ≤ a ∧ a ≤ 9) ∧ 0 ≤ b ∧ b ≤ 2) then (-4, σ) else (xasc σ a, zup σ 5 a.toNat b)
noncomputable def xsetforb (σ : ZSt) (a b c : Int) : Int × ZSt := if ¬ ((0 ≤ a ∧ a < σ 1 5) ∧ (0 ≤ b ∧ b < σ 1 5)) then (-2, σ) else (zb (xfb σ a b), zup σ 6 (a * 16 + b).toNat c)
def xadd3 (σ : ZSt) (o b a : Int) : Int × ZSt := if 40 < 1 + xnsz σ 7 b + xnsz σ 7 a then (-7, σ) else if 100 ≤ σ 7 5 then (-6, σ) else (σ 7 5, xnadd σ 7 o (-1) b a)
def xleaf (σ : ZSt) (a : Int) : Int × ZSt := if ¬ (97 ≤ a ∧ a ≤ 122) then (-3, σ) else if 100 ≤ σ 7 5 then (-6, σ) else (σ 7 5, xnadd σ 7 (-1) a (-1) (-1))
def xunary (σ : ZSt) (o n : Int) : Int × ZSt := if ¬ (0 ≤ o ∧ o < σ 1 5) then (-2, σ) else if xkind σ o = 0 then (-8, σ) else if ¬ (0 ≤ n ∧ n < σ 7 5) then (-1, σ) else if xkind σ o = 1 then xadd3 σ o (-1) n else xadd3 σ o n (-1)
def xbinary (σ : ZSt) (o a b : Int) : Int × ZSt := if ¬ (0 ≤ o ∧ o < σ 1 5) then (-2, σ) else if xkind σ o ≠ 0 then (-8, σ) else if ¬ ((0 ≤ a ∧ a < σ 7 5) ∧ (0 ≤ b ∧ b < σ 7 5)) then (-1, σ) else xadd3 σ o a b
def xappend (σ : ZSt) (a : Int) : Int × ZSt := if ¬ (33 ≤ a ∧ a ≤ 126) then (-3, σ) else if 120 ≤ σ 19 1 then (-7, σ) else (σ 19 1 + 1, xput σ 19 a)
theorem xput_len {σ : ZSt} {k : Nat} {a : Int} (h : ¬ 120 ≤ σ k 1) : xput σ k a k 1 = σ k 1 + 1 := by unfold xput; rw [if_neg h, zup_same]
theorem xnsz_b {σ : ZSt} (h : ∀ i, 0 ≤ σ 12 i ∧ σ 12 i ≤ 40) (a : Int) : 0 ≤ xnsz σ 7 a ∧ xnsz σ 7 a ≤ 40 := by
  unfold xnsz zget
  split
  · exact h _
  · omega
theorem xnaddr_lt {σ : ZSt} {k : Nat} (h : σ k 5 < 120) : xnaddr σ k = σ k 5 := if_neg (by omega)
end
section
set_option maxRecDepth 20000 in
theorem C_X5_defineOperator (E : ZE) (σ : ZSt) (hR : zRs σ) (a : Int) (ha : zRg a) (b : Int) (hb : zRg b) (c : Int) (hc : zRg c) (hI : IX σ) : ZMi E 2 yX5_defineOperator cX5_defineOperator 5 (some .int) [zrf E 0, ziv a, ziv b, ziv c] σ (fun r σ' => r = (xdefine σ a b c).1 ∧ σ' = (xdefine σ a b c).2) := by
  refine ZMi.intro (by decide) rfl (Nat.le_of_ble_eq_true rfl) (fun Γ C hN hret => ?_)
  show ZG E Γ 0 [some (zrf E 0), some (ziv a), some (ziv b), some (ziv c), none] [] σ
  refine z_iload_n (pc := 0) C dX5_defineOperator_0 rfl rfl ?_
  refine z_callSp (pc := 1) (rest := []) C (C_X5_canBeSymbol E σ hR a ha) vX5_69 (by decide) rfl rfl (Nat.le_of_ble_eq_true rfl) dX5_defineOperator_1 (fun r_1 g_1 hp_1 => ?_)
  refine z_if_ne (pc := 4) C 10 g_1 dX5_defineOperator_4 rfl (fun c_4 => ?_) (fun c_4 => ?_)
  · have c_4 := zb1 hp_1 c_4
    refine z_iload_n (pc := 10) C dX5_defineOperator_10 rfl rfl ?_
    refine z_callSp (pc := 11) (rest := []) C (C_X5_isLevel E σ hR c hc) vX5_73 (by decide) rfl rfl (Nat.le_of_ble_eq_true rfl) dX5_defineOperator_11 (fun r_11 g_11 hp_11 => ?_)
    refine z_if_ne (pc := 14) C 20 g_11 dX5_defineOperator_14 rfl (fun c_14 => ?_) (fun c_14 => ?_)
    · have c_14 := zb1 hp_11 c_14
      refine z_aload_nZ (pc := 20) C dX5_defineOperator_20 rfl rfl ?_
      refine z_getR (pc := 21) C fX5_10 sh0 rfl dX5_defineOperator_21 ?_
      refine z_iload_n (pc := 24) C dX5_defineOperator_24 rfl rfl ?_
      refine z_iload_n (pc := 25) C dX5_defineOperator_25 rfl rfl ?_
      refine z_iconst (pc := 26) C dX5_defineOperator_26 ?_
      refine z_icmp_ne (pc := 27) C 34 hb (zRgL rfl) dX5_defineOperator_27 rfl (fun c_27 => ?_) (fun c_27 => ?_)
      · refine z_iconst (pc := 34) C dX5_defineOperator_34 ?_
        refine z_callVp (pc := 35) (rest := []) C (C_X1_find E σ hR a ha 0 (Or.inl rfl) hI) vX5_76 (by decide) sh1 rfl rfl rfl (Nat.le_of_ble_eq_true rfl) dX5_defineOperator_35 (fun r_35 g_35 hp_35 => ?_)
        refine z_iconst (pc := 38) C dX5_defineOperator_38 ?_
        refine z_icmp_eq (pc := 39) C 45 g_35 (zRgL rfl) dX5_defineOperator_39 rfl (fun c_39 => ?_) (fun c_39 => ?_)
        · refine z_aload_nZ (pc := 45) C dX5_defineOperator_45 rfl rfl ?_
          refine z_getR (pc := 46) C fX5_10 sh0 rfl dX5_defineOperator_46 ?_
          refine z_iload_n (pc := 49) C dX5_defineOperator_49 rfl rfl ?_
          refine z_iload_n (pc := 50) C dX5_defineOperator_50 rfl rfl ?_
          refine z_iload_n (pc := 51) C dX5_defineOperator_51 rfl rfl ?_
          refine z_callVi (pc := 52) (rest := []) C (C_X1_add E σ hR a ha b hb c hc hI (by (try unfold zRg at *); (try simp only [IX] at *); omega)) vX5_80 (by decide) sh1 rfl rfl rfl (Nat.le_of_ble_eq_true rfl) dX5_defineOperator_52 (fun r_52 σ_52 g_52 hR_52 hp_52 => ?_)
          refine z_istore (pc := 55) (lv' := [some (zrf E 0), some (ziv a), some (ziv b), some (ziv c), some (ziv r_52)]) C hN dX5_defineOperator_55 (by decide) rfl ?_
          refine z_iload (pc := 57) C dX5_defineOperator_57 rfl ?_
          refine z_iconst (pc := 59) C dX5_defineOperator_59 ?_
          refine z_icmp_ne (pc := 60) C 68 g_52 (zRgL rfl) dX5_defineOperator_60 rfl (fun c_60 => ?_) (fun c_60 => ?_)
          · refine z_iload (pc := 68) C dX5_defineOperator_68 rfl ?_
            refine hret 70 _ _ _ dX5_defineOperator_70 g_52 hR_52 ?_
            obtain ⟨hp1, hp2⟩ := hp_52
            unfold xdefine
            rw [if_neg (by simp only [Decidable.not_not]; assumption), if_neg (by simp only [Decidable.not_not]; assumption)]
            first
            | (rw [if_pos c_27, if_neg (by rw [← hp_35]; omega)])
            | (rw [if_neg c_27, if_neg (by rw [← hp_35]; omega)])
            split at hp1
            · rw [if_pos (by assumption)]; exact ⟨by omega, by rw [hp2]; unfold xopadd; rw [if_pos (by assumption)]⟩
            · rw [if_neg (by assumption)]; have h9 := hI.ops; exact ⟨by show _ = σ 1 5; omega, hp2⟩
          · refine z_bipush (pc := 63) C dX5_defineOperator_63 (by decide) ?_
            refine z_goto (pc := 65) C 70 dX5_defineOperator_65 rfl ?_
            refine hret 70 _ _ _ dX5_defineOperator_70 (zRgL rfl) hR_52 ?_
            obtain ⟨hp1, hp2⟩ := hp_52
            unfold xdefine
            rw [if_neg (by simp only [Decidable.not_not]; assumption), if_neg (by simp only [Decidable.not_not]; assumption)]
            first
            | (rw [if_pos c_27, if_neg (by rw [← hp_35]; omega)])
            | (rw [if_neg c_27, if_neg (by rw [← hp_35]; omega)])
            split at hp1
            · rw [if_pos (by assumption)]; exact ⟨by omega, by rw [hp2]; unfold xopadd; rw [if_pos (by assumption)]⟩
            · rw [if_neg (by assumption)]; have h9 := hI.ops; exact ⟨by show _ = σ 1 5; omega, hp2⟩
        · refine z_bipush (pc := 42) C dX5_defineOperator_42 (by decide) ?_
          refine hret 44 _ _ _ dX5_defineOperator_44 (zRgL rfl) hR ?_
          unfold xdefine
          rw [if_neg (by simp only [Decidable.not_not]; assumption), if_neg (by simp only [Decidable.not_not]; assumption)]
          first
          | (rw [if_pos c_27, if_pos (by rw [← hp_35]; assumption)]; exact ⟨rfl, rfl⟩)
          | (rw [if_neg c_27, if_pos (by rw [← hp_35]; assumption)]; exact ⟨rfl, rfl⟩)
      · refine z_iconst (pc := 30) C dX5_defineOperator_30 ?_
        refine z_goto (pc := 31) C 35 dX5_defineOperator_31 rfl ?_
        refine z_callVp (pc := 35) (rest := []) C (C_X1_find E σ hR a ha 1 (Or.inr rfl) hI) vX5_76 (by decide) sh1 rfl rfl rfl (Nat.le_of_ble_eq_true rfl) dX5_defineOperator_35 (fun r_35 g_35 hp_35 => ?_)
        refine z_iconst (pc := 38) C dX5_defineOperator_38 ?_
        refine z_icmp_eq (pc := 39) C 45 g_35 (zRgL rfl) dX5_defineOperator_39 rfl (fun c_39 => ?_) (fun c_39 => ?_)
        · refine z_aload_nZ (pc := 45) C dX5_defineOperator_45 rfl rfl ?_
          refine z_getR (pc := 46) C fX5_10 sh0 rfl dX5_defineOperator_46 ?_
          refine z_iload_n (pc := 49) C dX5_defineOperator_49 rfl rfl ?_
          refine z_iload_n (pc := 50) C dX5_defineOperator_50 rfl rfl ?_
          refine z_iload_n (pc := 51) C dX5_defineOperator_51 rfl rfl ?_
          refine z_callVi (pc := 52) (rest := []) C (C_X1_add E σ hR a ha b hb c hc hI (by (try unfold zRg at *); (try simp only [IX] at *); omega)) vX5_80 (by decide) sh1 rfl rfl rfl (Nat.le_of_ble_eq_true rfl) dX5_defineOperator_52 (fun r_52 σ_52 g_52 hR_52 hp_52 => ?_)
          refine z_istore (pc := 55) (lv' := [some (zrf E 0), some (ziv a), some (ziv b), some (ziv c), some (ziv r_52)]) C hN dX5_defineOperator_55 (by decide) rfl ?_
          refine z_iload (pc := 57) C dX5_defineOperator_57 rfl ?_
          refine z_iconst (pc := 59) C dX5_defineOperator_59 ?_
          refine z_icmp_ne (pc := 60) C 68 g_52 (zRgL rfl) dX5_defineOperator_60 rfl (fun c_60 => ?_) (fun c_60 => ?_)
          · refine z_iload (pc := 68) C dX5_defineOperator_68 rfl ?_
            refine hret 70 _ _ _ dX5_defineOperator_70 g_52 hR_52 ?_
            obtain ⟨hp1, hp2⟩ := hp_52
            unfold xdefine
            rw [if_neg (by simp only [Decidable.not_not]; assumption), if_neg (by simp only [Decidable.not_not]; assumption)]
            first
            | (rw [if_pos c_27, if_neg (by rw [← hp_35]; omega)])
            | (rw [if_neg c_27, if_neg (by rw [← hp_35]; omega)])
            split at hp1
            · rw [if_pos (by assumption)]; exact ⟨by omega, by rw [hp2]; unfold xopadd; rw [if_pos (by assumption)]⟩
            · rw [if_neg (by assumption)]; have h9 := hI.ops; exact ⟨by show _ = σ 1 5; omega, hp2⟩
          · refine z_bipush (pc := 63) C dX5_defineOperator_63 (by decide) ?_
            refine z_goto (pc := 65) C 70 dX5_defineOperator_65 rfl ?_
            refine hret 70 _ _ _ dX5_defineOperator_70 (zRgL rfl) hR_52 ?_
            obtain ⟨hp1, hp2⟩ := hp_52
            unfold xdefine
            rw [if_neg (by simp only [Decidable.not_not]; assumption), if_neg (by simp only [Decidable.not_not]; assumption)]
            first
            | (rw [if_pos c_27, if_neg (by rw [← hp_35]; omega)])
            | (rw [if_neg c_27, if_neg (by rw [← hp_35]; omega)])
            split at hp1
            · rw [if_pos (by assumption)]; exact ⟨by omega, by rw [hp2]; unfold xopadd; rw [if_pos (by assumption)]⟩
            · rw [if_neg (by assumption)]; have h9 := hI.ops; exact ⟨by show _ = σ 1 5; omega, hp2⟩
        · refine z_bipush (pc := 42) C dX5_defineOperator_42 (by decide) ?_
          refine hret 44 _ _ _ dX5_defineOperator_44 (zRgL rfl) hR ?_
          unfold xdefine
          rw [if_neg (by simp only [Decidable.not_not]; assumption), if_neg (by simp only [Decidable.not_not]; assumption)]
          first
          | (rw [if_pos c_27, if_pos (by rw [← hp_35]; assumption)]; exact ⟨rfl, rfl⟩)
          | (rw [if_neg c_27, if_pos (by rw [← hp_35]; assumption)]; exact ⟨rfl, rfl⟩)
    · have c_14 := zb0 hp_11 c_14
      refine z_bipush (pc := 17) C dX5_defineOperator_17 (by decide) ?_
      refine hret 19 _ _ _ dX5_defineOperator_19 (zRgL rfl) hR ?_
      unfold xdefine
      rw [if_neg (by simp only [Decidable.not_not]; assumption), if_pos (by assumption)]
      exact ⟨rfl, rfl⟩
  · have c_4 := zb0 hp_1 c_4
    refine z_bipush (pc := 7) C dX5_defineOperator_7 (by decide) ?_
    refine hret 9 _ _ _ dX5_defineOperator_9 (zRgL rfl) hR ?_
    unfold xdefine
    repeat (first | rw [if_pos (by first | assumption | omega)] | rw [if_neg (by first | assumption | omega)])
    refine ⟨?_, ?_⟩ <;> (first | rfl | assumption | (dsimp only; omega) | (simp_all; done) | grind)
set_option maxRecDepth 20000 in
theorem C_X5_defineInfix (E : ZE) (σ : ZSt) (hR : zRs σ) (a : Int) (ha : zRg a) (c : Int) (hc : zRg c) (hI : IX σ) : ZMi E 3 yX5_defineInfix cX5_defineInfix 3 (some .int) [zrf E 0, ziv a, ziv c] σ (fun r σ' => r = (xdefine σ a 0 c).1 ∧ σ' = (xdefine σ a 0 c).2) := by
  refine ZMi.intro (by decide) rfl (Nat.le_of_ble_eq_true rfl) (fun Γ C hN hret => ?_)
  show ZG E Γ 0 [some (zrf E 0), some (ziv a), some (ziv c)] [] σ
  refine z_aload_nZ (pc := 0) C dX5_defineInfix_0 rfl rfl ?_
  refine z_iload_n (pc := 1) C dX5_defineInfix_1 rfl rfl ?_
  refine z_iconst (pc := 2) C dX5_defineInfix_2 ?_
  refine z_iload_n (pc := 3) C dX5_defineInfix_3 rfl rfl ?_
  refine z_callVi (pc := 4) (rest := []) C (C_X5_defineOperator E σ hR a ha 0 (zRgL rfl) c hc hI) vX5_65 (by decide) sh0 rfl rfl rfl (Nat.le_of_ble_eq_true rfl) dX5_defineInfix_4 (fun r_4 σ_4 g_4 hR_4 hp_4 => ?_)
  refine hret 7 _ _ _ dX5_defineInfix_7 g_4 hR_4 ?_
  assumption
set_option maxRecDepth 20000 in
theorem C_X5_definePrefix (E : ZE) (σ : ZSt) (hR : zRs σ) (a : Int) (ha : zRg a) (c : Int) (hc : zRg c) (hI : IX σ) : ZMi E 3 yX5_definePrefix cX5_definePrefix 3 (some .int) [zrf E 0, ziv a, ziv c] σ (fun r σ' => r = (xdefine σ a 1 c).1 ∧ σ' = (xdefine σ a 1 c).2) := by
  refine ZMi.intro (by decide) rfl (Nat.le_of_ble_eq_true rfl) (fun Γ C hN hret => ?_)
  show ZG E Γ 0 [some (zrf E 0), some (ziv a), some (ziv c)] [] σ
  refine z_aload_nZ (pc := 0) C dX5_definePrefix_0 rfl rfl ?_
  refine z_iload_n (pc := 1) C dX5_definePrefix_1 rfl rfl ?_
  refine z_iconst (pc := 2) C dX5_definePrefix_2 ?_
  refine z_iload_n (pc := 3) C dX5_definePrefix_3 rfl rfl ?_
  refine z_callVi (pc := 4) (rest := []) C (C_X5_defineOperator E σ hR a ha 1 (zRgL rfl) c hc hI) vX5_65 (by decide) sh0 rfl rfl rfl (Nat.le_of_ble_eq_true rfl) dX5_definePrefix_4 (fun r_4 σ_4 g_4 hR_4 hp_4 => ?_)
  refine hret 7 _ _ _ dX5_definePrefix_7 g_4 hR_4 ?_
  assumption
set_option maxRecDepth 20000 in
theorem C_X5_definePostfix (E : ZE) (σ : ZSt) (hR : zRs σ) (a : Int) (ha : zRg a) (c : Int) (hc : zRg c) (hI : IX σ) : ZMi E 3 yX5_definePostfix cX5_definePostfix 3 (some .int) [zrf E 0, ziv a, ziv c] σ (fun r σ' => r = (xdefine σ a 2 c).1 ∧ σ' = (xdefine σ a 2 c).2) := by
  refine ZMi.intro (by decide) rfl (Nat.le_of_ble_eq_true rfl) (fun Γ C hN hret => ?_)
  show ZG E Γ 0 [some (zrf E 0), some (ziv a), some (ziv c)] [] σ
  refine z_aload_nZ (pc := 0) C dX5_definePostfix_0 rfl rfl ?_
  refine z_iload_n (pc := 1) C dX5_definePostfix_1 rfl rfl ?_
  refine z_iconst (pc := 2) C dX5_definePostfix_2 ?_
  refine z_iload_n (pc := 3) C dX5_definePostfix_3 rfl rfl ?_
  refine z_callVi (pc := 4) (rest := []) C (C_X5_defineOperator E σ hR a ha 2 (zRgL rfl) c hc hI) vX5_65 (by decide) sh0 rfl rfl rfl (Nat.le_of_ble_eq_true rfl) dX5_definePostfix_4 (fun r_4 σ_4 g_4 hR_4 hp_4 => ?_)
  refine hret 7 _ _ _ dX5_definePostfix_7 g_4 hR_4 ?_
  assumption
set_option maxRecDepth 20000 in
theorem C_X5_operatorCount (E : ZE) (σ : ZSt) (hR : zRs σ) : ZMi E 1 yX5_operatorCount cX5_operatorCount 1 (some .int) [zrf E 0] σ (fun r σ' => (r = σ 1 5) ∧ σ' = σ) := by
  refine ZMi.intro (by decide) rfl (Nat.le_of_ble_eq_true rfl) (fun Γ C hN hret => ?_)
  show ZG E Γ 0 [some (zrf E 0)] [] σ
  refine z_aload_nZ (pc := 0) C dX5_operatorCount_0 rfl rfl ?_
  refine z_getR (pc := 1) C fX5_10 sh0 rfl dX5_operatorCount_1 ?_
  refine z_callVp (pc := 4) (rest := []) C (C_X1_count E σ hR) vX5_83 (by decide) sh1 rfl rfl rfl (Nat.le_of_ble_eq_true rfl) dX5_operatorCount_4 (fun r_4 g_4 hp_4 => ?_)
  refine hret 7 _ _ _ dX5_operatorCount_7 g_4 hR ?_
  exact ⟨by assumption, rfl⟩
set_option maxRecDepth 20000 in
theorem C_X5_symbol (E : ZE) (σ : ZSt) (hR : zRs σ) (a : Int) (ha : zRg a) (hI : IX σ) : ZMi E 2 yX5_symbol cX5_symbol 2 (some .int) [zrf E 0, ziv a] σ (fun r σ' => (r = if 0 ≤ a ∧ a < σ 1 5 then xsym σ a else -2) ∧ σ' = σ) := by
  refine ZMi.intro (by decide) rfl (Nat.le_of_ble_eq_true rfl) (fun Γ C hN hret => ?_)
  show ZG E Γ 0 [some (zrf E 0), some (ziv a)] [] σ
  refine z_aload_nZ (pc := 0) C dX5_symbol_0 rfl rfl ?_
  refine z_getR (pc := 1) C fX5_10 sh0 rfl dX5_symbol_1 ?_
  refine z_iload_n (pc := 4) C dX5_symbol_4 rfl rfl ?_
  refine z_callVp (pc := 5) (rest := []) C (C_X1_has E σ hR a ha) vX5_87 (by decide) sh1 rfl rfl rfl (Nat.le_of_ble_eq_true rfl) dX5_symbol_5 (fun r_5 g_5 hp_5 => ?_)
  refine z_if_eq (pc := 8) C 22 g_5 dX5_symbol_8 rfl (fun c_8 => ?_) (fun c_8 => ?_)
  · have c_8 := zb0 hp_5 c_8
    refine z_bipush (pc := 22) C dX5_symbol_22 (by decide) ?_
    refine hret 24 _ _ _ dX5_symbol_24 (zRgL rfl) hR ?_
    exact ⟨by first | (rw [if_pos (by assumption)]; assumption) | rw [if_neg (by assumption)], rfl⟩
  · have c_8 := zb1 hp_5 c_8
    refine z_aload_nZ (pc := 11) C dX5_symbol_11 rfl rfl ?_
    refine z_getR (pc := 12) C fX5_10 sh0 rfl dX5_symbol_12 ?_
    refine z_iload_n (pc := 15) C dX5_symbol_15 rfl rfl ?_
    refine z_callVp (pc := 16) (rest := []) C (C_X1_symbolAt E σ hR a ha hI) vX5_90 (by decide) sh1 rfl rfl rfl (Nat.le_of_ble_eq_true rfl) dX5_symbol_16 (fun r_16 g_16 hp_16 => ?_)
    refine z_goto (pc := 19) C 24 dX5_symbol_19 rfl ?_
    refine hret 24 _ _ _ dX5_symbol_24 g_16 hR ?_
    exact ⟨by first | (rw [if_pos (by assumption)]; assumption) | rw [if_neg (by assumption)], rfl⟩
set_option maxRecDepth 20000 in
theorem C_X5_kind (E : ZE) (σ : ZSt) (hR : zRs σ) (a : Int) (ha : zRg a) (hI : IX σ) : ZMi E 2 yX5_kind cX5_kind 2 (some .int) [zrf E 0, ziv a] σ (fun r σ' => (r = if 0 ≤ a ∧ a < σ 1 5 then xkind σ a else -2) ∧ σ' = σ) := by
  refine ZMi.intro (by decide) rfl (Nat.le_of_ble_eq_true rfl) (fun Γ C hN hret => ?_)
  show ZG E Γ 0 [some (zrf E 0), some (ziv a)] [] σ
  refine z_aload_nZ (pc := 0) C dX5_kind_0 rfl rfl ?_
  refine z_getR (pc := 1) C fX5_10 sh0 rfl dX5_kind_1 ?_
  refine z_iload_n (pc := 4) C dX5_kind_4 rfl rfl ?_
  refine z_callVp (pc := 5) (rest := []) C (C_X1_has E σ hR a ha) vX5_87 (by decide) sh1 rfl rfl rfl (Nat.le_of_ble_eq_true rfl) dX5_kind_5 (fun r_5 g_5 hp_5 => ?_)
  refine z_if_eq (pc := 8) C 22 g_5 dX5_kind_8 rfl (fun c_8 => ?_) (fun c_8 => ?_)
  · have c_8 := zb0 hp_5 c_8
    refine z_bipush (pc := 22) C dX5_kind_22 (by decide) ?_
    refine hret 24 _ _ _ dX5_kind_24 (zRgL rfl) hR ?_
    exact ⟨by first | (rw [if_pos (by assumption)]; assumption) | rw [if_neg (by assumption)], rfl⟩
  · have c_8 := zb1 hp_5 c_8
    refine z_aload_nZ (pc := 11) C dX5_kind_11 rfl rfl ?_
    refine z_getR (pc := 12) C fX5_10 sh0 rfl dX5_kind_12 ?_
    refine z_iload_n (pc := 15) C dX5_kind_15 rfl rfl ?_
    refine z_callVp (pc := 16) (rest := []) C (C_X1_kindAt E σ hR a ha hI) vX5_94 (by decide) sh1 rfl rfl rfl (Nat.le_of_ble_eq_true rfl) dX5_kind_16 (fun r_16 g_16 hp_16 => ?_)
    refine z_goto (pc := 19) C 24 dX5_kind_19 rfl ?_
    refine hret 24 _ _ _ dX5_kind_24 g_16 hR ?_
    exact ⟨by first | (rw [if_pos (by assumption)]; assumption) | rw [if_neg (by assumption)], rfl⟩
set_option maxRecDepth 20000 in
theorem C_X5_setLevel (E : ZE) (σ : ZSt) (hR : zRs σ) (a : Int) (ha : zRg a) (b : Int) (hb : zRg b) (hI : IX σ) : ZMi E 3 yX5_setLevel cX5_setLevel 3 (some .int) [zrf E 0, ziv a, ziv b] σ (fun r σ' => r = (xsetlev σ a b).1 ∧ σ' = (xsetlev σ a b).2) := by
  refine ZMi.intro (by decide) rfl (Nat.le_of_ble_eq_true rfl) (fun Γ C hN hret => ?_)
  show ZG E Γ 0 [some (zrf E 0), some (ziv a), some (ziv b)] [] σ
  refine z_aload_nZ (pc := 0) C dX5_setLevel_0 rfl rfl ?_
  refine z_getR (pc := 1) C fX5_10 sh0 rfl dX5_setLevel_1 ?_
  refine z_iload_n (pc := 4) C dX5_setLevel_4 rfl rfl ?_
  refine z_callVp (pc := 5) (rest := []) C (C_X1_has E σ hR a ha) vX5_87 (by decide) sh1 rfl rfl rfl (Nat.le_of_ble_eq_true rfl) dX5_setLevel_5 (fun r_5 g_5 hp_5 => ?_)
  refine z_if_ne (pc := 8) C 14 g_5 dX5_setLevel_8 rfl (fun c_8 => ?_) (fun c_8 => ?_)
  · have c_8 := zb1 hp_5 c_8
    refine z_iload_n (pc := 14) C dX5_setLevel_14 rfl rfl ?_
    refine z_callSp (pc := 15) (rest := []) C (C_X5_isLevel E σ hR b hb) vX5_73 (by decide) rfl rfl (Nat.le_of_ble_eq_true rfl) dX5_setLevel_15 (fun r_15 g_15 hp_15 => ?_)
    refine z_if_ne (pc := 18) C 24 g_15 dX5_setLevel_18 rfl (fun c_18 => ?_) (fun c_18 => ?_)
    · have c_18 := zb1 hp_15 c_18
      refine z_aload_nZ (pc := 24) C dX5_setLevel_24 rfl rfl ?_
      refine z_getR (pc := 25) C fX5_10 sh0 rfl dX5_setLevel_25 ?_
      refine z_iload_n (pc := 28) C dX5_setLevel_28 rfl rfl ?_
      refine z_iload_n (pc := 29) C dX5_setLevel_29 rfl rfl ?_
      refine z_callVi (pc := 30) (rest := []) C (C_X1_replaceLevel E σ hR a ha b hb hI (by (try unfold zRg at *); (try simp only [IX] at *); omega)) vX5_97 (by decide) sh1 rfl rfl rfl (Nat.le_of_ble_eq_true rfl) dX5_setLevel_30 (fun r_30 σ_30 g_30 hR_30 hp_30 => ?_)
      refine hret 33 _ _ _ dX5_setLevel_33 g_30 hR_30 ?_
      unfold xsetlev
      rw [if_neg (by simp only [Decidable.not_not]; assumption), if_neg (by simp only [Decidable.not_not]; assumption)]
      exact ⟨hp_30.1, by rw [hp_30.2, if_pos (by assumption)]⟩
    · have c_18 := zb0 hp_15 c_18
      refine z_bipush (pc := 21) C dX5_setLevel_21 (by decide) ?_
      refine hret 23 _ _ _ dX5_setLevel_23 (zRgL rfl) hR ?_
      unfold xsetlev
      repeat (first | rw [if_pos (by first | assumption | omega)] | rw [if_neg (by first | assumption | omega)])
      refine ⟨?_, ?_⟩ <;> (first | rfl | assumption | (dsimp only; omega) | (simp_all; done) | grind)
  · have c_8 := zb0 hp_5 c_8
    refine z_bipush (pc := 11) C dX5_setLevel_11 (by decide) ?_
    refine hret 13 _ _ _ dX5_setLevel_13 (zRgL rfl) hR ?_
    unfold xsetlev
    repeat (first | rw [if_pos (by first | assumption | omega)] | rw [if_neg (by first | assumption | omega)])
    refine ⟨?_, ?_⟩ <;> (first | rfl | assumption | (dsimp only; omega) | (simp_all; done) | grind)
set_option maxRecDepth 20000 in
theorem C_X5_setAssociativity (E : ZE) (σ : ZSt) (hR : zRs σ) (a : Int) (ha : zRg a) (b : Int) (hb : zRg b) (hI : IX σ) : ZMi E 3 yX5_setAssociativity cX5_setAssociativity 3 (some .int) [zrf E 0, ziv a, ziv b] σ (fun r σ' => r = (xsetasc σ a b).1 ∧ σ' = (xsetasc σ a b).2) := by
  refine ZMi.intro (by decide) rfl (Nat.le_of_ble_eq_true rfl) (fun Γ C hN hret => ?_)
  show ZG E Γ 0 [some (zrf E 0), some (ziv a), some (ziv b)] [] σ
  refine z_iload_n (pc := 0) C dX5_setAssociativity_0 rfl rfl ?_
  refine z_callSp (pc := 1) (rest := []) C (C_X5_isLevel E σ hR a ha) vX5_73 (by decide) rfl rfl (Nat.le_of_ble_eq_true rfl) dX5_setAssociativity_1 (fun r_1 g_1 hp_1 => ?_)
  refine z_if_eq (pc := 4) C 16 g_1 dX5_setAssociativity_4 rfl (fun c_4 => ?_) (fun c_4 => ?_)
  · have c_4 := zb0 hp_1 c_4
    refine z_bipush (pc := 16) C dX5_setAssociativity_16 (by decide) ?_
    refine hret 18 _ _ _ dX5_setAssociativity_18 (zRgL rfl) hR ?_
    unfold xsetasc
    repeat (first | rw [if_pos (by first | assumption | omega)] | rw [if_neg (by first | assumption | omega)])
    refine ⟨?_, ?_⟩ <;> (first | rfl | assumption | (dsimp only; omega) | (simp_all; done) | grind)
  · have c_4 := zb1 hp_1 c_4
    refine z_iload_n (pc := 7) C dX5_setAssociativity_7 rfl rfl ?_
    refine z_if_lt (pc := 8) C 16 hb dX5_setAssociativity_8 rfl (fun c_8 => ?_) (fun c_8 => ?_)
    · refine z_bipush (pc := 16) C dX5_setAssociativity_16 (by decide) ?_
      refine hret 18 _ _ _ dX5_setAssociativity_18 (zRgL rfl) hR ?_
      unfold xsetasc
      repeat (first | rw [if_pos (by first | assumption | omega)] | rw [if_neg (by first | assumption | omega)])
      refine ⟨?_, ?_⟩ <;> (first | rfl | assumption | (dsimp only; omega) | (simp_all; done) | grind)
    · refine z_iload_n (pc := 11) C dX5_setAssociativity_11 rfl rfl ?_
      refine z_iconst (pc := 12) C dX5_setAssociativity_12 ?_
      refine z_icmp_le (pc := 13) C 19 hb (zRgL rfl) dX5_setAssociativity_13 rfl (fun c_13 => ?_) (fun c_13 => ?_)
      · refine z_aload_nZ (pc := 19) C dX5_setAssociativity_19 rfl rfl ?_
        refine z_getR (pc := 20) C fX5_10 sh0 rfl dX5_setAssociativity_20 ?_
        refine z_iload_n (pc := 23) C dX5_setAssociativity_23 rfl rfl ?_
        refine z_iload_n (pc := 24) C dX5_setAssociativity_24 rfl rfl ?_
        refine z_callVi (pc := 25) (rest := []) C (C_X1_replaceAssociativity E σ hR a ha b hb hI) vX5_101 (by decide) sh1 rfl rfl rfl (Nat.le_of_ble_eq_true rfl) dX5_setAssociativity_25 (fun r_25 σ_25 g_25 hR_25 hp_25 => ?_)
        refine hret 28 _ _ _ dX5_setAssociativity_28 g_25 hR_25 ?_
        unfold xsetasc
        rw [if_neg (by omega)]
        exact ⟨hp_25.1, by rw [hp_25.2, if_pos (by omega)]⟩
      · refine z_bipush (pc := 16) C dX5_setAssociativity_16 (by decide) ?_
        refine hret 18 _ _ _ dX5_setAssociativity_18 (zRgL rfl) hR ?_
        unfold xsetasc
        repeat (first | rw [if_pos (by first | assumption | omega)] | rw [if_neg (by first | assumption | omega)])
        refine ⟨?_, ?_⟩ <;> (first | rfl | assumption | (dsimp only; omega) | (simp_all; done) | grind)
set_option maxRecDepth 20000 in
theorem C_X5_setForbidden (E : ZE) (σ : ZSt) (hR : zRs σ) (a : Int) (ha : zRg a) (b : Int) (hb : zRg b) (c : Int) (hc : c = 0 ∨ c = 1) (hI : IX σ) : ZMi E 3 yX5_setForbidden cX5_setForbidden 4 (some .int) [zrf E 0, ziv a, ziv b, ziv c] σ (fun r σ' => r = (xsetforb σ a b c).1 ∧ σ' = (xsetforb σ a b c).2) := by
  refine ZMi.intro (by decide) rfl (Nat.le_of_ble_eq_true rfl) (fun Γ C hN hret => ?_)
  show ZG E Γ 0 [some (zrf E 0), some (ziv a), some (ziv b), some (ziv c)] [] σ
  refine z_aload_nZ (pc := 0) C dX5_setForbidden_0 rfl rfl ?_
  refine z_getR (pc := 1) C fX5_10 sh0 rfl dX5_setForbidden_1 ?_
  refine z_iload_n (pc := 4) C dX5_setForbidden_4 rfl rfl ?_
  refine z_callVp (pc := 5) (rest := []) C (C_X1_has E σ hR a ha) vX5_87 (by decide) sh1 rfl rfl rfl (Nat.le_of_ble_eq_true rfl) dX5_setForbidden_5 (fun r_5 g_5 hp_5 => ?_)
  refine z_if_eq (pc := 8) C 22 g_5 dX5_setForbidden_8 rfl (fun c_8 => ?_) (fun c_8 => ?_)
  · have c_8 := zb0 hp_5 c_8
    refine z_bipush (pc := 22) C dX5_setForbidden_22 (by decide) ?_
    refine hret 24 _ _ _ dX5_setForbidden_24 (zRgL rfl) hR ?_
    unfold xsetforb
    rw [if_pos (by omega)]
    exact ⟨rfl, rfl⟩
  · have c_8 := zb1 hp_5 c_8
    refine z_aload_nZ (pc := 11) C dX5_setForbidden_11 rfl rfl ?_
    refine z_getR (pc := 12) C fX5_10 sh0 rfl dX5_setForbidden_12 ?_
    refine z_iload_n (pc := 15) C dX5_setForbidden_15 rfl rfl ?_
    refine z_callVp (pc := 16) (rest := []) C (C_X1_has E σ hR b hb) vX5_87 (by decide) sh1 rfl rfl rfl (Nat.le_of_ble_eq_true rfl) dX5_setForbidden_16 (fun r_16 g_16 hp_16 => ?_)
    refine z_if_ne (pc := 19) C 25 g_16 dX5_setForbidden_19 rfl (fun c_19 => ?_) (fun c_19 => ?_)
    · have c_19 := zb1 hp_16 c_19
      refine z_aload_nZ (pc := 25) C dX5_setForbidden_25 rfl rfl ?_
      refine z_getR (pc := 26) C fX5_10 sh0 rfl dX5_setForbidden_26 ?_
      refine z_iload_n (pc := 29) C dX5_setForbidden_29 rfl rfl ?_
      refine z_iload_n (pc := 30) C dX5_setForbidden_30 rfl rfl ?_
      refine z_iload_n (pc := 31) C dX5_setForbidden_31 rfl rfl ?_
      refine z_callVi (pc := 32) (rest := []) C (C_X1_replaceForbidden E σ hR a ha b hb c hc hI) vX5_104 (by decide) sh1 rfl rfl rfl (Nat.le_of_ble_eq_true rfl) dX5_setForbidden_32 (fun r_32 σ_32 g_32 hR_32 hp_32 => ?_)
      refine z_if_eq (pc := 35) C 42 g_32 dX5_setForbidden_35 rfl (fun c_35 => ?_) (fun c_35 => ?_)
      · have c_35 := zb0 hp_32.1 c_35
        refine z_iconst (pc := 42) C dX5_setForbidden_42 ?_
        refine hret 43 _ _ _ dX5_setForbidden_43 (zRgL rfl) hR_32 ?_
        unfold xsetforb
        rw [if_neg (by simp only [Decidable.not_not]; exact ⟨by assumption, by assumption⟩)]
        refine ⟨?_, ?_⟩
        · first | exact zb_one (by assumption) | exact zb_zero (by assumption)
        · rw [hp_32.2, if_pos ⟨by assumption, by assumption⟩]
      · have c_35 := zb1 hp_32.1 c_35
        refine z_iconst (pc := 38) C dX5_setForbidden_38 ?_
        refine z_goto (pc := 39) C 43 dX5_setForbidden_39 rfl ?_
        refine hret 43 _ _ _ dX5_setForbidden_43 (zRgL rfl) hR_32 ?_
        unfold xsetforb
        rw [if_neg (by simp only [Decidable.not_not]; exact ⟨by assumption, by assumption⟩)]
        refine ⟨?_, ?_⟩
        · first | exact zb_one (by assumption) | exact zb_zero (by assumption)
        · rw [hp_32.2, if_pos ⟨by assumption, by assumption⟩]
    · have c_19 := zb0 hp_16 c_19
      refine z_bipush (pc := 22) C dX5_setForbidden_22 (by decide) ?_
      refine hret 24 _ _ _ dX5_setForbidden_24 (zRgL rfl) hR ?_
      unfold xsetforb
      rw [if_pos (by omega)]
      exact ⟨rfl, rfl⟩
set_option maxRecDepth 20000 in
theorem C_X5_leaf (E : ZE) (σ : ZSt) (hR : zRs σ) (a : Int) (ha : zRg a) (hI : IX σ) : ZMi E 3 yX5_leaf cX5_leaf 2 (some .int) [zrf E 0, ziv a] σ (fun r σ' => r = (xleaf σ a).1 ∧ σ' = (xleaf σ a).2) := by
  refine ZMi.intro (by decide) rfl (Nat.le_of_ble_eq_true rfl) (fun Γ C hN hret => ?_)
  show ZG E Γ 0 [some (zrf E 0), some (ziv a)] [] σ
  refine z_iload_n (pc := 0) C dX5_leaf_0 rfl rfl ?_
  refine z_callSp (pc := 1) (rest := []) C (C_X5_isLetter E σ hR a ha) vX5_108 (by decide) rfl rfl (Nat.le_of_ble_eq_true rfl) dX5_leaf_1 (fun r_1 g_1 hp_1 => ?_)
  refine z_if_ne (pc := 4) C 10 g_1 dX5_leaf_4 rfl (fun c_4 => ?_) (fun c_4 => ?_)
  · have c_4 := zb1 hp_1 c_4
    refine z_aload_nZ (pc := 10) C dX5_leaf_10 rfl rfl ?_
    refine z_getR (pc := 11) C fX5_19 sh0 rfl dX5_leaf_11 ?_
    refine z_callVp (pc := 14) (rest := []) C (C_X0_count E σ hR 7 (Or.inl rfl)) vX5_111 (by decide) sh7 rfl rfl rfl (Nat.le_of_ble_eq_true rfl) dX5_leaf_14 (fun r_14 g_14 hp_14 => ?_)
    refine z_bipush (pc := 17) C dX5_leaf_17 (by decide) ?_
    refine z_icmp_lt (pc := 19) C 25 g_14 (zRgL rfl) dX5_leaf_19 rfl (fun c_19 => ?_) (fun c_19 => ?_)
    · refine z_aload_nZ (pc := 25) C dX5_leaf_25 rfl rfl ?_
      refine z_getR (pc := 26) C fX5_19 sh0 rfl dX5_leaf_26 ?_
      refine z_iconst (pc := 29) C dX5_leaf_29 ?_
      refine z_iload_n (pc := 30) C dX5_leaf_30 rfl rfl ?_
      refine z_iconst (pc := 31) C dX5_leaf_31 ?_
      refine z_iconst (pc := 32) C dX5_leaf_32 ?_
      refine z_callVi (pc := 33) (rest := []) C (C_X0_add E σ hR 7 (Or.inl rfl) (-1) (zRgL rfl) a ha (-1) (zRgL rfl) (-1) (zRgL rfl) hI) vX5_112 (by decide) sh7 rfl rfl rfl (Nat.le_of_ble_eq_true rfl) dX5_leaf_33 (fun r_33 σ_33 g_33 hR_33 hp_33 => ?_)
      refine hret 36 _ _ _ dX5_leaf_36 g_33 hR_33 ?_
      unfold xleaf
      rw [if_neg (by omega), if_neg (by omega)]
      exact ⟨by rw [hp_33.1]; exact xnaddr_lt (by omega), hp_33.2⟩
    · refine z_bipush (pc := 22) C dX5_leaf_22 (by decide) ?_
      refine hret 24 _ _ _ dX5_leaf_24 (zRgL rfl) hR ?_
      unfold xleaf
      repeat (first | rw [if_pos (by first | assumption | omega)] | rw [if_neg (by first | assumption | omega)])
      refine ⟨?_, ?_⟩ <;> (first | rfl | assumption | (dsimp only; omega) | (simp_all; done) | grind)
  · have c_4 := zb0 hp_1 c_4
    refine z_bipush (pc := 7) C dX5_leaf_7 (by decide) ?_
    refine hret 9 _ _ _ dX5_leaf_9 (zRgL rfl) hR ?_
    unfold xleaf
    repeat (first | rw [if_pos (by first | assumption | omega)] | rw [if_neg (by first | assumption | omega)])
    refine ⟨?_, ?_⟩ <;> (first | rfl | assumption | (dsimp only; omega) | (simp_all; done) | grind)
set_option maxRecDepth 20000 in
theorem C_X5_addOperatorNode (E : ZE) (σ : ZSt) (hR : zRs σ) (a : Int) (ha : zRg a) (b : Int) (hb : zRg b) (c : Int) (hc : zRg c) (hI : IX σ) (hsz : ∀ i, 0 ≤ σ 12 i ∧ σ 12 i ≤ 40) : ZMi E 3 yX5_addOperatorNode cX5_addOperatorNode 4 (some .int) [zrf E 0, ziv a, ziv b, ziv c] σ (fun r σ' => r = (xadd3 σ a b c).1 ∧ σ' = (xadd3 σ a b c).2) := by
  refine ZMi.intro (by decide) rfl (Nat.le_of_ble_eq_true rfl) (fun Γ C hN hret => ?_)
  show ZG E Γ 0 [some (zrf E 0), some (ziv a), some (ziv b), some (ziv c)] [] σ
  have hs1 := xnsz_b hsz b
  have hs2 := xnsz_b hsz c
  refine z_iconst (pc := 0) C dX5_addOperatorNode_0 ?_
  refine z_aload_nZ (pc := 1) C dX5_addOperatorNode_1 rfl rfl ?_
  refine z_getR (pc := 2) C fX5_19 sh0 rfl dX5_addOperatorNode_2 ?_
  refine z_iload_n (pc := 5) C dX5_addOperatorNode_5 rfl rfl ?_
  refine z_callVp (pc := 6) (rest := [ziv 1]) C (C_X0_sizeAt E σ hR 7 (Or.inl rfl) b hb hI) vX5_119 (by decide) sh7 rfl rfl rfl (Nat.le_of_ble_eq_true rfl) dX5_addOperatorNode_6 (fun r_6 g_6 hp_6 => ?_)
  refine z_iadd (pc := 9) C dX5_addOperatorNode_9 ?_
  refine z_aload_nZ (pc := 10) C dX5_addOperatorNode_10 rfl rfl ?_
  refine z_getR (pc := 11) C fX5_19 sh0 rfl dX5_addOperatorNode_11 ?_
  refine z_iload_n (pc := 14) C dX5_addOperatorNode_14 rfl rfl ?_
  refine z_callVp (pc := 15) (rest := [ziv (1 + r_6)]) C (C_X0_sizeAt E σ hR 7 (Or.inl rfl) c hc hI) vX5_119 (by decide) sh7 rfl rfl rfl (Nat.le_of_ble_eq_true rfl) dX5_addOperatorNode_15 (fun r_15 g_15 hp_15 => ?_)
  refine z_iadd (pc := 18) C dX5_addOperatorNode_18 ?_
  refine z_bipush (pc := 19) C dX5_addOperatorNode_19 (by decide) ?_
  refine z_icmp_le (pc := 21) C 27 (by unfold zRg; omega) (zRgL rfl) dX5_addOperatorNode_21 rfl (fun c_21 => ?_) (fun c_21 => ?_)
  · refine z_aload_nZ (pc := 27) C dX5_addOperatorNode_27 rfl rfl ?_
    refine z_getR (pc := 28) C fX5_19 sh0 rfl dX5_addOperatorNode_28 ?_
    refine z_callVp (pc := 31) (rest := []) C (C_X0_count E σ hR 7 (Or.inl rfl)) vX5_111 (by decide) sh7 rfl rfl rfl (Nat.le_of_ble_eq_true rfl) dX5_addOperatorNode_31 (fun r_31 g_31 hp_31 => ?_)
    refine z_bipush (pc := 34) C dX5_addOperatorNode_34 (by decide) ?_
    refine z_icmp_lt (pc := 36) C 42 g_31 (zRgL rfl) dX5_addOperatorNode_36 rfl (fun c_36 => ?_) (fun c_36 => ?_)
    · refine z_aload_nZ (pc := 42) C dX5_addOperatorNode_42 rfl rfl ?_
      refine z_getR (pc := 43) C fX5_19 sh0 rfl dX5_addOperatorNode_43 ?_
      refine z_iload_n (pc := 46) C dX5_addOperatorNode_46 rfl rfl ?_
      refine z_iconst (pc := 47) C dX5_addOperatorNode_47 ?_
      refine z_iload_n (pc := 48) C dX5_addOperatorNode_48 rfl rfl ?_
      refine z_iload_n (pc := 49) C dX5_addOperatorNode_49 rfl rfl ?_
      refine z_callVi (pc := 50) (rest := []) C (C_X0_add E σ hR 7 (Or.inl rfl) a ha (-1) (zRgL rfl) b hb c hc hI) vX5_112 (by decide) sh7 rfl rfl rfl (Nat.le_of_ble_eq_true rfl) dX5_addOperatorNode_50 (fun r_50 σ_50 g_50 hR_50 hp_50 => ?_)
      refine hret 53 _ _ _ dX5_addOperatorNode_53 g_50 hR_50 ?_
      unfold xadd3
      rw [if_neg (by omega), if_neg (by omega)]
      exact ⟨by rw [hp_50.1]; exact xnaddr_lt (by omega), hp_50.2⟩
    · refine z_bipush (pc := 39) C dX5_addOperatorNode_39 (by decide) ?_
      refine hret 41 _ _ _ dX5_addOperatorNode_41 (zRgL rfl) hR ?_
      unfold xadd3
      repeat (first | rw [if_pos (by first | assumption | omega)] | rw [if_neg (by first | assumption | omega)])
      refine ⟨?_, ?_⟩ <;> (first | rfl | assumption | (dsimp only; omega) | (simp_all; done) | grind)
  · refine z_bipush (pc := 24) C dX5_addOperatorNode_24 (by decide) ?_
    refine hret 26 _ _ _ dX5_addOperatorNode_26 (zRgL rfl) hR ?_
    unfold xadd3
    repeat (first | rw [if_pos (by first | assumption | omega)] | rw [if_neg (by first | assumption | omega)])
    refine ⟨?_, ?_⟩ <;> (first | rfl | assumption | (dsimp only; omega) | (simp_all; done) | grind)
set_option maxRecDepth 20000 in
theorem C_X5_unary (E : ZE) (σ : ZSt) (hR : zRs σ) (a : Int) (ha : zRg a) (b : Int) (hb : zRg b) (hI : IX σ) (hsz : ∀ i, 0 ≤ σ 12 i ∧ σ 12 i ≤ 40) : ZMi E 4 yX5_unary cX5_unary 4 (some .int) [zrf E 0, ziv a, ziv b] σ (fun r σ' => r = (xunary σ a b).1 ∧ σ' = (xunary σ a b).2) := by
  refine ZMi.intro (by decide) rfl (Nat.le_of_ble_eq_true rfl) (fun Γ C hN hret => ?_)
  show ZG E Γ 0 [some (zrf E 0), some (ziv a), some (ziv b), none] [] σ
  refine z_aload_nZ (pc := 0) C dX5_unary_0 rfl rfl ?_
  refine z_getR (pc := 1) C fX5_10 sh0 rfl dX5_unary_1 ?_
  refine z_iload_n (pc := 4) C dX5_unary_4 rfl rfl ?_
  refine z_callVp (pc := 5) (rest := []) C (C_X1_has E σ hR a ha) vX5_87 (by decide) sh1 rfl rfl rfl (Nat.le_of_ble_eq_true rfl) dX5_unary_5 (fun r_5 g_5 hp_5 => ?_)
  refine z_if_ne (pc := 8) C 14 g_5 dX5_unary_8 rfl (fun c_8 => ?_) (fun c_8 => ?_)
  · have c_8 := zb1 hp_5 c_8
    refine z_aload_nZ (pc := 14) C dX5_unary_14 rfl rfl ?_
    refine z_getR (pc := 15) C fX5_10 sh0 rfl dX5_unary_15 ?_
    refine z_iload_n (pc := 18) C dX5_unary_18 rfl rfl ?_
    refine z_callVp (pc := 19) (rest := []) C (C_X1_kindAt E σ hR a ha hI) vX5_94 (by decide) sh1 rfl rfl rfl (Nat.le_of_ble_eq_true rfl) dX5_unary_19 (fun r_19 g_19 hp_19 => ?_)
    refine z_istore_n (pc := 22) (lv' := [some (zrf E 0), some (ziv a), some (ziv b), some (ziv r_19)]) C hN dX5_unary_22 rfl (by decide) rfl ?_
    refine z_iload_n (pc := 23) C dX5_unary_23 rfl rfl ?_
    refine z_if_ne (pc := 24) C 30 g_19 dX5_unary_24 rfl (fun c_24 => ?_) (fun c_24 => ?_)
    · refine z_aload_nZ (pc := 30) C dX5_unary_30 rfl rfl ?_
      refine z_getR (pc := 31) C fX5_19 sh0 rfl dX5_unary_31 ?_
      refine z_iload_n (pc := 34) C dX5_unary_34 rfl rfl ?_
      refine z_callVp (pc := 35) (rest := []) C (C_X0_has E σ hR 7 (Or.inl rfl) b hb) vX5_115 (by decide) sh7 rfl rfl rfl (Nat.le_of_ble_eq_true rfl) dX5_unary_35 (fun r_35 g_35 hp_35 => ?_)
      refine z_if_ne (pc := 38) C 43 g_35 dX5_unary_38 rfl (fun c_38 => ?_) (fun c_38 => ?_)
      · have c_38 := zb1 hp_35 c_38
        refine z_iload_n (pc := 43) C dX5_unary_43 rfl rfl ?_
        refine z_iconst (pc := 44) C dX5_unary_44 ?_
        refine z_icmp_ne (pc := 45) C 58 g_19 (zRgL rfl) dX5_unary_45 rfl (fun c_45 => ?_) (fun c_45 => ?_)
        · refine z_aload_nZ (pc := 58) C dX5_unary_58 rfl rfl ?_
          refine z_iload_n (pc := 59) C dX5_unary_59 rfl rfl ?_
          refine z_iload_n (pc := 60) C dX5_unary_60 rfl rfl ?_
          refine z_iconst (pc := 61) C dX5_unary_61 ?_
          refine z_callVi (pc := 62) (rest := []) C (C_X5_addOperatorNode E σ hR a ha b hb (-1) (zRgL rfl) hI hsz) vX5_116 (by decide) sh0 rfl rfl rfl (Nat.le_of_ble_eq_true rfl) dX5_unary_62 (fun r_62 σ_62 g_62 hR_62 hp_62 => ?_)
          refine hret 65 _ _ _ dX5_unary_65 g_62 hR_62 ?_
          unfold xunary
          repeat (first | rw [if_pos (by first | assumption | omega)] | rw [if_neg (by first | assumption | omega)])
          refine ⟨?_, ?_⟩ <;> (first | rfl | assumption | (dsimp only; omega) | (simp_all; done) | grind)
        · refine z_aload_nZ (pc := 48) C dX5_unary_48 rfl rfl ?_
          refine z_iload_n (pc := 49) C dX5_unary_49 rfl rfl ?_
          refine z_iconst (pc := 50) C dX5_unary_50 ?_
          refine z_iload_n (pc := 51) C dX5_unary_51 rfl rfl ?_
          refine z_callVi (pc := 52) (rest := []) C (C_X5_addOperatorNode E σ hR a ha (-1) (zRgL rfl) b hb hI hsz) vX5_116 (by decide) sh0 rfl rfl rfl (Nat.le_of_ble_eq_true rfl) dX5_unary_52 (fun r_52 σ_52 g_52 hR_52 hp_52 => ?_)
          refine z_goto (pc := 55) C 65 dX5_unary_55 rfl ?_
          refine hret 65 _ _ _ dX5_unary_65 g_52 hR_52 ?_
          unfold xunary
          repeat (first | rw [if_pos (by first | assumption | omega)] | rw [if_neg (by first | assumption | omega)])
          refine ⟨?_, ?_⟩ <;> (first | rfl | assumption | (dsimp only; omega) | (simp_all; done) | grind)
      · have c_38 := zb0 hp_35 c_38
        refine z_iconst (pc := 41) C dX5_unary_41 ?_
        refine hret 42 _ _ _ dX5_unary_42 (zRgL rfl) hR ?_
        unfold xunary
        repeat (first | rw [if_pos (by first | assumption | omega)] | rw [if_neg (by first | assumption | omega)])
        refine ⟨?_, ?_⟩ <;> (first | rfl | assumption | (dsimp only; omega) | (simp_all; done) | grind)
    · refine z_bipush (pc := 27) C dX5_unary_27 (by decide) ?_
      refine hret 29 _ _ _ dX5_unary_29 (zRgL rfl) hR ?_
      unfold xunary
      repeat (first | rw [if_pos (by first | assumption | omega)] | rw [if_neg (by first | assumption | omega)])
      refine ⟨?_, ?_⟩ <;> (first | rfl | assumption | (dsimp only; omega) | (simp_all; done) | grind)
  · have c_8 := zb0 hp_5 c_8
    refine z_bipush (pc := 11) C dX5_unary_11 (by decide) ?_
    refine hret 13 _ _ _ dX5_unary_13 (zRgL rfl) hR ?_
    unfold xunary
    repeat (first | rw [if_pos (by first | assumption | omega)] | rw [if_neg (by first | assumption | omega)])
    refine ⟨?_, ?_⟩ <;> (first | rfl | assumption | (dsimp only; omega) | (simp_all; done) | grind)
set_option maxRecDepth 20000 in
theorem C_X5_binary (E : ZE) (σ : ZSt) (hR : zRs σ) (a : Int) (ha : zRg a) (b : Int) (hb : zRg b) (c : Int) (hc : zRg c) (hI : IX σ) (hsz : ∀ i, 0 ≤ σ 12 i ∧ σ 12 i ≤ 40) : ZMi E 4 yX5_binary cX5_binary 4 (some .int) [zrf E 0, ziv a, ziv b, ziv c] σ (fun r σ' => r = (xbinary σ a b c).1 ∧ σ' = (xbinary σ a b c).2) := by
  refine ZMi.intro (by decide) rfl (Nat.le_of_ble_eq_true rfl) (fun Γ C hN hret => ?_)
  show ZG E Γ 0 [some (zrf E 0), some (ziv a), some (ziv b), some (ziv c)] [] σ
  refine z_aload_nZ (pc := 0) C dX5_binary_0 rfl rfl ?_
  refine z_getR (pc := 1) C fX5_10 sh0 rfl dX5_binary_1 ?_
  refine z_iload_n (pc := 4) C dX5_binary_4 rfl rfl ?_
  refine z_callVp (pc := 5) (rest := []) C (C_X1_has E σ hR a ha) vX5_87 (by decide) sh1 rfl rfl rfl (Nat.le_of_ble_eq_true rfl) dX5_binary_5 (fun r_5 g_5 hp_5 => ?_)
  refine z_if_ne (pc := 8) C 14 g_5 dX5_binary_8 rfl (fun c_8 => ?_) (fun c_8 => ?_)
  · have c_8 := zb1 hp_5 c_8
    refine z_aload_nZ (pc := 14) C dX5_binary_14 rfl rfl ?_
    refine z_getR (pc := 15) C fX5_10 sh0 rfl dX5_binary_15 ?_
    refine z_iload_n (pc := 18) C dX5_binary_18 rfl rfl ?_
    refine z_callVp (pc := 19) (rest := []) C (C_X1_kindAt E σ hR a ha hI) vX5_94 (by decide) sh1 rfl rfl rfl (Nat.le_of_ble_eq_true rfl) dX5_binary_19 (fun r_19 g_19 hp_19 => ?_)
    refine z_if_eq (pc := 22) C 28 g_19 dX5_binary_22 rfl (fun c_22 => ?_) (fun c_22 => ?_)
    · refine z_aload_nZ (pc := 28) C dX5_binary_28 rfl rfl ?_
      refine z_getR (pc := 29) C fX5_19 sh0 rfl dX5_binary_29 ?_
      refine z_iload_n (pc := 32) C dX5_binary_32 rfl rfl ?_
      refine z_callVp (pc := 33) (rest := []) C (C_X0_has E σ hR 7 (Or.inl rfl) b hb) vX5_115 (by decide) sh7 rfl rfl rfl (Nat.le_of_ble_eq_true rfl) dX5_binary_33 (fun r_33 g_33 hp_33 => ?_)
      refine z_if_eq (pc := 36) C 50 g_33 dX5_binary_36 rfl (fun c_36 => ?_) (fun c_36 => ?_)
      · have c_36 := zb0 hp_33 c_36
        refine z_iconst (pc := 50) C dX5_binary_50 ?_
        refine hret 51 _ _ _ dX5_binary_51 (zRgL rfl) hR ?_
        unfold xbinary
        repeat (first | rw [if_pos (by first | assumption | omega)] | rw [if_neg (by first | assumption | omega)])
        refine ⟨?_, ?_⟩ <;> (first | rfl | assumption | (dsimp only; omega) | (simp_all; done) | grind)
      · have c_36 := zb1 hp_33 c_36
        refine z_aload_nZ (pc := 39) C dX5_binary_39 rfl rfl ?_
        refine z_getR (pc := 40) C fX5_19 sh0 rfl dX5_binary_40 ?_
        refine z_iload_n (pc := 43) C dX5_binary_43 rfl rfl ?_
        refine z_callVp (pc := 44) (rest := []) C (C_X0_has E σ hR 7 (Or.inl rfl) c hc) vX5_115 (by decide) sh7 rfl rfl rfl (Nat.le_of_ble_eq_true rfl) dX5_binary_44 (fun r_44 g_44 hp_44 => ?_)
        refine z_if_ne (pc := 47) C 52 g_44 dX5_binary_47 rfl (fun c_47 => ?_) (fun c_47 => ?_)
        · have c_47 := zb1 hp_44 c_47
          refine z_aload_nZ (pc := 52) C dX5_binary_52 rfl rfl ?_
          refine z_iload_n (pc := 53) C dX5_binary_53 rfl rfl ?_
          refine z_iload_n (pc := 54) C dX5_binary_54 rfl rfl ?_
          refine z_iload_n (pc := 55) C dX5_binary_55 rfl rfl ?_
          refine z_callVi (pc := 56) (rest := []) C (C_X5_addOperatorNode E σ hR a ha b hb c hc hI (by (try unfold zRg at *); (try simp only [IX] at *); omega)) vX5_116 (by decide) sh0 rfl rfl rfl (Nat.le_of_ble_eq_true rfl) dX5_binary_56 (fun r_56 σ_56 g_56 hR_56 hp_56 => ?_)
          refine hret 59 _ _ _ dX5_binary_59 g_56 hR_56 ?_
          unfold xbinary
          repeat (first | rw [if_pos (by first | assumption | omega)] | rw [if_neg (by first | assumption | omega)])
          refine ⟨?_, ?_⟩ <;> (first | rfl | assumption | (dsimp only; omega) | (simp_all; done) | grind)
        · have c_47 := zb0 hp_44 c_47
          refine z_iconst (pc := 50) C dX5_binary_50 ?_
          refine hret 51 _ _ _ dX5_binary_51 (zRgL rfl) hR ?_
          unfold xbinary
          repeat (first | rw [if_pos (by first | assumption | omega)] | rw [if_neg (by first | assumption | omega)])
          refine ⟨?_, ?_⟩ <;> (first | rfl | assumption | (dsimp only; omega) | (simp_all; done) | grind)
    · refine z_bipush (pc := 25) C dX5_binary_25 (by decide) ?_
      refine hret 27 _ _ _ dX5_binary_27 (zRgL rfl) hR ?_
      unfold xbinary
      repeat (first | rw [if_pos (by first | assumption | omega)] | rw [if_neg (by first | assumption | omega)])
      refine ⟨?_, ?_⟩ <;> (first | rfl | assumption | (dsimp only; omega) | (simp_all; done) | grind)
  · have c_8 := zb0 hp_5 c_8
    refine z_bipush (pc := 11) C dX5_binary_11 (by decide) ?_
    refine hret 13 _ _ _ dX5_binary_13 (zRgL rfl) hR ?_
    unfold xbinary
    repeat (first | rw [if_pos (by first | assumption | omega)] | rw [if_neg (by first | assumption | omega)])
    refine ⟨?_, ?_⟩ <;> (first | rfl | assumption | (dsimp only; omega) | (simp_all; done) | grind)
set_option maxRecDepth 20000 in
theorem C_X5_nodeCount (E : ZE) (σ : ZSt) (hR : zRs σ) : ZMi E 1 yX5_nodeCount cX5_nodeCount 1 (some .int) [zrf E 0] σ (fun r σ' => (r = σ 7 5) ∧ σ' = σ) := by
  refine ZMi.intro (by decide) rfl (Nat.le_of_ble_eq_true rfl) (fun Γ C hN hret => ?_)
  show ZG E Γ 0 [some (zrf E 0)] [] σ
  refine z_aload_nZ (pc := 0) C dX5_nodeCount_0 rfl rfl ?_
  refine z_getR (pc := 1) C fX5_19 sh0 rfl dX5_nodeCount_1 ?_
  refine z_callVp (pc := 4) (rest := []) C (C_X0_count E σ hR 7 (Or.inl rfl)) vX5_111 (by decide) sh7 rfl rfl rfl (Nat.le_of_ble_eq_true rfl) dX5_nodeCount_4 (fun r_4 g_4 hp_4 => ?_)
  refine hret 7 _ _ _ dX5_nodeCount_7 g_4 hR ?_
  exact ⟨by assumption, rfl⟩
set_option maxRecDepth 20000 in
theorem C_X5_operatorOf (E : ZE) (σ : ZSt) (hR : zRs σ) (a : Int) (ha : zRg a) (hI : IX σ) : ZMi E 2 yX5_operatorOf cX5_operatorOf 3 (some .int) [zrf E 0, ziv a] σ (fun r σ' => (r = if 0 ≤ a ∧ a < σ 7 5 then (if xnop σ 7 a = -1 then -10 else xnop σ 7 a) else -1) ∧ σ' = σ) := by
  refine ZMi.intro (by decide) rfl (Nat.le_of_ble_eq_true rfl) (fun Γ C hN hret => ?_)
  show ZG E Γ 0 [some (zrf E 0), some (ziv a), none] [] σ
  refine z_aload_nZ (pc := 0) C dX5_operatorOf_0 rfl rfl ?_
  refine z_getR (pc := 1) C fX5_19 sh0 rfl dX5_operatorOf_1 ?_
  refine z_iload_n (pc := 4) C dX5_operatorOf_4 rfl rfl ?_
  refine z_callVp (pc := 5) (rest := []) C (C_X0_has E σ hR 7 (Or.inl rfl) a ha) vX5_115 (by decide) sh7 rfl rfl rfl (Nat.le_of_ble_eq_true rfl) dX5_operatorOf_5 (fun r_5 g_5 hp_5 => ?_)
  refine z_if_ne (pc := 8) C 13 g_5 dX5_operatorOf_8 rfl (fun c_8 => ?_) (fun c_8 => ?_)
  · have c_8 := zb1 hp_5 c_8
    refine z_aload_nZ (pc := 13) C dX5_operatorOf_13 rfl rfl ?_
    refine z_getR (pc := 14) C fX5_19 sh0 rfl dX5_operatorOf_14 ?_
    refine z_iload_n (pc := 17) C dX5_operatorOf_17 rfl rfl ?_
    refine z_callVp (pc := 18) (rest := []) C (C_X0_operatorAt E σ hR 7 (Or.inl rfl) a ha hI) vX5_122 (by decide) sh7 rfl rfl rfl (Nat.le_of_ble_eq_true rfl) dX5_operatorOf_18 (fun r_18 g_18 hp_18 => ?_)
    refine z_istore_n (pc := 21) (lv' := [some (zrf E 0), some (ziv a), some (ziv r_18)]) C hN dX5_operatorOf_21 rfl (by decide) rfl ?_
    refine z_iload_n (pc := 22) C dX5_operatorOf_22 rfl rfl ?_
    refine z_iconst (pc := 23) C dX5_operatorOf_23 ?_
    refine z_icmp_ne (pc := 24) C 32 g_18 (zRgL rfl) dX5_operatorOf_24 rfl (fun c_24 => ?_) (fun c_24 => ?_)
    · refine z_iload_n (pc := 32) C dX5_operatorOf_32 rfl rfl ?_
      refine hret 33 _ _ _ dX5_operatorOf_33 g_18 hR ?_
      exact ⟨by (first | rfl | omega | (split <;> first | rfl | omega) | (simp_all; done) | (split <;> split <;> first | rfl | omega) | grind), rfl⟩
    · refine z_bipush (pc := 27) C dX5_operatorOf_27 (by decide) ?_
      refine z_goto (pc := 29) C 33 dX5_operatorOf_29 rfl ?_
      refine hret 33 _ _ _ dX5_operatorOf_33 (zRgL rfl) hR ?_
      exact ⟨by (first | rfl | omega | (split <;> first | rfl | omega) | (simp_all; done) | (split <;> split <;> first | rfl | omega) | grind), rfl⟩
  · have c_8 := zb0 hp_5 c_8
    refine z_iconst (pc := 11) C dX5_operatorOf_11 ?_
    refine hret 12 _ _ _ dX5_operatorOf_12 (zRgL rfl) hR ?_
    exact ⟨by (first | rfl | omega | (split <;> first | rfl | omega) | (simp_all; done) | (split <;> split <;> first | rfl | omega) | grind), rfl⟩
set_option maxRecDepth 20000 in
theorem C_X5_letterOf (E : ZE) (σ : ZSt) (hR : zRs σ) (a : Int) (ha : zRg a) (hI : IX σ) : ZMi E 2 yX5_letterOf cX5_letterOf 3 (some .int) [zrf E 0, ziv a] σ (fun r σ' => (r = if 0 ≤ a ∧ a < σ 7 5 then (if xnlet σ 7 a = -1 then -10 else xnlet σ 7 a) else -1) ∧ σ' = σ) := by
  refine ZMi.intro (by decide) rfl (Nat.le_of_ble_eq_true rfl) (fun Γ C hN hret => ?_)
  show ZG E Γ 0 [some (zrf E 0), some (ziv a), none] [] σ
  refine z_aload_nZ (pc := 0) C dX5_letterOf_0 rfl rfl ?_
  refine z_getR (pc := 1) C fX5_19 sh0 rfl dX5_letterOf_1 ?_
  refine z_iload_n (pc := 4) C dX5_letterOf_4 rfl rfl ?_
  refine z_callVp (pc := 5) (rest := []) C (C_X0_has E σ hR 7 (Or.inl rfl) a ha) vX5_115 (by decide) sh7 rfl rfl rfl (Nat.le_of_ble_eq_true rfl) dX5_letterOf_5 (fun r_5 g_5 hp_5 => ?_)
  refine z_if_ne (pc := 8) C 13 g_5 dX5_letterOf_8 rfl (fun c_8 => ?_) (fun c_8 => ?_)
  · have c_8 := zb1 hp_5 c_8
    refine z_aload_nZ (pc := 13) C dX5_letterOf_13 rfl rfl ?_
    refine z_getR (pc := 14) C fX5_19 sh0 rfl dX5_letterOf_14 ?_
    refine z_iload_n (pc := 17) C dX5_letterOf_17 rfl rfl ?_
    refine z_callVp (pc := 18) (rest := []) C (C_X0_letterAt E σ hR 7 (Or.inl rfl) a ha hI) vX5_125 (by decide) sh7 rfl rfl rfl (Nat.le_of_ble_eq_true rfl) dX5_letterOf_18 (fun r_18 g_18 hp_18 => ?_)
    refine z_istore_n (pc := 21) (lv' := [some (zrf E 0), some (ziv a), some (ziv r_18)]) C hN dX5_letterOf_21 rfl (by decide) rfl ?_
    refine z_iload_n (pc := 22) C dX5_letterOf_22 rfl rfl ?_
    refine z_iconst (pc := 23) C dX5_letterOf_23 ?_
    refine z_icmp_ne (pc := 24) C 32 g_18 (zRgL rfl) dX5_letterOf_24 rfl (fun c_24 => ?_) (fun c_24 => ?_)
    · refine z_iload_n (pc := 32) C dX5_letterOf_32 rfl rfl ?_
      refine hret 33 _ _ _ dX5_letterOf_33 g_18 hR ?_
      exact ⟨by (first | rfl | omega | (split <;> first | rfl | omega) | (simp_all; done) | (split <;> split <;> first | rfl | omega) | grind), rfl⟩
    · refine z_bipush (pc := 27) C dX5_letterOf_27 (by decide) ?_
      refine z_goto (pc := 29) C 33 dX5_letterOf_29 rfl ?_
      refine hret 33 _ _ _ dX5_letterOf_33 (zRgL rfl) hR ?_
      exact ⟨by (first | rfl | omega | (split <;> first | rfl | omega) | (simp_all; done) | (split <;> split <;> first | rfl | omega) | grind), rfl⟩
  · have c_8 := zb0 hp_5 c_8
    refine z_iconst (pc := 11) C dX5_letterOf_11 ?_
    refine hret 12 _ _ _ dX5_letterOf_12 (zRgL rfl) hR ?_
    exact ⟨by (first | rfl | omega | (split <;> first | rfl | omega) | (simp_all; done) | (split <;> split <;> first | rfl | omega) | grind), rfl⟩
set_option maxRecDepth 20000 in
theorem C_X5_operand (E : ZE) (σ : ZSt) (hR : zRs σ) (a : Int) (ha : zRg a) (b : Int) (hb : zRg b) (hI : IX σ) : ZMi E 3 yX5_operand cX5_operand 4 (some .int) [zrf E 0, ziv a, ziv b] σ (fun r σ' => (r = if 0 ≤ a ∧ a < σ 7 5 then (if (if b = 0 then (if xnbef σ 7 a = -1 then xnaft σ 7 a else xnbef σ 7 a) else if b = 1 ∧ xnbef σ 7 a ≠ -1 then xnaft σ 7 a else -1) = -1 then -10 else (if b = 0 then (if xnbef σ 7 a = -1 then xnaft σ 7 a else xnbef σ 7 a) else if b = 1 ∧ xnbef σ 7 a ≠ -1 then xnaft σ 7 a else -1)) else -1) ∧ σ' = σ) := by
  refine ZMi.intro (by decide) rfl (Nat.le_of_ble_eq_true rfl) (fun Γ C hN hret => ?_)
  show ZG E Γ 0 [some (zrf E 0), some (ziv a), some (ziv b), none] [] σ
  refine z_aload_nZ (pc := 0) C dX5_operand_0 rfl rfl ?_
  refine z_getR (pc := 1) C fX5_19 sh0 rfl dX5_operand_1 ?_
  refine z_iload_n (pc := 4) C dX5_operand_4 rfl rfl ?_
  refine z_callVp (pc := 5) (rest := []) C (C_X0_has E σ hR 7 (Or.inl rfl) a ha) vX5_115 (by decide) sh7 rfl rfl rfl (Nat.le_of_ble_eq_true rfl) dX5_operand_5 (fun r_5 g_5 hp_5 => ?_)
  refine z_if_ne (pc := 8) C 13 g_5 dX5_operand_8 rfl (fun c_8 => ?_) (fun c_8 => ?_)
  · have c_8 := zb1 hp_5 c_8
    refine z_aload_nZ (pc := 13) C dX5_operand_13 rfl rfl ?_
    refine z_getR (pc := 14) C fX5_19 sh0 rfl dX5_operand_14 ?_
    refine z_iload_n (pc := 17) C dX5_operand_17 rfl rfl ?_
    refine z_iload_n (pc := 18) C dX5_operand_18 rfl rfl ?_
    refine z_callVp (pc := 19) (rest := []) C (C_X0_operandAt E σ hR 7 (Or.inl rfl) a ha b hb hI) vX5_128 (by decide) sh7 rfl rfl rfl (Nat.le_of_ble_eq_true rfl) dX5_operand_19 (fun r_19 g_19 hp_19 => ?_)
    refine z_istore_n (pc := 22) (lv' := [some (zrf E 0), some (ziv a), some (ziv b), some (ziv r_19)]) C hN dX5_operand_22 rfl (by decide) rfl ?_
    refine z_iload_n (pc := 23) C dX5_operand_23 rfl rfl ?_
    refine z_iconst (pc := 24) C dX5_operand_24 ?_
    refine z_icmp_ne (pc := 25) C 33 g_19 (zRgL rfl) dX5_operand_25 rfl (fun c_25 => ?_) (fun c_25 => ?_)
    · refine z_iload_n (pc := 33) C dX5_operand_33 rfl rfl ?_
      refine hret 34 _ _ _ dX5_operand_34 g_19 hR ?_
      exact ⟨by first | (rw [if_neg (by assumption)]; done) | (rw [if_pos (by assumption), ← hp_19]; first | rw [if_pos (by assumption)] | rw [if_neg (by assumption)]), rfl⟩
    · refine z_bipush (pc := 28) C dX5_operand_28 (by decide) ?_
      refine z_goto (pc := 30) C 34 dX5_operand_30 rfl ?_
      refine hret 34 _ _ _ dX5_operand_34 (zRgL rfl) hR ?_
      exact ⟨by first | (rw [if_neg (by assumption)]; done) | (rw [if_pos (by assumption), ← hp_19]; first | rw [if_pos (by assumption)] | rw [if_neg (by assumption)]), rfl⟩
  · have c_8 := zb0 hp_5 c_8
    refine z_iconst (pc := 11) C dX5_operand_11 ?_
    refine hret 12 _ _ _ dX5_operand_12 (zRgL rfl) hR ?_
    exact ⟨by first | (rw [if_neg (by assumption)]; done) | (rw [if_pos (by assumption), ← hp_19]; first | rw [if_pos (by assumption)] | rw [if_neg (by assumption)]), rfl⟩
set_option maxRecDepth 20000 in
theorem C_X5_size (E : ZE) (σ : ZSt) (hR : zRs σ) (a : Int) (ha : zRg a) (hI : IX σ) : ZMi E 2 yX5_size cX5_size 2 (some .int) [zrf E 0, ziv a] σ (fun r σ' => (r = if 0 ≤ a ∧ a < σ 7 5 then xnsz σ 7 a else -1) ∧ σ' = σ) := by
  refine ZMi.intro (by decide) rfl (Nat.le_of_ble_eq_true rfl) (fun Γ C hN hret => ?_)
  show ZG E Γ 0 [some (zrf E 0), some (ziv a)] [] σ
  refine z_aload_nZ (pc := 0) C dX5_size_0 rfl rfl ?_
  refine z_getR (pc := 1) C fX5_19 sh0 rfl dX5_size_1 ?_
  refine z_iload_n (pc := 4) C dX5_size_4 rfl rfl ?_
  refine z_callVp (pc := 5) (rest := []) C (C_X0_has E σ hR 7 (Or.inl rfl) a ha) vX5_115 (by decide) sh7 rfl rfl rfl (Nat.le_of_ble_eq_true rfl) dX5_size_5 (fun r_5 g_5 hp_5 => ?_)
  refine z_if_eq (pc := 8) C 22 g_5 dX5_size_8 rfl (fun c_8 => ?_) (fun c_8 => ?_)
  · have c_8 := zb0 hp_5 c_8
    refine z_iconst (pc := 22) C dX5_size_22 ?_
    refine hret 23 _ _ _ dX5_size_23 (zRgL rfl) hR ?_
    exact ⟨by first | (rw [if_pos (by assumption)]; assumption) | rw [if_neg (by assumption)], rfl⟩
  · have c_8 := zb1 hp_5 c_8
    refine z_aload_nZ (pc := 11) C dX5_size_11 rfl rfl ?_
    refine z_getR (pc := 12) C fX5_19 sh0 rfl dX5_size_12 ?_
    refine z_iload_n (pc := 15) C dX5_size_15 rfl rfl ?_
    refine z_callVp (pc := 16) (rest := []) C (C_X0_sizeAt E σ hR 7 (Or.inl rfl) a ha hI) vX5_119 (by decide) sh7 rfl rfl rfl (Nat.le_of_ble_eq_true rfl) dX5_size_16 (fun r_16 g_16 hp_16 => ?_)
    refine z_goto (pc := 19) C 23 dX5_size_19 rfl ?_
    refine hret 23 _ _ _ dX5_size_23 g_16 hR ?_
    exact ⟨by first | (rw [if_pos (by assumption)]; assumption) | rw [if_neg (by assumption)], rfl⟩
set_option maxRecDepth 20000 in
theorem C_X5_areEqual (E : ZE) (σ : ZSt) (hR : zRs σ) (a : Int) (ha : zRg a) (b : Int) (hb : zRg b) (hI : IX σ) : ZMi E 44 yX5_areEqual cX5_areEqual 3 (some .int) [zrf E 0, ziv a, ziv b] σ (fun r σ' => (r = if (0 ≤ a ∧ a < σ 7 5) ∧ (0 ≤ b ∧ b < σ 7 5) then zb (xsame σ 7 7 40 a b) else -1) ∧ σ' = σ) := by
  refine ZMi.intro (by decide) rfl (Nat.le_of_ble_eq_true rfl) (fun Γ C hN hret => ?_)
  show ZG E Γ 0 [some (zrf E 0), some (ziv a), some (ziv b)] [] σ
  refine z_aload_nZ (pc := 0) C dX5_areEqual_0 rfl rfl ?_
  refine z_getR (pc := 1) C fX5_19 sh0 rfl dX5_areEqual_1 ?_
  refine z_iload_n (pc := 4) C dX5_areEqual_4 rfl rfl ?_
  refine z_callVp (pc := 5) (rest := []) C (C_X0_has E σ hR 7 (Or.inl rfl) a ha) vX5_115 (by decide) sh7 rfl rfl rfl (Nat.le_of_ble_eq_true rfl) dX5_areEqual_5 (fun r_5 g_5 hp_5 => ?_)
  refine z_if_eq (pc := 8) C 22 g_5 dX5_areEqual_8 rfl (fun c_8 => ?_) (fun c_8 => ?_)
  · have c_8 := zb0 hp_5 c_8
    refine z_iconst (pc := 22) C dX5_areEqual_22 ?_
    refine hret 23 _ _ _ dX5_areEqual_23 (zRgL rfl) hR ?_
    exact ⟨by first | (rw [if_neg (by omega)]; done) | (rw [if_pos ⟨by assumption, by assumption⟩]; first | exact zb_one (by assumption) | exact zb_zero (by assumption)), rfl⟩
  · have c_8 := zb1 hp_5 c_8
    refine z_aload_nZ (pc := 11) C dX5_areEqual_11 rfl rfl ?_
    refine z_getR (pc := 12) C fX5_19 sh0 rfl dX5_areEqual_12 ?_
    refine z_iload_n (pc := 15) C dX5_areEqual_15 rfl rfl ?_
    refine z_callVp (pc := 16) (rest := []) C (C_X0_has E σ hR 7 (Or.inl rfl) b hb) vX5_115 (by decide) sh7 rfl rfl rfl (Nat.le_of_ble_eq_true rfl) dX5_areEqual_16 (fun r_16 g_16 hp_16 => ?_)
    refine z_if_ne (pc := 19) C 24 g_16 dX5_areEqual_19 rfl (fun c_19 => ?_) (fun c_19 => ?_)
    · have c_19 := zb1 hp_16 c_19
      refine z_aload_nZ (pc := 24) C dX5_areEqual_24 rfl rfl ?_
      refine z_getR (pc := 25) C fX5_19 sh0 rfl dX5_areEqual_25 ?_
      refine z_iload_n (pc := 28) C dX5_areEqual_28 rfl rfl ?_
      refine z_aload_nZ (pc := 29) C dX5_areEqual_29 rfl rfl ?_
      refine z_getR (pc := 30) C fX5_19 sh0 rfl dX5_areEqual_30 ?_
      refine z_iload_n (pc := 33) C dX5_areEqual_33 rfl rfl ?_
      refine z_iconst (pc := 34) C dX5_areEqual_34 ?_
      refine z_callSp (pc := 35) (rest := []) C (C_X5_sameTree E σ hR hI 7 (Or.inl rfl) 7 (Or.inl rfl) 41 a ha b hb 0 (zRgL rfl) (by decide)) vX5_131 (by decide) rfl rfl (Nat.le_of_ble_eq_true rfl) dX5_areEqual_35 (fun r_35 g_35 hp_35 => ?_)
      refine z_if_eq (pc := 38) C 45 g_35 dX5_areEqual_38 rfl (fun c_38 => ?_) (fun c_38 => ?_)
      · have c_38 := zb0 hp_35 c_38
        refine z_iconst (pc := 45) C dX5_areEqual_45 ?_
        refine hret 46 _ _ _ dX5_areEqual_46 (zRgL rfl) hR ?_
        exact ⟨by first | (rw [if_neg (by omega)]; done) | (rw [if_pos ⟨by assumption, by assumption⟩]; first | exact zb_one (by assumption) | exact zb_zero (by assumption)), rfl⟩
      · have c_38 := zb1 hp_35 c_38
        refine z_iconst (pc := 41) C dX5_areEqual_41 ?_
        refine z_goto (pc := 42) C 46 dX5_areEqual_42 rfl ?_
        refine hret 46 _ _ _ dX5_areEqual_46 (zRgL rfl) hR ?_
        exact ⟨by first | (rw [if_neg (by omega)]; done) | (rw [if_pos ⟨by assumption, by assumption⟩]; first | exact zb_one (by assumption) | exact zb_zero (by assumption)), rfl⟩
    · have c_19 := zb0 hp_16 c_19
      refine z_iconst (pc := 22) C dX5_areEqual_22 ?_
      refine hret 23 _ _ _ dX5_areEqual_23 (zRgL rfl) hR ?_
      exact ⟨by first | (rw [if_neg (by omega)]; done) | (rw [if_pos ⟨by assumption, by assumption⟩]; first | exact zb_one (by assumption) | exact zb_zero (by assumption)), rfl⟩
set_option maxRecDepth 20000 in
theorem C_X5_outputAt (E : ZE) (σ : ZSt) (hR : zRs σ) (a : Int) (ha : zRg a) (hI : IX σ) : ZMi E 1 yX5_outputAt cX5_outputAt 3 (some .int) [zrf E 0, ziv a] σ (fun r σ' => (r = if xat σ 21 a = -1 then -9 else xat σ 21 a) ∧ σ' = σ) := by
  refine ZMi.intro (by decide) rfl (Nat.le_of_ble_eq_true rfl) (fun Γ C hN hret => ?_)
  show ZG E Γ 0 [some (zrf E 0), some (ziv a), none] [] σ
  refine z_aload_nZ (pc := 0) C dX5_outputAt_0 rfl rfl ?_
  refine z_getR (pc := 1) C fX5_33 sh0 rfl dX5_outputAt_1 ?_
  refine z_iload_n (pc := 4) C dX5_outputAt_4 rfl rfl ?_
  refine z_callVp (pc := 5) (rest := []) C (C_X3_at E σ hR 21 (Or.inr (Or.inl rfl)) a ha hI) vX5_158 (by decide) sh21 rfl rfl rfl (Nat.le_of_ble_eq_true rfl) dX5_outputAt_5 (fun r_5 g_5 hp_5 => ?_)
  refine z_istore_n (pc := 8) (lv' := [some (zrf E 0), some (ziv a), some (ziv r_5)]) C hN dX5_outputAt_8 rfl (by decide) rfl ?_
  refine z_iload_n (pc := 9) C dX5_outputAt_9 rfl rfl ?_
  refine z_iconst (pc := 10) C dX5_outputAt_10 ?_
  refine z_icmp_ne (pc := 11) C 19 g_5 (zRgL rfl) dX5_outputAt_11 rfl (fun c_11 => ?_) (fun c_11 => ?_)
  · refine z_iload_n (pc := 19) C dX5_outputAt_19 rfl rfl ?_
    refine hret 20 _ _ _ dX5_outputAt_20 g_5 hR ?_
    exact ⟨by (first | rfl | omega | (split <;> first | rfl | omega) | (simp_all; done) | (split <;> split <;> first | rfl | omega) | grind), rfl⟩
  · refine z_bipush (pc := 14) C dX5_outputAt_14 (by decide) ?_
    refine z_goto (pc := 16) C 20 dX5_outputAt_16 rfl ?_
    refine hret 20 _ _ _ dX5_outputAt_20 (zRgL rfl) hR ?_
    exact ⟨by (first | rfl | omega | (split <;> first | rfl | omega) | (simp_all; done) | (split <;> split <;> first | rfl | omega) | grind), rfl⟩
set_option maxRecDepth 20000 in
theorem C_X5_bracketPairs (E : ZE) (σ : ZSt) (hR : zRs σ) (hI : IX σ) : ZMi E 1 yX5_bracketPairs cX5_bracketPairs 1 (some .int) [zrf E 0] σ (fun r σ' => (r = zcnt (σ 22) 40 (σ 21 1).toNat) ∧ σ' = σ) := by
  refine ZMi.intro (by decide) rfl (Nat.le_of_ble_eq_true rfl) (fun Γ C hN hret => ?_)
  show ZG E Γ 0 [some (zrf E 0)] [] σ
  refine z_aload_nZ (pc := 0) C dX5_bracketPairs_0 rfl rfl ?_
  refine z_getR (pc := 1) C fX5_33 sh0 rfl dX5_bracketPairs_1 ?_
  refine z_callVp (pc := 4) (rest := []) C (C_X3_countPairs E σ hR 21 (Or.inr (Or.inl rfl)) hI) vX5_161 (by decide) sh21 rfl rfl rfl (Nat.le_of_ble_eq_true rfl) dX5_bracketPairs_4 (fun r_4 g_4 hp_4 => ?_)
  refine hret 7 _ _ _ dX5_bracketPairs_7 g_4 hR ?_
  exact ⟨by assumption, rfl⟩
set_option maxRecDepth 20000 in
theorem C_X5_append (E : ZE) (σ : ZSt) (hR : zRs σ) (a : Int) (ha : zRg a) (hI : IX σ) : ZMi E 1 yX5_append cX5_append 2 (some .int) [zrf E 0, ziv a] σ (fun r σ' => r = (xappend σ a).1 ∧ σ' = (xappend σ a).2) := by
  refine ZMi.intro (by decide) rfl (Nat.le_of_ble_eq_true rfl) (fun Γ C hN hret => ?_)
  show ZG E Γ 0 [some (zrf E 0), some (ziv a)] [] σ
  refine z_iload_n (pc := 0) C dX5_append_0 rfl rfl ?_
  refine z_bipush (pc := 1) C dX5_append_1 (by decide) ?_
  refine z_icmp_lt (pc := 3) C 12 ha (zRgL rfl) dX5_append_3 rfl (fun c_3 => ?_) (fun c_3 => ?_)
  · refine z_bipush (pc := 12) C dX5_append_12 (by decide) ?_
    refine hret 14 _ _ _ dX5_append_14 (zRgL rfl) hR ?_
    unfold xappend
    repeat (first | rw [if_pos (by first | assumption | omega)] | rw [if_neg (by first | assumption | omega)])
    refine ⟨?_, ?_⟩ <;> (first | rfl | assumption | (dsimp only; omega) | (simp_all; done) | grind)
  · refine z_iload_n (pc := 6) C dX5_append_6 rfl rfl ?_
    refine z_bipush (pc := 7) C dX5_append_7 (by decide) ?_
    refine z_icmp_le (pc := 9) C 15 ha (zRgL rfl) dX5_append_9 rfl (fun c_9 => ?_) (fun c_9 => ?_)
    · refine z_aload_nZ (pc := 15) C dX5_append_15 rfl rfl ?_
      refine z_getR (pc := 16) C fX5_29 sh0 rfl dX5_append_16 ?_
      refine z_iload_n (pc := 19) C dX5_append_19 rfl rfl ?_
      refine z_callVi (pc := 20) (rest := []) C (C_X3_put E σ hR 19 (Or.inl rfl) a ha hI) vX5_175 (by decide) sh19 rfl rfl rfl (Nat.le_of_ble_eq_true rfl) dX5_append_20 (fun r_20 σ_20 g_20 hR_20 hp_20 => ?_)
      refine z_if_eq (pc := 23) C 36 g_20 dX5_append_23 rfl (fun c_23 => ?_) (fun c_23 => ?_)
      · refine z_bipush (pc := 36) C dX5_append_36 (by decide) ?_
        refine hret 38 _ _ _ dX5_append_38 (zRgL rfl) hR_20 ?_
        obtain ⟨hp1, hp2⟩ := hp_20
        unfold xappend
        rw [if_neg (by omega)]
        split at hp1
        · rw [if_pos (by assumption)]; first | omega | exact ⟨rfl, by rw [hp2]; unfold xput; rw [if_pos (by assumption)]⟩
        · rw [if_neg (by assumption)]; first | omega | exact ⟨by rw [hp_30, hp2, xput_len (by assumption)], hp2⟩
      · refine z_aload_nZ (pc := 26) C dX5_append_26 rfl rfl ?_
        refine z_getR (pc := 27) C fX5_29 sh0 rfl dX5_append_27 ?_
        refine z_callVp (pc := 30) (rest := []) C (C_X3_length E σ_20 hR_20 19 (Or.inl rfl)) vX5_155 (by decide) sh19 rfl rfl rfl (Nat.le_of_ble_eq_true rfl) dX5_append_30 (fun r_30 g_30 hp_30 => ?_)
        refine z_goto (pc := 33) C 38 dX5_append_33 rfl ?_
        refine hret 38 _ _ _ dX5_append_38 g_30 hR_20 ?_
        obtain ⟨hp1, hp2⟩ := hp_20
        unfold xappend
        rw [if_neg (by omega)]
        split at hp1
        · rw [if_pos (by assumption)]; first | omega | exact ⟨rfl, by rw [hp2]; unfold xput; rw [if_pos (by assumption)]⟩
        · rw [if_neg (by assumption)]; first | omega | exact ⟨by rw [hp_30, hp2, xput_len (by assumption)], hp2⟩
    · refine z_bipush (pc := 12) C dX5_append_12 (by decide) ?_
      refine hret 14 _ _ _ dX5_append_14 (zRgL rfl) hR ?_
      unfold xappend
      repeat (first | rw [if_pos (by first | assumption | omega)] | rw [if_neg (by first | assumption | omega)])
      refine ⟨?_, ?_⟩ <;> (first | rfl | assumption | (dsimp only; omega) | (simp_all; done) | grind)
set_option maxRecDepth 20000 in
theorem C_X5_copyOutput (E : ZE) (σ : ZSt) (hR : zRs σ) (hI : IX σ) : ZMi E 2 yX5_copyOutput cX5_copyOutput 1 (some .int) [zrf E 0] σ (fun r σ' => r = σ 21 1 ∧ σ' = xcopy σ 19 21) := by
  refine ZMi.intro (by decide) rfl (Nat.le_of_ble_eq_true rfl) (fun Γ C hN hret => ?_)
  show ZG E Γ 0 [some (zrf E 0)] [] σ
  have hbd := hI.tx (k := 21) (Or.inr (Or.inl rfl))
  refine z_aload_nZ (pc := 0) C dX5_copyOutput_0 rfl rfl ?_
  refine z_getR (pc := 1) C fX5_29 sh0 rfl dX5_copyOutput_1 ?_
  refine z_aload_nZ (pc := 4) C dX5_copyOutput_4 rfl rfl ?_
  refine z_getR (pc := 5) C fX5_33 sh0 rfl dX5_copyOutput_5 ?_
  refine z_callVv (pc := 8) (rest := []) C (C_X3_copyFrom E σ hR 19 (Or.inl rfl) 21 (Or.inr (Or.inl rfl)) hI (by decide)) vX5_178 (by decide) sh19 rfl rfl rfl (Nat.le_of_ble_eq_true rfl) dX5_copyOutput_8 (fun σ_8 hR_8 hp_8 => ?_)
  refine z_aload_nZ (pc := 11) C dX5_copyOutput_11 rfl rfl ?_
  refine z_getR (pc := 12) C fX5_29 sh0 rfl dX5_copyOutput_12 ?_
  refine z_callVp (pc := 15) (rest := []) C (C_X3_length E σ_8 hR_8 19 (Or.inl rfl)) vX5_155 (by decide) sh19 rfl rfl rfl (Nat.le_of_ble_eq_true rfl) dX5_copyOutput_15 (fun r_15 g_15 hp_15 => ?_)
  refine hret 18 _ _ _ dX5_copyOutput_18 g_15 hR_8 ?_
  exact ⟨by rw [hp_15, hp_8]; unfold xcopy; rw [zst_len]; omega, hp_8⟩
set_option maxRecDepth 20000 in
theorem C_X5_clearInput (E : ZE) (σ : ZSt) (hR : zRs σ) (hI : IX σ) : ZMi E 1 yX5_clearInput cX5_clearInput 2 (some .int) [zrf E 0] σ (fun r σ' => r = σ 19 1 ∧ σ' = zup σ 19 1 0) := by
  refine ZMi.intro (by decide) rfl (Nat.le_of_ble_eq_true rfl) (fun Γ C hN hret => ?_)
  show ZG E Γ 0 [some (zrf E 0), none] [] σ
  refine z_aload_nZ (pc := 0) C dX5_clearInput_0 rfl rfl ?_
  refine z_getR (pc := 1) C fX5_29 sh0 rfl dX5_clearInput_1 ?_
  refine z_callVp (pc := 4) (rest := []) C (C_X3_length E σ hR 19 (Or.inl rfl)) vX5_155 (by decide) sh19 rfl rfl rfl (Nat.le_of_ble_eq_true rfl) dX5_clearInput_4 (fun r_4 g_4 hp_4 => ?_)
  refine z_istore_n (pc := 7) (lv' := [some (zrf E 0), some (ziv r_4)]) C hN dX5_clearInput_7 rfl (by decide) rfl ?_
  refine z_aload_nZ (pc := 8) C dX5_clearInput_8 rfl rfl ?_
  refine z_getR (pc := 9) C fX5_29 sh0 rfl dX5_clearInput_9 ?_
  refine z_callVv (pc := 12) (rest := []) C (C_X3_empty E σ hR 19 (Or.inl rfl)) vX5_144 (by decide) sh19 rfl rfl rfl (Nat.le_of_ble_eq_true rfl) dX5_clearInput_12 (fun σ_12 hR_12 hp_12 => ?_)
  refine z_iload_n (pc := 15) C dX5_clearInput_15 rfl rfl ?_
  refine hret 16 _ _ _ dX5_clearInput_16 g_4 hR_12 ?_
  exact ⟨hp_4, hp_12⟩
set_option maxRecDepth 20000 in
theorem C_X5_errorKind (E : ZE) (σ : ZSt) (hR : zRs σ) : ZMi E 0 yX5_errorKind cX5_errorKind 1 (some .int) [zrf E 0] σ (fun r σ' => (r = σ 0 9) ∧ σ' = σ) := by
  refine ZMi.intro (by decide) rfl (Nat.le_of_ble_eq_true rfl) (fun Γ C hN hret => ?_)
  show ZG E Γ 0 [some (zrf E 0)] [] σ
  refine z_aload_nZ (pc := 0) C dX5_errorKind_0 rfl rfl ?_
  refine z_getI (pc := 1) C fX5_59 sh0 rfl dX5_errorKind_1 ?_
  refine hret 4 _ _ _ dX5_errorKind_4 (hR 0 _) hR ?_
  exact ⟨by (first | rfl | omega | (split <;> first | rfl | omega) | (simp_all; done) | (split <;> split <;> first | rfl | omega) | grind), rfl⟩
set_option maxRecDepth 20000 in
theorem C_X5_errorPosition (E : ZE) (σ : ZSt) (hR : zRs σ) : ZMi E 0 yX5_errorPosition cX5_errorPosition 1 (some .int) [zrf E 0] σ (fun r σ' => (r = σ 0 10) ∧ σ' = σ) := by
  refine ZMi.intro (by decide) rfl (Nat.le_of_ble_eq_true rfl) (fun Γ C hN hret => ?_)
  show ZG E Γ 0 [some (zrf E 0)] [] σ
  refine z_aload_nZ (pc := 0) C dX5_errorPosition_0 rfl rfl ?_
  refine z_getI (pc := 1) C fX5_62 sh0 rfl dX5_errorPosition_1 ?_
  refine hret 4 _ _ _ dX5_errorPosition_4 (hR 0 _) hR ?_
  exact ⟨by (first | rfl | omega | (split <;> first | rfl | omega) | (simp_all; done) | (split <;> split <;> first | rfl | omega) | grind), rfl⟩
end
