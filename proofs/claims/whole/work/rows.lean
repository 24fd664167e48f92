section
-- ===== PART A: goes FIRST, ahead of the names: the tables' words, and 'selects' of the private methods out of them =====
/-- a private method of a class that the tables say can be made, by its rows of tables_1 -/
def lw_okq (q : MethodName × Nat) : Prop := (q.1.cls ≠ "java/lang/invoke/MethodHandle" ∧ q.1.cls ≠ "java/lang/invoke/VarHandle") ∧ Cond.instantiable q.1.cls q.2 ∈ tables_1 ∧ Cond.privateMethod q.1 ∈ tables_1 ∧ Cond.instanceMethod q.1 ∈ tables_1
theorem lw_p0 : lw_okq (⟨"ScanChart$Reader", "advance", "()V"⟩, 14) := ⟨⟨by decide +kernel, by decide +kernel⟩, List.mem_of_getElem? (i := 33) (by decide +kernel), List.mem_of_getElem? (i := 345) (by decide +kernel), List.mem_of_getElem? (i := 346) (by decide +kernel)⟩
theorem lw_p1 : lw_okq (⟨"ScanChart$Reader", "isLabel", "()Z"⟩, 14) := ⟨⟨by decide +kernel, by decide +kernel⟩, List.mem_of_getElem? (i := 33) (by decide +kernel), List.mem_of_getElem? (i := 353) (by decide +kernel), List.mem_of_getElem? (i := 354) (by decide +kernel)⟩
theorem lw_p2 : lw_okq (⟨"ScanChart$Reader", "readLabel", "()Z"⟩, 14) := ⟨⟨by decide +kernel, by decide +kernel⟩, List.mem_of_getElem? (i := 33) (by decide +kernel), List.mem_of_getElem? (i := 369) (by decide +kernel), List.mem_of_getElem? (i := 370) (by decide +kernel)⟩
theorem lw_p3 : lw_okq (⟨"ScanChart$Reader", "fail", "(I)Z"⟩, 14) := ⟨⟨by decide +kernel, by decide +kernel⟩, List.mem_of_getElem? (i := 33) (by decide +kernel), List.mem_of_getElem? (i := 374) (by decide +kernel), List.mem_of_getElem? (i := 375) (by decide +kernel)⟩
theorem lw_p4 : lw_okq (⟨"ScanChart$Reader", "readOp", "()LScanChart$Op;"⟩, 14) := ⟨⟨by decide +kernel, by decide +kernel⟩, List.mem_of_getElem? (i := 33) (by decide +kernel), List.mem_of_getElem? (i := 382) (by decide +kernel), List.mem_of_getElem? (i := 383) (by decide +kernel)⟩
theorem lw_p5 : lw_okq (⟨"ScanChart$Reader", "opSpelled", "(II)LScanChart$Op;"⟩, 14) := ⟨⟨by decide +kernel, by decide +kernel⟩, List.mem_of_getElem? (i := 33) (by decide +kernel), List.mem_of_getElem? (i := 386) (by decide +kernel), List.mem_of_getElem? (i := 387) (by decide +kernel)⟩
theorem lw_p6 : lw_okq (⟨"ScanChart$Reader", "isFull", "(LScanChart$Op;)Z"⟩, 14) := ⟨⟨by decide +kernel, by decide +kernel⟩, List.mem_of_getElem? (i := 33) (by decide +kernel), List.mem_of_getElem? (i := 444) (by decide +kernel), List.mem_of_getElem? (i := 445) (by decide +kernel)⟩
theorem lw_p7 : lw_okq (⟨"ScanChart$Reader", "isAllowedByBrackets", "(LScanChart$Op;)Z"⟩, 14) := ⟨⟨by decide +kernel, by decide +kernel⟩, List.mem_of_getElem? (i := 33) (by decide +kernel), List.mem_of_getElem? (i := 448) (by decide +kernel), List.mem_of_getElem? (i := 449) (by decide +kernel)⟩
theorem lw_p8 : lw_okq (⟨"ScanChart$Reader", "readGo", "()Z"⟩, 14) := ⟨⟨by decide +kernel, by decide +kernel⟩, List.mem_of_getElem? (i := 33) (by decide +kernel), List.mem_of_getElem? (i := 452) (by decide +kernel), List.mem_of_getElem? (i := 453) (by decide +kernel)⟩
theorem lw_p9 : lw_okq (⟨"ScanChart$Reader", "readSteps", "()I"⟩, 14) := ⟨⟨by decide +kernel, by decide +kernel⟩, List.mem_of_getElem? (i := 33) (by decide +kernel), List.mem_of_getElem? (i := 456) (by decide +kernel), List.mem_of_getElem? (i := 457) (by decide +kernel)⟩
theorem lw_p10 : lw_okq (⟨"ScanChart$Reader", "isFigures", "()Z"⟩, 14) := ⟨⟨by decide +kernel, by decide +kernel⟩, List.mem_of_getElem? (i := 33) (by decide +kernel), List.mem_of_getElem? (i := 460) (by decide +kernel), List.mem_of_getElem? (i := 461) (by decide +kernel)⟩
theorem lw_p11 : lw_okq (⟨"ScanChart$Reader", "readFigures", "(II)Z"⟩, 14) := ⟨⟨by decide +kernel, by decide +kernel⟩, List.mem_of_getElem? (i := 33) (by decide +kernel), List.mem_of_getElem? (i := 464) (by decide +kernel), List.mem_of_getElem? (i := 465) (by decide +kernel)⟩
theorem lw_p12 : lw_okq (⟨"ScanChart$Reader", "noteNamed", "([III)V"⟩, 14) := ⟨⟨by decide +kernel, by decide +kernel⟩, List.mem_of_getElem? (i := 33) (by decide +kernel), List.mem_of_getElem? (i := 468) (by decide +kernel), List.mem_of_getElem? (i := 469) (by decide +kernel)⟩
theorem lw_p13 : lw_okq (⟨"ScanChart$Reader", "isWord", "(Ljava/lang/String;)Z"⟩, 14) := ⟨⟨by decide +kernel, by decide +kernel⟩, List.mem_of_getElem? (i := 33) (by decide +kernel), List.mem_of_getElem? (i := 473) (by decide +kernel), List.mem_of_getElem? (i := 474) (by decide +kernel)⟩
theorem lw_p14 : lw_okq (⟨"ScanChart$Reader", "readCell", "(I)Z"⟩, 14) := ⟨⟨by decide +kernel, by decide +kernel⟩, List.mem_of_getElem? (i := 33) (by decide +kernel), List.mem_of_getElem? (i := 479) (by decide +kernel), List.mem_of_getElem? (i := 480) (by decide +kernel)⟩
theorem lw_p15 : lw_okq (⟨"ScanChart$Reader", "kindOfWord", "()I"⟩, 14) := ⟨⟨by decide +kernel, by decide +kernel⟩, List.mem_of_getElem? (i := 33) (by decide +kernel), List.mem_of_getElem? (i := 483) (by decide +kernel), List.mem_of_getElem? (i := 484) (by decide +kernel)⟩
def lw_privs_1 : List (MethodName × Nat) := [(⟨"ScanChart$Reader", "advance", "()V"⟩, 14), (⟨"ScanChart$Reader", "isLabel", "()Z"⟩, 14), (⟨"ScanChart$Reader", "readLabel", "()Z"⟩, 14), (⟨"ScanChart$Reader", "fail", "(I)Z"⟩, 14), (⟨"ScanChart$Reader", "readOp", "()LScanChart$Op;"⟩, 14), (⟨"ScanChart$Reader", "opSpelled", "(II)LScanChart$Op;"⟩, 14), (⟨"ScanChart$Reader", "isFull", "(LScanChart$Op;)Z"⟩, 14), (⟨"ScanChart$Reader", "isAllowedByBrackets", "(LScanChart$Op;)Z"⟩, 14), (⟨"ScanChart$Reader", "readGo", "()Z"⟩, 14), (⟨"ScanChart$Reader", "readSteps", "()I"⟩, 14), (⟨"ScanChart$Reader", "isFigures", "()Z"⟩, 14), (⟨"ScanChart$Reader", "readFigures", "(II)Z"⟩, 14), (⟨"ScanChart$Reader", "noteNamed", "([III)V"⟩, 14), (⟨"ScanChart$Reader", "isWord", "(Ljava/lang/String;)Z"⟩, 14), (⟨"ScanChart$Reader", "readCell", "(I)Z"⟩, 14), (⟨"ScanChart$Reader", "kindOfWord", "()I"⟩, 14)]
theorem lw_r1 : ∀ q ∈ lw_privs_1, lw_okq q := List.forall_mem_cons.mpr ⟨lw_p0, List.forall_mem_cons.mpr ⟨lw_p1, List.forall_mem_cons.mpr ⟨lw_p2, List.forall_mem_cons.mpr ⟨lw_p3, List.forall_mem_cons.mpr ⟨lw_p4, List.forall_mem_cons.mpr ⟨lw_p5, List.forall_mem_cons.mpr ⟨lw_p6, List.forall_mem_cons.mpr ⟨lw_p7, List.forall_mem_cons.mpr ⟨lw_p8, List.forall_mem_cons.mpr ⟨lw_p9, List.forall_mem_cons.mpr ⟨lw_p10, List.forall_mem_cons.mpr ⟨lw_p11, List.forall_mem_cons.mpr ⟨lw_p12, List.forall_mem_cons.mpr ⟨lw_p13, List.forall_mem_cons.mpr ⟨lw_p14, List.forall_mem_cons.mpr ⟨lw_p15, fun _ h => absurd h List.not_mem_nil⟩⟩⟩⟩⟩⟩⟩⟩⟩⟩⟩⟩⟩⟩⟩⟩
theorem lw_p16 : lw_okq (⟨"ScanChart$Reader", "readStep", "()Z"⟩, 14) := ⟨⟨by decide +kernel, by decide +kernel⟩, List.mem_of_getElem? (i := 33) (by decide +kernel), List.mem_of_getElem? (i := 561) (by decide +kernel), List.mem_of_getElem? (i := 562) (by decide +kernel)⟩
theorem lw_p17 : lw_okq (⟨"ScanChart$Reader", "failAt", "(II)Z"⟩, 14) := ⟨⟨by decide +kernel, by decide +kernel⟩, List.mem_of_getElem? (i := 33) (by decide +kernel), List.mem_of_getElem? (i := 565) (by decide +kernel), List.mem_of_getElem? (i := 566) (by decide +kernel)⟩
theorem lw_p18 : lw_okq (⟨"ScanChart$Reader", "actionOfWord", "()I"⟩, 14) := ⟨⟨by decide +kernel, by decide +kernel⟩, List.mem_of_getElem? (i := 33) (by decide +kernel), List.mem_of_getElem? (i := 569) (by decide +kernel), List.mem_of_getElem? (i := 570) (by decide +kernel)⟩
theorem lw_p19 : lw_okq (⟨"ScanChart$Reader", "readOperands", "(LScanChart$Op;)Z"⟩, 14) := ⟨⟨by decide +kernel, by decide +kernel⟩, List.mem_of_getElem? (i := 33) (by decide +kernel), List.mem_of_getElem? (i := 580) (by decide +kernel), List.mem_of_getElem? (i := 581) (by decide +kernel)⟩
theorem lw_p20 : lw_okq (⟨"ScanChart$Reader", "operandsOf", "(LScanChart$Op;)I"⟩, 14) := ⟨⟨by decide +kernel, by decide +kernel⟩, List.mem_of_getElem? (i := 33) (by decide +kernel), List.mem_of_getElem? (i := 584) (by decide +kernel), List.mem_of_getElem? (i := 585) (by decide +kernel)⟩
theorem lw_p21 : lw_okq (⟨"ScanChart$Reader", "findNoneMissing", "()Z"⟩, 14) := ⟨⟨by decide +kernel, by decide +kernel⟩, List.mem_of_getElem? (i := 33) (by decide +kernel), List.mem_of_getElem? (i := 594) (by decide +kernel), List.mem_of_getElem? (i := 595) (by decide +kernel)⟩
theorem lw_p22 : lw_okq (⟨"java/lang/Throwable", "fillInStackTrace", "(I)Ljava/lang/Throwable;"⟩, 6) := ⟨⟨by decide +kernel, by decide +kernel⟩, List.mem_of_getElem? (i := 682) (by decide +kernel), List.mem_of_getElem? (i := 680) (by decide +kernel), List.mem_of_getElem? (i := 681) (by decide +kernel)⟩
theorem lw_p23 : lw_okq (⟨"ScanChart$Machine", "performList", "(LScanChart$Program;)V"⟩, 12) := ⟨⟨by decide +kernel, by decide +kernel⟩, List.mem_of_getElem? (i := 190) (by decide +kernel), List.mem_of_getElem? (i := 758) (by decide +kernel), List.mem_of_getElem? (i := 759) (by decide +kernel)⟩
theorem lw_p24 : lw_okq (⟨"ScanChart$Machine", "performBlock", "(LScanChart$Op;II)V"⟩, 12) := ⟨⟨by decide +kernel, by decide +kernel⟩, List.mem_of_getElem? (i := 190) (by decide +kernel), List.mem_of_getElem? (i := 771) (by decide +kernel), List.mem_of_getElem? (i := 772) (by decide +kernel)⟩
theorem lw_p25 : lw_okq (⟨"ScanChart$Machine", "perform", "(LScanChart$Op;LScanChart$Program;I)V"⟩, 12) := ⟨⟨by decide +kernel, by decide +kernel⟩, List.mem_of_getElem? (i := 190) (by decide +kernel), List.mem_of_getElem? (i := 840) (by decide +kernel), List.mem_of_getElem? (i := 841) (by decide +kernel)⟩
theorem lw_p26 : lw_okq (⟨"ScanChart$Machine", "putAside", "(LScanChart$Op;)V"⟩, 12) := ⟨⟨by decide +kernel, by decide +kernel⟩, List.mem_of_getElem? (i := 190) (by decide +kernel), List.mem_of_getElem? (i := 848) (by decide +kernel), List.mem_of_getElem? (i := 849) (by decide +kernel)⟩
theorem lw_p27 : lw_okq (⟨"ScanChart$Machine", "calculate", "(LScanChart$Op;II)I"⟩, 12) := ⟨⟨by decide +kernel, by decide +kernel⟩, List.mem_of_getElem? (i := 190) (by decide +kernel), List.mem_of_getElem? (i := 852) (by decide +kernel), List.mem_of_getElem? (i := 853) (by decide +kernel)⟩
theorem lw_p28 : lw_okq (⟨"ScanChart$Machine", "compare", "(LScanChart$Op;II)Z"⟩, 12) := ⟨⟨by decide +kernel, by decide +kernel⟩, List.mem_of_getElem? (i := 190) (by decide +kernel), List.mem_of_getElem? (i := 858) (by decide +kernel), List.mem_of_getElem? (i := 859) (by decide +kernel)⟩
theorem lw_p29 : lw_okq (⟨"ScanChart$Machine", "takeBack", "()V"⟩, 12) := ⟨⟨by decide +kernel, by decide +kernel⟩, List.mem_of_getElem? (i := 190) (by decide +kernel), List.mem_of_getElem? (i := 870) (by decide +kernel), List.mem_of_getElem? (i := 871) (by decide +kernel)⟩
theorem lw_p30 : lw_okq (⟨"ScanChart$Machine", "goOn", "(LScanChart$Chart;)V"⟩, 12) := ⟨⟨by decide +kernel, by decide +kernel⟩, List.mem_of_getElem? (i := 190) (by decide +kernel), List.mem_of_getElem? (i := 878) (by decide +kernel), List.mem_of_getElem? (i := 879) (by decide +kernel)⟩
theorem lw_p31 : lw_okq (⟨"ScanChart$Machine", "isOpen", "(LScanChart$Chart;I)Z"⟩, 12) := ⟨⟨by decide +kernel, by decide +kernel⟩, List.mem_of_getElem? (i := 190) (by decide +kernel), List.mem_of_getElem? (i := 882) (by decide +kernel), List.mem_of_getElem? (i := 883) (by decide +kernel)⟩
def lw_privs_2 : List (MethodName × Nat) := [(⟨"ScanChart$Reader", "readStep", "()Z"⟩, 14), (⟨"ScanChart$Reader", "failAt", "(II)Z"⟩, 14), (⟨"ScanChart$Reader", "actionOfWord", "()I"⟩, 14), (⟨"ScanChart$Reader", "readOperands", "(LScanChart$Op;)Z"⟩, 14), (⟨"ScanChart$Reader", "operandsOf", "(LScanChart$Op;)I"⟩, 14), (⟨"ScanChart$Reader", "findNoneMissing", "()Z"⟩, 14), (⟨"java/lang/Throwable", "fillInStackTrace", "(I)Ljava/lang/Throwable;"⟩, 6), (⟨"ScanChart$Machine", "performList", "(LScanChart$Program;)V"⟩, 12), (⟨"ScanChart$Machine", "performBlock", "(LScanChart$Op;II)V"⟩, 12), (⟨"ScanChart$Machine", "perform", "(LScanChart$Op;LScanChart$Program;I)V"⟩, 12), (⟨"ScanChart$Machine", "putAside", "(LScanChart$Op;)V"⟩, 12), (⟨"ScanChart$Machine", "calculate", "(LScanChart$Op;II)I"⟩, 12), (⟨"ScanChart$Machine", "compare", "(LScanChart$Op;II)Z"⟩, 12), (⟨"ScanChart$Machine", "takeBack", "()V"⟩, 12), (⟨"ScanChart$Machine", "goOn", "(LScanChart$Chart;)V"⟩, 12), (⟨"ScanChart$Machine", "isOpen", "(LScanChart$Chart;I)Z"⟩, 12)]
theorem lw_r2 : ∀ q ∈ lw_privs_2, lw_okq q := List.forall_mem_cons.mpr ⟨lw_p16, List.forall_mem_cons.mpr ⟨lw_p17, List.forall_mem_cons.mpr ⟨lw_p18, List.forall_mem_cons.mpr ⟨lw_p19, List.forall_mem_cons.mpr ⟨lw_p20, List.forall_mem_cons.mpr ⟨lw_p21, List.forall_mem_cons.mpr ⟨lw_p22, List.forall_mem_cons.mpr ⟨lw_p23, List.forall_mem_cons.mpr ⟨lw_p24, List.forall_mem_cons.mpr ⟨lw_p25, List.forall_mem_cons.mpr ⟨lw_p26, List.forall_mem_cons.mpr ⟨lw_p27, List.forall_mem_cons.mpr ⟨lw_p28, List.forall_mem_cons.mpr ⟨lw_p29, List.forall_mem_cons.mpr ⟨lw_p30, List.forall_mem_cons.mpr ⟨lw_p31, fun _ h => absurd h List.not_mem_nil⟩⟩⟩⟩⟩⟩⟩⟩⟩⟩⟩⟩⟩⟩⟩⟩
theorem lw_p32 : lw_okq (⟨"ScanChart$Machine", "act", "(LScanChart$Chart;)V"⟩, 12) := ⟨⟨by decide +kernel, by decide +kernel⟩, List.mem_of_getElem? (i := 190) (by decide +kernel), List.mem_of_getElem? (i := 886) (by decide +kernel), List.mem_of_getElem? (i := 887) (by decide +kernel)⟩
theorem lw_p33 : lw_okq (⟨"ScanChart$Machine", "actAs", "(LScanChart$Chart;IIZ)V"⟩, 12) := ⟨⟨by decide +kernel, by decide +kernel⟩, List.mem_of_getElem? (i := 190) (by decide +kernel), List.mem_of_getElem? (i := 891) (by decide +kernel), List.mem_of_getElem? (i := 892) (by decide +kernel)⟩
theorem lw_p34 : lw_okq (⟨"ScanChartModel", "resetAll", "()V"⟩, 61) := ⟨⟨by decide +kernel, by decide +kernel⟩, List.mem_of_getElem? (i := 938) (by decide +kernel), List.mem_of_getElem? (i := 944) (by decide +kernel), List.mem_of_getElem? (i := 945) (by decide +kernel)⟩
theorem lw_p35 : lw_okq (⟨"ScanChartModel", "begin", "()V"⟩, 61) := ⟨⟨by decide +kernel, by decide +kernel⟩, List.mem_of_getElem? (i := 938) (by decide +kernel), List.mem_of_getElem? (i := 1151) (by decide +kernel), List.mem_of_getElem? (i := 1152) (by decide +kernel)⟩
theorem lw_p36 : lw_okq (⟨"ScanChartModel", "next", "()V"⟩, 61) := ⟨⟨by decide +kernel, by decide +kernel⟩, List.mem_of_getElem? (i := 938) (by decide +kernel), List.mem_of_getElem? (i := 1155) (by decide +kernel), List.mem_of_getElem? (i := 1156) (by decide +kernel)⟩
theorem lw_p37 : lw_okq (⟨"ScanChartModel", "isEnd", "()Z"⟩, 61) := ⟨⟨by decide +kernel, by decide +kernel⟩, List.mem_of_getElem? (i := 938) (by decide +kernel), List.mem_of_getElem? (i := 1159) (by decide +kernel), List.mem_of_getElem? (i := 1160) (by decide +kernel)⟩
theorem lw_p38 : lw_okq (⟨"ScanChartModel", "isLineEnd", "()Z"⟩, 61) := ⟨⟨by decide +kernel, by decide +kernel⟩, List.mem_of_getElem? (i := 938) (by decide +kernel), List.mem_of_getElem? (i := 1163) (by decide +kernel), List.mem_of_getElem? (i := 1164) (by decide +kernel)⟩
theorem lw_p39 : lw_okq (⟨"ScanChartModel", "line", "()V"⟩, 61) := ⟨⟨by decide +kernel, by decide +kernel⟩, List.mem_of_getElem? (i := 938) (by decide +kernel), List.mem_of_getElem? (i := 1167) (by decide +kernel), List.mem_of_getElem? (i := 1168) (by decide +kernel)⟩
theorem lw_p40 : lw_okq (⟨"ScanChartModel", "byteAt", "(I)I"⟩, 61) := ⟨⟨by decide +kernel, by decide +kernel⟩, List.mem_of_getElem? (i := 938) (by decide +kernel), List.mem_of_getElem? (i := 1171) (by decide +kernel), List.mem_of_getElem? (i := 1172) (by decide +kernel)⟩
theorem lw_p41 : lw_okq (⟨"ScanChartModel", "labelWord", "(I)I"⟩, 61) := ⟨⟨by decide +kernel, by decide +kernel⟩, List.mem_of_getElem? (i := 938) (by decide +kernel), List.mem_of_getElem? (i := 1175) (by decide +kernel), List.mem_of_getElem? (i := 1176) (by decide +kernel)⟩
theorem lw_p42 : lw_okq (⟨"ScanChartModel", "fail", "(II)V"⟩, 61) := ⟨⟨by decide +kernel, by decide +kernel⟩, List.mem_of_getElem? (i := 938) (by decide +kernel), List.mem_of_getElem? (i := 1179) (by decide +kernel), List.mem_of_getElem? (i := 1180) (by decide +kernel)⟩
theorem lw_p43 : lw_okq (⟨"ScanChartModel", "small", "(III)I"⟩, 61) := ⟨⟨by decide +kernel, by decide +kernel⟩, List.mem_of_getElem? (i := 938) (by decide +kernel), List.mem_of_getElem? (i := 1183) (by decide +kernel), List.mem_of_getElem? (i := 1184) (by decide +kernel)⟩
theorem lw_p44 : lw_okq (⟨"ScanChartModel", "areFigures", "(II)Z"⟩, 61) := ⟨⟨by decide +kernel, by decide +kernel⟩, List.mem_of_getElem? (i := 938) (by decide +kernel), List.mem_of_getElem? (i := 1187) (by decide +kernel), List.mem_of_getElem? (i := 1188) (by decide +kernel)⟩
theorem lw_p45 : lw_okq (⟨"ScanChartModel", "value", "(II)J"⟩, 61) := ⟨⟨by decide +kernel, by decide +kernel⟩, List.mem_of_getElem? (i := 938) (by decide +kernel), List.mem_of_getElem? (i := 1194) (by decide +kernel), List.mem_of_getElem? (i := 1195) (by decide +kernel)⟩
theorem lw_p46 : lw_okq (⟨"ScanChartModel", "code", "()J"⟩, 61) := ⟨⟨by decide +kernel, by decide +kernel⟩, List.mem_of_getElem? (i := 938) (by decide +kernel), List.mem_of_getElem? (i := 1201) (by decide +kernel), List.mem_of_getElem? (i := 1202) (by decide +kernel)⟩
theorem lw_p47 : lw_okq (⟨"ScanChartModel", "step", "()V"⟩, 61) := ⟨⟨by decide +kernel, by decide +kernel⟩, List.mem_of_getElem? (i := 938) (by decide +kernel), List.mem_of_getElem? (i := 1206) (by decide +kernel), List.mem_of_getElem? (i := 1207) (by decide +kernel)⟩
def lw_privs_3 : List (MethodName × Nat) := [(⟨"ScanChart$Machine", "act", "(LScanChart$Chart;)V"⟩, 12), (⟨"ScanChart$Machine", "actAs", "(LScanChart$Chart;IIZ)V"⟩, 12), (⟨"ScanChartModel", "resetAll", "()V"⟩, 61), (⟨"ScanChartModel", "begin", "()V"⟩, 61), (⟨"ScanChartModel", "next", "()V"⟩, 61), (⟨"ScanChartModel", "isEnd", "()Z"⟩, 61), (⟨"ScanChartModel", "isLineEnd", "()Z"⟩, 61), (⟨"ScanChartModel", "line", "()V"⟩, 61), (⟨"ScanChartModel", "byteAt", "(I)I"⟩, 61), (⟨"ScanChartModel", "labelWord", "(I)I"⟩, 61), (⟨"ScanChartModel", "fail", "(II)V"⟩, 61), (⟨"ScanChartModel", "small", "(III)I"⟩, 61), (⟨"ScanChartModel", "areFigures", "(II)Z"⟩, 61), (⟨"ScanChartModel", "value", "(II)J"⟩, 61), (⟨"ScanChartModel", "code", "()J"⟩, 61), (⟨"ScanChartModel", "step", "()V"⟩, 61)]
theorem lw_r3 : ∀ q ∈ lw_privs_3, lw_okq q := List.forall_mem_cons.mpr ⟨lw_p32, List.forall_mem_cons.mpr ⟨lw_p33, List.forall_mem_cons.mpr ⟨lw_p34, List.forall_mem_cons.mpr ⟨lw_p35, List.forall_mem_cons.mpr ⟨lw_p36, List.forall_mem_cons.mpr ⟨lw_p37, List.forall_mem_cons.mpr ⟨lw_p38, List.forall_mem_cons.mpr ⟨lw_p39, List.forall_mem_cons.mpr ⟨lw_p40, List.forall_mem_cons.mpr ⟨lw_p41, List.forall_mem_cons.mpr ⟨lw_p42, List.forall_mem_cons.mpr ⟨lw_p43, List.forall_mem_cons.mpr ⟨lw_p44, List.forall_mem_cons.mpr ⟨lw_p45, List.forall_mem_cons.mpr ⟨lw_p46, List.forall_mem_cons.mpr ⟨lw_p47, fun _ h => absurd h List.not_mem_nil⟩⟩⟩⟩⟩⟩⟩⟩⟩⟩⟩⟩⟩⟩⟩⟩
theorem lw_p48 : lw_okq (⟨"ScanChartModel", "actions", "(I)V"⟩, 61) := ⟨⟨by decide +kernel, by decide +kernel⟩, List.mem_of_getElem? (i := 938) (by decide +kernel), List.mem_of_getElem? (i := 1210) (by decide +kernel), List.mem_of_getElem? (i := 1211) (by decide +kernel)⟩
theorem lw_p49 : lw_okq (⟨"ScanChartModel", "operand", "(I)V"⟩, 61) := ⟨⟨by decide +kernel, by decide +kernel⟩, List.mem_of_getElem? (i := 938) (by decide +kernel), List.mem_of_getElem? (i := 1217) (by decide +kernel), List.mem_of_getElem? (i := 1218) (by decide +kernel)⟩
theorem lw_p50 : lw_okq (⟨"ScanChartModel", "cellKind", "()I"⟩, 61) := ⟨⟨by decide +kernel, by decide +kernel⟩, List.mem_of_getElem? (i := 938) (by decide +kernel), List.mem_of_getElem? (i := 1221) (by decide +kernel), List.mem_of_getElem? (i := 1222) (by decide +kernel)⟩
theorem lw_p51 : lw_okq (⟨"ScanChartModel", "go", "()V"⟩, 61) := ⟨⟨by decide +kernel, by decide +kernel⟩, List.mem_of_getElem? (i := 938) (by decide +kernel), List.mem_of_getElem? (i := 1231) (by decide +kernel), List.mem_of_getElem? (i := 1232) (by decide +kernel)⟩
theorem lw_p52 : lw_okq (⟨"ScanChartModel", "some", "()I"⟩, 61) := ⟨⟨by decide +kernel, by decide +kernel⟩, List.mem_of_getElem? (i := 938) (by decide +kernel), List.mem_of_getElem? (i := 1235) (by decide +kernel), List.mem_of_getElem? (i := 1236) (by decide +kernel)⟩
theorem lw_p53 : lw_okq (⟨"ScanChartModel", "names", "(I)V"⟩, 61) := ⟨⟨by decide +kernel, by decide +kernel⟩, List.mem_of_getElem? (i := 938) (by decide +kernel), List.mem_of_getElem? (i := 1239) (by decide +kernel), List.mem_of_getElem? (i := 1240) (by decide +kernel)⟩
theorem lw_p54 : lw_okq (⟨"ScanChartModel", "isMove", "(J)Z"⟩, 61) := ⟨⟨by decide +kernel, by decide +kernel⟩, List.mem_of_getElem? (i := 938) (by decide +kernel), List.mem_of_getElem? (i := 1246) (by decide +kernel), List.mem_of_getElem? (i := 1247) (by decide +kernel)⟩
theorem lw_p55 : lw_okq (⟨"ScanChartModel", "mayComeNow", "()Z"⟩, 61) := ⟨⟨by decide +kernel, by decide +kernel⟩, List.mem_of_getElem? (i := 938) (by decide +kernel), List.mem_of_getElem? (i := 1254) (by decide +kernel), List.mem_of_getElem? (i := 1255) (by decide +kernel)⟩
theorem lw_p56 : lw_okq (⟨"ScanChartModel", "add", "(IIIII)V"⟩, 61) := ⟨⟨by decide +kernel, by decide +kernel⟩, List.mem_of_getElem? (i := 938) (by decide +kernel), List.mem_of_getElem? (i := 1258) (by decide +kernel), List.mem_of_getElem? (i := 1259) (by decide +kernel)⟩
theorem lw_p57 : lw_okq (⟨"ScanChartModel", "isSign", "(J)Z"⟩, 61) := ⟨⟨by decide +kernel, by decide +kernel⟩, List.mem_of_getElem? (i := 938) (by decide +kernel), List.mem_of_getElem? (i := 1262) (by decide +kernel), List.mem_of_getElem? (i := 1263) (by decide +kernel)⟩
theorem lw_p58 : lw_okq (⟨"ScanChartModel", "isJump", "(J)Z"⟩, 61) := ⟨⟨by decide +kernel, by decide +kernel⟩, List.mem_of_getElem? (i := 938) (by decide +kernel), List.mem_of_getElem? (i := 1283) (by decide +kernel), List.mem_of_getElem? (i := 1284) (by decide +kernel)⟩
theorem lw_p59 : lw_okq (⟨"ScanChartModel", "isBlock", "(J)Z"⟩, 61) := ⟨⟨by decide +kernel, by decide +kernel⟩, List.mem_of_getElem? (i := 938) (by decide +kernel), List.mem_of_getElem? (i := 1293) (by decide +kernel), List.mem_of_getElem? (i := 1294) (by decide +kernel)⟩
theorem lw_p60 : lw_okq (⟨"ScanChartModel", "lettered", "(II)I"⟩, 61) := ⟨⟨by decide +kernel, by decide +kernel⟩, List.mem_of_getElem? (i := 938) (by decide +kernel), List.mem_of_getElem? (i := 1305) (by decide +kernel), List.mem_of_getElem? (i := 1306) (by decide +kernel)⟩
theorem lw_p61 : lw_okq (⟨"ScanChartModel", "great", "(II)I"⟩, 61) := ⟨⟨by decide +kernel, by decide +kernel⟩, List.mem_of_getElem? (i := 938) (by decide +kernel), List.mem_of_getElem? (i := 1310) (by decide +kernel), List.mem_of_getElem? (i := 1311) (by decide +kernel)⟩
theorem lw_p62 : lw_okq (⟨"ScanChartModel", "isAlone", "(J)Z"⟩, 61) := ⟨⟨by decide +kernel, by decide +kernel⟩, List.mem_of_getElem? (i := 938) (by decide +kernel), List.mem_of_getElem? (i := 1314) (by decide +kernel), List.mem_of_getElem? (i := 1315) (by decide +kernel)⟩
theorem lw_p63 : lw_okq (⟨"ScanChartModel", "scanOnce", "(I)I"⟩, 61) := ⟨⟨by decide +kernel, by decide +kernel⟩, List.mem_of_getElem? (i := 938) (by decide +kernel), List.mem_of_getElem? (i := 1336) (by decide +kernel), List.mem_of_getElem? (i := 1337) (by decide +kernel)⟩
def lw_privs_4 : List (MethodName × Nat) := [(⟨"ScanChartModel", "actions", "(I)V"⟩, 61), (⟨"ScanChartModel", "operand", "(I)V"⟩, 61), (⟨"ScanChartModel", "cellKind", "()I"⟩, 61), (⟨"ScanChartModel", "go", "()V"⟩, 61), (⟨"ScanChartModel", "some", "()I"⟩, 61), (⟨"ScanChartModel", "names", "(I)V"⟩, 61), (⟨"ScanChartModel", "isMove", "(J)Z"⟩, 61), (⟨"ScanChartModel", "mayComeNow", "()Z"⟩, 61), (⟨"ScanChartModel", "add", "(IIIII)V"⟩, 61), (⟨"ScanChartModel", "isSign", "(J)Z"⟩, 61), (⟨"ScanChartModel", "isJump", "(J)Z"⟩, 61), (⟨"ScanChartModel", "isBlock", "(J)Z"⟩, 61), (⟨"ScanChartModel", "lettered", "(II)I"⟩, 61), (⟨"ScanChartModel", "great", "(II)I"⟩, 61), (⟨"ScanChartModel", "isAlone", "(J)Z"⟩, 61), (⟨"ScanChartModel", "scanOnce", "(I)I"⟩, 61)]
theorem lw_r4 : ∀ q ∈ lw_privs_4, lw_okq q := List.forall_mem_cons.mpr ⟨lw_p48, List.forall_mem_cons.mpr ⟨lw_p49, List.forall_mem_cons.mpr ⟨lw_p50, List.forall_mem_cons.mpr ⟨lw_p51, List.forall_mem_cons.mpr ⟨lw_p52, List.forall_mem_cons.mpr ⟨lw_p53, List.forall_mem_cons.mpr ⟨lw_p54, List.forall_mem_cons.mpr ⟨lw_p55, List.forall_mem_cons.mpr ⟨lw_p56, List.forall_mem_cons.mpr ⟨lw_p57, List.forall_mem_cons.mpr ⟨lw_p58, List.forall_mem_cons.mpr ⟨lw_p59, List.forall_mem_cons.mpr ⟨lw_p60, List.forall_mem_cons.mpr ⟨lw_p61, List.forall_mem_cons.mpr ⟨lw_p62, List.forall_mem_cons.mpr ⟨lw_p63, fun _ h => absurd h List.not_mem_nil⟩⟩⟩⟩⟩⟩⟩⟩⟩⟩⟩⟩⟩⟩⟩⟩
theorem lw_p64 : lw_okq (⟨"ScanChartModel", "list", "()I"⟩, 61) := ⟨⟨by decide +kernel, by decide +kernel⟩, List.mem_of_getElem? (i := 938) (by decide +kernel), List.mem_of_getElem? (i := 1343) (by decide +kernel), List.mem_of_getElem? (i := 1344) (by decide +kernel)⟩
theorem lw_p65 : lw_okq (⟨"ScanChartModel", "act", "(I)I"⟩, 61) := ⟨⟨by decide +kernel, by decide +kernel⟩, List.mem_of_getElem? (i := 938) (by decide +kernel), List.mem_of_getElem? (i := 1347) (by decide +kernel), List.mem_of_getElem? (i := 1348) (by decide +kernel)⟩
theorem lw_p66 : lw_okq (⟨"ScanChartModel", "signed", "(I)I"⟩, 61) := ⟨⟨by decide +kernel, by decide +kernel⟩, List.mem_of_getElem? (i := 938) (by decide +kernel), List.mem_of_getElem? (i := 1351) (by decide +kernel), List.mem_of_getElem? (i := 1352) (by decide +kernel)⟩
theorem lw_p67 : lw_okq (⟨"ScanChartModel", "cell", "(II)I"⟩, 61) := ⟨⟨by decide +kernel, by decide +kernel⟩, List.mem_of_getElem? (i := 938) (by decide +kernel), List.mem_of_getElem? (i := 1355) (by decide +kernel), List.mem_of_getElem? (i := 1356) (by decide +kernel)⟩
theorem lw_p68 : lw_okq (⟨"ScanChartModel", "join", "(III)I"⟩, 61) := ⟨⟨by decide +kernel, by decide +kernel⟩, List.mem_of_getElem? (i := 938) (by decide +kernel), List.mem_of_getElem? (i := 1359) (by decide +kernel), List.mem_of_getElem? (i := 1360) (by decide +kernel)⟩
theorem lw_p69 : lw_okq (⟨"ScanChartModel", "store", "(I)V"⟩, 61) := ⟨⟨by decide +kernel, by decide +kernel⟩, List.mem_of_getElem? (i := 938) (by decide +kernel), List.mem_of_getElem? (i := 1366) (by decide +kernel), List.mem_of_getElem? (i := 1367) (by decide +kernel)⟩
theorem lw_p70 : lw_okq (⟨"ScanChartModel", "setBit", "(III)V"⟩, 61) := ⟨⟨by decide +kernel, by decide +kernel⟩, List.mem_of_getElem? (i := 938) (by decide +kernel), List.mem_of_getElem? (i := 1370) (by decide +kernel), List.mem_of_getElem? (i := 1371) (by decide +kernel)⟩
theorem lw_p71 : lw_okq (⟨"ScanChartModel", "close", "()I"⟩, 61) := ⟨⟨by decide +kernel, by decide +kernel⟩, List.mem_of_getElem? (i := 938) (by decide +kernel), List.mem_of_getElem? (i := 1374) (by decide +kernel), List.mem_of_getElem? (i := 1375) (by decide +kernel)⟩
theorem lw_p72 : lw_okq (⟨"ScanChartModel", "timer", "(III)V"⟩, 61) := ⟨⟨by decide +kernel, by decide +kernel⟩, List.mem_of_getElem? (i := 938) (by decide +kernel), List.mem_of_getElem? (i := 1378) (by decide +kernel), List.mem_of_getElem? (i := 1379) (by decide +kernel)⟩
theorem lw_p73 : lw_okq (⟨"ScanChartModel", "past", "(JI)I"⟩, 61) := ⟨⟨by decide +kernel, by decide +kernel⟩, List.mem_of_getElem? (i := 938) (by decide +kernel), List.mem_of_getElem? (i := 1382) (by decide +kernel), List.mem_of_getElem? (i := 1383) (by decide +kernel)⟩
theorem lw_p74 : lw_okq (⟨"ScanChartModel", "counter", "(III)V"⟩, 61) := ⟨⟨by decide +kernel, by decide +kernel⟩, List.mem_of_getElem? (i := 938) (by decide +kernel), List.mem_of_getElem? (i := 1386) (by decide +kernel), List.mem_of_getElem? (i := 1387) (by decide +kernel)⟩
theorem lw_p75 : lw_okq (⟨"ScanChartModel", "edge", "(II)V"⟩, 61) := ⟨⟨by decide +kernel, by decide +kernel⟩, List.mem_of_getElem? (i := 938) (by decide +kernel), List.mem_of_getElem? (i := 1390) (by decide +kernel), List.mem_of_getElem? (i := 1391) (by decide +kernel)⟩
theorem lw_p76 : lw_okq (⟨"ScanChartModel", "chart", "()V"⟩, 61) := ⟨⟨by decide +kernel, by decide +kernel⟩, List.mem_of_getElem? (i := 938) (by decide +kernel), List.mem_of_getElem? (i := 1394) (by decide +kernel), List.mem_of_getElem? (i := 1395) (by decide +kernel)⟩
def lw_privs_5 : List (MethodName × Nat) := [(⟨"ScanChartModel", "list", "()I"⟩, 61), (⟨"ScanChartModel", "act", "(I)I"⟩, 61), (⟨"ScanChartModel", "signed", "(I)I"⟩, 61), (⟨"ScanChartModel", "cell", "(II)I"⟩, 61), (⟨"ScanChartModel", "join", "(III)I"⟩, 61), (⟨"ScanChartModel", "store", "(I)V"⟩, 61), (⟨"ScanChartModel", "setBit", "(III)V"⟩, 61), (⟨"ScanChartModel", "close", "()I"⟩, 61), (⟨"ScanChartModel", "timer", "(III)V"⟩, 61), (⟨"ScanChartModel", "past", "(JI)I"⟩, 61), (⟨"ScanChartModel", "counter", "(III)V"⟩, 61), (⟨"ScanChartModel", "edge", "(II)V"⟩, 61), (⟨"ScanChartModel", "chart", "()V"⟩, 61)]
theorem lw_r5 : ∀ q ∈ lw_privs_5, lw_okq q := List.forall_mem_cons.mpr ⟨lw_p64, List.forall_mem_cons.mpr ⟨lw_p65, List.forall_mem_cons.mpr ⟨lw_p66, List.forall_mem_cons.mpr ⟨lw_p67, List.forall_mem_cons.mpr ⟨lw_p68, List.forall_mem_cons.mpr ⟨lw_p69, List.forall_mem_cons.mpr ⟨lw_p70, List.forall_mem_cons.mpr ⟨lw_p71, List.forall_mem_cons.mpr ⟨lw_p72, List.forall_mem_cons.mpr ⟨lw_p73, List.forall_mem_cons.mpr ⟨lw_p74, List.forall_mem_cons.mpr ⟨lw_p75, List.forall_mem_cons.mpr ⟨lw_p76, fun _ h => absurd h List.not_mem_nil⟩⟩⟩⟩⟩⟩⟩⟩⟩⟩⟩⟩⟩
def lw_privs : List (MethodName × Nat) := lw_privs_1 ++ (lw_privs_2 ++ (lw_privs_3 ++ (lw_privs_4 ++ (lw_privs_5))))
def lw_tbl : List Cond := k2_sels lw_privs ++ tables_1
theorem lw_privs_ok : ∀ q ∈ lw_privs, lw_okq q := by
  show ∀ q ∈ lw_privs_1 ++ (lw_privs_2 ++ (lw_privs_3 ++ (lw_privs_4 ++ (lw_privs_5)))), lw_okq q
  exact List.forall_mem_append.mpr ⟨lw_r1, List.forall_mem_append.mpr ⟨lw_r2, List.forall_mem_append.mpr ⟨lw_r3, List.forall_mem_append.mpr ⟨lw_r4, lw_r5⟩⟩⟩⟩
/-! ===== BEGIN printed: names, fields, word lists, decode rows ===== -/
def RX0 : String := "ScanChart$1"
def TX0 : u_T := fun k => match k with
  | _ => ("", "", "", false)
def tyX0 : Nat → FieldType := fun k => match k with
  | _ => .int
abbrev wsX00 : List Cond := u_ws RX0 TX0 0
theorem nmX0 : ∀ a, a < 0 → ∀ b, b < 0 → a ≠ b → (TX0 a).2.1 ≠ (TX0 b).2.1 := by decide +kernel
theorem tyX0_ok : ∀ k, k < 0 → parseFieldDescriptor (TX0 k).2.2.1 = some (tyX0 k) := by decide +kernel
def RX1 : String := "ScanChart$Cells"
def TX1 : u_T := fun k => match k with
  | 0 => ("ScanChart$Cells", "masks", "[I", true)
  | 1 => ("ScanChart$Cells", "words", "[I", true)
  | 2 => ("ScanChart$Cells", "elapsed", "[I", true)
  | _ => ("ScanChart$Cells", "counts", "[I", true)
def tyX1 : Nat → FieldType := fun k => match k with
  | 0 => .array .int
  | 1 => .array .int
  | 2 => .array .int
  | _ => .array .int
abbrev wsX10 : List Cond := u_ws RX1 TX1 4
theorem nmX1 : ∀ a, a < 4 → ∀ b, b < 4 → a ≠ b → (TX1 a).2.1 ≠ (TX1 b).2.1 := by decide +kernel
theorem tyX1_ok : ∀ k, k < 4 → parseFieldDescriptor (TX1 k).2.2.1 = some (tyX1 k) := by decide +kernel
abbrev cX1_init : ByteArray := prog_3_method_1_code
def yX1_init : MethodName := ⟨RX1, "<init>", "()V"⟩
abbrev cX1_clear : ByteArray := prog_3_method_2_code
def yX1_clear : MethodName := ⟨RX1, "clear", "()V"⟩
abbrev cX1_valueOf : ByteArray := prog_3_method_3_code
def yX1_valueOf : MethodName := ⟨RX1, "valueOf", "(II)I"⟩
abbrev cX1_setBit : ByteArray := prog_3_method_4_code
def yX1_setBit : MethodName := ⟨RX1, "setBit", "(IIZ)V"⟩
abbrev cX1_store : ByteArray := prog_3_method_5_code
def yX1_store : MethodName := ⟨RX1, "store", "(III)V"⟩
abbrev cX1_setTimer : ByteArray := prog_3_method_6_code
def yX1_setTimer : MethodName := ⟨RX1, "setTimer", "(IZI)V"⟩
abbrev cX1_setCount : ByteArray := prog_3_method_7_code
def yX1_setCount : MethodName := ⟨RX1, "setCount", "(II)V"⟩
def RX2 : String := "ScanChart$Chart"
def TX2 : u_T := fun k => match k with
  | 0 => ("ScanChart$Chart", "goBefore", "[I", true)
  | 1 => ("ScanChart$Chart", "goBehind", "[I", true)
  | 2 => ("ScanChart$Chart", "goConditions", "[I", true)
  | 3 => ("ScanChart$Chart", "goKinds", "[I", true)
  | 4 => ("ScanChart$Chart", "goNumbers", "[I", true)
  | 5 => ("ScanChart$Chart", "goCount", "I", false)
  | 6 => ("ScanChart$Chart", "actions", "[I", true)
  | 7 => ("ScanChart$Chart", "actionKinds", "[I", true)
  | 8 => ("ScanChart$Chart", "actionNumbers", "[I", true)
  | _ => ("ScanChart$Chart", "steps", "I", false)
def tyX2 : Nat → FieldType := fun k => match k with
  | 0 => .array .int
  | 1 => .array .int
  | 2 => .array .int
  | 3 => .array .int
  | 4 => .array .int
  | 5 => .int
  | 6 => .array .int
  | 7 => .array .int
  | 8 => .array .int
  | _ => .int
abbrev wsX20 : List Cond := u_ws RX2 TX2 10
theorem nmX2 : ∀ a, a < 10 → ∀ b, b < 10 → a ≠ b → (TX2 a).2.1 ≠ (TX2 b).2.1 := by decide +kernel
theorem tyX2_ok : ∀ k, k < 10 → parseFieldDescriptor (TX2 k).2.2.1 = some (tyX2 k) := by decide +kernel
abbrev cX2_init : ByteArray := prog_4_method_1_code
def yX2_init : MethodName := ⟨RX2, "<init>", "()V"⟩
abbrev cX2_clear : ByteArray := prog_4_method_2_code
def yX2_clear : MethodName := ⟨RX2, "clear", "()V"⟩
abbrev cX2_addGo : ByteArray := prog_4_method_3_code
def yX2_addGo : MethodName := ⟨RX2, "addGo", "(IIIII)V"⟩
abbrev cX2_addAction : ByteArray := prog_4_method_4_code
def yX2_addAction : MethodName := ⟨RX2, "addAction", "(IIIII)V"⟩
def RX3 : String := "ScanChart$Machine"
def TX3 : u_T := fun k => match k with
  | 0 => ("ScanChart$Machine", "cells", "LScanChart$Cells;", true)
  | 1 => ("ScanChart$Machine", "now", "J", false)
  | 2 => ("ScanChart$Machine", "outputs", "I", false)
  | 3 => ("ScanChart$Machine", "stop", "I", false)
  | 4 => ("ScanChart$Machine", "performed", "I", false)
  | 5 => ("ScanChart$Machine", "gosFired", "I", false)
  | 6 => ("ScanChart$Machine", "past", "LScanChart$Past;", true)
  | 7 => ("ScanChart$Machine", "result", "I", false)
  | 8 => ("ScanChart$Machine", "next", "I", false)
  | 9 => ("ScanChart$Machine", "open", "I", false)
  | 10 => ("ScanChart$Machine", "asideResults", "[I", true)
  | _ => ("ScanChart$Machine", "asideOps", "[LScanChart$Op;", true)
def tyX3 : Nat → FieldType := fun k => match k with
  | 0 => .object "ScanChart$Cells"
  | 1 => .long
  | 2 => .int
  | 3 => .int
  | 4 => .int
  | 5 => .int
  | 6 => .object "ScanChart$Past"
  | 7 => .int
  | 8 => .int
  | 9 => .int
  | 10 => .array .int
  | _ => .array (.object "ScanChart$Op")
abbrev wsX30 : List Cond := u_ws RX3 TX3 12
theorem nmX3 : ∀ a, a < 12 → ∀ b, b < 12 → a ≠ b → (TX3 a).2.1 ≠ (TX3 b).2.1 := by decide +kernel
theorem tyX3_ok : ∀ k, k < 12 → parseFieldDescriptor (TX3 k).2.2.1 = some (tyX3 k) := by decide +kernel
abbrev cX3_init : ByteArray := prog_5_method_1_code
def yX3_init : MethodName := ⟨RX3, "<init>", "()V"⟩
abbrev cX3_startAgain : ByteArray := prog_5_method_2_code
def yX3_startAgain : MethodName := ⟨RX3, "startAgain", "()V"⟩
abbrev cX3_goRound : ByteArray := prog_5_method_3_code
def yX3_goRound : MethodName := ⟨RX3, "goRound", "(LScanChart$Program;II)V"⟩
abbrev cX3_performList : ByteArray := prog_5_method_4_code
def yX3_performList : MethodName := ⟨RX3, "performList", "(LScanChart$Program;)V"⟩
abbrev cX3_perform : ByteArray := prog_5_method_5_code
def yX3_perform : MethodName := ⟨RX3, "perform", "(LScanChart$Op;LScanChart$Program;I)V"⟩
abbrev cX3_performBlock : ByteArray := prog_5_method_6_code
def yX3_performBlock : MethodName := ⟨RX3, "performBlock", "(LScanChart$Op;II)V"⟩
abbrev cX3_putAside : ByteArray := prog_5_method_7_code
def yX3_putAside : MethodName := ⟨RX3, "putAside", "(LScanChart$Op;)V"⟩
abbrev cX3_takeBack : ByteArray := prog_5_method_8_code
def yX3_takeBack : MethodName := ⟨RX3, "takeBack", "()V"⟩
abbrev cX3_calculate : ByteArray := prog_5_method_9_code
def yX3_calculate : MethodName := ⟨RX3, "calculate", "(LScanChart$Op;II)I"⟩
abbrev cX3_compare : ByteArray := prog_5_method_10_code
def yX3_compare : MethodName := ⟨RX3, "compare", "(LScanChart$Op;II)Z"⟩
abbrev cX3_goOn : ByteArray := prog_5_method_11_code
def yX3_goOn : MethodName := ⟨RX3, "goOn", "(LScanChart$Chart;)V"⟩
abbrev cX3_isOpen : ByteArray := prog_5_method_12_code
def yX3_isOpen : MethodName := ⟨RX3, "isOpen", "(LScanChart$Chart;I)Z"⟩
abbrev cX3_act : ByteArray := prog_5_method_13_code
def yX3_act : MethodName := ⟨RX3, "act", "(LScanChart$Chart;)V"⟩
abbrev cX3_actAs : ByteArray := prog_5_method_14_code
def yX3_actAs : MethodName := ⟨RX3, "actAs", "(LScanChart$Chart;IIZ)V"⟩
def RX4 : String := "ScanChart$Op"
def TX4 : u_T := fun k => match k with
  | _ => ("", "", "", false)
def tyX4 : Nat → FieldType := fun k => match k with
  | _ => .int
abbrev wsX40 : List Cond := u_ws RX4 TX4 0
theorem nmX4 : ∀ a, a < 0 → ∀ b, b < 0 → a ≠ b → (TX4 a).2.1 ≠ (TX4 b).2.1 := by decide +kernel
theorem tyX4_ok : ∀ k, k < 0 → parseFieldDescriptor (TX4 k).2.2.1 = some (tyX4 k) := by decide +kernel
abbrev cX4_counts : ByteArray := prog_6_method_4_code
def yX4_counts : MethodName := ⟨RX4, "counts", "(I)I"⟩
abbrev cX4_isBlock : ByteArray := prog_6_method_5_code
def yX4_isBlock : MethodName := ⟨RX4, "isBlock", "()Z"⟩
abbrev cX4_isTaken : ByteArray := prog_6_method_6_code
def yX4_isTaken : MethodName := ⟨RX4, "isTaken", "(I)Z"⟩
def RX5 : String := "ScanChart$Past"
def TX5 : u_T := fun k => match k with
  | 0 => ("ScanChart$Past", "onRuns", "I", false)
  | 1 => ("ScanChart$Past", "onBegan", "[J", true)
  | 2 => ("ScanChart$Past", "offHadIt", "I", false)
  | 3 => ("ScanChart$Past", "offRuns", "I", false)
  | 4 => ("ScanChart$Past", "offBegan", "[J", true)
  | 5 => ("ScanChart$Past", "pulseRuns", "I", false)
  | 6 => ("ScanChart$Past", "pulseBegan", "[J", true)
  | 7 => ("ScanChart$Past", "upHadIt", "I", false)
  | 8 => ("ScanChart$Past", "downHadIt", "I", false)
  | 9 => ("ScanChart$Past", "riseHadIt", "I", false)
  | _ => ("ScanChart$Past", "fallHadIt", "I", false)
def tyX5 : Nat → FieldType := fun k => match k with
  | 0 => .int
  | 1 => .array .long
  | 2 => .int
  | 3 => .int
  | 4 => .array .long
  | 5 => .int
  | 6 => .array .long
  | 7 => .int
  | 8 => .int
  | 9 => .int
  | _ => .int
abbrev wsX50 : List Cond := u_ws RX5 TX5 11
theorem nmX5 : ∀ a, a < 11 → ∀ b, b < 11 → a ≠ b → (TX5 a).2.1 ≠ (TX5 b).2.1 := by decide +kernel
theorem tyX5_ok : ∀ k, k < 11 → parseFieldDescriptor (TX5 k).2.2.1 = some (tyX5 k) := by decide +kernel
abbrev cX5_init : ByteArray := prog_7_method_1_code
def yX5_init : MethodName := ⟨RX5, "<init>", "()V"⟩
abbrev cX5_clear : ByteArray := prog_7_method_2_code
def yX5_clear : MethodName := ⟨RX5, "clear", "()V"⟩
abbrev cX5_begin : ByteArray := prog_7_method_3_code
def yX5_begin : MethodName := ⟨RX5, "begin", "([JIJ)V"⟩
abbrev cX5_goneSince : ByteArray := prog_7_method_4_code
def yX5_goneSince : MethodName := ⟨RX5, "goneSince", "([JIJI)I"⟩
abbrev cX5_delayOn : ByteArray := prog_7_method_5_code
def yX5_delayOn : MethodName := ⟨RX5, "delayOn", "(LScanChart$Cells;IZIJ)V"⟩
abbrev cX5_delayOff : ByteArray := prog_7_method_6_code
def yX5_delayOff : MethodName := ⟨RX5, "delayOff", "(LScanChart$Cells;IZIJ)V"⟩
abbrev cX5_pulse : ByteArray := prog_7_method_7_code
def yX5_pulse : MethodName := ⟨RX5, "pulse", "(LScanChart$Cells;IZIJ)V"⟩
abbrev cX5_countUp : ByteArray := prog_7_method_8_code
def yX5_countUp : MethodName := ⟨RX5, "countUp", "(LScanChart$Cells;IZI)V"⟩
abbrev cX5_countDown : ByteArray := prog_7_method_9_code
def yX5_countDown : MethodName := ⟨RX5, "countDown", "(LScanChart$Cells;IZ)V"⟩
abbrev cX5_rises : ByteArray := prog_7_method_10_code
def yX5_rises : MethodName := ⟨RX5, "rises", "(IZ)Z"⟩
abbrev cX5_falls : ByteArray := prog_7_method_11_code
def yX5_falls : MethodName := ⟨RX5, "falls", "(IZ)Z"⟩
def RX6 : String := "ScanChart$Program"
def TX6 : u_T := fun k => match k with
  | 0 => ("ScanChart$Program", "chart", "LScanChart$Chart;", true)
  | 1 => ("ScanChart$Program", "ops", "[LScanChart$Op;", true)
  | 2 => ("ScanChart$Program", "kinds", "[I", true)
  | 3 => ("ScanChart$Program", "numbers", "[I", true)
  | 4 => ("ScanChart$Program", "limits", "[I", true)
  | 5 => ("ScanChart$Program", "labels", "[I", true)
  | _ => ("ScanChart$Program", "count", "I", false)
def tyX6 : Nat → FieldType := fun k => match k with
  | 0 => .object "ScanChart$Chart"
  | 1 => .array (.object "ScanChart$Op")
  | 2 => .array .int
  | 3 => .array .int
  | 4 => .array .int
  | 5 => .array .int
  | _ => .int
abbrev wsX60 : List Cond := u_ws RX6 TX6 7
theorem nmX6 : ∀ a, a < 7 → ∀ b, b < 7 → a ≠ b → (TX6 a).2.1 ≠ (TX6 b).2.1 := by decide +kernel
theorem tyX6_ok : ∀ k, k < 7 → parseFieldDescriptor (TX6 k).2.2.1 = some (tyX6 k) := by decide +kernel
abbrev cX6_init : ByteArray := prog_8_method_1_code
def yX6_init : MethodName := ⟨RX6, "<init>", "()V"⟩
abbrev cX6_clear : ByteArray := prog_8_method_2_code
def yX6_clear : MethodName := ⟨RX6, "clear", "()V"⟩
abbrev cX6_add : ByteArray := prog_8_method_3_code
def yX6_add : MethodName := ⟨RX6, "add", "(LScanChart$Op;III)V"⟩
abbrev cX6_opAt : ByteArray := prog_8_method_4_code
def yX6_opAt : MethodName := ⟨RX6, "opAt", "(I)LScanChart$Op;"⟩
def RX7 : String := "ScanChart$Reader"
def TX7 : u_T := fun k => match k with
  | 0 => ("ScanChart$Reader", "text", "LScanChart$Text;", true)
  | 1 => ("ScanChart$Reader", "program", "LScanChart$Program;", false)
  | 2 => ("ScanChart$Reader", "faultMet", "I", false)
  | 3 => ("ScanChart$Reader", "faultPlace", "I", false)
  | 4 => ("ScanChart$Reader", "token", "I", false)
  | 5 => ("ScanChart$Reader", "from", "I", false)
  | 6 => ("ScanChart$Reader", "to", "I", false)
  | 7 => ("ScanChart$Reader", "figures", "I", false)
  | 8 => ("ScanChart$Reader", "opens", "Z", false)
  | 9 => ("ScanChart$Reader", "open", "I", false)
  | 10 => ("ScanChart$Reader", "gotKind", "I", false)
  | 11 => ("ScanChart$Reader", "gotNumber", "I", false)
  | 12 => ("ScanChart$Reader", "labelNamed", "[I", true)
  | _ => ("ScanChart$Reader", "stepNamed", "[I", true)
def tyX7 : Nat → FieldType := fun k => match k with
  | 0 => .object "ScanChart$Text"
  | 1 => .object "ScanChart$Program"
  | 2 => .int
  | 3 => .int
  | 4 => .int
  | 5 => .int
  | 6 => .int
  | 7 => .int
  | 8 => .boolean
  | 9 => .int
  | 10 => .int
  | 11 => .int
  | 12 => .array .int
  | _ => .array .int
abbrev wsX70 : List Cond := u_ws RX7 TX7 14
theorem nmX7 : ∀ a, a < 14 → ∀ b, b < 14 → a ≠ b → (TX7 a).2.1 ≠ (TX7 b).2.1 := by decide +kernel
theorem tyX7_ok : ∀ k, k < 14 → parseFieldDescriptor (TX7 k).2.2.1 = some (tyX7 k) := by decide +kernel
abbrev cX7_init : ByteArray := prog_9_method_1_code
def yX7_init : MethodName := ⟨RX7, "<init>", "()V"⟩
abbrev cX7_readText : ByteArray := prog_9_method_2_code
def yX7_readText : MethodName := ⟨RX7, "readText", "()Z"⟩
abbrev cX7_fail : ByteArray := prog_9_method_3_code
def yX7_fail : MethodName := ⟨RX7, "fail", "(I)Z"⟩
abbrev cX7_failAt : ByteArray := prog_9_method_4_code
def yX7_failAt : MethodName := ⟨RX7, "failAt", "(II)Z"⟩
abbrev cX7_advance : ByteArray := prog_9_method_5_code
def yX7_advance : MethodName := ⟨RX7, "advance", "()V"⟩
abbrev cX7_isWord : ByteArray := prog_9_method_6_code
def yX7_isWord : MethodName := ⟨RX7, "isWord", "(Ljava/lang/String;)Z"⟩
abbrev cX7_isFigures : ByteArray := prog_9_method_7_code
def yX7_isFigures : MethodName := ⟨RX7, "isFigures", "()Z"⟩
abbrev cX7_isLabel : ByteArray := prog_9_method_8_code
def yX7_isLabel : MethodName := ⟨RX7, "isLabel", "()Z"⟩
abbrev cX7_readLabel : ByteArray := prog_9_method_9_code
def yX7_readLabel : MethodName := ⟨RX7, "readLabel", "()Z"⟩
abbrev cX7_readOp : ByteArray := prog_9_method_10_code
def yX7_readOp : MethodName := ⟨RX7, "readOp", "()LScanChart$Op;"⟩
abbrev cX7_opSpelled : ByteArray := prog_9_method_11_code
def yX7_opSpelled : MethodName := ⟨RX7, "opSpelled", "(II)LScanChart$Op;"⟩
abbrev cX7_isFull : ByteArray := prog_9_method_12_code
def yX7_isFull : MethodName := ⟨RX7, "isFull", "(LScanChart$Op;)Z"⟩
abbrev cX7_isAllowedByBrackets : ByteArray := prog_9_method_13_code
def yX7_isAllowedByBrackets : MethodName := ⟨RX7, "isAllowedByBrackets", "(LScanChart$Op;)Z"⟩
abbrev cX7_readOperands : ByteArray := prog_9_method_14_code
def yX7_readOperands : MethodName := ⟨RX7, "readOperands", "(LScanChart$Op;)Z"⟩
abbrev cX7_operandsOf : ByteArray := prog_9_method_15_code
def yX7_operandsOf : MethodName := ⟨RX7, "operandsOf", "(LScanChart$Op;)I"⟩
abbrev cX7_kindOfWord : ByteArray := prog_9_method_16_code
def yX7_kindOfWord : MethodName := ⟨RX7, "kindOfWord", "()I"⟩
abbrev cX7_readCell : ByteArray := prog_9_method_17_code
def yX7_readCell : MethodName := ⟨RX7, "readCell", "(I)Z"⟩
abbrev cX7_readFigures : ByteArray := prog_9_method_18_code
def yX7_readFigures : MethodName := ⟨RX7, "readFigures", "(II)Z"⟩
abbrev cX7_readStep : ByteArray := prog_9_method_19_code
def yX7_readStep : MethodName := ⟨RX7, "readStep", "()Z"⟩
abbrev cX7_actionOfWord : ByteArray := prog_9_method_20_code
def yX7_actionOfWord : MethodName := ⟨RX7, "actionOfWord", "()I"⟩
abbrev cX7_readGo : ByteArray := prog_9_method_21_code
def yX7_readGo : MethodName := ⟨RX7, "readGo", "()Z"⟩
abbrev cX7_readSteps : ByteArray := prog_9_method_22_code
def yX7_readSteps : MethodName := ⟨RX7, "readSteps", "()I"⟩
abbrev cX7_noteNamed : ByteArray := prog_9_method_23_code
def yX7_noteNamed : MethodName := ⟨RX7, "noteNamed", "([III)V"⟩
abbrev cX7_findNoneMissing : ByteArray := prog_9_method_24_code
def yX7_findNoneMissing : MethodName := ⟨RX7, "findNoneMissing", "()Z"⟩
def RX8 : String := "ScanChart$Text"
def TX8 : u_T := fun k => match k with
  | 0 => ("ScanChart$Text", "bytes", "[I", true)
  | _ => ("ScanChart$Text", "length", "I", false)
def tyX8 : Nat → FieldType := fun k => match k with
  | 0 => .array .int
  | _ => .int
abbrev wsX80 : List Cond := u_ws RX8 TX8 2
theorem nmX8 : ∀ a, a < 2 → ∀ b, b < 2 → a ≠ b → (TX8 a).2.1 ≠ (TX8 b).2.1 := by decide +kernel
theorem tyX8_ok : ∀ k, k < 2 → parseFieldDescriptor (TX8 k).2.2.1 = some (tyX8 k) := by decide +kernel
abbrev cX8_init : ByteArray := prog_10_method_1_code
def yX8_init : MethodName := ⟨RX8, "<init>", "()V"⟩
abbrev cX8_append : ByteArray := prog_10_method_2_code
def yX8_append : MethodName := ⟨RX8, "append", "(IJ)I"⟩
abbrev cX8_byteAt : ByteArray := prog_10_method_3_code
def yX8_byteAt : MethodName := ⟨RX8, "byteAt", "(I)I"⟩
abbrev cX8_spells : ByteArray := prog_10_method_4_code
def yX8_spells : MethodName := ⟨RX8, "spells", "(Ljava/lang/String;II)Z"⟩
abbrev cX8_numberIn : ByteArray := prog_10_method_5_code
def yX8_numberIn : MethodName := ⟨RX8, "numberIn", "(II)J"⟩
def RX9 : String := "ScanChart"
def TX9 : u_T := fun k => match k with
  | 0 => ("ScanChart", "reader", "LScanChart$Reader;", true)
  | 1 => ("ScanChart", "machine", "LScanChart$Machine;", true)
  | 2 => ("ScanChart", "program", "LScanChart$Program;", false)
  | _ => ("ScanChart", "inputs", "I", false)
def tyX9 : Nat → FieldType := fun k => match k with
  | 0 => .object "ScanChart$Reader"
  | 1 => .object "ScanChart$Machine"
  | 2 => .object "ScanChart$Program"
  | _ => .int
abbrev wsX90 : List Cond := u_ws RX9 TX9 4
theorem nmX9 : ∀ a, a < 4 → ∀ b, b < 4 → a ≠ b → (TX9 a).2.1 ≠ (TX9 b).2.1 := by decide +kernel
theorem tyX9_ok : ∀ k, k < 4 → parseFieldDescriptor (TX9 k).2.2.1 = some (tyX9 k) := by decide +kernel
abbrev cX9_init : ByteArray := prog_1_method_1_code
def yX9_init : MethodName := ⟨RX9, "<init>", "()V"⟩
abbrev cX9_feed : ByteArray := prog_1_method_2_code
def yX9_feed : MethodName := ⟨RX9, "feed", "(IJ)I"⟩
abbrev cX9_wipe : ByteArray := prog_1_method_3_code
def yX9_wipe : MethodName := ⟨RX9, "wipe", "()I"⟩
abbrev cX9_load : ByteArray := prog_1_method_4_code
def yX9_load : MethodName := ⟨RX9, "load", "()I"⟩
abbrev cX9_fault : ByteArray := prog_1_method_5_code
def yX9_fault : MethodName := ⟨RX9, "fault", "()I"⟩
abbrev cX9_place : ByteArray := prog_1_method_6_code
def yX9_place : MethodName := ⟨RX9, "place", "()I"⟩
abbrev cX9_reset : ByteArray := prog_1_method_7_code
def yX9_reset : MethodName := ⟨RX9, "reset", "()V"⟩
abbrev cX9_input : ByteArray := prog_1_method_8_code
def yX9_input : MethodName := ⟨RX9, "input", "(IZ)V"⟩
abbrev cX9_scan : ByteArray := prog_1_method_9_code
def yX9_scan : MethodName := ⟨RX9, "scan", "(I)I"⟩
abbrev cX9_run : ByteArray := prog_1_method_10_code
def yX9_run : MethodName := ⟨RX9, "run", "(II)I"⟩
abbrev cX9_output : ByteArray := prog_1_method_11_code
def yX9_output : MethodName := ⟨RX9, "output", "(I)Z"⟩
abbrev cX9_bits : ByteArray := prog_1_method_12_code
def yX9_bits : MethodName := ⟨RX9, "bits", "(I)I"⟩
abbrev cX9_word : ByteArray := prog_1_method_13_code
def yX9_word : MethodName := ⟨RX9, "word", "(I)I"⟩
abbrev cX9_block : ByteArray := prog_1_method_14_code
def yX9_block : MethodName := ⟨RX9, "block", "(II)I"⟩
abbrev cX9_done : ByteArray := prog_1_method_15_code
def yX9_done : MethodName := ⟨RX9, "done", "()I"⟩
abbrev cX9_fired : ByteArray := prog_1_method_16_code
def yX9_fired : MethodName := ⟨RX9, "fired", "()I"⟩
abbrev cX9_time : ByteArray := prog_1_method_17_code
def yX9_time : MethodName := ⟨RX9, "time", "()J"⟩
abbrev cX9_at : ByteArray := prog_1_method_18_code
def yX9_at : MethodName := ⟨RX9, "at", "([II)I"⟩
abbrev cX9_put : ByteArray := prog_1_method_19_code
def yX9_put : MethodName := ⟨RX9, "put", "([III)V"⟩
abbrev cX9_isSet : ByteArray := prog_1_method_20_code
def yX9_isSet : MethodName := ⟨RX9, "isSet", "(II)Z"⟩
abbrev cX9_withBit : ByteArray := prog_1_method_21_code
def yX9_withBit : MethodName := ⟨RX9, "withBit", "(IIZ)I"⟩
abbrev cX9_fill : ByteArray := prog_1_method_22_code
def yX9_fill : MethodName := ⟨RX9, "fill", "([II)V"⟩
def RX10 : String := "ScanChartModel"
def TX10 : u_T := fun k => match k with
  | 0 => ("ScanChartModel", "thrown", "I", false)
  | 1 => ("ScanChartModel", "text", "[I", true)
  | 2 => ("ScanChartModel", "size", "I", false)
  | 3 => ("ScanChartModel", "wrong", "I", false)
  | 4 => ("ScanChartModel", "wrongAt", "I", false)
  | 5 => ("ScanChartModel", "what", "[I", true)
  | 6 => ("ScanChartModel", "how", "[I", true)
  | 7 => ("ScanChartModel", "kind", "[I", true)
  | 8 => ("ScanChartModel", "number", "[I", true)
  | 9 => ("ScanChartModel", "more", "[I", true)
  | 10 => ("ScanChartModel", "lines", "[I", true)
  | 11 => ("ScanChartModel", "labels", "[I", true)
  | 12 => ("ScanChartModel", "steps", "[Z", true)
  | 13 => ("ScanChartModel", "actHow", "[I", true)
  | 14 => ("ScanChartModel", "actKind", "[I", true)
  | 15 => ("ScanChartModel", "actNumber", "[I", true)
  | 16 => ("ScanChartModel", "goFrom", "[I", true)
  | 17 => ("ScanChartModel", "goTo", "[I", true)
  | 18 => ("ScanChartModel", "goIf", "[I", true)
  | 19 => ("ScanChartModel", "goKind", "[I", true)
  | 20 => ("ScanChartModel", "goNumber", "[I", true)
  | 21 => ("ScanChartModel", "goes", "[I", true)
  | 22 => ("ScanChartModel", "own", "I", false)
  | 23 => ("ScanChartModel", "half", "I", false)
  | 24 => ("ScanChartModel", "at", "I", false)
  | 25 => ("ScanChartModel", "from", "I", false)
  | 26 => ("ScanChartModel", "to", "I", false)
  | 27 => ("ScanChartModel", "open", "I", false)
  | 28 => ("ScanChartModel", "first", "I", false)
  | 29 => ("ScanChartModel", "second", "I", false)
  | 30 => ("ScanChartModel", "named", "[I", true)
  | 31 => ("ScanChartModel", "namedAt", "[I", true)
  | 32 => ("ScanChartModel", "namedCount", "I", false)
  | 33 => ("ScanChartModel", "given", "[Z", true)
  | 34 => ("ScanChartModel", "inputs", "[I", true)
  | 35 => ("ScanChartModel", "outs", "[I", true)
  | 36 => ("ScanChartModel", "marks", "[I", true)
  | 37 => ("ScanChartModel", "words", "[I", true)
  | 38 => ("ScanChartModel", "times", "[I", true)
  | 39 => ("ScanChartModel", "timerBits", "[I", true)
  | 40 => ("ScanChartModel", "counts", "[I", true)
  | 41 => ("ScanChartModel", "counterBits", "[I", true)
  | 42 => ("ScanChartModel", "active", "[I", true)
  | 43 => ("ScanChartModel", "shown", "[I", true)
  | 44 => ("ScanChartModel", "clock", "J", false)
  | 45 => ("ScanChartModel", "stopped", "I", false)
  | 46 => ("ScanChartModel", "lastDone", "I", false)
  | 47 => ("ScanChartModel", "lastFired", "I", false)
  | 48 => ("ScanChartModel", "onSince", "[J", true)
  | 49 => ("ScanChartModel", "hadIt", "[Z", true)
  | 50 => ("ScanChartModel", "offSince", "[J", true)
  | 51 => ("ScanChartModel", "pulseSince", "[J", true)
  | 52 => ("ScanChartModel", "pulseLast", "[Z", true)
  | 53 => ("ScanChartModel", "upLast", "[Z", true)
  | 54 => ("ScanChartModel", "downLast", "[Z", true)
  | 55 => ("ScanChartModel", "riseLast", "[Z", true)
  | 56 => ("ScanChartModel", "fallLast", "[Z", true)
  | 57 => ("ScanChartModel", "aside", "[I", true)
  | 58 => ("ScanChartModel", "asideBy", "[I", true)
  | 59 => ("ScanChartModel", "depth", "I", false)
  | _ => ("ScanChartModel", "result", "I", false)
def tyX10 : Nat → FieldType := fun k => match k with
  | 0 => .int
  | 1 => .array .int
  | 2 => .int
  | 3 => .int
  | 4 => .int
  | 5 => .array .int
  | 6 => .array .int
  | 7 => .array .int
  | 8 => .array .int
  | 9 => .array .int
  | 10 => .array .int
  | 11 => .array .int
  | 12 => .array .boolean
  | 13 => .array .int
  | 14 => .array .int
  | 15 => .array .int
  | 16 => .array .int
  | 17 => .array .int
  | 18 => .array .int
  | 19 => .array .int
  | 20 => .array .int
  | 21 => .array .int
  | 22 => .int
  | 23 => .int
  | 24 => .int
  | 25 => .int
  | 26 => .int
  | 27 => .int
  | 28 => .int
  | 29 => .int
  | 30 => .array .int
  | 31 => .array .int
  | 32 => .int
  | 33 => .array .boolean
  | 34 => .array .int
  | 35 => .array .int
  | 36 => .array .int
  | 37 => .array .int
  | 38 => .array .int
  | 39 => .array .int
  | 40 => .array .int
  | 41 => .array .int
  | 42 => .array .int
  | 43 => .array .int
  | 44 => .long
  | 45 => .int
  | 46 => .int
  | 47 => .int
  | 48 => .array .long
  | 49 => .array .boolean
  | 50 => .array .long
  | 51 => .array .long
  | 52 => .array .boolean
  | 53 => .array .boolean
  | 54 => .array .boolean
  | 55 => .array .boolean
  | 56 => .array .boolean
  | 57 => .array .int
  | 58 => .array .int
  | 59 => .int
  | _ => .int
abbrev wsX100 : List Cond := u_ws RX10 TX10 61
theorem nmX10 : ∀ a, a < 61 → ∀ b, b < 61 → a ≠ b → (TX10 a).2.1 ≠ (TX10 b).2.1 := by decide +kernel
theorem tyX10_ok : ∀ k, k < 61 → parseFieldDescriptor (TX10 k).2.2.1 = some (tyX10 k) := by decide +kernel
abbrev cX10_init : ByteArray := prog_12_method_1_code
def yX10_init : MethodName := ⟨RX10, "<init>", "()V"⟩
abbrev cX10_thrown : ByteArray := prog_12_method_2_code
def yX10_thrown : MethodName := ⟨RX10, "thrown", "()I"⟩
abbrev cX10_feed : ByteArray := prog_12_method_3_code
def yX10_feed : MethodName := ⟨RX10, "feed", "(IJ)I"⟩
abbrev cX10_wipe : ByteArray := prog_12_method_4_code
def yX10_wipe : MethodName := ⟨RX10, "wipe", "()I"⟩
abbrev cX10_fail : ByteArray := prog_12_method_5_code
def yX10_fail : MethodName := ⟨RX10, "fail", "(II)V"⟩
abbrev cX10_next : ByteArray := prog_12_method_6_code
def yX10_next : MethodName := ⟨RX10, "next", "()V"⟩
abbrev cX10_isEnd : ByteArray := prog_12_method_7_code
def yX10_isEnd : MethodName := ⟨RX10, "isEnd", "()Z"⟩
abbrev cX10_isLineEnd : ByteArray := prog_12_method_8_code
def yX10_isLineEnd : MethodName := ⟨RX10, "isLineEnd", "()Z"⟩
abbrev cX10_code : ByteArray := prog_12_method_9_code
def yX10_code : MethodName := ⟨RX10, "code", "()J"⟩
abbrev cX10_isFigure : ByteArray := prog_12_method_10_code
def yX10_isFigure : MethodName := ⟨RX10, "isFigure", "(I)Z"⟩
abbrev cX10_areFigures : ByteArray := prog_12_method_11_code
def yX10_areFigures : MethodName := ⟨RX10, "areFigures", "(II)Z"⟩
abbrev cX10_value : ByteArray := prog_12_method_12_code
def yX10_value : MethodName := ⟨RX10, "value", "(II)J"⟩
abbrev cX10_small : ByteArray := prog_12_method_13_code
def yX10_small : MethodName := ⟨RX10, "small", "(III)I"⟩
abbrev cX10_great : ByteArray := prog_12_method_14_code
def yX10_great : MethodName := ⟨RX10, "great", "(II)I"⟩
abbrev cX10_byteAt : ByteArray := prog_12_method_15_code
def yX10_byteAt : MethodName := ⟨RX10, "byteAt", "(I)I"⟩
abbrev cX10_cellKind : ByteArray := prog_12_method_16_code
def yX10_cellKind : MethodName := ⟨RX10, "cellKind", "()I"⟩
abbrev cX10_mostOf : ByteArray := prog_12_method_17_code
def yX10_mostOf : MethodName := ⟨RX10, "mostOf", "(I)I"⟩
abbrev cX10_operand : ByteArray := prog_12_method_18_code
def yX10_operand : MethodName := ⟨RX10, "operand", "(I)V"⟩
abbrev cX10_sign : ByteArray := prog_12_method_19_code
def yX10_sign : MethodName := ⟨RX10, "sign", "(J)I"⟩
abbrev cX10_add : ByteArray := prog_12_method_20_code
def yX10_add : MethodName := ⟨RX10, "add", "(IIIII)V"⟩
abbrev cX10_isSign : ByteArray := prog_12_method_21_code
def yX10_isSign : MethodName := ⟨RX10, "isSign", "(J)Z"⟩
abbrev cX10_mayComeNow : ByteArray := prog_12_method_22_code
def yX10_mayComeNow : MethodName := ⟨RX10, "mayComeNow", "()Z"⟩
abbrev cX10_isMove : ByteArray := prog_12_method_23_code
def yX10_isMove : MethodName := ⟨RX10, "isMove", "(J)Z"⟩
abbrev cX10_isJump : ByteArray := prog_12_method_24_code
def yX10_isJump : MethodName := ⟨RX10, "isJump", "(J)Z"⟩
abbrev cX10_labelWord : ByteArray := prog_12_method_25_code
def yX10_labelWord : MethodName := ⟨RX10, "labelWord", "(I)I"⟩
abbrev cX10_names : ByteArray := prog_12_method_26_code
def yX10_names : MethodName := ⟨RX10, "names", "(I)V"⟩
abbrev cX10_lettered : ByteArray := prog_12_method_27_code
def yX10_lettered : MethodName := ⟨RX10, "lettered", "(II)I"⟩
abbrev cX10_isBlock : ByteArray := prog_12_method_28_code
def yX10_isBlock : MethodName := ⟨RX10, "isBlock", "(J)Z"⟩
abbrev cX10_isAlone : ByteArray := prog_12_method_29_code
def yX10_isAlone : MethodName := ⟨RX10, "isAlone", "(J)Z"⟩
abbrev cX10_actions : ByteArray := prog_12_method_30_code
def yX10_actions : MethodName := ⟨RX10, "actions", "(I)V"⟩
abbrev cX10_step : ByteArray := prog_12_method_31_code
def yX10_step : MethodName := ⟨RX10, "step", "()V"⟩
abbrev cX10_some : ByteArray := prog_12_method_32_code
def yX10_some : MethodName := ⟨RX10, "some", "()I"⟩
abbrev cX10_go : ByteArray := prog_12_method_33_code
def yX10_go : MethodName := ⟨RX10, "go", "()V"⟩
abbrev cX10_line : ByteArray := prog_12_method_34_code
def yX10_line : MethodName := ⟨RX10, "line", "()V"⟩
abbrev cX10_begin : ByteArray := prog_12_method_35_code
def yX10_begin : MethodName := ⟨RX10, "begin", "()V"⟩
abbrev cX10_load : ByteArray := prog_12_method_36_code
def yX10_load : MethodName := ⟨RX10, "load", "()I"⟩
abbrev cX10_fault : ByteArray := prog_12_method_37_code
def yX10_fault : MethodName := ⟨RX10, "fault", "()I"⟩
abbrev cX10_place : ByteArray := prog_12_method_38_code
def yX10_place : MethodName := ⟨RX10, "place", "()I"⟩
abbrev cX10_resetAll : ByteArray := prog_12_method_39_code
def yX10_resetAll : MethodName := ⟨RX10, "resetAll", "()V"⟩
abbrev cX10_reset : ByteArray := prog_12_method_40_code
def yX10_reset : MethodName := ⟨RX10, "reset", "()V"⟩
abbrev cX10_cell : ByteArray := prog_12_method_41_code
def yX10_cell : MethodName := ⟨RX10, "cell", "(II)I"⟩
abbrev cX10_setBit : ByteArray := prog_12_method_42_code
def yX10_setBit : MethodName := ⟨RX10, "setBit", "(III)V"⟩
abbrev cX10_past : ByteArray := prog_12_method_43_code
def yX10_past : MethodName := ⟨RX10, "past", "(JI)I"⟩
abbrev cX10_timer : ByteArray := prog_12_method_44_code
def yX10_timer : MethodName := ⟨RX10, "timer", "(III)V"⟩
abbrev cX10_counter : ByteArray := prog_12_method_45_code
def yX10_counter : MethodName := ⟨RX10, "counter", "(III)V"⟩
abbrev cX10_edge : ByteArray := prog_12_method_46_code
def yX10_edge : MethodName := ⟨RX10, "edge", "(II)V"⟩
abbrev cX10_truth : ByteArray := prog_12_method_47_code
def yX10_truth : MethodName := ⟨RX10, "truth", "(Z)I"⟩
abbrev cX10_made : ByteArray := prog_12_method_48_code
def yX10_made : MethodName := ⟨RX10, "made", "(III)I"⟩
abbrev cX10_join : ByteArray := prog_12_method_49_code
def yX10_join : MethodName := ⟨RX10, "join", "(III)I"⟩
abbrev cX10_signed : ByteArray := prog_12_method_50_code
def yX10_signed : MethodName := ⟨RX10, "signed", "(I)I"⟩
abbrev cX10_close : ByteArray := prog_12_method_51_code
def yX10_close : MethodName := ⟨RX10, "close", "()I"⟩
abbrev cX10_store : ByteArray := prog_12_method_52_code
def yX10_store : MethodName := ⟨RX10, "store", "(I)V"⟩
abbrev cX10_act : ByteArray := prog_12_method_53_code
def yX10_act : MethodName := ⟨RX10, "act", "(I)I"⟩
abbrev cX10_list : ByteArray := prog_12_method_54_code
def yX10_list : MethodName := ⟨RX10, "list", "()I"⟩
abbrev cX10_chart : ByteArray := prog_12_method_55_code
def yX10_chart : MethodName := ⟨RX10, "chart", "()V"⟩
abbrev cX10_scanOnce : ByteArray := prog_12_method_56_code
def yX10_scanOnce : MethodName := ⟨RX10, "scanOnce", "(I)I"⟩
abbrev cX10_scan : ByteArray := prog_12_method_57_code
def yX10_scan : MethodName := ⟨RX10, "scan", "(I)I"⟩
abbrev cX10_run : ByteArray := prog_12_method_58_code
def yX10_run : MethodName := ⟨RX10, "run", "(II)I"⟩
abbrev cX10_noPlace : ByteArray := prog_12_method_59_code
def yX10_noPlace : MethodName := ⟨RX10, "noPlace", "(II)Z"⟩
abbrev cX10_input : ByteArray := prog_12_method_60_code
def yX10_input : MethodName := ⟨RX10, "input", "(IZ)V"⟩
abbrev cX10_output : ByteArray := prog_12_method_61_code
def yX10_output : MethodName := ⟨RX10, "output", "(I)Z"⟩
abbrev cX10_bits : ByteArray := prog_12_method_62_code
def yX10_bits : MethodName := ⟨RX10, "bits", "(I)I"⟩
abbrev cX10_word : ByteArray := prog_12_method_63_code
def yX10_word : MethodName := ⟨RX10, "word", "(I)I"⟩
abbrev cX10_block : ByteArray := prog_12_method_64_code
def yX10_block : MethodName := ⟨RX10, "block", "(II)I"⟩
abbrev cX10_done : ByteArray := prog_12_method_65_code
def yX10_done : MethodName := ⟨RX10, "done", "()I"⟩
abbrev cX10_fired : ByteArray := prog_12_method_66_code
def yX10_fired : MethodName := ⟨RX10, "fired", "()I"⟩
abbrev cX10_time : ByteArray := prog_12_method_67_code
def yX10_time : MethodName := ⟨RX10, "time", "()J"⟩
def RJ11 : String := "java/lang/Character"
def TJ11 : u_T := fun k => match k with
  | _ => ("", "", "", false)
def tyJ11 : Nat → FieldType := fun k => match k with
  | _ => .int
abbrev wsJ110 : List Cond := u_ws RJ11 TJ11 0
theorem nmJ11 : ∀ a, a < 0 → ∀ b, b < 0 → a ≠ b → (TJ11 a).2.1 ≠ (TJ11 b).2.1 := by decide +kernel
theorem tyJ11_ok : ∀ k, k < 0 → parseFieldDescriptor (TJ11 k).2.2.1 = some (tyJ11 k) := by decide +kernel
abbrev cJ11_isValidCodePoint_9a6ad : ByteArray := prog_13_method_11_code
def yJ11_isValidCodePoint_9a6ad : MethodName := ⟨RJ11, "isValidCodePoint", "(I)Z"⟩
abbrev cJ11_highSurrogate_5068e : ByteArray := prog_13_method_28_code
def yJ11_highSurrogate_5068e : MethodName := ⟨RJ11, "highSurrogate", "(I)C"⟩
abbrev cJ11_lowSurrogate_5068e : ByteArray := prog_13_method_29_code
def yJ11_lowSurrogate_5068e : MethodName := ⟨RJ11, "lowSurrogate", "(I)C"⟩
def RJx29ce0 : String := "java/lang/Enum"
def TJx29ce0 : u_T := fun k => match k with
  | _ => ("", "", "", false)
def tyJx29ce0 : Nat → FieldType := fun k => match k with
  | _ => .int
abbrev wsJx29ce00 : List Cond := u_ws RJx29ce0 TJx29ce0 0
theorem nmJx29ce0 : ∀ a, a < 0 → ∀ b, b < 0 → a ≠ b → (TJx29ce0 a).2.1 ≠ (TJx29ce0 b).2.1 := by decide +kernel
theorem tyJx29ce0_ok : ∀ k, k < 0 → parseFieldDescriptor (TJx29ce0 k).2.2.1 = some (tyJx29ce0 k) := by decide +kernel
abbrev cJx29ce0_ordinal_8abf5 : ByteArray := prog_14_method_2_code
def yJx29ce0_ordinal_8abf5 : MethodName := ⟨RJx29ce0, "ordinal", "()I"⟩
def RJ9 : String := "java/lang/Math"
def TJ9 : u_T := fun k => match k with
  | _ => ("", "", "", false)
def tyJ9 : Nat → FieldType := fun k => match k with
  | _ => .int
abbrev wsJ90 : List Cond := u_ws RJ9 TJ9 0
theorem nmJ9 : ∀ a, a < 0 → ∀ b, b < 0 → a ≠ b → (TJ9 a).2.1 ≠ (TJ9 b).2.1 := by decide +kernel
theorem tyJ9_ok : ∀ k, k < 0 → parseFieldDescriptor (TJ9 k).2.2.1 = some (tyJ9 k) := by decide +kernel
abbrev cJ9_max_7cf53 : ByteArray := prog_18_method_65_code
def yJ9_max_7cf53 : MethodName := ⟨RJ9, "max", "(II)I"⟩
abbrev cJ9_min_7cf53 : ByteArray := prog_18_method_69_code
def yJ9_min_7cf53 : MethodName := ⟨RJ9, "min", "(II)I"⟩
abbrev cJ9_min_f86c9 : ByteArray := prog_18_method_70_code
def yJ9_min_f86c9 : MethodName := ⟨RJ9, "min", "(JJ)J"⟩
def RJ0 : String := "java/lang/String"
def TJ0 : u_T := fun k => match k with
  | _ => ("", "", "", false)
def tyJ0 : Nat → FieldType := fun k => match k with
  | _ => .int
abbrev wsJ00 : List Cond := u_ws RJ0 TJ0 0
theorem nmJ0 : ∀ a, a < 0 → ∀ b, b < 0 → a ≠ b → (TJ0 a).2.1 ≠ (TJ0 b).2.1 := by decide +kernel
theorem tyJ0_ok : ∀ k, k < 0 → parseFieldDescriptor (TJ0 k).2.2.1 = some (tyJ0 k) := by decide +kernel
abbrev cJ0_length_8abf5 : ByteArray := prog_20_method_54_code
def yJ0_length_8abf5 : MethodName := ⟨RJ0, "length", "()I"⟩
abbrev cJ0_charAt_5068e : ByteArray := prog_20_method_56_code
def yJ0_charAt_5068e : MethodName := ⟨RJ0, "charAt", "(I)C"⟩
abbrev cJ0_indexOf_0f7a4 : ByteArray := prog_20_method_79_code
def yJ0_indexOf_0f7a4 : MethodName := ⟨RJ0, "indexOf", "(I)I"⟩
abbrev cJ0_indexOf_7cf53 : ByteArray := prog_20_method_80_code
def yJ0_indexOf_7cf53 : MethodName := ⟨RJ0, "indexOf", "(II)I"⟩
abbrev cJ0_coder_7d493 : ByteArray := prog_20_method_152_code
def yJ0_coder_7d493 : MethodName := ⟨RJ0, "coder", "()B"⟩
abbrev cJ0_isLatin1_aae02 : ByteArray := prog_20_method_154_code
def yJ0_isLatin1_aae02 : MethodName := ⟨RJ0, "isLatin1", "()Z"⟩
abbrev cJ0_checkIndex_df160 : ByteArray := prog_20_method_155_code
def yJ0_checkIndex_df160 : MethodName := ⟨RJ0, "checkIndex", "(II)V"⟩
abbrev cJ0_checkBoundsBeginEnd_23922 : ByteArray := prog_20_method_158_code
def yJ0_checkBoundsBeginEnd_23922 : MethodName := ⟨RJ0, "checkBoundsBeginEnd", "(III)V"⟩
def RJ1 : String := "java/lang/StringLatin1"
def TJ1 : u_T := fun k => match k with
  | _ => ("", "", "", false)
def tyJ1 : Nat → FieldType := fun k => match k with
  | _ => .int
abbrev wsJ10 : List Cond := u_ws RJ1 TJ1 0
theorem nmJ1 : ∀ a, a < 0 → ∀ b, b < 0 → a ≠ b → (TJ1 a).2.1 ≠ (TJ1 b).2.1 := by decide +kernel
theorem tyJ1_ok : ∀ k, k < 0 → parseFieldDescriptor (TJ1 k).2.2.1 = some (tyJ1 k) := by decide +kernel
abbrev cJ1_charAt_3b067 : ByteArray := prog_21_method_2_code
def yJ1_charAt_3b067 : MethodName := ⟨RJ1, "charAt", "([BI)C"⟩
abbrev cJ1_canEncode_9a6ad : ByteArray := prog_21_method_4_code
def yJ1_canEncode_9a6ad : MethodName := ⟨RJ1, "canEncode", "(I)Z"⟩
abbrev cJ1_indexOf_4cfef : ByteArray := prog_21_method_22_code
def yJ1_indexOf_4cfef : MethodName := ⟨RJ1, "indexOf", "([BIII)I"⟩
abbrev cJ1_indexOfChar_4cfef : ByteArray := prog_21_method_23_code
def yJ1_indexOfChar_4cfef : MethodName := ⟨RJ1, "indexOfChar", "([BIII)I"⟩
def RJ2 : String := "java/lang/StringUTF16"
def TJ2 : u_T := fun k => match k with
  | _ => ("", "", "", false)
def tyJ2 : Nat → FieldType := fun k => match k with
  | _ => .int
abbrev wsJ20 : List Cond := u_ws RJ2 TJ2 0
theorem nmJ2 : ∀ a, a < 0 → ∀ b, b < 0 → a ≠ b → (TJ2 a).2.1 ≠ (TJ2 b).2.1 := by decide +kernel
theorem tyJ2_ok : ∀ k, k < 0 → parseFieldDescriptor (TJ2 k).2.2.1 = some (tyJ2 k) := by decide +kernel
abbrev cJ2_getChar_3b067 : ByteArray := prog_22_method_5_code
def yJ2_getChar_3b067 : MethodName := ⟨RJ2, "getChar", "([BI)C"⟩
abbrev cJ2_length_9d52b : ByteArray := prog_22_method_6_code
def yJ2_length_9d52b : MethodName := ⟨RJ2, "length", "([B)I"⟩
abbrev cJ2_indexOf_4cfef : ByteArray := prog_22_method_40_code
def yJ2_indexOf_4cfef : MethodName := ⟨RJ2, "indexOf", "([BIII)I"⟩
abbrev cJ2_indexOfChar_4cfef : ByteArray := prog_22_method_47_code
def yJ2_indexOfChar_4cfef : MethodName := ⟨RJ2, "indexOfChar", "([BIII)I"⟩
abbrev cJ2_indexOfCharUnsafe_4cfef : ByteArray := prog_22_method_48_code
def yJ2_indexOfCharUnsafe_4cfef : MethodName := ⟨RJ2, "indexOfCharUnsafe", "([BIII)I"⟩
abbrev cJ2_indexOfSupplementary_4cfef : ByteArray := prog_22_method_49_code
def yJ2_indexOfSupplementary_4cfef : MethodName := ⟨RJ2, "indexOfSupplementary", "([BIII)I"⟩
abbrev cJ2_charAt_3b067 : ByteArray := prog_22_method_83_code
def yJ2_charAt_3b067 : MethodName := ⟨RJ2, "charAt", "([BI)C"⟩
abbrev cJ2_checkIndex_2214a : ByteArray := prog_22_method_91_code
def yJ2_checkIndex_2214a : MethodName := ⟨RJ2, "checkIndex", "(I[B)V"⟩
abbrev cJ2_checkBoundsBeginEnd_d044e : ByteArray := prog_22_method_93_code
def yJ2_checkBoundsBeginEnd_d044e : MethodName := ⟨RJ2, "checkBoundsBeginEnd", "(II[B)V"⟩
def RJ3 : String := "jdk/internal/util/Preconditions"
def TJ3 : u_T := fun k => match k with
  | _ => ("", "", "", false)
def tyJ3 : Nat → FieldType := fun k => match k with
  | _ => .int
abbrev wsJ30 : List Cond := u_ws RJ3 TJ3 0
theorem nmJ3 : ∀ a, a < 0 → ∀ b, b < 0 → a ≠ b → (TJ3 a).2.1 ≠ (TJ3 b).2.1 := by decide +kernel
theorem tyJ3_ok : ∀ k, k < 0 → parseFieldDescriptor (TJ3 k).2.2.1 = some (tyJ3 k) := by decide +kernel
abbrev cJ3_checkIndex_8e157 : ByteArray := prog_24_method_11_code
def yJ3_checkIndex_8e157 : MethodName := ⟨RJ3, "checkIndex", "(IILjava/util/function/BiFunction;)I"⟩
abbrev cJ3_checkFromToIndex_8c36e : ByteArray := prog_24_method_12_code
def yJ3_checkFromToIndex_8c36e : MethodName := ⟨RJ3, "checkFromToIndex", "(IIILjava/util/function/BiFunction;)I"⟩
def RL : String := "ScanChartLaw"
abbrev cL_feed : ByteArray := method_3_code
def yL_feed : MethodName := ⟨RL, "feed", "(LScanChart;IJ[J)I"⟩
abbrev cL_input : ByteArray := method_4_code
def yL_input : MethodName := ⟨RL, "input", "(LScanChart;IZ)I"⟩
abbrev cL_scan : ByteArray := method_5_code
def yL_scan : MethodName := ⟨RL, "scan", "(LScanChart;I[J)I"⟩
abbrev cL_run : ByteArray := method_6_code
def yL_run : MethodName := ⟨RL, "run", "(LScanChart;II[J)I"⟩
abbrev cL_output : ByteArray := method_7_code
def yL_output : MethodName := ⟨RL, "output", "(LScanChart;I[J)I"⟩
abbrev cL_bits : ByteArray := method_8_code
def yL_bits : MethodName := ⟨RL, "bits", "(LScanChart;I[J)I"⟩
abbrev cL_word : ByteArray := method_9_code
def yL_word : MethodName := ⟨RL, "word", "(LScanChart;I[J)I"⟩
abbrev cL_block : ByteArray := method_10_code
def yL_block : MethodName := ⟨RL, "block", "(LScanChart;II[J)I"⟩
abbrev cL_law : ByteArray := code
def yL_law : MethodName := ⟨RL, "law", "([I)Z"⟩
abbrev vwCl : List vw_C := [(RX1, TX1, 4), (RX2, TX2, 10), (RX3, TX3, 12), (RX5, TX5, 11), (RX6, TX6, 7), (RX7, TX7, 14), (RX8, TX8, 2), (RX9, TX9, 4), (RX10, TX10, 61)]
end
section
/-! TABLES OF THE ABSTRACT MACHINE, written by wip/whole/gen/tables.py out of the printed names. Instruction: (instr, a, b, c), a b c what its pool index or its target resolves to. -/
abbrev am_Ins : Type := Instr × Nat × Nat × Nat
def am_kI : List (List Int32) := [[6, 32, 8, 3, 1, 0, 4, 16, 48, 500, 12, 9, 5, 2, 20, (-1)], [65535, 10, 11, 32767, (-32768), 80, 700, 13, 59, 57, 76, 58, 40, 1000000, 3711, 70], [128, 256, 45, 15, 100, 160, 64, 96, 400, 84, 69, 67, 86, 7, 73, 81], [77, 87, 88, 31, 78, 1023, 14, 17, 28, 21, 22, 23, 24, 25, 26, 27], [29, 18, 19, 255]]
def am_kJ : List (List Int64) := [[0, (-1), 32, (-2147483648), 2147483647, 255, 10, 10000000000, 48, 4476481, 21071, 5394264, 4473921, 4347219, 5002573, 5654852], [4476749, 21575, 17735, 20805, 17742, 17740, 21580, 1, 17484, 5129292, 21587, 5133395, 83, 82, 5262666, 1129336138], [336136785226, 5522770, 1129596242, 336137045330, 5132116, 4607828, 20564, 5592131, 4478019, 5393475, 1163086162, 1280065862, 41, 5525326, 78, 20308], [17993, 5129801, 1346720851, 20295, 4294967295]]
def am_gI (k : Nat) : Int32 := (am_kI.getD (k / 16) []).getD (k % 16) 0
def am_gJ (k : Nat) : Int64 := (am_kJ.getD (k / 16) []).getD (k % 16) 0
def am_sw : List (List Nat) := [[19, 4, 19, 19, 9, 14, 2], [102, 13, 23, 43, 53, 68, 71, 80, 92], [94, 12, 23, 34, 45, 54, 62, 70, 82], [51, 9, 9, 13, 13, 17, 17, 21, 25, 29, 33, 33], [40, 5, 12, 19, 26, 33], [28, 3, 28, 28, 14, 28, 21, 21, 28, 28, 28, 28, 21, 21], [17, 3, 3, 5, 7, 17, 17, 9, 17, 11, 13, 13, 15], [40, 12, 19, 26, 33], [44, 2, 4, 9, 14, 19, 24, 29, 34, 39], [74, 2, 6, 10, 14, 18, 22, 26, 30, 34, 42, 50, 58, 66], [422, 25, 94, 101, 108, 115, 122, 127, 167, 202, 247, 285, 320, 355, 400, 407, 414]]
/-- 0: ScanChart$Cells.<init>()V -/
def am_c0 : List (List am_Ins) := [[(.aload_n 0, 0, 0, 0), (.invokespecial 3, 0, 1, 99), (.aload_n 0, 0, 0, 0), (.bipush 6, 0, 0, 0), (.newarray .int, 20, 0, 0), (.putfield 9, 0, 1, 2), (.aload_n 0, 0, 0, 0), (.bipush 32, 1, 0, 0), (.newarray .int, 20, 0, 0), (.putfield 15, 1, 1, 2), (.aload_n 0, 0, 0, 0), (.bipush 8, 2, 0, 0), (.newarray .int, 20, 0, 0), (.putfield 18, 2, 1, 2), (.aload_n 0, 0, 0, 0), (.bipush 8, 2, 0, 0)], [(.newarray .int, 20, 0, 0), (.putfield 21, 3, 1, 2), (.aload_n 0, 0, 0, 0), (.getfield 9, 0, 1, 2), (.iconst 3, 3, 0, 0), (.iconst 1, 4, 0, 0), (.invokestatic 24, 90, 3, 0), (.return_, 0, 0, 0)]]
/-- 1: ScanChart$Cells.clear()V -/
def am_c1 : List (List am_Ins) := [[(.aload_n 0, 0, 0, 0), (.getfield 9, 0, 1, 2), (.iconst 0, 5, 0, 0), (.invokestatic 28, 93, 2, 0), (.aload_n 0, 0, 0, 0), (.getfield 15, 1, 1, 2), (.iconst 0, 5, 0, 0), (.invokestatic 28, 93, 2, 0), (.aload_n 0, 0, 0, 0), (.getfield 18, 2, 1, 2), (.iconst 0, 5, 0, 0), (.invokestatic 28, 93, 2, 0), (.aload_n 0, 0, 0, 0), (.getfield 21, 3, 1, 2), (.iconst 0, 5, 0, 0), (.invokestatic 28, 93, 2, 0)], [(.aload_n 0, 0, 0, 0), (.getfield 9, 0, 1, 2), (.iconst 3, 3, 0, 0), (.iconst 1, 4, 0, 0), (.invokestatic 24, 90, 3, 0), (.return_, 0, 0, 0)]]
/-- 2: ScanChart$Cells.valueOf(II)I -/
def am_c2 : List (List am_Ins) := [[(.iload_n 1, 1, 0, 0), (.tableswitch 68 6 11 #[41, 68, 68, 50, 59, 39], 0, 0, 0), (.iload_n 2, 2, 0, 0), (.ireturn, 0, 0, 0), (.aload_n 0, 0, 0, 0), (.getfield 15, 1, 1, 2), (.iload_n 2, 2, 0, 0), (.invokestatic 32, 89, 2, 0), (.ireturn, 0, 0, 0), (.aload_n 0, 0, 0, 0), (.getfield 18, 2, 1, 2), (.iload_n 2, 2, 0, 0), (.invokestatic 32, 89, 2, 0), (.ireturn, 0, 0, 0), (.aload_n 0, 0, 0, 0), (.getfield 21, 3, 1, 2)], [(.iload_n 2, 2, 0, 0), (.invokestatic 32, 89, 2, 0), (.ireturn, 0, 0, 0), (.aload_n 0, 0, 0, 0), (.getfield 9, 0, 1, 2), (.iload_n 1, 1, 0, 0), (.invokestatic 32, 89, 2, 0), (.iload_n 2, 2, 0, 0), (.iushr, 0, 0, 0), (.iconst 1, 4, 0, 0), (.iand, 0, 0, 0), (.ireturn, 0, 0, 0)]]
/-- 3: ScanChart$Cells.setBit(IIZ)V -/
def am_c3 : List (List am_Ins) := [[(.aload_n 0, 0, 0, 0), (.getfield 9, 0, 1, 2), (.iload_n 1, 1, 0, 0), (.aload_n 0, 0, 0, 0), (.getfield 9, 0, 1, 2), (.iload_n 1, 1, 0, 0), (.invokestatic 32, 89, 2, 0), (.iload_n 2, 2, 0, 0), (.iload_n 3, 3, 0, 0), (.invokestatic 36, 92, 3, 0), (.invokestatic 24, 90, 3, 0), (.return_, 0, 0, 0)]]
/-- 4: ScanChart$Cells.store(III)V -/
def am_c4 : List (List am_Ins) := [[(.iload_n 1, 1, 0, 0), (.bipush 6, 0, 0, 0), (.if_icmp .ne 15, 9, 0, 0), (.aload_n 0, 0, 0, 0), (.getfield 15, 1, 1, 2), (.iload_n 2, 2, 0, 0), (.iload_n 3, 3, 0, 0), (.invokestatic 24, 90, 3, 0), (.goto 18, 18, 0, 0), (.aload_n 0, 0, 0, 0), (.iload_n 1, 1, 0, 0), (.iload_n 2, 2, 0, 0), (.iload_n 3, 3, 0, 0), (.ifCond .eq 7, 16, 0, 0), (.iconst 1, 4, 0, 0), (.goto 4, 17, 0, 0)], [(.iconst 0, 5, 0, 0), (.invokevirtual 40, 3, 4, 1), (.return_, 0, 0, 0)]]
/-- 5: ScanChart$Cells.setTimer(IZI)V -/
def am_c5 : List (List am_Ins) := [[(.aload_n 0, 0, 0, 0), (.getfield 9, 0, 1, 2), (.iconst 4, 6, 0, 0), (.aload_n 0, 0, 0, 0), (.getfield 9, 0, 1, 2), (.iconst 4, 6, 0, 0), (.invokestatic 32, 89, 2, 0), (.iload_n 1, 1, 0, 0), (.iload_n 2, 2, 0, 0), (.invokestatic 36, 92, 3, 0), (.invokestatic 24, 90, 3, 0), (.aload_n 0, 0, 0, 0), (.getfield 18, 2, 1, 2), (.iload_n 1, 1, 0, 0), (.iload_n 3, 3, 0, 0), (.invokestatic 24, 90, 3, 0)], [(.return_, 0, 0, 0)]]
/-- 6: ScanChart$Cells.setCount(II)V -/
def am_c6 : List (List am_Ins) := [[(.aload_n 0, 0, 0, 0), (.getfield 21, 3, 1, 2), (.iload_n 1, 1, 0, 0), (.iload_n 2, 2, 0, 0), (.invokestatic 24, 90, 3, 0), (.return_, 0, 0, 0)]]
/-- 7: ScanChart$Chart.<init>()V -/
def am_c7 : List (List am_Ins) := [[(.aload_n 0, 0, 0, 0), (.invokespecial 3, 0, 1, 99), (.aload_n 0, 0, 0, 0), (.bipush 16, 7, 0, 0), (.newarray .int, 20, 0, 0), (.putfield 9, 0, 2, 2), (.aload_n 0, 0, 0, 0), (.bipush 16, 7, 0, 0), (.newarray .int, 20, 0, 0), (.putfield 15, 1, 2, 2), (.aload_n 0, 0, 0, 0), (.bipush 16, 7, 0, 0), (.newarray .int, 20, 0, 0), (.putfield 18, 2, 2, 2), (.aload_n 0, 0, 0, 0), (.bipush 16, 7, 0, 0)], [(.newarray .int, 20, 0, 0), (.putfield 21, 3, 2, 2), (.aload_n 0, 0, 0, 0), (.bipush 16, 7, 0, 0), (.newarray .int, 20, 0, 0), (.putfield 24, 4, 2, 2), (.aload_n 0, 0, 0, 0), (.iconst 0, 5, 0, 0), (.putfield 27, 5, 2, 0), (.aload_n 0, 0, 0, 0), (.bipush 48, 8, 0, 0), (.newarray .int, 20, 0, 0), (.putfield 31, 6, 2, 2), (.aload_n 0, 0, 0, 0), (.bipush 48, 8, 0, 0), (.newarray .int, 20, 0, 0)], [(.putfield 34, 7, 2, 2), (.aload_n 0, 0, 0, 0), (.bipush 48, 8, 0, 0), (.newarray .int, 20, 0, 0), (.putfield 37, 8, 2, 2), (.aload_n 0, 0, 0, 0), (.iconst 0, 5, 0, 0), (.putfield 40, 9, 2, 0), (.return_, 0, 0, 0)]]
/-- 8: ScanChart$Chart.clear()V -/
def am_c8 : List (List am_Ins) := [[(.aload_n 0, 0, 0, 0), (.iconst 0, 5, 0, 0), (.putfield 27, 5, 2, 0), (.aload_n 0, 0, 0, 0), (.iconst 0, 5, 0, 0), (.putfield 40, 9, 2, 0), (.aload_n 0, 0, 0, 0), (.getfield 31, 6, 2, 2), (.iconst 0, 5, 0, 0), (.invokestatic 43, 93, 2, 0), (.return_, 0, 0, 0)]]
/-- 9: ScanChart$Chart.addGo(IIIII)V -/
def am_c9 : List (List am_Ins) := [[(.aload_n 0, 0, 0, 0), (.getfield 9, 0, 2, 2), (.aload_n 0, 0, 0, 0), (.getfield 27, 5, 2, 0), (.iload_n 1, 1, 0, 0), (.invokestatic 47, 90, 3, 0), (.aload_n 0, 0, 0, 0), (.getfield 15, 1, 2, 2), (.aload_n 0, 0, 0, 0), (.getfield 27, 5, 2, 0), (.iload_n 2, 2, 0, 0), (.invokestatic 47, 90, 3, 0), (.aload_n 0, 0, 0, 0), (.getfield 18, 2, 2, 2), (.aload_n 0, 0, 0, 0), (.getfield 27, 5, 2, 0)], [(.iload_n 3, 3, 0, 0), (.invokestatic 47, 90, 3, 0), (.aload_n 0, 0, 0, 0), (.getfield 21, 3, 2, 2), (.aload_n 0, 0, 0, 0), (.getfield 27, 5, 2, 0), (.iload 4, 4, 0, 0), (.invokestatic 47, 90, 3, 0), (.aload_n 0, 0, 0, 0), (.getfield 24, 4, 2, 2), (.aload_n 0, 0, 0, 0), (.getfield 27, 5, 2, 0), (.iload 5, 5, 0, 0), (.invokestatic 47, 90, 3, 0), (.aload_n 0, 0, 0, 0), (.dup, 0, 0, 0)], [(.getfield 27, 5, 2, 0), (.iconst 1, 4, 0, 0), (.iadd, 0, 0, 0), (.putfield 27, 5, 2, 0), (.return_, 0, 0, 0)]]
/-- 10: ScanChart$Chart.addAction(IIIII)V -/
def am_c10 : List (List am_Ins) := [[(.iload_n 1, 1, 0, 0), (.iconst 3, 3, 0, 0), (.imul, 0, 0, 0), (.iload_n 2, 2, 0, 0), (.iadd, 0, 0, 0), (.istore 6, 6, 0, 0), (.aload_n 0, 0, 0, 0), (.getfield 31, 6, 2, 2), (.iload 6, 6, 0, 0), (.iload_n 3, 3, 0, 0), (.invokestatic 47, 90, 3, 0), (.aload_n 0, 0, 0, 0), (.getfield 34, 7, 2, 2), (.iload 6, 6, 0, 0), (.iload 4, 4, 0, 0), (.invokestatic 47, 90, 3, 0)], [(.aload_n 0, 0, 0, 0), (.getfield 37, 8, 2, 2), (.iload 6, 6, 0, 0), (.iload 5, 5, 0, 0), (.invokestatic 47, 90, 3, 0), (.return_, 0, 0, 0)]]
/-- 11: ScanChart$Machine.<init>()V -/
def am_c11 : List (List am_Ins) := [[(.aload_n 0, 0, 0, 0), (.invokespecial 3, 0, 1, 99), (.aload_n 0, 0, 0, 0), (.new 9, 1, 4, 0), (.dup, 0, 0, 0), (.invokespecial 11, 0, 1, 1), (.putfield 12, 0, 3, 2), (.aload_n 0, 0, 0, 0), (.lconst 0, 0, 0, 0), (.putfield 18, 1, 3, 1), (.aload_n 0, 0, 0, 0), (.iconst 0, 5, 0, 0), (.putfield 22, 2, 3, 0), (.aload_n 0, 0, 0, 0), (.iconst 0, 5, 0, 0), (.putfield 26, 3, 3, 0)], [(.aload_n 0, 0, 0, 0), (.iconst 0, 5, 0, 0), (.putfield 29, 4, 3, 0), (.aload_n 0, 0, 0, 0), (.iconst 0, 5, 0, 0), (.putfield 32, 5, 3, 0), (.aload_n 0, 0, 0, 0), (.new 35, 4, 11, 0), (.dup, 0, 0, 0), (.invokespecial 37, 28, 1, 4), (.putfield 38, 6, 3, 2), (.aload_n 0, 0, 0, 0), (.iconst 0, 5, 0, 0), (.putfield 42, 7, 3, 0), (.aload_n 0, 0, 0, 0), (.iconst 0, 5, 0, 0)], [(.putfield 45, 8, 3, 0), (.aload_n 0, 0, 0, 0), (.iconst 0, 5, 0, 0), (.putfield 48, 9, 3, 0), (.aload_n 0, 0, 0, 0), (.bipush 8, 2, 0, 0), (.newarray .int, 20, 0, 0), (.putfield 51, 10, 3, 2), (.aload_n 0, 0, 0, 0), (.bipush 8, 2, 0, 0), (.anewarray 55, 23, 0, 0), (.putfield 57, 11, 3, 2), (.return_, 0, 0, 0)]]
/-- 12: ScanChart$Machine.startAgain()V -/
def am_c12 : List (List am_Ins) := [[(.aload_n 0, 0, 0, 0), (.getfield 12, 0, 3, 2), (.invokevirtual 61, 1, 1, 1), (.aload_n 0, 0, 0, 0), (.getfield 38, 6, 3, 2), (.invokevirtual 64, 29, 1, 4), (.aload_n 0, 0, 0, 0), (.lconst 0, 0, 0, 0), (.putfield 18, 1, 3, 1), (.aload_n 0, 0, 0, 0), (.iconst 0, 5, 0, 0), (.putfield 22, 2, 3, 0), (.aload_n 0, 0, 0, 0), (.iconst 0, 5, 0, 0), (.putfield 26, 3, 3, 0), (.aload_n 0, 0, 0, 0)], [(.iconst 0, 5, 0, 0), (.putfield 29, 4, 3, 0), (.aload_n 0, 0, 0, 0), (.iconst 0, 5, 0, 0), (.putfield 32, 5, 3, 0), (.return_, 0, 0, 0)]]
/-- 13: ScanChart$Machine.goRound(LScanChart$Program;II)V -/
def am_c13 : List (List am_Ins) := [[(.aload_n 0, 0, 0, 0), (.dup, 0, 0, 0), (.getfield 18, 1, 3, 1), (.iload_n 3, 3, 0, 0), (.i2l, 0, 0, 0), (.ladd, 0, 0, 0), (.putfield 18, 1, 3, 1), (.aload_n 0, 0, 0, 0), (.getfield 12, 0, 3, 2), (.getfield 65, 0, 1, 2), (.iconst 0, 5, 0, 0), (.iload_n 2, 2, 0, 0), (.invokestatic 68, 90, 3, 0), (.aload_n 0, 0, 0, 0), (.iconst 0, 5, 0, 0), (.putfield 32, 5, 3, 0)], [(.aload_n 0, 0, 0, 0), (.aload_n 1, 1, 0, 0), (.invokevirtual 72, 14, 2, 3), (.aload_n 0, 0, 0, 0), (.getfield 26, 3, 3, 0), (.ifCond .eq 4, 23, 0, 0), (.return_, 0, 0, 0), (.aload_n 0, 0, 0, 0), (.aload_n 1, 1, 0, 0), (.getfield 76, 0, 5, 2), (.invokevirtual 82, 21, 2, 3), (.aload_n 0, 0, 0, 0), (.aload_n 1, 1, 0, 0), (.getfield 76, 0, 5, 2), (.invokevirtual 86, 23, 2, 3), (.aload_n 0, 0, 0, 0)], [(.aload_n 0, 0, 0, 0), (.getfield 12, 0, 3, 2), (.getfield 65, 0, 1, 2), (.iconst 1, 4, 0, 0), (.invokestatic 89, 89, 2, 0), (.putfield 22, 2, 3, 0), (.return_, 0, 0, 0)]]
/-- 14: ScanChart$Machine.performList(LScanChart$Program;)V -/
def am_c14 : List (List am_Ins) := [[(.aload_n 0, 0, 0, 0), (.iconst 0, 5, 0, 0), (.putfield 42, 7, 3, 0), (.aload_n 0, 0, 0, 0), (.iconst 0, 5, 0, 0), (.putfield 45, 8, 3, 0), (.aload_n 0, 0, 0, 0), (.iconst 0, 5, 0, 0), (.putfield 48, 9, 3, 0), (.aload_n 0, 0, 0, 0), (.iconst 0, 5, 0, 0), (.putfield 29, 4, 3, 0), (.iconst 0, 5, 0, 0), (.istore_n 2, 2, 0, 0), (.iload_n 2, 2, 0, 0), (.sipush 500, 9, 0, 0)], [(.if_icmp .ge 104, 69, 0, 0), (.aload_n 0, 0, 0, 0), (.getfield 45, 8, 3, 0), (.aload_n 1, 1, 0, 0), (.getfield 93, 6, 5, 0), (.if_icmp .ge 93, 69, 0, 0), (.aload_n 0, 0, 0, 0), (.getfield 45, 8, 3, 0), (.istore_n 3, 3, 0, 0), (.aload_n 0, 0, 0, 0), (.iload_n 3, 3, 0, 0), (.iconst 1, 4, 0, 0), (.iadd, 0, 0, 0), (.putfield 45, 8, 3, 0), (.aload_n 1, 1, 0, 0), (.iload_n 3, 3, 0, 0)], [(.invokevirtual 96, 42, 2, 5), (.astore 4, 4, 0, 0), (.aload 4, 4, 0, 0), (.ifnonnull 4, 37, 0, 0), (.return_, 0, 0, 0), (.aload 4, 4, 0, 0), (.invokevirtual 100, 26, 1, 30), (.ifCond .eq 28, 52, 0, 0), (.aload_n 0, 0, 0, 0), (.aload 4, 4, 0, 0), (.aload_n 1, 1, 0, 0), (.getfield 104, 3, 5, 2), (.iload_n 3, 3, 0, 0), (.invokestatic 89, 89, 2, 0), (.aload_n 1, 1, 0, 0), (.getfield 107, 4, 5, 2)], [(.iload_n 3, 3, 0, 0), (.invokestatic 89, 89, 2, 0), (.invokevirtual 110, 16, 4, 3), (.goto 11, 57, 0, 0), (.aload_n 0, 0, 0, 0), (.aload 4, 4, 0, 0), (.aload_n 1, 1, 0, 0), (.iload_n 3, 3, 0, 0), (.invokevirtual 114, 15, 4, 3), (.aload_n 0, 0, 0, 0), (.getfield 26, 3, 3, 0), (.ifCond .eq 4, 61, 0, 0), (.return_, 0, 0, 0), (.aload_n 0, 0, 0, 0), (.dup, 0, 0, 0), (.getfield 29, 4, 3, 0)], [(.iconst 1, 4, 0, 0), (.iadd, 0, 0, 0), (.putfield 29, 4, 3, 0), (.iinc 2 1, 2, 4, 0), (.goto (-105), 14, 0, 0), (.aload_n 0, 0, 0, 0), (.getfield 45, 8, 3, 0), (.aload_n 1, 1, 0, 0), (.getfield 93, 6, 5, 0), (.if_icmp .ge 8, 77, 0, 0), (.aload_n 0, 0, 0, 0), (.iconst 3, 3, 0, 0), (.putfield 26, 3, 3, 0), (.return_, 0, 0, 0)]]
/-- 15: ScanChart$Machine.perform(LScanChart$Op;LScanChart$Program;I)V -/
def am_c15 : List (List am_Ins) := [[(.aload_n 2, 2, 0, 0), (.getfield 118, 2, 5, 2), (.iload_n 3, 3, 0, 0), (.invokestatic 89, 89, 2, 0), (.istore 4, 4, 0, 0), (.aload_n 2, 2, 0, 0), (.getfield 104, 3, 5, 2), (.iload_n 3, 3, 0, 0), (.invokestatic 89, 89, 2, 0), (.istore 5, 5, 0, 0), (.aload_n 1, 1, 0, 0), (.getfield 121, 1, 30, 3), (.tableswitch 242 0 7 #[48, 70, 112, 134, 167, 174, 193, 220], 1, 5, 0), (.aload_n 0, 0, 0, 0), (.aload_n 1, 1, 0, 0), (.aload_n 0, 0, 0, 0)], [(.getfield 12, 0, 3, 2), (.iload 4, 4, 0, 0), (.iload 5, 5, 0, 0), (.invokevirtual 124, 2, 3, 1), (.invokevirtual 128, 25, 2, 30), (.putfield 42, 7, 3, 0), (.goto 175, 102, 0, 0), (.iload 4, 4, 0, 0), (.bipush 12, 10, 0, 0), (.if_icmp .ne 11, 30, 0, 0), (.aload_n 0, 0, 0, 0), (.aload_n 1, 1, 0, 0), (.invokevirtual 132, 17, 2, 3), (.goto 160, 102, 0, 0), (.aload_n 0, 0, 0, 0), (.aload_n 0, 0, 0, 0)], [(.aload_n 1, 1, 0, 0), (.aload_n 0, 0, 0, 0), (.getfield 42, 7, 3, 0), (.aload_n 0, 0, 0, 0), (.getfield 12, 0, 3, 2), (.iload 4, 4, 0, 0), (.iload 5, 5, 0, 0), (.invokevirtual 124, 2, 3, 1), (.invokevirtual 136, 19, 4, 3), (.putfield 42, 7, 3, 0), (.goto 133, 102, 0, 0), (.aload_n 0, 0, 0, 0), (.getfield 12, 0, 3, 2), (.iload 4, 4, 0, 0), (.iload 5, 5, 0, 0), (.aload_n 1, 1, 0, 0)], [(.aload_n 0, 0, 0, 0), (.getfield 42, 7, 3, 0), (.invokevirtual 128, 25, 2, 30), (.invokevirtual 140, 4, 4, 1), (.goto 111, 102, 0, 0), (.aload_n 0, 0, 0, 0), (.getfield 42, 7, 3, 0), (.ifCond .eq 104, 102, 0, 0), (.aload_n 0, 0, 0, 0), (.getfield 12, 0, 3, 2), (.iload 4, 4, 0, 0), (.iload 5, 5, 0, 0), (.aload_n 1, 1, 0, 0), (.getstatic 144, 1005, 0, 0), (.if_acmp .ne 7, 65, 0, 0), (.iconst 1, 4, 0, 0)], [(.goto 4, 66, 0, 0), (.iconst 0, 5, 0, 0), (.invokevirtual 148, 3, 4, 1), (.goto 78, 102, 0, 0), (.aload_n 0, 0, 0, 0), (.invokevirtual 152, 18, 1, 3), (.goto 71, 102, 0, 0), (.aload_n 0, 0, 0, 0), (.aload_n 0, 0, 0, 0), (.getfield 42, 7, 3, 0), (.ifCond .ne 7, 77, 0, 0), (.iconst 1, 4, 0, 0), (.goto 4, 78, 0, 0), (.iconst 0, 5, 0, 0), (.putfield 42, 7, 3, 0), (.goto 52, 102, 0, 0)], [(.aload_n 1, 1, 0, 0), (.aload_n 0, 0, 0, 0), (.getfield 42, 7, 3, 0), (.invokevirtual 155, 27, 2, 30), (.ifCond .eq 41, 102, 0, 0), (.aload_n 0, 0, 0, 0), (.aload_n 2, 2, 0, 0), (.getfield 159, 5, 5, 2), (.iload 5, 5, 0, 0), (.invokestatic 89, 89, 2, 0), (.putfield 45, 8, 3, 0), (.goto 25, 102, 0, 0), (.aload_n 1, 1, 0, 0), (.aload_n 0, 0, 0, 0), (.getfield 42, 7, 3, 0), (.invokevirtual 155, 27, 2, 30)], [(.ifCond .eq 14, 102, 0, 0), (.aload_n 0, 0, 0, 0), (.aload_n 2, 2, 0, 0), (.getfield 93, 6, 5, 0), (.putfield 45, 8, 3, 0), (.goto 3, 102, 0, 0), (.return_, 0, 0, 0)]]
/-- 16: ScanChart$Machine.performBlock(LScanChart$Op;II)V -/
def am_c16 : List (List am_Ins) := [[(.aload_n 0, 0, 0, 0), (.getfield 42, 7, 3, 0), (.ifCond .eq 7, 5, 0, 0), (.iconst 1, 4, 0, 0), (.goto 4, 6, 0, 0), (.iconst 0, 5, 0, 0), (.istore 4, 4, 0, 0), (.getstatic 162, 4003, 0, 0), (.aload_n 1, 1, 0, 0), (.invokevirtual 167, 161, 1, 30), (.iaload, 0, 0, 0), (.tableswitch 214 1 8 #[46, 68, 90, 112, 130, 147, 164, 189], 2, 4, 0), (.aload_n 0, 0, 0, 0), (.getfield 38, 6, 3, 2), (.aload_n 0, 0, 0, 0), (.getfield 12, 0, 3, 2)], [(.iload_n 2, 2, 0, 0), (.iload 4, 4, 0, 0), (.iload_n 3, 3, 0, 0), (.aload_n 0, 0, 0, 0), (.getfield 18, 1, 3, 1), (.invokevirtual 171, 32, 6, 4), (.goto 149, 94, 0, 0), (.aload_n 0, 0, 0, 0), (.getfield 38, 6, 3, 2), (.aload_n 0, 0, 0, 0), (.getfield 12, 0, 3, 2), (.iload_n 2, 2, 0, 0), (.iload 4, 4, 0, 0), (.iload_n 3, 3, 0, 0), (.aload_n 0, 0, 0, 0), (.getfield 18, 1, 3, 1)], [(.invokevirtual 175, 33, 6, 4), (.goto 127, 94, 0, 0), (.aload_n 0, 0, 0, 0), (.getfield 38, 6, 3, 2), (.aload_n 0, 0, 0, 0), (.getfield 12, 0, 3, 2), (.iload_n 2, 2, 0, 0), (.iload 4, 4, 0, 0), (.iload_n 3, 3, 0, 0), (.aload_n 0, 0, 0, 0), (.getfield 18, 1, 3, 1), (.invokevirtual 178, 34, 6, 4), (.goto 105, 94, 0, 0), (.aload_n 0, 0, 0, 0), (.getfield 38, 6, 3, 2), (.aload_n 0, 0, 0, 0)], [(.getfield 12, 0, 3, 2), (.iload_n 2, 2, 0, 0), (.iload 4, 4, 0, 0), (.iload_n 3, 3, 0, 0), (.invokevirtual 181, 35, 5, 4), (.goto 87, 94, 0, 0), (.aload_n 0, 0, 0, 0), (.getfield 38, 6, 3, 2), (.aload_n 0, 0, 0, 0), (.getfield 12, 0, 3, 2), (.iload_n 2, 2, 0, 0), (.iload 4, 4, 0, 0), (.invokevirtual 185, 36, 4, 4), (.goto 70, 94, 0, 0), (.iload 4, 4, 0, 0), (.ifCond .eq 65, 94, 0, 0)], [(.aload_n 0, 0, 0, 0), (.getfield 12, 0, 3, 2), (.iload_n 2, 2, 0, 0), (.iconst 0, 5, 0, 0), (.invokevirtual 189, 6, 3, 1), (.goto 53, 94, 0, 0), (.aload_n 0, 0, 0, 0), (.aload_n 0, 0, 0, 0), (.getfield 38, 6, 3, 2), (.iload_n 2, 2, 0, 0), (.iload 4, 4, 0, 0), (.invokevirtual 193, 37, 3, 4), (.ifCond .eq 7, 79, 0, 0), (.iconst 1, 4, 0, 0), (.goto 4, 80, 0, 0), (.iconst 0, 5, 0, 0)], [(.putfield 42, 7, 3, 0), (.goto 28, 94, 0, 0), (.aload_n 0, 0, 0, 0), (.aload_n 0, 0, 0, 0), (.getfield 38, 6, 3, 2), (.iload_n 2, 2, 0, 0), (.iload 4, 4, 0, 0), (.invokevirtual 197, 38, 3, 4), (.ifCond .eq 7, 91, 0, 0), (.iconst 1, 4, 0, 0), (.goto 4, 92, 0, 0), (.iconst 0, 5, 0, 0), (.putfield 42, 7, 3, 0), (.goto 3, 94, 0, 0), (.aload_n 1, 1, 0, 0), (.getfield 121, 1, 30, 3)], [(.bipush 8, 2, 0, 0), (.if_icmp .ne 19, 106, 0, 0), (.aload_n 0, 0, 0, 0), (.aload_n 0, 0, 0, 0), (.getfield 12, 0, 3, 2), (.iconst 4, 6, 0, 0), (.iload_n 2, 2, 0, 0), (.invokevirtual 124, 2, 3, 1), (.putfield 42, 7, 3, 0), (.goto 25, 117, 0, 0), (.aload_n 1, 1, 0, 0), (.getfield 121, 1, 30, 3), (.bipush 9, 11, 0, 0), (.if_icmp .ne 16, 117, 0, 0), (.aload_n 0, 0, 0, 0), (.aload_n 0, 0, 0, 0)], [(.getfield 12, 0, 3, 2), (.iconst 5, 12, 0, 0), (.iload_n 2, 2, 0, 0), (.invokevirtual 124, 2, 3, 1), (.putfield 42, 7, 3, 0), (.return_, 0, 0, 0)]]
/-- 17: ScanChart$Machine.putAside(LScanChart$Op;)V -/
def am_c17 : List (List am_Ins) := [[(.aload_n 0, 0, 0, 0), (.getfield 48, 9, 3, 0), (.ifCond .lt 15, 9, 0, 0), (.aload_n 0, 0, 0, 0), (.getfield 48, 9, 3, 0), (.aload_n 0, 0, 0, 0), (.getfield 57, 11, 3, 2), (.arraylength, 0, 0, 0), (.if_icmp .lt 4, 10, 0, 0), (.return_, 0, 0, 0), (.aload_n 0, 0, 0, 0), (.getfield 57, 11, 3, 2), (.aload_n 0, 0, 0, 0), (.getfield 48, 9, 3, 0), (.aload_n 1, 1, 0, 0), (.aastore, 0, 0, 0)], [(.aload_n 0, 0, 0, 0), (.getfield 51, 10, 3, 2), (.aload_n 0, 0, 0, 0), (.getfield 48, 9, 3, 0), (.aload_n 0, 0, 0, 0), (.getfield 42, 7, 3, 0), (.invokestatic 68, 90, 3, 0), (.aload_n 0, 0, 0, 0), (.dup, 0, 0, 0), (.getfield 48, 9, 3, 0), (.iconst 1, 4, 0, 0), (.iadd, 0, 0, 0), (.putfield 48, 9, 3, 0), (.aload_n 0, 0, 0, 0), (.iconst 0, 5, 0, 0), (.putfield 42, 7, 3, 0)], [(.return_, 0, 0, 0)]]
/-- 18: ScanChart$Machine.takeBack()V -/
def am_c18 : List (List am_Ins) := [[(.aload_n 0, 0, 0, 0), (.getfield 48, 9, 3, 0), (.iconst 1, 4, 0, 0), (.if_icmp .lt 15, 10, 0, 0), (.aload_n 0, 0, 0, 0), (.getfield 48, 9, 3, 0), (.aload_n 0, 0, 0, 0), (.getfield 57, 11, 3, 2), (.arraylength, 0, 0, 0), (.if_icmp .le 4, 11, 0, 0), (.return_, 0, 0, 0), (.aload_n 0, 0, 0, 0), (.dup, 0, 0, 0), (.getfield 48, 9, 3, 0), (.iconst 1, 4, 0, 0), (.isub, 0, 0, 0)], [(.putfield 48, 9, 3, 0), (.aload_n 0, 0, 0, 0), (.getfield 57, 11, 3, 2), (.aload_n 0, 0, 0, 0), (.getfield 48, 9, 3, 0), (.aaload, 0, 0, 0), (.astore_n 1, 1, 0, 0), (.aload_n 1, 1, 0, 0), (.ifnull 27, 37, 0, 0), (.aload_n 0, 0, 0, 0), (.aload_n 0, 0, 0, 0), (.aload_n 1, 1, 0, 0), (.aload_n 0, 0, 0, 0), (.getfield 51, 10, 3, 2), (.aload_n 0, 0, 0, 0), (.getfield 48, 9, 3, 0)], [(.invokestatic 89, 89, 2, 0), (.aload_n 0, 0, 0, 0), (.getfield 42, 7, 3, 0), (.invokevirtual 136, 19, 4, 3), (.putfield 42, 7, 3, 0), (.return_, 0, 0, 0)]]
/-- 19: ScanChart$Machine.calculate(LScanChart$Op;II)I -/
def am_c19 : List (List am_Ins) := [[(.aload_n 1, 1, 0, 0), (.iload_n 3, 3, 0, 0), (.invokevirtual 128, 25, 2, 30), (.istore 4, 4, 0, 0), (.getstatic 162, 4003, 0, 0), (.aload_n 1, 1, 0, 0), (.invokevirtual 167, 161, 1, 30), (.iaload, 0, 0, 0), (.tableswitch 118 9 19 #[57, 57, 62, 62, 67, 67, 72, 77, 82, 87, 87], 3, 11, 0), (.iload_n 2, 2, 0, 0), (.iload 4, 4, 0, 0), (.iand, 0, 0, 0), (.ireturn, 0, 0, 0), (.iload_n 2, 2, 0, 0), (.iload 4, 4, 0, 0), (.ior, 0, 0, 0)], [(.ireturn, 0, 0, 0), (.iload_n 2, 2, 0, 0), (.iload 4, 4, 0, 0), (.ixor, 0, 0, 0), (.ireturn, 0, 0, 0), (.iload_n 2, 2, 0, 0), (.iload 4, 4, 0, 0), (.iadd, 0, 0, 0), (.ireturn, 0, 0, 0), (.iload_n 2, 2, 0, 0), (.iload 4, 4, 0, 0), (.isub, 0, 0, 0), (.ireturn, 0, 0, 0), (.iload_n 2, 2, 0, 0), (.iload 4, 4, 0, 0), (.imul, 0, 0, 0)], [(.ireturn, 0, 0, 0), (.iload 4, 4, 0, 0), (.ifCond .ne 10, 40, 0, 0), (.aload_n 0, 0, 0, 0), (.iconst 2, 13, 0, 0), (.putfield 26, 3, 3, 0), (.iload_n 2, 2, 0, 0), (.ireturn, 0, 0, 0), (.aload_n 1, 1, 0, 0), (.getstatic 200, 1016, 0, 0), (.if_acmp .ne 10, 47, 0, 0), (.iload_n 2, 2, 0, 0), (.iload 4, 4, 0, 0), (.idiv, 0, 0, 0), (.goto 7, 50, 0, 0), (.iload_n 2, 2, 0, 0)], [(.iload 4, 4, 0, 0), (.irem, 0, 0, 0), (.ireturn, 0, 0, 0), (.aload_n 0, 0, 0, 0), (.aload_n 1, 1, 0, 0), (.iload_n 2, 2, 0, 0), (.iload 4, 4, 0, 0), (.invokevirtual 203, 20, 4, 3), (.ifCond .eq 7, 59, 0, 0), (.iconst 1, 4, 0, 0), (.goto 4, 60, 0, 0), (.iconst 0, 5, 0, 0), (.ireturn, 0, 0, 0)]]
/-- 20: ScanChart$Machine.compare(LScanChart$Op;II)Z -/
def am_c20 : List (List am_Ins) := [[(.getstatic 162, 4003, 0, 0), (.aload_n 1, 1, 0, 0), (.invokevirtual 167, 161, 1, 30), (.iaload, 0, 0, 0), (.tableswitch 91 20 24 #[36, 47, 58, 69, 80], 4, 14, 0), (.iload_n 2, 2, 0, 0), (.iload_n 3, 3, 0, 0), (.if_icmp .le 7, 10, 0, 0), (.iconst 1, 4, 0, 0), (.goto 4, 11, 0, 0), (.iconst 0, 5, 0, 0), (.ireturn, 0, 0, 0), (.iload_n 2, 2, 0, 0), (.iload_n 3, 3, 0, 0), (.if_icmp .lt 7, 17, 0, 0), (.iconst 1, 4, 0, 0)], [(.goto 4, 18, 0, 0), (.iconst 0, 5, 0, 0), (.ireturn, 0, 0, 0), (.iload_n 2, 2, 0, 0), (.iload_n 3, 3, 0, 0), (.if_icmp .ne 7, 24, 0, 0), (.iconst 1, 4, 0, 0), (.goto 4, 25, 0, 0), (.iconst 0, 5, 0, 0), (.ireturn, 0, 0, 0), (.iload_n 2, 2, 0, 0), (.iload_n 3, 3, 0, 0), (.if_icmp .eq 7, 31, 0, 0), (.iconst 1, 4, 0, 0), (.goto 4, 32, 0, 0), (.iconst 0, 5, 0, 0)], [(.ireturn, 0, 0, 0), (.iload_n 2, 2, 0, 0), (.iload_n 3, 3, 0, 0), (.if_icmp .gt 7, 38, 0, 0), (.iconst 1, 4, 0, 0), (.goto 4, 39, 0, 0), (.iconst 0, 5, 0, 0), (.ireturn, 0, 0, 0), (.iload_n 2, 2, 0, 0), (.iload_n 3, 3, 0, 0), (.if_icmp .ge 7, 45, 0, 0), (.iconst 1, 4, 0, 0), (.goto 4, 46, 0, 0), (.iconst 0, 5, 0, 0), (.ireturn, 0, 0, 0)]]
/-- 21: ScanChart$Machine.goOn(LScanChart$Chart;)V -/
def am_c21 : List (List am_Ins) := [[(.iconst 0, 5, 0, 0), (.istore_n 2, 2, 0, 0), (.iconst 0, 5, 0, 0), (.istore_n 3, 3, 0, 0), (.iload_n 3, 3, 0, 0), (.aload_n 1, 1, 0, 0), (.getfield 207, 5, 2, 0), (.if_icmp .ge 90, 54, 0, 0), (.aload_n 1, 1, 0, 0), (.getfield 212, 0, 2, 2), (.iload_n 3, 3, 0, 0), (.invokestatic 89, 89, 2, 0), (.istore 4, 4, 0, 0), (.aload_n 0, 0, 0, 0), (.getfield 12, 0, 3, 2), (.getfield 65, 0, 1, 2)], [(.iconst 3, 3, 0, 0), (.invokestatic 89, 89, 2, 0), (.istore 5, 5, 0, 0), (.iload 5, 5, 0, 0), (.iload 4, 4, 0, 0), (.iand, 0, 0, 0), (.iload 4, 4, 0, 0), (.if_icmp .ne 51, 52, 0, 0), (.aload_n 0, 0, 0, 0), (.aload_n 1, 1, 0, 0), (.iload_n 3, 3, 0, 0), (.invokevirtual 215, 22, 3, 3), (.ifCond .eq 42, 52, 0, 0), (.aload_n 0, 0, 0, 0), (.getfield 12, 0, 3, 2), (.getfield 65, 0, 1, 2)], [(.iconst 3, 3, 0, 0), (.iload 5, 5, 0, 0), (.iload 4, 4, 0, 0), (.iconst (-1), 15, 0, 0), (.ixor, 0, 0, 0), (.iand, 0, 0, 0), (.invokestatic 68, 90, 3, 0), (.iload_n 2, 2, 0, 0), (.aload_n 1, 1, 0, 0), (.getfield 219, 1, 2, 2), (.iload_n 3, 3, 0, 0), (.invokestatic 89, 89, 2, 0), (.ior, 0, 0, 0), (.istore_n 2, 2, 0, 0), (.aload_n 0, 0, 0, 0), (.dup, 0, 0, 0)], [(.getfield 32, 5, 3, 0), (.iconst 1, 4, 0, 0), (.iadd, 0, 0, 0), (.putfield 32, 5, 3, 0), (.iinc 3 1, 3, 4, 0), (.goto (-92), 4, 0, 0), (.aload_n 0, 0, 0, 0), (.getfield 12, 0, 3, 2), (.getfield 65, 0, 1, 2), (.iconst 3, 3, 0, 0), (.aload_n 0, 0, 0, 0), (.getfield 12, 0, 3, 2), (.getfield 65, 0, 1, 2), (.iconst 3, 3, 0, 0), (.invokestatic 89, 89, 2, 0), (.iload_n 2, 2, 0, 0)], [(.ior, 0, 0, 0), (.invokestatic 68, 90, 3, 0), (.return_, 0, 0, 0)]]
/-- 22: ScanChart$Machine.isOpen(LScanChart$Chart;I)Z -/
def am_c22 : List (List am_Ins) := [[(.aload_n 1, 1, 0, 0), (.getfield 222, 2, 2, 2), (.iload_n 2, 2, 0, 0), (.invokestatic 89, 89, 2, 0), (.istore_n 3, 3, 0, 0), (.iload_n 3, 3, 0, 0), (.ifCond .ne 5, 9, 0, 0), (.iconst 1, 4, 0, 0), (.ireturn, 0, 0, 0), (.aload_n 0, 0, 0, 0), (.getfield 12, 0, 3, 2), (.aload_n 1, 1, 0, 0), (.getfield 225, 3, 2, 2), (.iload_n 2, 2, 0, 0), (.invokestatic 89, 89, 2, 0), (.aload_n 1, 1, 0, 0)], [(.getfield 228, 4, 2, 2), (.iload_n 2, 2, 0, 0), (.invokestatic 89, 89, 2, 0), (.invokevirtual 124, 2, 3, 1), (.istore 4, 4, 0, 0), (.iload_n 3, 3, 0, 0), (.iconst 1, 4, 0, 0), (.if_icmp .ne 7, 26, 0, 0), (.iconst 1, 4, 0, 0), (.goto 4, 27, 0, 0), (.iconst 0, 5, 0, 0), (.iload 4, 4, 0, 0), (.ifCond .eq 7, 31, 0, 0), (.iconst 1, 4, 0, 0), (.goto 4, 32, 0, 0), (.iconst 0, 5, 0, 0)], [(.if_icmp .ne 7, 35, 0, 0), (.iconst 1, 4, 0, 0), (.goto 4, 36, 0, 0), (.iconst 0, 5, 0, 0), (.ireturn, 0, 0, 0)]]
/-- 23: ScanChart$Machine.act(LScanChart$Chart;)V -/
def am_c23 : List (List am_Ins) := [[(.aload_n 0, 0, 0, 0), (.getfield 12, 0, 3, 2), (.getfield 65, 0, 1, 2), (.iconst 3, 3, 0, 0), (.invokestatic 89, 89, 2, 0), (.istore_n 2, 2, 0, 0), (.ldc 231, 16, 1, 0), (.istore_n 3, 3, 0, 0), (.aload_n 0, 0, 0, 0), (.aload_n 1, 1, 0, 0), (.iconst 1, 4, 0, 0), (.iload_n 3, 3, 0, 0), (.iconst 0, 5, 0, 0), (.invokevirtual 232, 24, 5, 3), (.aload_n 0, 0, 0, 0), (.aload_n 1, 1, 0, 0)], [(.iconst 1, 4, 0, 0), (.iload_n 2, 2, 0, 0), (.iconst 1, 4, 0, 0), (.invokevirtual 232, 24, 5, 3), (.iconst 0, 5, 0, 0), (.istore 4, 4, 0, 0), (.iload 4, 4, 0, 0), (.bipush 48, 8, 0, 0), (.if_icmp .ge 79, 61, 0, 0), (.aload_n 1, 1, 0, 0), (.getfield 236, 6, 2, 2), (.iload 4, 4, 0, 0), (.invokestatic 89, 89, 2, 0), (.istore 5, 5, 0, 0), (.iload 5, 5, 0, 0), (.iconst 2, 13, 0, 0)], [(.if_icmp .eq 9, 36, 0, 0), (.iload 5, 5, 0, 0), (.iconst 3, 3, 0, 0), (.if_icmp .ne 50, 59, 0, 0), (.iload_n 2, 2, 0, 0), (.iload 4, 4, 0, 0), (.iconst 3, 3, 0, 0), (.idiv, 0, 0, 0), (.invokestatic 239, 91, 2, 0), (.ifCond .eq 39, 59, 0, 0), (.aload_n 0, 0, 0, 0), (.getfield 12, 0, 3, 2), (.aload_n 1, 1, 0, 0), (.getfield 243, 7, 2, 2), (.iload 4, 4, 0, 0), (.invokestatic 89, 89, 2, 0)], [(.aload_n 1, 1, 0, 0), (.getfield 246, 8, 2, 2), (.iload 4, 4, 0, 0), (.invokestatic 89, 89, 2, 0), (.iload 5, 5, 0, 0), (.iconst 2, 13, 0, 0), (.if_icmp .ne 7, 57, 0, 0), (.iconst 1, 4, 0, 0), (.goto 4, 58, 0, 0), (.iconst 0, 5, 0, 0), (.invokevirtual 148, 3, 4, 1), (.iinc 4 1, 4, 4, 0), (.goto (-80), 22, 0, 0), (.return_, 0, 0, 0)]]
/-- 24: ScanChart$Machine.actAs(LScanChart$Chart;IIZ)V -/
def am_c24 : List (List am_Ins) := [[(.iconst 0, 5, 0, 0), (.istore 5, 5, 0, 0), (.iload 5, 5, 0, 0), (.bipush 48, 8, 0, 0), (.if_icmp .ge 60, 31, 0, 0), (.aload_n 1, 1, 0, 0), (.getfield 236, 6, 2, 2), (.iload 5, 5, 0, 0), (.invokestatic 89, 89, 2, 0), (.iload_n 2, 2, 0, 0), (.if_icmp .ne 41, 29, 0, 0), (.iload_n 3, 3, 0, 0), (.iload 5, 5, 0, 0), (.iconst 3, 3, 0, 0), (.idiv, 0, 0, 0), (.invokestatic 239, 91, 2, 0)], [(.ifCond .eq 30, 29, 0, 0), (.aload_n 0, 0, 0, 0), (.getfield 12, 0, 3, 2), (.aload_n 1, 1, 0, 0), (.getfield 243, 7, 2, 2), (.iload 5, 5, 0, 0), (.invokestatic 89, 89, 2, 0), (.aload_n 1, 1, 0, 0), (.getfield 246, 8, 2, 2), (.iload 5, 5, 0, 0), (.invokestatic 89, 89, 2, 0), (.iload 4, 4, 0, 0), (.invokevirtual 148, 3, 4, 1), (.iinc 5 1, 5, 4, 0), (.goto (-61), 2, 0, 0), (.return_, 0, 0, 0)]]
/-- 25: ScanChart$Op.counts(I)I -/
def am_c25 : List (List am_Ins) := [[(.aload_n 0, 0, 0, 0), (.getfield 156, 2, 30, 3), (.iconst 1, 4, 0, 0), (.if_icmp .ne 13, 10, 0, 0), (.iload_n 1, 1, 0, 0), (.ifCond .ne 7, 8, 0, 0), (.iconst 1, 4, 0, 0), (.goto 4, 9, 0, 0), (.iconst 0, 5, 0, 0), (.ireturn, 0, 0, 0), (.iload_n 1, 1, 0, 0), (.ireturn, 0, 0, 0)]]
/-- 26: ScanChart$Op.isBlock()Z -/
def am_c26 : List (List am_Ins) := [[(.aload_n 0, 0, 0, 0), (.getfield 152, 1, 30, 3), (.bipush 8, 2, 0, 0), (.if_icmp .eq 30, 16, 0, 0), (.aload_n 0, 0, 0, 0), (.getfield 152, 1, 30, 3), (.bipush 9, 11, 0, 0), (.if_icmp .eq 21, 16, 0, 0), (.aload_n 0, 0, 0, 0), (.getfield 152, 1, 30, 3), (.bipush 10, 17, 0, 0), (.if_icmp .eq 12, 16, 0, 0), (.aload_n 0, 0, 0, 0), (.getfield 152, 1, 30, 3), (.bipush 11, 18, 0, 0), (.if_icmp .ne 7, 18, 0, 0)], [(.iconst 1, 4, 0, 0), (.goto 4, 19, 0, 0), (.iconst 0, 5, 0, 0), (.ireturn, 0, 0, 0)]]
/-- 27: ScanChart$Op.isTaken(I)Z -/
def am_c27 : List (List am_Ins) := [[(.aload_n 0, 0, 0, 0), (.getfield 156, 2, 30, 3), (.ifCond .eq 28, 16, 0, 0), (.aload_n 0, 0, 0, 0), (.getfield 156, 2, 30, 3), (.iconst 2, 13, 0, 0), (.if_icmp .ne 7, 9, 0, 0), (.iconst 1, 4, 0, 0), (.goto 4, 10, 0, 0), (.iconst 0, 5, 0, 0), (.iload_n 1, 1, 0, 0), (.ifCond .eq 7, 14, 0, 0), (.iconst 1, 4, 0, 0), (.goto 4, 15, 0, 0), (.iconst 0, 5, 0, 0), (.if_icmp .ne 7, 18, 0, 0)], [(.iconst 1, 4, 0, 0), (.goto 4, 19, 0, 0), (.iconst 0, 5, 0, 0), (.ireturn, 0, 0, 0)]]
/-- 28: ScanChart$Past.<init>()V -/
def am_c28 : List (List am_Ins) := [[(.aload_n 0, 0, 0, 0), (.invokespecial 3, 0, 1, 99), (.aload_n 0, 0, 0, 0), (.iconst 0, 5, 0, 0), (.putfield 9, 0, 4, 0), (.aload_n 0, 0, 0, 0), (.bipush 8, 2, 0, 0), (.newarray .long, 22, 0, 0), (.putfield 15, 1, 4, 2), (.aload_n 0, 0, 0, 0), (.iconst 0, 5, 0, 0), (.putfield 19, 2, 4, 0), (.aload_n 0, 0, 0, 0), (.iconst 0, 5, 0, 0), (.putfield 22, 3, 4, 0), (.aload_n 0, 0, 0, 0)], [(.bipush 8, 2, 0, 0), (.newarray .long, 22, 0, 0), (.putfield 25, 4, 4, 2), (.aload_n 0, 0, 0, 0), (.iconst 0, 5, 0, 0), (.putfield 28, 5, 4, 0), (.aload_n 0, 0, 0, 0), (.bipush 8, 2, 0, 0), (.newarray .long, 22, 0, 0), (.putfield 31, 6, 4, 2), (.aload_n 0, 0, 0, 0), (.iconst 0, 5, 0, 0), (.putfield 34, 7, 4, 0), (.aload_n 0, 0, 0, 0), (.iconst 0, 5, 0, 0), (.putfield 37, 8, 4, 0)], [(.aload_n 0, 0, 0, 0), (.iconst 0, 5, 0, 0), (.putfield 40, 9, 4, 0), (.aload_n 0, 0, 0, 0), (.iconst 0, 5, 0, 0), (.putfield 43, 10, 4, 0), (.return_, 0, 0, 0)]]
/-- 29: ScanChart$Past.clear()V -/
def am_c29 : List (List am_Ins) := [[(.aload_n 0, 0, 0, 0), (.iconst 0, 5, 0, 0), (.putfield 9, 0, 4, 0), (.aload_n 0, 0, 0, 0), (.iconst 0, 5, 0, 0), (.putfield 19, 2, 4, 0), (.aload_n 0, 0, 0, 0), (.iconst 0, 5, 0, 0), (.putfield 22, 3, 4, 0), (.aload_n 0, 0, 0, 0), (.iconst 0, 5, 0, 0), (.putfield 28, 5, 4, 0), (.aload_n 0, 0, 0, 0), (.iconst 0, 5, 0, 0), (.putfield 34, 7, 4, 0), (.aload_n 0, 0, 0, 0)], [(.iconst 0, 5, 0, 0), (.putfield 37, 8, 4, 0), (.aload_n 0, 0, 0, 0), (.iconst 0, 5, 0, 0), (.putfield 40, 9, 4, 0), (.aload_n 0, 0, 0, 0), (.iconst 0, 5, 0, 0), (.putfield 43, 10, 4, 0), (.return_, 0, 0, 0)]]
/-- 30: ScanChart$Past.begin([JIJ)V -/
def am_c30 : List (List am_Ins) := [[(.iload_n 1, 1, 0, 0), (.ifCond .lt 13, 10, 0, 0), (.iload_n 1, 1, 0, 0), (.aload_n 0, 0, 0, 0), (.arraylength, 0, 0, 0), (.if_icmp .ge 7, 10, 0, 0), (.aload_n 0, 0, 0, 0), (.iload_n 1, 1, 0, 0), (.lload_n 2, 2, 0, 0), (.lastore, 0, 0, 0), (.return_, 0, 0, 0)]]
/-- 31: ScanChart$Past.goneSince([JIJI)I -/
def am_c31 : List (List am_Ins) := [[(.iload_n 1, 1, 0, 0), (.ifCond .lt 15, 10, 0, 0), (.iload_n 1, 1, 0, 0), (.aload_n 0, 0, 0, 0), (.arraylength, 0, 0, 0), (.if_icmp .ge 9, 10, 0, 0), (.aload_n 0, 0, 0, 0), (.iload_n 1, 1, 0, 0), (.laload, 0, 0, 0), (.goto 4, 11, 0, 0), (.lload_n 2, 2, 0, 0), (.lstore 5, 5, 0, 0), (.lload_n 2, 2, 0, 0), (.lload 5, 5, 0, 0), (.lsub, 0, 0, 0), (.iload 4, 4, 0, 0)], [(.i2l, 0, 0, 0), (.invokestatic 46, 164, 2, 0), (.l2i, 0, 0, 0), (.ireturn, 0, 0, 0)]]
/-- 32: ScanChart$Past.delayOn(LScanChart$Cells;IZIJ)V -/
def am_c32 : List (List am_Ins) := [[(.iload_n 3, 3, 0, 0), (.ifCond .eq 24, 12, 0, 0), (.aload_n 0, 0, 0, 0), (.getfield 9, 0, 4, 0), (.iload_n 2, 2, 0, 0), (.invokestatic 52, 91, 2, 0), (.ifCond .ne 13, 12, 0, 0), (.aload_n 0, 0, 0, 0), (.getfield 15, 1, 4, 2), (.iload_n 2, 2, 0, 0), (.lload 5, 5, 0, 0), (.invokestatic 56, 30, 3, 0), (.aload_n 0, 0, 0, 0), (.aload_n 0, 0, 0, 0), (.getfield 9, 0, 4, 0), (.iload_n 2, 2, 0, 0)], [(.iload_n 3, 3, 0, 0), (.invokestatic 60, 92, 3, 0), (.putfield 9, 0, 4, 0), (.iload_n 3, 3, 0, 0), (.ifCond .eq 18, 28, 0, 0), (.aload_n 0, 0, 0, 0), (.getfield 15, 1, 4, 2), (.iload_n 2, 2, 0, 0), (.lload 5, 5, 0, 0), (.iload 4, 4, 0, 0), (.invokestatic 64, 31, 4, 0), (.goto 4, 29, 0, 0), (.iconst 0, 5, 0, 0), (.istore 7, 7, 0, 0), (.aload_n 1, 1, 0, 0), (.iload_n 2, 2, 0, 0)], [(.iload_n 3, 3, 0, 0), (.ifCond .eq 14, 39, 0, 0), (.iload 7, 7, 0, 0), (.iload 4, 4, 0, 0), (.if_icmp .ne 7, 39, 0, 0), (.iconst 1, 4, 0, 0), (.goto 4, 40, 0, 0), (.iconst 0, 5, 0, 0), (.iload 7, 7, 0, 0), (.invokevirtual 68, 5, 4, 1), (.return_, 0, 0, 0)]]
/-- 33: ScanChart$Past.delayOff(LScanChart$Cells;IZIJ)V -/
def am_c33 : List (List am_Ins) := [[(.iload_n 3, 3, 0, 0), (.ifCond .eq 37, 22, 0, 0), (.aload_n 0, 0, 0, 0), (.aload_n 0, 0, 0, 0), (.getfield 19, 2, 4, 0), (.iload_n 2, 2, 0, 0), (.iconst 1, 4, 0, 0), (.invokestatic 60, 92, 3, 0), (.putfield 19, 2, 4, 0), (.aload_n 0, 0, 0, 0), (.aload_n 0, 0, 0, 0), (.getfield 22, 3, 4, 0), (.iload_n 2, 2, 0, 0), (.iconst 0, 5, 0, 0), (.invokestatic 60, 92, 3, 0), (.putfield 22, 3, 4, 0)], [(.aload_n 1, 1, 0, 0), (.iload_n 2, 2, 0, 0), (.iconst 1, 4, 0, 0), (.iconst 0, 5, 0, 0), (.invokevirtual 68, 5, 4, 1), (.return_, 0, 0, 0), (.aload_n 0, 0, 0, 0), (.getfield 19, 2, 4, 0), (.iload_n 2, 2, 0, 0), (.invokestatic 52, 91, 2, 0), (.ifCond .ne 11, 33, 0, 0), (.aload_n 1, 1, 0, 0), (.iload_n 2, 2, 0, 0), (.iconst 0, 5, 0, 0), (.iconst 0, 5, 0, 0), (.invokevirtual 68, 5, 4, 1)], [(.return_, 0, 0, 0), (.aload_n 0, 0, 0, 0), (.getfield 22, 3, 4, 0), (.iload_n 2, 2, 0, 0), (.invokestatic 52, 91, 2, 0), (.ifCond .ne 26, 50, 0, 0), (.aload_n 0, 0, 0, 0), (.aload_n 0, 0, 0, 0), (.getfield 22, 3, 4, 0), (.iload_n 2, 2, 0, 0), (.iconst 1, 4, 0, 0), (.invokestatic 60, 92, 3, 0), (.putfield 22, 3, 4, 0), (.aload_n 0, 0, 0, 0), (.getfield 25, 4, 4, 2), (.iload_n 2, 2, 0, 0)], [(.lload 5, 5, 0, 0), (.invokestatic 56, 30, 3, 0), (.aload_n 0, 0, 0, 0), (.getfield 25, 4, 4, 2), (.iload_n 2, 2, 0, 0), (.lload 5, 5, 0, 0), (.iload 4, 4, 0, 0), (.invokestatic 64, 31, 4, 0), (.istore 7, 7, 0, 0), (.aload_n 1, 1, 0, 0), (.iload_n 2, 2, 0, 0), (.iload 7, 7, 0, 0), (.iload 4, 4, 0, 0), (.if_icmp .ge 7, 64, 0, 0), (.iconst 1, 4, 0, 0), (.goto 4, 65, 0, 0)], [(.iconst 0, 5, 0, 0), (.iload 7, 7, 0, 0), (.invokevirtual 68, 5, 4, 1), (.return_, 0, 0, 0)]]
/-- 34: ScanChart$Past.pulse(LScanChart$Cells;IZIJ)V -/
def am_c34 : List (List am_Ins) := [[(.iload_n 3, 3, 0, 0), (.ifCond .ne 22, 13, 0, 0), (.aload_n 0, 0, 0, 0), (.getfield 28, 5, 4, 0), (.iload_n 2, 2, 0, 0), (.invokestatic 52, 91, 2, 0), (.ifCond .ne 11, 13, 0, 0), (.aload_n 1, 1, 0, 0), (.iload_n 2, 2, 0, 0), (.iconst 0, 5, 0, 0), (.iconst 0, 5, 0, 0), (.invokevirtual 68, 5, 4, 1), (.return_, 0, 0, 0), (.aload_n 0, 0, 0, 0), (.getfield 28, 5, 4, 0), (.iload_n 2, 2, 0, 0)], [(.invokestatic 52, 91, 2, 0), (.ifCond .ne 13, 23, 0, 0), (.aload_n 0, 0, 0, 0), (.getfield 31, 6, 4, 2), (.iload_n 2, 2, 0, 0), (.lload 5, 5, 0, 0), (.invokestatic 56, 30, 3, 0), (.aload_n 0, 0, 0, 0), (.getfield 31, 6, 4, 2), (.iload_n 2, 2, 0, 0), (.lload 5, 5, 0, 0), (.iload 4, 4, 0, 0), (.invokestatic 64, 31, 4, 0), (.istore 7, 7, 0, 0), (.iload 7, 7, 0, 0), (.iload 4, 4, 0, 0)], [(.if_icmp .ne 11, 37, 0, 0), (.iload_n 3, 3, 0, 0), (.ifCond .ne 7, 37, 0, 0), (.iconst 1, 4, 0, 0), (.goto 4, 38, 0, 0), (.iconst 0, 5, 0, 0), (.istore 8, 8, 0, 0), (.aload_n 0, 0, 0, 0), (.aload_n 0, 0, 0, 0), (.getfield 28, 5, 4, 0), (.iload_n 2, 2, 0, 0), (.iload 8, 8, 0, 0), (.ifCond .ne 7, 47, 0, 0), (.iconst 1, 4, 0, 0), (.goto 4, 48, 0, 0), (.iconst 0, 5, 0, 0)], [(.invokestatic 60, 92, 3, 0), (.putfield 28, 5, 4, 0), (.aload_n 1, 1, 0, 0), (.iload_n 2, 2, 0, 0), (.iload 7, 7, 0, 0), (.iload 4, 4, 0, 0), (.if_icmp .ge 7, 57, 0, 0), (.iconst 1, 4, 0, 0), (.goto 4, 58, 0, 0), (.iconst 0, 5, 0, 0), (.iload 8, 8, 0, 0), (.ifCond .eq 7, 62, 0, 0), (.iconst 0, 5, 0, 0), (.goto 5, 63, 0, 0), (.iload 7, 7, 0, 0), (.invokevirtual 68, 5, 4, 1)], [(.return_, 0, 0, 0)]]
/-- 35: ScanChart$Past.countUp(LScanChart$Cells;IZI)V -/
def am_c35 : List (List am_Ins) := [[(.aload_n 1, 1, 0, 0), (.bipush 10, 17, 0, 0), (.iload_n 2, 2, 0, 0), (.invokevirtual 74, 2, 3, 1), (.istore 5, 5, 0, 0), (.iload_n 3, 3, 0, 0), (.ifCond .eq 25, 16, 0, 0), (.aload_n 0, 0, 0, 0), (.getfield 34, 7, 4, 0), (.iload_n 2, 2, 0, 0), (.invokestatic 52, 91, 2, 0), (.ifCond .ne 14, 16, 0, 0), (.iload 5, 5, 0, 0), (.sipush 32767, 19, 0, 0), (.if_icmp .ge 6, 16, 0, 0), (.iinc 5 1, 5, 4, 0)], [(.aload_n 0, 0, 0, 0), (.aload_n 0, 0, 0, 0), (.getfield 34, 7, 4, 0), (.iload_n 2, 2, 0, 0), (.iload_n 3, 3, 0, 0), (.invokestatic 60, 92, 3, 0), (.putfield 34, 7, 4, 0), (.aload_n 1, 1, 0, 0), (.iload_n 2, 2, 0, 0), (.iload 5, 5, 0, 0), (.invokevirtual 78, 6, 3, 1), (.aload_n 1, 1, 0, 0), (.iconst 5, 12, 0, 0), (.iload_n 2, 2, 0, 0), (.iload 5, 5, 0, 0), (.iload 4, 4, 0, 0)], [(.if_icmp .lt 7, 35, 0, 0), (.iconst 1, 4, 0, 0), (.goto 4, 36, 0, 0), (.iconst 0, 5, 0, 0), (.invokevirtual 82, 3, 4, 1), (.return_, 0, 0, 0)]]
/-- 36: ScanChart$Past.countDown(LScanChart$Cells;IZ)V -/
def am_c36 : List (List am_Ins) := [[(.aload_n 1, 1, 0, 0), (.bipush 10, 17, 0, 0), (.iload_n 2, 2, 0, 0), (.invokevirtual 74, 2, 3, 1), (.istore 4, 4, 0, 0), (.iload_n 3, 3, 0, 0), (.ifCond .eq 25, 16, 0, 0), (.aload_n 0, 0, 0, 0), (.getfield 37, 8, 4, 0), (.iload_n 2, 2, 0, 0), (.invokestatic 52, 91, 2, 0), (.ifCond .ne 14, 16, 0, 0), (.iload 4, 4, 0, 0), (.sipush (-32768), 20, 0, 0), (.if_icmp .le 6, 16, 0, 0), (.iinc 4 (-1), 4, 15, 0)], [(.aload_n 0, 0, 0, 0), (.aload_n 0, 0, 0, 0), (.getfield 37, 8, 4, 0), (.iload_n 2, 2, 0, 0), (.iload_n 3, 3, 0, 0), (.invokestatic 60, 92, 3, 0), (.putfield 37, 8, 4, 0), (.aload_n 1, 1, 0, 0), (.iload_n 2, 2, 0, 0), (.iload 4, 4, 0, 0), (.invokevirtual 78, 6, 3, 1), (.aload_n 1, 1, 0, 0), (.iconst 5, 12, 0, 0), (.iload_n 2, 2, 0, 0), (.iload 4, 4, 0, 0), (.ifCond .gt 7, 34, 0, 0)], [(.iconst 1, 4, 0, 0), (.goto 4, 35, 0, 0), (.iconst 0, 5, 0, 0), (.invokevirtual 82, 3, 4, 1), (.return_, 0, 0, 0)]]
/-- 37: ScanChart$Past.rises(IZ)Z -/
def am_c37 : List (List am_Ins) := [[(.aload_n 0, 0, 0, 0), (.getfield 40, 9, 4, 0), (.iload_n 1, 1, 0, 0), (.invokestatic 52, 91, 2, 0), (.istore_n 3, 3, 0, 0), (.aload_n 0, 0, 0, 0), (.aload_n 0, 0, 0, 0), (.getfield 40, 9, 4, 0), (.iload_n 1, 1, 0, 0), (.iload_n 2, 2, 0, 0), (.invokestatic 60, 92, 3, 0), (.putfield 40, 9, 4, 0), (.iload_n 2, 2, 0, 0), (.ifCond .eq 11, 18, 0, 0), (.iload_n 3, 3, 0, 0), (.ifCond .ne 7, 18, 0, 0)], [(.iconst 1, 4, 0, 0), (.goto 4, 19, 0, 0), (.iconst 0, 5, 0, 0), (.ireturn, 0, 0, 0)]]
/-- 38: ScanChart$Past.falls(IZ)Z -/
def am_c38 : List (List am_Ins) := [[(.aload_n 0, 0, 0, 0), (.getfield 43, 10, 4, 0), (.iload_n 1, 1, 0, 0), (.invokestatic 52, 91, 2, 0), (.istore_n 3, 3, 0, 0), (.aload_n 0, 0, 0, 0), (.aload_n 0, 0, 0, 0), (.getfield 43, 10, 4, 0), (.iload_n 1, 1, 0, 0), (.iload_n 2, 2, 0, 0), (.invokestatic 60, 92, 3, 0), (.putfield 43, 10, 4, 0), (.iload_n 2, 2, 0, 0), (.ifCond .ne 11, 18, 0, 0), (.iload_n 3, 3, 0, 0), (.ifCond .eq 7, 18, 0, 0)], [(.iconst 1, 4, 0, 0), (.goto 4, 19, 0, 0), (.iconst 0, 5, 0, 0), (.ireturn, 0, 0, 0)]]
/-- 39: ScanChart$Program.<init>()V -/
def am_c39 : List (List am_Ins) := [[(.aload_n 0, 0, 0, 0), (.invokespecial 3, 0, 1, 99), (.aload_n 0, 0, 0, 0), (.new 9, 2, 10, 0), (.dup, 0, 0, 0), (.invokespecial 11, 7, 1, 2), (.putfield 12, 0, 5, 2), (.aload_n 0, 0, 0, 0), (.bipush 80, 21, 0, 0), (.anewarray 18, 23, 0, 0), (.putfield 20, 1, 5, 2), (.aload_n 0, 0, 0, 0), (.bipush 80, 21, 0, 0), (.newarray .int, 20, 0, 0), (.putfield 24, 2, 5, 2), (.aload_n 0, 0, 0, 0)], [(.bipush 80, 21, 0, 0), (.newarray .int, 20, 0, 0), (.putfield 28, 3, 5, 2), (.aload_n 0, 0, 0, 0), (.bipush 80, 21, 0, 0), (.newarray .int, 20, 0, 0), (.putfield 31, 4, 5, 2), (.aload_n 0, 0, 0, 0), (.bipush 32, 1, 0, 0), (.newarray .int, 20, 0, 0), (.putfield 34, 5, 5, 2), (.aload_n 0, 0, 0, 0), (.iconst 0, 5, 0, 0), (.putfield 37, 6, 5, 0), (.return_, 0, 0, 0)]]
/-- 40: ScanChart$Program.clear()V -/
def am_c40 : List (List am_Ins) := [[(.aload_n 0, 0, 0, 0), (.iconst 0, 5, 0, 0), (.putfield 37, 6, 5, 0), (.aload_n 0, 0, 0, 0), (.getfield 34, 5, 5, 2), (.iconst (-1), 15, 0, 0), (.invokestatic 41, 93, 2, 0), (.aload_n 0, 0, 0, 0), (.getfield 12, 0, 5, 2), (.invokevirtual 45, 8, 1, 2), (.return_, 0, 0, 0)]]
/-- 41: ScanChart$Program.add(LScanChart$Op;III)V -/
def am_c41 : List (List am_Ins) := [[(.aload_n 0, 0, 0, 0), (.getfield 37, 6, 5, 0), (.ifCond .lt 15, 9, 0, 0), (.aload_n 0, 0, 0, 0), (.getfield 37, 6, 5, 0), (.aload_n 0, 0, 0, 0), (.getfield 20, 1, 5, 2), (.arraylength, 0, 0, 0), (.if_icmp .lt 4, 10, 0, 0), (.return_, 0, 0, 0), (.aload_n 0, 0, 0, 0), (.getfield 20, 1, 5, 2), (.aload_n 0, 0, 0, 0), (.getfield 37, 6, 5, 0), (.aload_n 1, 1, 0, 0), (.aastore, 0, 0, 0)], [(.aload_n 0, 0, 0, 0), (.getfield 24, 2, 5, 2), (.aload_n 0, 0, 0, 0), (.getfield 37, 6, 5, 0), (.iload_n 2, 2, 0, 0), (.invokestatic 48, 90, 3, 0), (.aload_n 0, 0, 0, 0), (.getfield 28, 3, 5, 2), (.aload_n 0, 0, 0, 0), (.getfield 37, 6, 5, 0), (.iload_n 3, 3, 0, 0), (.invokestatic 48, 90, 3, 0), (.aload_n 0, 0, 0, 0), (.getfield 31, 4, 5, 2), (.aload_n 0, 0, 0, 0), (.getfield 37, 6, 5, 0)], [(.iload 4, 4, 0, 0), (.invokestatic 48, 90, 3, 0), (.aload_n 0, 0, 0, 0), (.dup, 0, 0, 0), (.getfield 37, 6, 5, 0), (.iconst 1, 4, 0, 0), (.iadd, 0, 0, 0), (.putfield 37, 6, 5, 0), (.return_, 0, 0, 0)]]
/-- 42: ScanChart$Program.opAt(I)LScanChart$Op; -/
def am_c42 : List (List am_Ins) := [[(.iload_n 1, 1, 0, 0), (.ifCond .lt 21, 12, 0, 0), (.iload_n 1, 1, 0, 0), (.aload_n 0, 0, 0, 0), (.getfield 20, 1, 5, 2), (.arraylength, 0, 0, 0), (.if_icmp .ge 12, 12, 0, 0), (.aload_n 0, 0, 0, 0), (.getfield 20, 1, 5, 2), (.iload_n 1, 1, 0, 0), (.aaload, 0, 0, 0), (.goto 4, 13, 0, 0), (.aconst_null, 0, 0, 0), (.areturn, 0, 0, 0)]]
/-- 43: ScanChart$Reader.<init>()V -/
def am_c43 : List (List am_Ins) := [[(.aload_n 0, 0, 0, 0), (.invokespecial 3, 0, 1, 99), (.aload_n 0, 0, 0, 0), (.new 9, 7, 2, 0), (.dup, 0, 0, 0), (.invokespecial 11, 67, 1, 7), (.putfield 12, 0, 6, 2), (.aload_n 0, 0, 0, 0), (.new 18, 5, 7, 0), (.dup, 0, 0, 0), (.invokespecial 20, 39, 1, 5), (.putfield 21, 1, 6, 2), (.aload_n 0, 0, 0, 0), (.iconst 0, 5, 0, 0), (.putfield 25, 2, 6, 0), (.aload_n 0, 0, 0, 0)], [(.iconst (-1), 15, 0, 0), (.putfield 29, 3, 6, 0), (.aload_n 0, 0, 0, 0), (.bipush 32, 1, 0, 0), (.newarray .int, 20, 0, 0), (.putfield 32, 12, 6, 2), (.aload_n 0, 0, 0, 0), (.bipush 16, 7, 0, 0), (.newarray .int, 20, 0, 0), (.putfield 36, 13, 6, 2), (.return_, 0, 0, 0)]]
/-- 44: ScanChart$Reader.readText()Z -/
def am_c44 : List (List am_Ins) := [[(.aload_n 0, 0, 0, 0), (.getfield 21, 1, 6, 2), (.invokevirtual 39, 40, 1, 5), (.aload_n 0, 0, 0, 0), (.getfield 32, 12, 6, 2), (.iconst (-1), 15, 0, 0), (.invokestatic 42, 93, 2, 0), (.aload_n 0, 0, 0, 0), (.getfield 36, 13, 6, 2), (.iconst (-1), 15, 0, 0), (.invokestatic 42, 93, 2, 0), (.aload_n 0, 0, 0, 0), (.iconst 0, 5, 0, 0), (.putfield 25, 2, 6, 0), (.aload_n 0, 0, 0, 0), (.iconst (-1), 15, 0, 0)], [(.putfield 29, 3, 6, 0), (.aload_n 0, 0, 0, 0), (.iconst 0, 5, 0, 0), (.putfield 46, 9, 6, 0), (.aload_n 0, 0, 0, 0), (.iconst 0, 5, 0, 0), (.putfield 49, 6, 6, 0), (.aload_n 0, 0, 0, 0), (.invokevirtual 52, 47, 1, 6), (.iconst 0, 5, 0, 0), (.istore_n 1, 1, 0, 0), (.iload_n 1, 1, 0, 0), (.sipush 700, 22, 0, 0), (.if_icmp .gt 133, 94, 0, 0), (.aload_n 0, 0, 0, 0), (.getfield 55, 4, 6, 0)], [(.ifCond .eq 126, 94, 0, 0), (.aload_n 0, 0, 0, 0), (.invokevirtual 58, 50, 1, 6), (.ifCond .eq 10, 39, 0, 0), (.aload_n 0, 0, 0, 0), (.invokevirtual 62, 51, 1, 6), (.ifCond .eq 7, 41, 0, 0), (.iconst 1, 4, 0, 0), (.goto 4, 42, 0, 0), (.iconst 0, 5, 0, 0), (.istore_n 2, 2, 0, 0), (.iload_n 2, 2, 0, 0), (.ifCond .eq 72, 78, 0, 0), (.aload_n 0, 0, 0, 0), (.getfield 55, 4, 6, 0), (.iconst 2, 13, 0, 0)], [(.if_icmp .ne 64, 78, 0, 0), (.aload_n 0, 0, 0, 0), (.invokevirtual 65, 52, 1, 6), (.astore_n 3, 3, 0, 0), (.aload_n 3, 3, 0, 0), (.ifnull 53, 76, 0, 0), (.aload_n 3, 3, 0, 0), (.getfield 69, 1, 30, 3), (.bipush 13, 23, 0, 0), (.if_icmp .ne 13, 62, 0, 0), (.aload_n 0, 0, 0, 0), (.invokevirtual 74, 63, 1, 6), (.ifCond .eq 37, 76, 0, 0), (.goto 30, 74, 0, 0), (.aload_n 3, 3, 0, 0), (.getfield 69, 1, 30, 3)], [(.bipush 12, 10, 0, 0), (.if_icmp .ne 13, 70, 0, 0), (.aload_n 0, 0, 0, 0), (.invokevirtual 77, 61, 1, 6), (.ifCond .eq 18, 76, 0, 0), (.goto 11, 74, 0, 0), (.aload_n 0, 0, 0, 0), (.aload_n 3, 3, 0, 0), (.invokevirtual 80, 56, 2, 6), (.ifCond .eq 7, 76, 0, 0), (.iconst 1, 4, 0, 0), (.goto 4, 77, 0, 0), (.iconst 0, 5, 0, 0), (.istore_n 2, 2, 0, 0), (.iload_n 2, 2, 0, 0), (.ifCond .ne 5, 82, 0, 0)], [(.iconst 0, 5, 0, 0), (.ireturn, 0, 0, 0), (.aload_n 0, 0, 0, 0), (.getfield 55, 4, 6, 0), (.iconst 1, 4, 0, 0), (.if_icmp .eq 9, 90, 0, 0), (.aload_n 0, 0, 0, 0), (.iconst 1, 4, 0, 0), (.invokevirtual 84, 45, 2, 6), (.ireturn, 0, 0, 0), (.aload_n 0, 0, 0, 0), (.invokevirtual 52, 47, 1, 6), (.iinc 1 1, 1, 4, 0), (.goto (-134), 27, 0, 0), (.aload_n 0, 0, 0, 0), (.getfield 46, 9, 6, 0)], [(.ifCond .le 11, 101, 0, 0), (.aload_n 0, 0, 0, 0), (.iconst 5, 12, 0, 0), (.invokevirtual 84, 45, 2, 6), (.goto 7, 103, 0, 0), (.aload_n 0, 0, 0, 0), (.invokevirtual 88, 66, 1, 6), (.ireturn, 0, 0, 0)]]
/-- 45: ScanChart$Reader.fail(I)Z -/
def am_c45 : List (List am_Ins) := [[(.aload_n 0, 0, 0, 0), (.iload_n 1, 1, 0, 0), (.putfield 25, 2, 6, 0), (.aload_n 0, 0, 0, 0), (.aload_n 0, 0, 0, 0), (.getfield 91, 5, 6, 0), (.putfield 29, 3, 6, 0), (.iconst 0, 5, 0, 0), (.ireturn, 0, 0, 0)]]
/-- 46: ScanChart$Reader.failAt(II)Z -/
def am_c46 : List (List am_Ins) := [[(.aload_n 0, 0, 0, 0), (.iload_n 1, 1, 0, 0), (.putfield 25, 2, 6, 0), (.aload_n 0, 0, 0, 0), (.iload_n 2, 2, 0, 0), (.putfield 29, 3, 6, 0), (.iconst 0, 5, 0, 0), (.ireturn, 0, 0, 0)]]
/-- 47: ScanChart$Reader.advance()V -/
def am_c47 : List (List am_Ins) := [[(.aload_n 0, 0, 0, 0), (.aload_n 0, 0, 0, 0), (.getfield 49, 6, 6, 0), (.putfield 91, 5, 6, 0), (.aload_n 0, 0, 0, 0), (.getfield 91, 5, 6, 0), (.aload_n 0, 0, 0, 0), (.getfield 12, 0, 6, 2), (.getfield 94, 1, 7, 0), (.if_icmp .ge 32, 24, 0, 0), (.aload_n 0, 0, 0, 0), (.getfield 12, 0, 6, 2), (.aload_n 0, 0, 0, 0), (.getfield 91, 5, 6, 0), (.invokevirtual 97, 69, 2, 7), (.bipush 32, 1, 0, 0)], [(.if_icmp .gt 16, 24, 0, 0), (.aload_n 0, 0, 0, 0), (.dup, 0, 0, 0), (.getfield 91, 5, 6, 0), (.iconst 1, 4, 0, 0), (.iadd, 0, 0, 0), (.putfield 91, 5, 6, 0), (.goto (-40), 4, 0, 0), (.aload_n 0, 0, 0, 0), (.aload_n 0, 0, 0, 0), (.getfield 91, 5, 6, 0), (.putfield 49, 6, 6, 0), (.aload_n 0, 0, 0, 0), (.getfield 49, 6, 6, 0), (.aload_n 0, 0, 0, 0), (.getfield 12, 0, 6, 2)], [(.getfield 94, 1, 7, 0), (.if_icmp .ge 48, 55, 0, 0), (.aload_n 0, 0, 0, 0), (.getfield 12, 0, 6, 2), (.aload_n 0, 0, 0, 0), (.getfield 49, 6, 6, 0), (.invokevirtual 97, 69, 2, 7), (.bipush 32, 1, 0, 0), (.if_icmp .le 32, 55, 0, 0), (.aload_n 0, 0, 0, 0), (.getfield 12, 0, 6, 2), (.aload_n 0, 0, 0, 0), (.getfield 49, 6, 6, 0), (.invokevirtual 97, 69, 2, 7), (.bipush 59, 24, 0, 0), (.if_icmp .eq 16, 55, 0, 0)], [(.aload_n 0, 0, 0, 0), (.dup, 0, 0, 0), (.getfield 49, 6, 6, 0), (.iconst 1, 4, 0, 0), (.iadd, 0, 0, 0), (.putfield 49, 6, 6, 0), (.goto (-56), 28, 0, 0), (.aload_n 0, 0, 0, 0), (.getfield 49, 6, 6, 0), (.aload_n 0, 0, 0, 0), (.getfield 91, 5, 6, 0), (.if_icmp .le 11, 64, 0, 0), (.aload_n 0, 0, 0, 0), (.iconst 2, 13, 0, 0), (.putfield 55, 4, 6, 0), (.goto 40, 83, 0, 0)], [(.aload_n 0, 0, 0, 0), (.getfield 91, 5, 6, 0), (.aload_n 0, 0, 0, 0), (.getfield 12, 0, 6, 2), (.getfield 94, 1, 7, 0), (.if_icmp .ge 21, 80, 0, 0), (.aload_n 0, 0, 0, 0), (.iconst 1, 4, 0, 0), (.putfield 55, 4, 6, 0), (.aload_n 0, 0, 0, 0), (.aload_n 0, 0, 0, 0), (.getfield 91, 5, 6, 0), (.iconst 1, 4, 0, 0), (.iadd, 0, 0, 0), (.putfield 49, 6, 6, 0), (.goto 8, 83, 0, 0)], [(.aload_n 0, 0, 0, 0), (.iconst 0, 5, 0, 0), (.putfield 55, 4, 6, 0), (.aload_n 0, 0, 0, 0), (.aload_n 0, 0, 0, 0), (.getfield 49, 6, 6, 0), (.putfield 101, 7, 6, 0), (.aload_n 0, 0, 0, 0), (.getfield 101, 7, 6, 0), (.aload_n 0, 0, 0, 0), (.getfield 91, 5, 6, 0), (.if_icmp .le 52, 117, 0, 0), (.aload_n 0, 0, 0, 0), (.getfield 12, 0, 6, 2), (.aload_n 0, 0, 0, 0), (.getfield 101, 7, 6, 0)], [(.iconst 1, 4, 0, 0), (.isub, 0, 0, 0), (.invokevirtual 97, 69, 2, 7), (.bipush 48, 8, 0, 0), (.if_icmp .lt 34, 117, 0, 0), (.aload_n 0, 0, 0, 0), (.getfield 12, 0, 6, 2), (.aload_n 0, 0, 0, 0), (.getfield 101, 7, 6, 0), (.iconst 1, 4, 0, 0), (.isub, 0, 0, 0), (.invokevirtual 97, 69, 2, 7), (.bipush 57, 25, 0, 0), (.if_icmp .gt 16, 117, 0, 0), (.aload_n 0, 0, 0, 0), (.dup, 0, 0, 0)], [(.getfield 101, 7, 6, 0), (.iconst 1, 4, 0, 0), (.isub, 0, 0, 0), (.putfield 101, 7, 6, 0), (.goto (-57), 87, 0, 0), (.return_, 0, 0, 0)]]
/-- 48: ScanChart$Reader.isWord(Ljava/lang/String;)Z -/
def am_c48 : List (List am_Ins) := [[(.aload_n 0, 0, 0, 0), (.getfield 55, 4, 6, 0), (.iconst 2, 13, 0, 0), (.if_icmp .ne 26, 15, 0, 0), (.aload_n 0, 0, 0, 0), (.getfield 12, 0, 6, 2), (.aload_n 1, 1, 0, 0), (.aload_n 0, 0, 0, 0), (.getfield 91, 5, 6, 0), (.aload_n 0, 0, 0, 0), (.getfield 49, 6, 6, 0), (.invokevirtual 104, 70, 4, 7), (.ifCond .eq 7, 15, 0, 0), (.iconst 1, 4, 0, 0), (.goto 4, 16, 0, 0), (.iconst 0, 5, 0, 0)], [(.ireturn, 0, 0, 0)]]
/-- 49: ScanChart$Reader.isFigures()Z -/
def am_c49 : List (List am_Ins) := [[(.aload_n 0, 0, 0, 0), (.getfield 55, 4, 6, 0), (.iconst 2, 13, 0, 0), (.if_icmp .ne 18, 11, 0, 0), (.aload_n 0, 0, 0, 0), (.getfield 101, 7, 6, 0), (.aload_n 0, 0, 0, 0), (.getfield 91, 5, 6, 0), (.if_icmp .ne 7, 11, 0, 0), (.iconst 1, 4, 0, 0), (.goto 4, 12, 0, 0), (.iconst 0, 5, 0, 0), (.ireturn, 0, 0, 0)]]
/-- 50: ScanChart$Reader.isLabel()Z -/
def am_c50 : List (List am_Ins) := [[(.aload_n 0, 0, 0, 0), (.getfield 55, 4, 6, 0), (.iconst 2, 13, 0, 0), (.if_icmp .ne 67, 36, 0, 0), (.aload_n 0, 0, 0, 0), (.getfield 12, 0, 6, 2), (.aload_n 0, 0, 0, 0), (.getfield 91, 5, 6, 0), (.invokevirtual 97, 69, 2, 7), (.bipush 76, 26, 0, 0), (.if_icmp .ne 51, 36, 0, 0), (.aload_n 0, 0, 0, 0), (.getfield 12, 0, 6, 2), (.aload_n 0, 0, 0, 0), (.getfield 49, 6, 6, 0), (.iconst 1, 4, 0, 0)], [(.isub, 0, 0, 0), (.invokevirtual 97, 69, 2, 7), (.bipush 58, 27, 0, 0), (.if_icmp .ne 33, 36, 0, 0), (.aload_n 0, 0, 0, 0), (.getfield 12, 0, 6, 2), (.aload_n 0, 0, 0, 0), (.getfield 91, 5, 6, 0), (.iconst 1, 4, 0, 0), (.iadd, 0, 0, 0), (.aload_n 0, 0, 0, 0), (.getfield 49, 6, 6, 0), (.iconst 1, 4, 0, 0), (.isub, 0, 0, 0), (.invokevirtual 108, 71, 3, 7), (.ldc2_w 112, 1, 0, 0)], [(.lcmp, 0, 0, 0), (.ifCond .eq 7, 36, 0, 0), (.iconst 1, 4, 0, 0), (.goto 4, 37, 0, 0), (.iconst 0, 5, 0, 0), (.ireturn, 0, 0, 0)]]
/-- 51: ScanChart$Reader.readLabel()Z -/
def am_c51 : List (List am_Ins) := [[(.aload_n 0, 0, 0, 0), (.getfield 12, 0, 6, 2), (.aload_n 0, 0, 0, 0), (.getfield 91, 5, 6, 0), (.iconst 1, 4, 0, 0), (.iadd, 0, 0, 0), (.aload_n 0, 0, 0, 0), (.getfield 49, 6, 6, 0), (.iconst 1, 4, 0, 0), (.isub, 0, 0, 0), (.invokevirtual 108, 71, 3, 7), (.lstore_n 1, 1, 0, 0), (.aload_n 0, 0, 0, 0), (.getfield 49, 6, 6, 0), (.aload_n 0, 0, 0, 0), (.getfield 91, 5, 6, 0)], [(.isub, 0, 0, 0), (.iconst 2, 13, 0, 0), (.isub, 0, 0, 0), (.iconst 2, 13, 0, 0), (.if_icmp .gt 17, 29, 0, 0), (.lload_n 1, 1, 0, 0), (.lconst 0, 0, 0, 0), (.lcmp, 0, 0, 0), (.ifCond .lt 11, 29, 0, 0), (.lload_n 1, 1, 0, 0), (.ldc2_w 114, 2, 0, 0), (.lcmp, 0, 0, 0), (.ifCond .lt 9, 33, 0, 0), (.aload_n 0, 0, 0, 0), (.iconst 2, 13, 0, 0), (.invokevirtual 84, 45, 2, 6)], [(.ireturn, 0, 0, 0), (.lload_n 1, 1, 0, 0), (.l2i, 0, 0, 0), (.istore_n 3, 3, 0, 0), (.aload_n 0, 0, 0, 0), (.getfield 21, 1, 6, 2), (.getfield 116, 5, 5, 2), (.iload_n 3, 3, 0, 0), (.invokestatic 119, 89, 2, 0), (.iconst (-1), 15, 0, 0), (.if_icmp .eq 9, 47, 0, 0), (.aload_n 0, 0, 0, 0), (.iconst 4, 6, 0, 0), (.invokevirtual 84, 45, 2, 6), (.ireturn, 0, 0, 0), (.aload_n 0, 0, 0, 0)], [(.getfield 46, 9, 6, 0), (.ifCond .le 9, 54, 0, 0), (.aload_n 0, 0, 0, 0), (.iconst 5, 12, 0, 0), (.invokevirtual 84, 45, 2, 6), (.ireturn, 0, 0, 0), (.aload_n 0, 0, 0, 0), (.getfield 21, 1, 6, 2), (.getfield 116, 5, 5, 2), (.iload_n 3, 3, 0, 0), (.aload_n 0, 0, 0, 0), (.getfield 21, 1, 6, 2), (.getfield 123, 6, 5, 0), (.invokestatic 126, 90, 3, 0), (.aload_n 0, 0, 0, 0), (.invokevirtual 52, 47, 1, 6)], [(.iconst 1, 4, 0, 0), (.ireturn, 0, 0, 0)]]
/-- 52: ScanChart$Reader.readOp()LScanChart$Op; -/
def am_c52 : List (List am_Ins) := [[(.aload_n 0, 0, 0, 0), (.aload_n 0, 0, 0, 0), (.getfield 12, 0, 6, 2), (.aload_n 0, 0, 0, 0), (.getfield 49, 6, 6, 0), (.iconst 1, 4, 0, 0), (.isub, 0, 0, 0), (.invokevirtual 97, 69, 2, 7), (.bipush 40, 28, 0, 0), (.if_icmp .ne 7, 12, 0, 0), (.iconst 1, 4, 0, 0), (.goto 4, 13, 0, 0), (.iconst 0, 5, 0, 0), (.putfield 130, 8, 6, 5), (.aload_n 0, 0, 0, 0), (.aload_n 0, 0, 0, 0)], [(.getfield 91, 5, 6, 0), (.aload_n 0, 0, 0, 0), (.getfield 130, 8, 6, 5), (.ifCond .eq 12, 25, 0, 0), (.aload_n 0, 0, 0, 0), (.getfield 49, 6, 6, 0), (.iconst 1, 4, 0, 0), (.isub, 0, 0, 0), (.goto 7, 27, 0, 0), (.aload_n 0, 0, 0, 0), (.getfield 49, 6, 6, 0), (.invokevirtual 134, 53, 3, 6), (.astore_n 1, 1, 0, 0), (.aload_n 1, 1, 0, 0), (.ifnull 18, 38, 0, 0), (.aload_n 0, 0, 0, 0)], [(.getfield 130, 8, 6, 5), (.ifCond .eq 19, 44, 0, 0), (.aload_n 1, 1, 0, 0), (.getfield 69, 1, 30, 3), (.iconst 1, 4, 0, 0), (.if_icmp .eq 11, 44, 0, 0), (.aload_n 0, 0, 0, 0), (.iconst 1, 4, 0, 0), (.invokevirtual 84, 45, 2, 6), (.pop, 0, 0, 0), (.aconst_null, 0, 0, 0), (.areturn, 0, 0, 0), (.aload_n 0, 0, 0, 0), (.aload_n 1, 1, 0, 0), (.invokevirtual 138, 54, 2, 6), (.ifCond .eq 11, 54, 0, 0)], [(.aload_n 0, 0, 0, 0), (.iconst 3, 3, 0, 0), (.invokevirtual 84, 45, 2, 6), (.pop, 0, 0, 0), (.aconst_null, 0, 0, 0), (.areturn, 0, 0, 0), (.aload_n 0, 0, 0, 0), (.aload_n 1, 1, 0, 0), (.invokevirtual 141, 55, 2, 6), (.ifCond .ne 11, 64, 0, 0), (.aload_n 0, 0, 0, 0), (.iconst 5, 12, 0, 0), (.invokevirtual 84, 45, 2, 6), (.pop, 0, 0, 0), (.aconst_null, 0, 0, 0), (.areturn, 0, 0, 0)], [(.aload_n 0, 0, 0, 0), (.getfield 130, 8, 6, 5), (.ifCond .eq 16, 74, 0, 0), (.aload_n 0, 0, 0, 0), (.dup, 0, 0, 0), (.getfield 46, 9, 6, 0), (.iconst 1, 4, 0, 0), (.iadd, 0, 0, 0), (.putfield 46, 9, 6, 0), (.goto 21, 84, 0, 0), (.aload_n 1, 1, 0, 0), (.getfield 69, 1, 30, 3), (.iconst 4, 6, 0, 0), (.if_icmp .ne 13, 84, 0, 0), (.aload_n 0, 0, 0, 0), (.dup, 0, 0, 0)], [(.getfield 46, 9, 6, 0), (.iconst 1, 4, 0, 0), (.isub, 0, 0, 0), (.putfield 46, 9, 6, 0), (.aload_n 0, 0, 0, 0), (.invokevirtual 52, 47, 1, 6), (.aload_n 1, 1, 0, 0), (.areturn, 0, 0, 0)]]
/-- 53: ScanChart$Reader.opSpelled(II)LScanChart$Op; -/
def am_c53 : List (List am_Ins) := [[(.getstatic 144, 4001, 0, 0), (.astore_n 3, 3, 0, 0), (.aload_n 3, 3, 0, 0), (.arraylength, 0, 0, 0), (.istore 4, 4, 0, 0), (.iconst 0, 5, 0, 0), (.istore 5, 5, 0, 0), (.iload 5, 5, 0, 0), (.iload 4, 4, 0, 0), (.if_icmp .ge 35, 26, 0, 0), (.aload_n 3, 3, 0, 0), (.iload 5, 5, 0, 0), (.aaload, 0, 0, 0), (.astore 6, 6, 0, 0), (.aload_n 0, 0, 0, 0), (.getfield 12, 0, 6, 2)], [(.aload 6, 6, 0, 0), (.getfield 148, 0, 30, 4), (.iload_n 1, 1, 0, 0), (.iload_n 2, 2, 0, 0), (.invokevirtual 104, 70, 4, 7), (.ifCond .eq 6, 24, 0, 0), (.aload 6, 6, 0, 0), (.areturn, 0, 0, 0), (.iinc 5 1, 5, 4, 0), (.goto (-36), 7, 0, 0), (.aconst_null, 0, 0, 0), (.areturn, 0, 0, 0)]]
/-- 54: ScanChart$Reader.isFull(LScanChart$Op;)Z -/
def am_c54 : List (List am_Ins) := [[(.aload_n 1, 1, 0, 0), (.getfield 69, 1, 30, 3), (.bipush 13, 23, 0, 0), (.if_icmp .ne 24, 14, 0, 0), (.aload_n 0, 0, 0, 0), (.getfield 21, 1, 6, 2), (.getfield 152, 0, 5, 2), (.getfield 156, 5, 2, 0), (.bipush 16, 7, 0, 0), (.if_icmp .lt 7, 12, 0, 0), (.iconst 1, 4, 0, 0), (.goto 4, 13, 0, 0), (.iconst 0, 5, 0, 0), (.ireturn, 0, 0, 0), (.aload_n 1, 1, 0, 0), (.getfield 69, 1, 30, 3)], [(.bipush 12, 10, 0, 0), (.if_icmp .eq 19, 25, 0, 0), (.aload_n 0, 0, 0, 0), (.getfield 21, 1, 6, 2), (.getfield 123, 6, 5, 0), (.bipush 80, 21, 0, 0), (.if_icmp .lt 7, 25, 0, 0), (.iconst 1, 4, 0, 0), (.goto 4, 26, 0, 0), (.iconst 0, 5, 0, 0), (.ireturn, 0, 0, 0)]]
/-- 55: ScanChart$Reader.isAllowedByBrackets(LScanChart$Op;)Z -/
def am_c55 : List (List am_Ins) := [[(.aload_n 1, 1, 0, 0), (.getfield 69, 1, 30, 3), (.tableswitch 116 1 13 #[68, 116, 116, 90, 116, 103, 103, 116, 116, 116, 116, 103, 103], 5, 4, 0), (.aload_n 0, 0, 0, 0), (.getfield 130, 8, 6, 5), (.ifCond .eq 12, 10, 0, 0), (.aload_n 0, 0, 0, 0), (.getfield 46, 9, 6, 0), (.bipush 8, 2, 0, 0), (.if_icmp .ge 7, 12, 0, 0), (.iconst 1, 4, 0, 0), (.goto 4, 13, 0, 0), (.iconst 0, 5, 0, 0), (.ireturn, 0, 0, 0), (.aload_n 0, 0, 0, 0), (.getfield 46, 9, 6, 0)], [(.ifCond .le 7, 19, 0, 0), (.iconst 1, 4, 0, 0), (.goto 4, 20, 0, 0), (.iconst 0, 5, 0, 0), (.ireturn, 0, 0, 0), (.aload_n 0, 0, 0, 0), (.getfield 46, 9, 6, 0), (.ifCond .ne 7, 26, 0, 0), (.iconst 1, 4, 0, 0), (.goto 4, 27, 0, 0), (.iconst 0, 5, 0, 0), (.ireturn, 0, 0, 0), (.iconst 1, 4, 0, 0), (.ireturn, 0, 0, 0)]]
/-- 56: ScanChart$Reader.readOperands(LScanChart$Op;)Z -/
def am_c56 : List (List am_Ins) := [[(.aload_n 0, 0, 0, 0), (.getfield 91, 5, 6, 0), (.istore_n 2, 2, 0, 0), (.iconst 0, 5, 0, 0), (.istore_n 3, 3, 0, 0), (.aload_n 0, 0, 0, 0), (.bipush 12, 10, 0, 0), (.putfield 161, 10, 6, 0), (.aload_n 0, 0, 0, 0), (.iconst 0, 5, 0, 0), (.putfield 164, 11, 6, 0), (.aload_n 0, 0, 0, 0), (.getfield 130, 8, 6, 5), (.ifCond .eq 7, 16, 0, 0), (.iconst 0, 5, 0, 0), (.goto 8, 19, 0, 0)], [(.aload_n 0, 0, 0, 0), (.aload_n 1, 1, 0, 0), (.invokevirtual 167, 57, 2, 6), (.istore 4, 4, 0, 0), (.iload 4, 4, 0, 0), (.ifCond .eq 14, 28, 0, 0), (.aload_n 0, 0, 0, 0), (.iload 4, 4, 0, 0), (.invokevirtual 171, 59, 2, 6), (.ifCond .ne 5, 28, 0, 0), (.iconst 0, 5, 0, 0), (.ireturn, 0, 0, 0), (.aload_n 0, 0, 0, 0), (.getfield 161, 10, 6, 0), (.istore 5, 5, 0, 0), (.aload_n 0, 0, 0, 0)], [(.getfield 164, 11, 6, 0), (.istore 6, 6, 0, 0), (.aload_n 1, 1, 0, 0), (.getfield 69, 1, 30, 3), (.bipush 8, 2, 0, 0), (.if_icmp .eq 12, 42, 0, 0), (.aload_n 1, 1, 0, 0), (.getfield 69, 1, 30, 3), (.bipush 9, 11, 0, 0), (.if_icmp .ne 40, 59, 0, 0), (.aload_n 0, 0, 0, 0), (.sipush 700, 22, 0, 0), (.aload_n 1, 1, 0, 0), (.getfield 69, 1, 30, 3), (.bipush 8, 2, 0, 0), (.if_icmp .ne 8, 50, 0, 0)], [(.ldc 174, 29, 1, 0), (.goto 6, 51, 0, 0), (.sipush 32767, 19, 0, 0), (.invokevirtual 175, 60, 3, 6), (.ifCond .ne 5, 55, 0, 0), (.iconst 0, 5, 0, 0), (.ireturn, 0, 0, 0), (.aload_n 0, 0, 0, 0), (.getfield 164, 11, 6, 0), (.istore_n 3, 3, 0, 0), (.goto 23, 69, 0, 0), (.aload_n 1, 1, 0, 0), (.getfield 69, 1, 30, 3), (.bipush 6, 0, 0, 0), (.if_icmp .ne 14, 69, 0, 0), (.aload_n 0, 0, 0, 0)], [(.aload_n 0, 0, 0, 0), (.getfield 32, 12, 6, 2), (.iload 6, 6, 0, 0), (.iload_n 2, 2, 0, 0), (.invokevirtual 179, 65, 4, 6), (.aload_n 0, 0, 0, 0), (.getfield 21, 1, 6, 2), (.aload_n 1, 1, 0, 0), (.iload 5, 5, 0, 0), (.iload 6, 6, 0, 0), (.iload_n 3, 3, 0, 0), (.invokevirtual 182, 41, 5, 5), (.iconst 1, 4, 0, 0), (.ireturn, 0, 0, 0)]]
/-- 57: ScanChart$Reader.operandsOf(LScanChart$Op;)I -/
def am_c57 : List (List am_Ins) := [[(.aload_n 1, 1, 0, 0), (.getfield 69, 1, 30, 3), (.tableswitch 88 0 11 #[64, 64, 68, 71, 88, 88, 74, 88, 78, 81, 81, 84], 6, 5, 0), (.sipush 3711, 30, 0, 0), (.ireturn, 0, 0, 0), (.bipush 70, 31, 0, 0), (.ireturn, 0, 0, 0), (.bipush 6, 0, 0, 0), (.ireturn, 0, 0, 0), (.sipush 128, 32, 0, 0), (.ireturn, 0, 0, 0), (.bipush 16, 7, 0, 0), (.ireturn, 0, 0, 0), (.bipush 32, 1, 0, 0), (.ireturn, 0, 0, 0), (.sipush 256, 33, 0, 0)], [(.ireturn, 0, 0, 0), (.iconst 0, 5, 0, 0), (.ireturn, 0, 0, 0)]]
/-- 58: ScanChart$Reader.kindOfWord()I -/
def am_c58 : List (List am_Ins) := [[(.aload_n 0, 0, 0, 0), (.getfield 55, 4, 6, 0), (.iconst 2, 13, 0, 0), (.if_icmp .ne 14, 9, 0, 0), (.aload_n 0, 0, 0, 0), (.getfield 101, 7, 6, 0), (.aload_n 0, 0, 0, 0), (.getfield 49, 6, 6, 0), (.if_icmp .ne 5, 11, 0, 0), (.iconst (-1), 15, 0, 0), (.ireturn, 0, 0, 0), (.aload_n 0, 0, 0, 0), (.getfield 101, 7, 6, 0), (.aload_n 0, 0, 0, 0), (.getfield 91, 5, 6, 0), (.if_icmp .ne 6, 18, 0, 0)], [(.bipush 11, 18, 0, 0), (.ireturn, 0, 0, 0), (.aload_n 0, 0, 0, 0), (.getfield 101, 7, 6, 0), (.aload_n 0, 0, 0, 0), (.getfield 91, 5, 6, 0), (.isub, 0, 0, 0), (.iconst 1, 4, 0, 0), (.if_icmp .ne 34, 41, 0, 0), (.aload_n 0, 0, 0, 0), (.getfield 12, 0, 6, 2), (.aload_n 0, 0, 0, 0), (.getfield 91, 5, 6, 0), (.invokevirtual 97, 69, 2, 7), (.istore_n 1, 1, 0, 0), (.iload_n 1, 1, 0, 0)], [(.bipush 45, 34, 0, 0), (.if_icmp .ne 8, 36, 0, 0), (.bipush 11, 18, 0, 0), (.goto 10, 40, 0, 0), (.ldc 186, 2042, 0, 0), (.iload_n 1, 1, 0, 0), (.i2c, 0, 0, 0), (.invokevirtual 188, 167, 2, 31), (.ireturn, 0, 0, 0), (.aload_n 0, 0, 0, 0), (.getfield 12, 0, 6, 2), (.ldc 193, 2043, 0, 0), (.aload_n 0, 0, 0, 0), (.getfield 91, 5, 6, 0), (.aload_n 0, 0, 0, 0), (.getfield 101, 7, 6, 0)], [(.invokevirtual 104, 70, 4, 7), (.ifCond .eq 6, 52, 0, 0), (.bipush 9, 11, 0, 0), (.ireturn, 0, 0, 0), (.aload_n 0, 0, 0, 0), (.getfield 12, 0, 6, 2), (.ldc 195, 2044, 0, 0), (.aload_n 0, 0, 0, 0), (.getfield 91, 5, 6, 0), (.aload_n 0, 0, 0, 0), (.getfield 101, 7, 6, 0), (.invokevirtual 104, 70, 4, 7), (.ifCond .eq 8, 63, 0, 0), (.bipush 10, 17, 0, 0), (.goto 4, 64, 0, 0), (.iconst (-1), 15, 0, 0)], [(.ireturn, 0, 0, 0)]]
/-- 59: ScanChart$Reader.readCell(I)Z -/
def am_c59 : List (List am_Ins) := [[(.aload_n 0, 0, 0, 0), (.invokevirtual 197, 58, 1, 6), (.istore_n 2, 2, 0, 0), (.iload_n 2, 2, 0, 0), (.iconst (-1), 15, 0, 0), (.if_icmp .eq 11, 10, 0, 0), (.iload_n 1, 1, 0, 0), (.iload_n 2, 2, 0, 0), (.invokestatic 201, 91, 2, 0), (.ifCond .ne 9, 14, 0, 0), (.aload_n 0, 0, 0, 0), (.iconst 1, 4, 0, 0), (.invokevirtual 84, 45, 2, 6), (.ireturn, 0, 0, 0), (.aload_n 0, 0, 0, 0), (.getfield 12, 0, 6, 2)], [(.aload_n 0, 0, 0, 0), (.getfield 101, 7, 6, 0), (.aload_n 0, 0, 0, 0), (.getfield 49, 6, 6, 0), (.invokevirtual 108, 71, 3, 7), (.lstore_n 3, 3, 0, 0), (.iload_n 2, 2, 0, 0), (.bipush 11, 18, 0, 0), (.if_icmp .ne 43, 47, 0, 0), (.aload_n 0, 0, 0, 0), (.getfield 101, 7, 6, 0), (.aload_n 0, 0, 0, 0), (.getfield 91, 5, 6, 0), (.if_icmp .le 8, 33, 0, 0), (.lload_n 3, 3, 0, 0), (.lneg, 0, 0, 0)], [(.goto 4, 34, 0, 0), (.lload_n 3, 3, 0, 0), (.lstore_n 3, 3, 0, 0), (.lload_n 3, 3, 0, 0), (.ldc2_w 204, 3, 0, 0), (.lcmp, 0, 0, 0), (.ifCond .lt 11, 43, 0, 0), (.lload_n 3, 3, 0, 0), (.ldc2_w 206, 4, 0, 0), (.lcmp, 0, 0, 0), (.ifCond .le 41, 65, 0, 0), (.aload_n 0, 0, 0, 0), (.iconst 2, 13, 0, 0), (.invokevirtual 84, 45, 2, 6), (.ireturn, 0, 0, 0), (.aload_n 0, 0, 0, 0)], [(.getfield 49, 6, 6, 0), (.aload_n 0, 0, 0, 0), (.getfield 101, 7, 6, 0), (.isub, 0, 0, 0), (.iconst 2, 13, 0, 0), (.if_icmp .gt 16, 61, 0, 0), (.lload_n 3, 3, 0, 0), (.getstatic 208, 4002, 0, 0), (.iload_n 2, 2, 0, 0), (.invokestatic 119, 89, 2, 0), (.i2l, 0, 0, 0), (.lcmp, 0, 0, 0), (.ifCond .lt 9, 65, 0, 0), (.aload_n 0, 0, 0, 0), (.iconst 2, 13, 0, 0), (.invokevirtual 84, 45, 2, 6)], [(.ireturn, 0, 0, 0), (.aload_n 0, 0, 0, 0), (.iload_n 2, 2, 0, 0), (.putfield 161, 10, 6, 0), (.aload_n 0, 0, 0, 0), (.lload_n 3, 3, 0, 0), (.l2i, 0, 0, 0), (.putfield 164, 11, 6, 0), (.aload_n 0, 0, 0, 0), (.invokevirtual 52, 47, 1, 6), (.iconst 1, 4, 0, 0), (.ireturn, 0, 0, 0)]]
/-- 60: ScanChart$Reader.readFigures(II)Z -/
def am_c60 : List (List am_Ins) := [[(.aload_n 0, 0, 0, 0), (.invokevirtual 211, 49, 1, 6), (.ifCond .ne 9, 7, 0, 0), (.aload_n 0, 0, 0, 0), (.iconst 1, 4, 0, 0), (.invokevirtual 84, 45, 2, 6), (.ireturn, 0, 0, 0), (.aload_n 0, 0, 0, 0), (.getfield 12, 0, 6, 2), (.aload_n 0, 0, 0, 0), (.getfield 91, 5, 6, 0), (.aload_n 0, 0, 0, 0), (.getfield 49, 6, 6, 0), (.invokevirtual 108, 71, 3, 7), (.lstore_n 3, 3, 0, 0), (.aload_n 0, 0, 0, 0)], [(.getfield 49, 6, 6, 0), (.aload_n 0, 0, 0, 0), (.getfield 91, 5, 6, 0), (.isub, 0, 0, 0), (.iload_n 1, 1, 0, 0), (.if_icmp .gt 10, 27, 0, 0), (.lload_n 3, 3, 0, 0), (.iload_n 2, 2, 0, 0), (.i2l, 0, 0, 0), (.lcmp, 0, 0, 0), (.ifCond .le 9, 31, 0, 0), (.aload_n 0, 0, 0, 0), (.iconst 2, 13, 0, 0), (.invokevirtual 84, 45, 2, 6), (.ireturn, 0, 0, 0), (.aload_n 0, 0, 0, 0)], [(.lload_n 3, 3, 0, 0), (.l2i, 0, 0, 0), (.putfield 164, 11, 6, 0), (.aload_n 0, 0, 0, 0), (.invokevirtual 52, 47, 1, 6), (.iconst 1, 4, 0, 0), (.ireturn, 0, 0, 0)]]
/-- 61: ScanChart$Reader.readStep()Z -/
def am_c61 : List (List am_Ins) := [[(.aload_n 0, 0, 0, 0), (.getfield 91, 5, 6, 0), (.istore_n 1, 1, 0, 0), (.aload_n 0, 0, 0, 0), (.iconst 2, 13, 0, 0), (.bipush 15, 35, 0, 0), (.invokevirtual 175, 60, 3, 6), (.ifCond .ne 5, 10, 0, 0), (.iconst 0, 5, 0, 0), (.ireturn, 0, 0, 0), (.aload_n 0, 0, 0, 0), (.getfield 21, 1, 6, 2), (.getfield 152, 0, 5, 2), (.getfield 214, 9, 2, 0), (.aload_n 0, 0, 0, 0), (.getfield 164, 11, 6, 0)], [(.invokestatic 201, 91, 2, 0), (.ifCond .eq 10, 23, 0, 0), (.aload_n 0, 0, 0, 0), (.iconst 4, 6, 0, 0), (.iload_n 1, 1, 0, 0), (.invokevirtual 217, 46, 3, 6), (.ireturn, 0, 0, 0), (.aload_n 0, 0, 0, 0), (.getfield 164, 11, 6, 0), (.istore_n 2, 2, 0, 0), (.aload_n 0, 0, 0, 0), (.getfield 21, 1, 6, 2), (.getfield 152, 0, 5, 2), (.dup, 0, 0, 0), (.getfield 214, 9, 2, 0), (.iconst 1, 4, 0, 0)], [(.iload_n 2, 2, 0, 0), (.ishl, 0, 0, 0), (.ior, 0, 0, 0), (.putfield 214, 9, 2, 0), (.iconst 0, 5, 0, 0), (.istore_n 3, 3, 0, 0), (.iload_n 3, 3, 0, 0), (.iconst 3, 3, 0, 0), (.if_icmp .ge 59, 69, 0, 0), (.aload_n 0, 0, 0, 0), (.invokevirtual 220, 62, 1, 6), (.istore 4, 4, 0, 0), (.iload 4, 4, 0, 0), (.ifCond .ne 5, 48, 0, 0), (.iconst 1, 4, 0, 0), (.ireturn, 0, 0, 0)], [(.aload_n 0, 0, 0, 0), (.invokevirtual 52, 47, 1, 6), (.aload_n 0, 0, 0, 0), (.bipush 6, 0, 0, 0), (.invokevirtual 171, 59, 2, 6), (.ifCond .ne 5, 56, 0, 0), (.iconst 0, 5, 0, 0), (.ireturn, 0, 0, 0), (.aload_n 0, 0, 0, 0), (.getfield 21, 1, 6, 2), (.getfield 152, 0, 5, 2), (.iload_n 2, 2, 0, 0), (.iload_n 3, 3, 0, 0), (.iload 4, 4, 0, 0), (.aload_n 0, 0, 0, 0), (.getfield 161, 10, 6, 0)], [(.aload_n 0, 0, 0, 0), (.getfield 164, 11, 6, 0), (.invokevirtual 223, 10, 6, 2), (.iinc 3 1, 3, 4, 0), (.goto (-58), 38, 0, 0), (.iconst 1, 4, 0, 0), (.ireturn, 0, 0, 0)]]
/-- 62: ScanChart$Reader.actionOfWord()I -/
def am_c62 : List (List am_Ins) := [[(.aload_n 0, 0, 0, 0), (.ldc 227, 2045, 0, 0), (.invokevirtual 229, 48, 2, 6), (.ifCond .eq 5, 6, 0, 0), (.iconst 1, 4, 0, 0), (.ireturn, 0, 0, 0), (.aload_n 0, 0, 0, 0), (.ldc 233, 2005, 0, 0), (.invokevirtual 229, 48, 2, 6), (.ifCond .eq 5, 12, 0, 0), (.iconst 2, 13, 0, 0), (.ireturn, 0, 0, 0), (.aload_n 0, 0, 0, 0), (.ldc 235, 2006, 0, 0), (.invokevirtual 229, 48, 2, 6), (.ifCond .eq 7, 18, 0, 0)], [(.iconst 3, 3, 0, 0), (.goto 4, 19, 0, 0), (.iconst 0, 5, 0, 0), (.ireturn, 0, 0, 0)]]
/-- 63: ScanChart$Reader.readGo()Z -/
def am_c63 : List (List am_Ins) := [[(.aload_n 0, 0, 0, 0), (.invokevirtual 237, 64, 1, 6), (.istore_n 1, 1, 0, 0), (.iload_n 1, 1, 0, 0), (.ifCond .ne 5, 7, 0, 0), (.iconst 0, 5, 0, 0), (.ireturn, 0, 0, 0), (.aload_n 0, 0, 0, 0), (.ldc 240, 2046, 0, 0), (.invokevirtual 229, 48, 2, 6), (.ifCond .ne 9, 15, 0, 0), (.aload_n 0, 0, 0, 0), (.iconst 1, 4, 0, 0), (.invokevirtual 84, 45, 2, 6), (.ireturn, 0, 0, 0), (.aload_n 0, 0, 0, 0)], [(.invokevirtual 52, 47, 1, 6), (.aload_n 0, 0, 0, 0), (.invokevirtual 237, 64, 1, 6), (.istore_n 2, 2, 0, 0), (.iload_n 2, 2, 0, 0), (.ifCond .ne 5, 24, 0, 0), (.iconst 0, 5, 0, 0), (.ireturn, 0, 0, 0), (.aload_n 0, 0, 0, 0), (.ldc 242, 2047, 0, 0), (.invokevirtual 229, 48, 2, 6), (.ifCond .eq 7, 30, 0, 0), (.iconst 1, 4, 0, 0), (.goto 17, 37, 0, 0), (.aload_n 0, 0, 0, 0), (.ldc 244, 2048, 0, 0)], [(.invokevirtual 229, 48, 2, 6), (.ifCond .eq 7, 36, 0, 0), (.iconst 2, 13, 0, 0), (.goto 4, 37, 0, 0), (.iconst 0, 5, 0, 0), (.istore_n 3, 3, 0, 0), (.iload_n 3, 3, 0, 0), (.ifCond .eq 19, 48, 0, 0), (.aload_n 0, 0, 0, 0), (.invokevirtual 52, 47, 1, 6), (.aload_n 0, 0, 0, 0), (.sipush 3711, 30, 0, 0), (.invokevirtual 171, 59, 2, 6), (.ifCond .ne 5, 48, 0, 0), (.iconst 0, 5, 0, 0), (.ireturn, 0, 0, 0)], [(.aload_n 0, 0, 0, 0), (.getfield 21, 1, 6, 2), (.getfield 152, 0, 5, 2), (.iload_n 1, 1, 0, 0), (.iload_n 2, 2, 0, 0), (.iload_n 3, 3, 0, 0), (.aload_n 0, 0, 0, 0), (.getfield 161, 10, 6, 0), (.aload_n 0, 0, 0, 0), (.getfield 164, 11, 6, 0), (.invokevirtual 246, 9, 6, 2), (.iconst 1, 4, 0, 0), (.ireturn, 0, 0, 0)]]
/-- 64: ScanChart$Reader.readSteps()I -/
def am_c64 : List (List am_Ins) := [[(.iconst 0, 5, 0, 0), (.istore_n 1, 1, 0, 0), (.iconst 0, 5, 0, 0), (.istore_n 2, 2, 0, 0), (.iload_n 2, 2, 0, 0), (.iconst 3, 3, 0, 0), (.if_icmp .ge 59, 38, 0, 0), (.iload_n 2, 2, 0, 0), (.ifCond .eq 10, 12, 0, 0), (.aload_n 0, 0, 0, 0), (.invokevirtual 211, 49, 1, 6), (.ifCond .eq 48, 38, 0, 0), (.aload_n 0, 0, 0, 0), (.getfield 91, 5, 6, 0), (.istore_n 3, 3, 0, 0), (.aload_n 0, 0, 0, 0)], [(.iconst 2, 13, 0, 0), (.bipush 15, 35, 0, 0), (.invokevirtual 175, 60, 3, 6), (.ifCond .ne 5, 22, 0, 0), (.iconst 0, 5, 0, 0), (.ireturn, 0, 0, 0), (.aload_n 0, 0, 0, 0), (.aload_n 0, 0, 0, 0), (.getfield 36, 13, 6, 2), (.aload_n 0, 0, 0, 0), (.getfield 164, 11, 6, 0), (.iload_n 3, 3, 0, 0), (.invokevirtual 179, 65, 4, 6), (.iload_n 1, 1, 0, 0), (.iconst 1, 4, 0, 0), (.aload_n 0, 0, 0, 0)], [(.getfield 164, 11, 6, 0), (.ishl, 0, 0, 0), (.ior, 0, 0, 0), (.istore_n 1, 1, 0, 0), (.iinc 2 1, 2, 4, 0), (.goto (-58), 4, 0, 0), (.iload_n 1, 1, 0, 0), (.ireturn, 0, 0, 0)]]
/-- 65: ScanChart$Reader.noteNamed([III)V -/
def am_c65 : List (List am_Ins) := [[(.aload_n 1, 1, 0, 0), (.iload_n 2, 2, 0, 0), (.invokestatic 119, 89, 2, 0), (.iconst (-1), 15, 0, 0), (.if_icmp .ne 9, 9, 0, 0), (.aload_n 1, 1, 0, 0), (.iload_n 2, 2, 0, 0), (.iload_n 3, 3, 0, 0), (.invokestatic 126, 90, 3, 0), (.return_, 0, 0, 0)]]
/-- 66: ScanChart$Reader.findNoneMissing()Z -/
def am_c66 : List (List am_Ins) := [[(.sipush 700, 22, 0, 0), (.istore_n 1, 1, 0, 0), (.iconst 0, 5, 0, 0), (.istore_n 2, 2, 0, 0), (.iload_n 2, 2, 0, 0), (.bipush 32, 1, 0, 0), (.if_icmp .ge 49, 29, 0, 0), (.aload_n 0, 0, 0, 0), (.getfield 32, 12, 6, 2), (.iload_n 2, 2, 0, 0), (.invokestatic 119, 89, 2, 0), (.iconst (-1), 15, 0, 0), (.if_icmp .eq 31, 27, 0, 0), (.aload_n 0, 0, 0, 0), (.getfield 21, 1, 6, 2), (.getfield 116, 5, 5, 2)], [(.iload_n 2, 2, 0, 0), (.invokestatic 119, 89, 2, 0), (.iconst (-1), 15, 0, 0), (.if_icmp .ne 16, 27, 0, 0), (.iload_n 1, 1, 0, 0), (.aload_n 0, 0, 0, 0), (.getfield 32, 12, 6, 2), (.iload_n 2, 2, 0, 0), (.invokestatic 119, 89, 2, 0), (.invokestatic 249, 163, 2, 0), (.istore_n 1, 1, 0, 0), (.iinc 2 1, 2, 4, 0), (.goto (-49), 4, 0, 0), (.iconst 0, 5, 0, 0), (.istore_n 2, 2, 0, 0), (.iload_n 2, 2, 0, 0)], [(.bipush 16, 7, 0, 0), (.if_icmp .ge 51, 56, 0, 0), (.aload_n 0, 0, 0, 0), (.getfield 36, 13, 6, 2), (.iload_n 2, 2, 0, 0), (.invokestatic 119, 89, 2, 0), (.iconst (-1), 15, 0, 0), (.if_icmp .eq 33, 54, 0, 0), (.aload_n 0, 0, 0, 0), (.getfield 21, 1, 6, 2), (.getfield 152, 0, 5, 2), (.getfield 214, 9, 2, 0), (.iload_n 2, 2, 0, 0), (.invokestatic 201, 91, 2, 0), (.ifCond .ne 16, 54, 0, 0), (.iload_n 1, 1, 0, 0)], [(.aload_n 0, 0, 0, 0), (.getfield 36, 13, 6, 2), (.iload_n 2, 2, 0, 0), (.invokestatic 119, 89, 2, 0), (.invokestatic 249, 163, 2, 0), (.istore_n 1, 1, 0, 0), (.iinc 2 1, 2, 4, 0), (.goto (-51), 31, 0, 0), (.iload_n 1, 1, 0, 0), (.sipush 700, 22, 0, 0), (.if_icmp .eq 13, 64, 0, 0), (.aload_n 0, 0, 0, 0), (.bipush 6, 0, 0, 0), (.iload_n 1, 1, 0, 0), (.invokevirtual 217, 46, 3, 6), (.ifCond .eq 7, 66, 0, 0)], [(.iconst 1, 4, 0, 0), (.goto 4, 67, 0, 0), (.iconst 0, 5, 0, 0), (.ireturn, 0, 0, 0)]]
/-- 67: ScanChart$Text.<init>()V -/
def am_c67 : List (List am_Ins) := [[(.aload_n 0, 0, 0, 0), (.invokespecial 3, 0, 1, 99), (.aload_n 0, 0, 0, 0), (.sipush 700, 22, 0, 0), (.newarray .int, 20, 0, 0), (.putfield 9, 0, 7, 2), (.aload_n 0, 0, 0, 0), (.iconst 0, 5, 0, 0), (.putfield 15, 1, 7, 0), (.return_, 0, 0, 0)]]
/-- 68: ScanChart$Text.append(IJ)I -/
def am_c68 : List (List am_Ins) := [[(.aload_n 0, 0, 0, 0), (.getfield 15, 1, 7, 0), (.iload_n 1, 1, 0, 0), (.iadd, 0, 0, 0), (.sipush 700, 22, 0, 0), (.if_icmp .le 5, 8, 0, 0), (.iconst (-1), 15, 0, 0), (.ireturn, 0, 0, 0), (.iconst 0, 5, 0, 0), (.istore 4, 4, 0, 0), (.iload 4, 4, 0, 0), (.iload_n 1, 1, 0, 0), (.if_icmp .ge 35, 30, 0, 0), (.aload_n 0, 0, 0, 0), (.getfield 9, 0, 7, 2), (.aload_n 0, 0, 0, 0)], [(.getfield 15, 1, 7, 0), (.iload 4, 4, 0, 0), (.iadd, 0, 0, 0), (.lload_n 2, 2, 0, 0), (.bipush 8, 2, 0, 0), (.iload 4, 4, 0, 0), (.imul, 0, 0, 0), (.lushr, 0, 0, 0), (.ldc2_w 19, 5, 0, 0), (.land, 0, 0, 0), (.l2i, 0, 0, 0), (.invokestatic 21, 90, 3, 0), (.iinc 4 1, 4, 4, 0), (.goto (-35), 10, 0, 0), (.aload_n 0, 0, 0, 0), (.dup, 0, 0, 0)], [(.getfield 15, 1, 7, 0), (.iload_n 1, 1, 0, 0), (.iadd, 0, 0, 0), (.putfield 15, 1, 7, 0), (.aload_n 0, 0, 0, 0), (.getfield 15, 1, 7, 0), (.ireturn, 0, 0, 0)]]
/-- 69: ScanChart$Text.byteAt(I)I -/
def am_c69 : List (List am_Ins) := [[(.iload_n 1, 1, 0, 0), (.ifCond .lt 29, 16, 0, 0), (.iload_n 1, 1, 0, 0), (.aload_n 0, 0, 0, 0), (.getfield 15, 1, 7, 0), (.if_icmp .ge 21, 16, 0, 0), (.iload_n 1, 1, 0, 0), (.aload_n 0, 0, 0, 0), (.getfield 9, 0, 7, 2), (.arraylength, 0, 0, 0), (.if_icmp .ge 12, 16, 0, 0), (.aload_n 0, 0, 0, 0), (.getfield 9, 0, 7, 2), (.iload_n 1, 1, 0, 0), (.iaload, 0, 0, 0), (.goto 4, 17, 0, 0)], [(.iconst 0, 5, 0, 0), (.ireturn, 0, 0, 0)]]
/-- 70: ScanChart$Text.spells(Ljava/lang/String;II)Z -/
def am_c70 : List (List am_Ins) := [[(.aload_n 1, 1, 0, 0), (.invokevirtual 25, 165, 1, 31), (.iload_n 3, 3, 0, 0), (.iload_n 2, 2, 0, 0), (.isub, 0, 0, 0), (.if_icmp .eq 5, 8, 0, 0), (.iconst 0, 5, 0, 0), (.ireturn, 0, 0, 0), (.iconst 0, 5, 0, 0), (.istore 4, 4, 0, 0), (.iload 4, 4, 0, 0), (.aload_n 1, 1, 0, 0), (.invokevirtual 25, 165, 1, 31), (.if_icmp .ge 28, 27, 0, 0), (.aload_n 0, 0, 0, 0), (.iload_n 2, 2, 0, 0)], [(.iload 4, 4, 0, 0), (.iadd, 0, 0, 0), (.invokevirtual 30, 69, 2, 7), (.aload_n 1, 1, 0, 0), (.iload 4, 4, 0, 0), (.invokevirtual 34, 166, 2, 31), (.if_icmp .eq 5, 25, 0, 0), (.iconst 0, 5, 0, 0), (.ireturn, 0, 0, 0), (.iinc 4 1, 4, 4, 0), (.goto (-31), 10, 0, 0), (.iconst 1, 4, 0, 0), (.ireturn, 0, 0, 0)]]
/-- 71: ScanChart$Text.numberIn(II)J -/
def am_c71 : List (List am_Ins) := [[(.iload_n 1, 1, 0, 0), (.iload_n 2, 2, 0, 0), (.if_icmp .lt 7, 5, 0, 0), (.ldc2_w 38, 1, 0, 0), (.lreturn, 0, 0, 0), (.lconst 0, 0, 0, 0), (.lstore_n 3, 3, 0, 0), (.iload_n 1, 1, 0, 0), (.istore 5, 5, 0, 0), (.iload 5, 5, 0, 0), (.iload_n 2, 2, 0, 0), (.if_icmp .ge 52, 36, 0, 0), (.aload_n 0, 0, 0, 0), (.iload 5, 5, 0, 0), (.invokevirtual 30, 69, 2, 7), (.bipush 48, 8, 0, 0)], [(.isub, 0, 0, 0), (.istore 6, 6, 0, 0), (.iload 6, 6, 0, 0), (.ifCond .lt 10, 23, 0, 0), (.iload 6, 6, 0, 0), (.bipush 9, 11, 0, 0), (.if_icmp .le 7, 25, 0, 0), (.ldc2_w 38, 1, 0, 0), (.lreturn, 0, 0, 0), (.lload_n 3, 3, 0, 0), (.ldc2_w 40, 6, 0, 0), (.lmul, 0, 0, 0), (.iload 6, 6, 0, 0), (.i2l, 0, 0, 0), (.ladd, 0, 0, 0), (.ldc2_w 42, 7, 0, 0)], [(.invokestatic 44, 164, 2, 0), (.lstore_n 3, 3, 0, 0), (.iinc 5 1, 5, 4, 0), (.goto (-52), 9, 0, 0), (.lload_n 3, 3, 0, 0), (.lreturn, 0, 0, 0)]]
/-- 72: ScanChart.<init>()V -/
def am_c72 : List (List am_Ins) := [[(.aload_n 0, 0, 0, 0), (.invokespecial 3, 0, 1, 99), (.aload_n 0, 0, 0, 0), (.new 9, 6, 14, 0), (.dup, 0, 0, 0), (.invokespecial 11, 43, 1, 6), (.putfield 12, 0, 8, 2), (.aload_n 0, 0, 0, 0), (.new 16, 3, 12, 0), (.dup, 0, 0, 0), (.invokespecial 18, 11, 1, 3), (.putfield 19, 1, 8, 2), (.aload_n 0, 0, 0, 0), (.new 23, 5, 7, 0), (.dup, 0, 0, 0), (.invokespecial 25, 39, 1, 5)], [(.putfield 26, 2, 8, 2), (.aload_n 0, 0, 0, 0), (.iconst 0, 5, 0, 0), (.putfield 30, 3, 8, 0), (.return_, 0, 0, 0)]]
/-- 73: ScanChart.feed(IJ)I -/
def am_c73 : List (List am_Ins) := [[(.iload_n 1, 1, 0, 0), (.iconst 1, 4, 0, 0), (.if_icmp .lt 9, 6, 0, 0), (.iload_n 1, 1, 0, 0), (.bipush 8, 2, 0, 0), (.if_icmp .le 13, 11, 0, 0), (.nop, 0, 0, 0), (.dup, 0, 0, 0), (.ldc 36, 2049, 0, 0), (.nop, 0, 0, 0), (.athrow, 0, 0, 0), (.aload_n 0, 0, 0, 0), (.getfield 12, 0, 8, 2), (.getfield 41, 0, 6, 2), (.iload_n 1, 1, 0, 0), (.lload_n 2, 2, 0, 0)], [(.invokevirtual 45, 68, 3, 7), (.ireturn, 0, 0, 0)]]
/-- 74: ScanChart.wipe()I -/
def am_c74 : List (List am_Ins) := [[(.aload_n 0, 0, 0, 0), (.getfield 12, 0, 8, 2), (.getfield 41, 0, 6, 2), (.getfield 51, 1, 7, 0), (.istore_n 1, 1, 0, 0), (.aload_n 0, 0, 0, 0), (.getfield 12, 0, 8, 2), (.getfield 41, 0, 6, 2), (.iconst 0, 5, 0, 0), (.putfield 51, 1, 7, 0), (.iload_n 1, 1, 0, 0), (.ireturn, 0, 0, 0)]]
/-- 75: ScanChart.load()I -/
def am_c75 : List (List am_Ins) := [[(.aload_n 0, 0, 0, 0), (.getfield 12, 0, 8, 2), (.invokevirtual 54, 44, 1, 6), (.ifCond .ne 5, 6, 0, 0), (.iconst (-1), 15, 0, 0), (.ireturn, 0, 0, 0), (.aload_n 0, 0, 0, 0), (.getfield 12, 0, 8, 2), (.getfield 58, 1, 6, 2), (.astore_n 1, 1, 0, 0), (.aload_n 0, 0, 0, 0), (.getfield 12, 0, 8, 2), (.aload_n 0, 0, 0, 0), (.getfield 26, 2, 8, 2), (.putfield 58, 1, 6, 2), (.aload_n 0, 0, 0, 0)], [(.aload_n 1, 1, 0, 0), (.putfield 26, 2, 8, 2), (.aload_n 0, 0, 0, 0), (.getfield 19, 1, 8, 2), (.invokevirtual 59, 12, 1, 3), (.aload_n 0, 0, 0, 0), (.getfield 26, 2, 8, 2), (.getfield 62, 6, 5, 0), (.ireturn, 0, 0, 0)]]
/-- 76: ScanChart.fault()I -/
def am_c76 : List (List am_Ins) := [[(.aload_n 0, 0, 0, 0), (.getfield 12, 0, 8, 2), (.getfield 65, 2, 6, 0), (.ireturn, 0, 0, 0)]]
/-- 77: ScanChart.place()I -/
def am_c77 : List (List am_Ins) := [[(.aload_n 0, 0, 0, 0), (.getfield 12, 0, 8, 2), (.getfield 68, 3, 6, 0), (.ireturn, 0, 0, 0)]]
/-- 78: ScanChart.reset()V -/
def am_c78 : List (List am_Ins) := [[(.aload_n 0, 0, 0, 0), (.getfield 19, 1, 8, 2), (.invokevirtual 59, 12, 1, 3), (.return_, 0, 0, 0)]]
/-- 79: ScanChart.input(IZ)V -/
def am_c79 : List (List am_Ins) := [[(.iload_n 1, 1, 0, 0), (.ifCond .lt 9, 5, 0, 0), (.iload_n 1, 1, 0, 0), (.bipush 32, 1, 0, 0), (.if_icmp .lt 13, 10, 0, 0), (.nop, 0, 0, 0), (.dup, 0, 0, 0), (.ldc 73, 2050, 0, 0), (.nop, 0, 0, 0), (.athrow, 0, 0, 0), (.aload_n 0, 0, 0, 0), (.aload_n 0, 0, 0, 0), (.getfield 30, 3, 8, 0), (.iload_n 1, 1, 0, 0), (.iload_n 2, 2, 0, 0), (.invokestatic 76, 92, 3, 0)], [(.putfield 30, 3, 8, 0), (.return_, 0, 0, 0)]]
/-- 80: ScanChart.scan(I)I -/
def am_c80 : List (List am_Ins) := [[(.iload_n 1, 1, 0, 0), (.ifCond .lt 9, 5, 0, 0), (.iload_n 1, 1, 0, 0), (.ldc 80, 29, 1, 0), (.if_icmp .le 13, 10, 0, 0), (.nop, 0, 0, 0), (.dup, 0, 0, 0), (.ldc 81, 2051, 0, 0), (.nop, 0, 0, 0), (.athrow, 0, 0, 0), (.aload_n 0, 0, 0, 0), (.getfield 19, 1, 8, 2), (.getfield 83, 3, 3, 0), (.ifCond .eq 5, 16, 0, 0), (.iconst (-1), 15, 0, 0), (.ireturn, 0, 0, 0)], [(.aload_n 0, 0, 0, 0), (.getfield 19, 1, 8, 2), (.aload_n 0, 0, 0, 0), (.getfield 26, 2, 8, 2), (.aload_n 0, 0, 0, 0), (.getfield 30, 3, 8, 0), (.iload_n 1, 1, 0, 0), (.invokevirtual 86, 13, 4, 3), (.aload_n 0, 0, 0, 0), (.getfield 19, 1, 8, 2), (.getfield 83, 3, 3, 0), (.ireturn, 0, 0, 0)]]
/-- 81: ScanChart.run(II)I -/
def am_c81 : List (List am_Ins) := [[(.iload_n 1, 1, 0, 0), (.ifCond .lt 9, 5, 0, 0), (.iload_n 1, 1, 0, 0), (.bipush 100, 36, 0, 0), (.if_icmp .le 13, 10, 0, 0), (.nop, 0, 0, 0), (.dup, 0, 0, 0), (.ldc 90, 2052, 0, 0), (.nop, 0, 0, 0), (.athrow, 0, 0, 0), (.iload_n 2, 2, 0, 0), (.ifCond .lt 9, 15, 0, 0), (.iload_n 2, 2, 0, 0), (.ldc 80, 29, 1, 0), (.if_icmp .le 13, 20, 0, 0), (.nop, 0, 0, 0)], [(.dup, 0, 0, 0), (.ldc 81, 2051, 0, 0), (.nop, 0, 0, 0), (.athrow, 0, 0, 0), (.iconst 0, 5, 0, 0), (.istore_n 3, 3, 0, 0), (.iconst 0, 5, 0, 0), (.istore 4, 4, 0, 0), (.iload 4, 4, 0, 0), (.iload_n 1, 1, 0, 0), (.if_icmp .ge 48, 46, 0, 0), (.aload_n 0, 0, 0, 0), (.getfield 19, 1, 8, 2), (.getfield 83, 3, 3, 0), (.ifCond .ne 38, 46, 0, 0), (.aload_n 0, 0, 0, 0)], [(.getfield 19, 1, 8, 2), (.aload_n 0, 0, 0, 0), (.getfield 26, 2, 8, 2), (.aload_n 0, 0, 0, 0), (.getfield 30, 3, 8, 0), (.iload_n 2, 2, 0, 0), (.invokevirtual 86, 13, 4, 3), (.aload_n 0, 0, 0, 0), (.getfield 19, 1, 8, 2), (.getfield 83, 3, 3, 0), (.ifCond .ne 6, 44, 0, 0), (.iinc 3 1, 3, 4, 0), (.iinc 4 1, 4, 4, 0), (.goto (-48), 24, 0, 0), (.iload_n 3, 3, 0, 0), (.ireturn, 0, 0, 0)]]
/-- 82: ScanChart.output(I)Z -/
def am_c82 : List (List am_Ins) := [[(.iload_n 1, 1, 0, 0), (.ifCond .lt 9, 5, 0, 0), (.iload_n 1, 1, 0, 0), (.bipush 32, 1, 0, 0), (.if_icmp .lt 13, 10, 0, 0), (.nop, 0, 0, 0), (.dup, 0, 0, 0), (.ldc 73, 2050, 0, 0), (.nop, 0, 0, 0), (.athrow, 0, 0, 0), (.aload_n 0, 0, 0, 0), (.getfield 19, 1, 8, 2), (.getfield 92, 2, 3, 0), (.iload_n 1, 1, 0, 0), (.invokestatic 95, 91, 2, 0), (.ireturn, 0, 0, 0)]]
/-- 83: ScanChart.bits(I)I -/
def am_c83 : List (List am_Ins) := [[(.iload_n 1, 1, 0, 0), (.ifCond .lt 8, 5, 0, 0), (.iload_n 1, 1, 0, 0), (.iconst 4, 6, 0, 0), (.if_icmp .le 13, 10, 0, 0), (.nop, 0, 0, 0), (.dup, 0, 0, 0), (.ldc 99, 2053, 0, 0), (.nop, 0, 0, 0), (.athrow, 0, 0, 0), (.iload_n 1, 1, 0, 0), (.iconst 4, 6, 0, 0), (.if_icmp .ne 13, 17, 0, 0), (.aload_n 0, 0, 0, 0), (.getfield 19, 1, 8, 2), (.getfield 92, 2, 3, 0)], [(.goto 17, 23, 0, 0), (.aload_n 0, 0, 0, 0), (.getfield 19, 1, 8, 2), (.getfield 101, 0, 3, 2), (.getfield 105, 0, 1, 2), (.iload_n 1, 1, 0, 0), (.invokestatic 111, 89, 2, 0), (.ireturn, 0, 0, 0)]]
/-- 84: ScanChart.word(I)I -/
def am_c84 : List (List am_Ins) := [[(.iload_n 1, 1, 0, 0), (.ifCond .lt 9, 5, 0, 0), (.iload_n 1, 1, 0, 0), (.bipush 32, 1, 0, 0), (.if_icmp .lt 13, 10, 0, 0), (.nop, 0, 0, 0), (.dup, 0, 0, 0), (.ldc 73, 2050, 0, 0), (.nop, 0, 0, 0), (.athrow, 0, 0, 0), (.aload_n 0, 0, 0, 0), (.getfield 19, 1, 8, 2), (.getfield 101, 0, 3, 2), (.bipush 6, 0, 0, 0), (.iload_n 1, 1, 0, 0), (.invokevirtual 115, 2, 3, 1)], [(.ireturn, 0, 0, 0)]]
/-- 85: ScanChart.block(II)I -/
def am_c85 : List (List am_Ins) := [[(.iload_n 1, 1, 0, 0), (.ifCond .lt 9, 5, 0, 0), (.iload_n 1, 1, 0, 0), (.bipush 8, 2, 0, 0), (.if_icmp .lt 13, 10, 0, 0), (.nop, 0, 0, 0), (.dup, 0, 0, 0), (.ldc 119, 2054, 0, 0), (.nop, 0, 0, 0), (.athrow, 0, 0, 0), (.iload_n 2, 2, 0, 0), (.tableswitch 85 0 3 #[31, 44, 58, 71], 7, 5, 0), (.aload_n 0, 0, 0, 0), (.getfield 19, 1, 8, 2), (.getfield 101, 0, 3, 2), (.iconst 4, 6, 0, 0)], [(.iload_n 1, 1, 0, 0), (.invokevirtual 115, 2, 3, 1), (.ireturn, 0, 0, 0), (.aload_n 0, 0, 0, 0), (.getfield 19, 1, 8, 2), (.getfield 101, 0, 3, 2), (.bipush 9, 11, 0, 0), (.iload_n 1, 1, 0, 0), (.invokevirtual 115, 2, 3, 1), (.ireturn, 0, 0, 0), (.aload_n 0, 0, 0, 0), (.getfield 19, 1, 8, 2), (.getfield 101, 0, 3, 2), (.iconst 5, 12, 0, 0), (.iload_n 1, 1, 0, 0), (.invokevirtual 115, 2, 3, 1)], [(.ireturn, 0, 0, 0), (.aload_n 0, 0, 0, 0), (.getfield 19, 1, 8, 2), (.getfield 101, 0, 3, 2), (.bipush 10, 17, 0, 0), (.iload_n 1, 1, 0, 0), (.invokevirtual 115, 2, 3, 1), (.ireturn, 0, 0, 0), (.nop, 0, 0, 0), (.dup, 0, 0, 0), (.ldc 121, 2055, 0, 0), (.nop, 0, 0, 0), (.athrow, 0, 0, 0)]]
/-- 86: ScanChart.done()I -/
def am_c86 : List (List am_Ins) := [[(.aload_n 0, 0, 0, 0), (.getfield 19, 1, 8, 2), (.getfield 123, 4, 3, 0), (.ireturn, 0, 0, 0)]]
/-- 87: ScanChart.fired()I -/
def am_c87 : List (List am_Ins) := [[(.aload_n 0, 0, 0, 0), (.getfield 19, 1, 8, 2), (.getfield 126, 5, 3, 0), (.ireturn, 0, 0, 0)]]
/-- 88: ScanChart.time()J -/
def am_c88 : List (List am_Ins) := [[(.aload_n 0, 0, 0, 0), (.getfield 19, 1, 8, 2), (.getfield 129, 1, 3, 1), (.lreturn, 0, 0, 0)]]
/-- 89: ScanChart.at([II)I -/
def am_c89 : List (List am_Ins) := [[(.iload_n 1, 1, 0, 0), (.ifCond .lt 15, 10, 0, 0), (.iload_n 1, 1, 0, 0), (.aload_n 0, 0, 0, 0), (.arraylength, 0, 0, 0), (.if_icmp .ge 9, 10, 0, 0), (.aload_n 0, 0, 0, 0), (.iload_n 1, 1, 0, 0), (.iaload, 0, 0, 0), (.goto 4, 11, 0, 0), (.iconst 0, 5, 0, 0), (.ireturn, 0, 0, 0)]]
/-- 90: ScanChart.put([III)V -/
def am_c90 : List (List am_Ins) := [[(.iload_n 1, 1, 0, 0), (.ifCond .lt 13, 10, 0, 0), (.iload_n 1, 1, 0, 0), (.aload_n 0, 0, 0, 0), (.arraylength, 0, 0, 0), (.if_icmp .ge 7, 10, 0, 0), (.aload_n 0, 0, 0, 0), (.iload_n 1, 1, 0, 0), (.iload_n 2, 2, 0, 0), (.iastore, 0, 0, 0), (.return_, 0, 0, 0)]]
/-- 91: ScanChart.isSet(II)Z -/
def am_c91 : List (List am_Ins) := [[(.iload_n 0, 0, 0, 0), (.iload_n 1, 1, 0, 0), (.iushr, 0, 0, 0), (.iconst 1, 4, 0, 0), (.iand, 0, 0, 0), (.ifCond .eq 7, 8, 0, 0), (.iconst 1, 4, 0, 0), (.goto 4, 9, 0, 0), (.iconst 0, 5, 0, 0), (.ireturn, 0, 0, 0)]]
/-- 92: ScanChart.withBit(IIZ)I -/
def am_c92 : List (List am_Ins) := [[(.iload_n 2, 2, 0, 0), (.ifCond .eq 11, 8, 0, 0), (.iload_n 0, 0, 0, 0), (.iconst 1, 4, 0, 0), (.iload_n 1, 1, 0, 0), (.ishl, 0, 0, 0), (.ior, 0, 0, 0), (.goto 10, 15, 0, 0), (.iload_n 0, 0, 0, 0), (.iconst 1, 4, 0, 0), (.iload_n 1, 1, 0, 0), (.ishl, 0, 0, 0), (.iconst (-1), 15, 0, 0), (.ixor, 0, 0, 0), (.iand, 0, 0, 0), (.ireturn, 0, 0, 0)]]
/-- 93: ScanChart.fill([II)V -/
def am_c93 : List (List am_Ins) := [[(.iconst 0, 5, 0, 0), (.istore_n 2, 2, 0, 0), (.iload_n 2, 2, 0, 0), (.aload_n 0, 0, 0, 0), (.arraylength, 0, 0, 0), (.if_icmp .ge 13, 12, 0, 0), (.aload_n 0, 0, 0, 0), (.iload_n 2, 2, 0, 0), (.iload_n 1, 1, 0, 0), (.iastore, 0, 0, 0), (.iinc 2 1, 2, 4, 0), (.goto (-13), 2, 0, 0), (.return_, 0, 0, 0)]]
/-- 94: ScanChartModel.<init>()V -/
def am_c94 : List (List am_Ins) := [[(.aload_n 0, 0, 0, 0), (.invokespecial 1, 0, 1, 99), (.aload_n 0, 0, 0, 0), (.sipush 700, 22, 0, 0), (.newarray .int, 20, 0, 0), (.putfield 7, 1, 9, 2), (.aload_n 0, 0, 0, 0), (.iconst (-1), 15, 0, 0), (.putfield 13, 4, 9, 0), (.aload_n 0, 0, 0, 0), (.sipush 160, 37, 0, 0), (.newarray .int, 20, 0, 0), (.putfield 17, 5, 9, 2), (.aload_n 0, 0, 0, 0), (.sipush 160, 37, 0, 0), (.newarray .int, 20, 0, 0)], [(.putfield 20, 6, 9, 2), (.aload_n 0, 0, 0, 0), (.sipush 160, 37, 0, 0), (.newarray .int, 20, 0, 0), (.putfield 23, 7, 9, 2), (.aload_n 0, 0, 0, 0), (.sipush 160, 37, 0, 0), (.newarray .int, 20, 0, 0), (.putfield 26, 8, 9, 2), (.aload_n 0, 0, 0, 0), (.sipush 160, 37, 0, 0), (.newarray .int, 20, 0, 0), (.putfield 29, 9, 9, 2), (.aload_n 0, 0, 0, 0), (.iconst 2, 13, 0, 0), (.newarray .int, 20, 0, 0)], [(.putfield 32, 10, 9, 2), (.aload_n 0, 0, 0, 0), (.bipush 64, 38, 0, 0), (.newarray .int, 20, 0, 0), (.putfield 35, 11, 9, 2), (.aload_n 0, 0, 0, 0), (.bipush 32, 1, 0, 0), (.newarray .boolean, 21, 0, 0), (.putfield 38, 12, 9, 2), (.aload_n 0, 0, 0, 0), (.bipush 96, 39, 0, 0), (.newarray .int, 20, 0, 0), (.putfield 42, 13, 9, 2), (.aload_n 0, 0, 0, 0), (.bipush 96, 39, 0, 0), (.newarray .int, 20, 0, 0)], [(.putfield 45, 14, 9, 2), (.aload_n 0, 0, 0, 0), (.bipush 96, 39, 0, 0), (.newarray .int, 20, 0, 0), (.putfield 48, 15, 9, 2), (.aload_n 0, 0, 0, 0), (.bipush 32, 1, 0, 0), (.newarray .int, 20, 0, 0), (.putfield 51, 16, 9, 2), (.aload_n 0, 0, 0, 0), (.bipush 32, 1, 0, 0), (.newarray .int, 20, 0, 0), (.putfield 54, 17, 9, 2), (.aload_n 0, 0, 0, 0), (.bipush 32, 1, 0, 0), (.newarray .int, 20, 0, 0)], [(.putfield 57, 18, 9, 2), (.aload_n 0, 0, 0, 0), (.bipush 32, 1, 0, 0), (.newarray .int, 20, 0, 0), (.putfield 60, 19, 9, 2), (.aload_n 0, 0, 0, 0), (.bipush 32, 1, 0, 0), (.newarray .int, 20, 0, 0), (.putfield 63, 20, 9, 2), (.aload_n 0, 0, 0, 0), (.iconst 2, 13, 0, 0), (.newarray .int, 20, 0, 0), (.putfield 66, 21, 9, 2), (.aload_n 0, 0, 0, 0), (.sipush 400, 40, 0, 0), (.newarray .int, 20, 0, 0)], [(.putfield 69, 30, 9, 2), (.aload_n 0, 0, 0, 0), (.sipush 400, 40, 0, 0), (.newarray .int, 20, 0, 0), (.putfield 72, 31, 9, 2), (.aload_n 0, 0, 0, 0), (.bipush 32, 1, 0, 0), (.newarray .boolean, 21, 0, 0), (.putfield 75, 33, 9, 2), (.aload_n 0, 0, 0, 0), (.bipush 32, 1, 0, 0), (.newarray .int, 20, 0, 0), (.putfield 78, 34, 9, 2), (.aload_n 0, 0, 0, 0), (.bipush 32, 1, 0, 0), (.newarray .int, 20, 0, 0)], [(.putfield 81, 35, 9, 2), (.aload_n 0, 0, 0, 0), (.bipush 32, 1, 0, 0), (.newarray .int, 20, 0, 0), (.putfield 84, 36, 9, 2), (.aload_n 0, 0, 0, 0), (.bipush 32, 1, 0, 0), (.newarray .int, 20, 0, 0), (.putfield 87, 37, 9, 2), (.aload_n 0, 0, 0, 0), (.bipush 8, 2, 0, 0), (.newarray .int, 20, 0, 0), (.putfield 90, 38, 9, 2), (.aload_n 0, 0, 0, 0), (.bipush 8, 2, 0, 0), (.newarray .int, 20, 0, 0)], [(.putfield 93, 39, 9, 2), (.aload_n 0, 0, 0, 0), (.bipush 8, 2, 0, 0), (.newarray .int, 20, 0, 0), (.putfield 96, 40, 9, 2), (.aload_n 0, 0, 0, 0), (.bipush 8, 2, 0, 0), (.newarray .int, 20, 0, 0), (.putfield 99, 41, 9, 2), (.aload_n 0, 0, 0, 0), (.bipush 16, 7, 0, 0), (.newarray .int, 20, 0, 0), (.putfield 102, 42, 9, 2), (.aload_n 0, 0, 0, 0), (.bipush 32, 1, 0, 0), (.newarray .int, 20, 0, 0)], [(.putfield 105, 43, 9, 2), (.aload_n 0, 0, 0, 0), (.bipush 8, 2, 0, 0), (.newarray .long, 22, 0, 0), (.putfield 108, 48, 9, 2), (.aload_n 0, 0, 0, 0), (.bipush 8, 2, 0, 0), (.newarray .boolean, 21, 0, 0), (.putfield 112, 49, 9, 2), (.aload_n 0, 0, 0, 0), (.bipush 8, 2, 0, 0), (.newarray .long, 22, 0, 0), (.putfield 115, 50, 9, 2), (.aload_n 0, 0, 0, 0), (.bipush 8, 2, 0, 0), (.newarray .long, 22, 0, 0)], [(.putfield 118, 51, 9, 2), (.aload_n 0, 0, 0, 0), (.bipush 8, 2, 0, 0), (.newarray .boolean, 21, 0, 0), (.putfield 121, 52, 9, 2), (.aload_n 0, 0, 0, 0), (.bipush 8, 2, 0, 0), (.newarray .boolean, 21, 0, 0), (.putfield 124, 53, 9, 2), (.aload_n 0, 0, 0, 0), (.bipush 8, 2, 0, 0), (.newarray .boolean, 21, 0, 0), (.putfield 127, 54, 9, 2), (.aload_n 0, 0, 0, 0), (.bipush 16, 7, 0, 0), (.newarray .boolean, 21, 0, 0)], [(.putfield 130, 55, 9, 2), (.aload_n 0, 0, 0, 0), (.bipush 16, 7, 0, 0), (.newarray .boolean, 21, 0, 0), (.putfield 133, 56, 9, 2), (.aload_n 0, 0, 0, 0), (.bipush 8, 2, 0, 0), (.newarray .int, 20, 0, 0), (.putfield 136, 57, 9, 2), (.aload_n 0, 0, 0, 0), (.bipush 8, 2, 0, 0), (.newarray .int, 20, 0, 0), (.putfield 139, 58, 9, 2), (.aload_n 0, 0, 0, 0), (.invokevirtual 142, 132, 1, 9), (.return_, 0, 0, 0)]]
/-- 95: ScanChartModel.thrown()I -/
def am_c95 : List (List am_Ins) := [[(.aload_n 0, 0, 0, 0), (.getfield 145, 0, 9, 0), (.ireturn, 0, 0, 0)]]
/-- 96: ScanChartModel.feed(IJ)I -/
def am_c96 : List (List am_Ins) := [[(.aload_n 0, 0, 0, 0), (.iload_n 1, 1, 0, 0), (.iconst 1, 4, 0, 0), (.if_icmp .lt 9, 7, 0, 0), (.iload_n 1, 1, 0, 0), (.bipush 8, 2, 0, 0), (.if_icmp .le 7, 9, 0, 0), (.iconst 1, 4, 0, 0), (.goto 4, 10, 0, 0), (.iconst 0, 5, 0, 0), (.putfield 145, 0, 9, 0), (.aload_n 0, 0, 0, 0), (.getfield 145, 0, 9, 0), (.ifCond .le 5, 16, 0, 0), (.iconst 0, 5, 0, 0), (.ireturn, 0, 0, 0)], [(.aload_n 0, 0, 0, 0), (.getfield 148, 2, 9, 0), (.iload_n 1, 1, 0, 0), (.iadd, 0, 0, 0), (.sipush 700, 22, 0, 0), (.if_icmp .le 5, 24, 0, 0), (.iconst (-1), 15, 0, 0), (.ireturn, 0, 0, 0), (.iconst 0, 5, 0, 0), (.istore 4, 4, 0, 0), (.iload 4, 4, 0, 0), (.iload_n 1, 1, 0, 0), (.if_icmp .ge 40, 50, 0, 0), (.aload_n 0, 0, 0, 0), (.getfield 7, 1, 9, 2), (.aload_n 0, 0, 0, 0)], [(.getfield 148, 2, 9, 0), (.lload_n 2, 2, 0, 0), (.bipush 8, 2, 0, 0), (.iload 4, 4, 0, 0), (.imul, 0, 0, 0), (.lshr, 0, 0, 0), (.ldc2_w 151, 5, 0, 0), (.land, 0, 0, 0), (.l2i, 0, 0, 0), (.iastore, 0, 0, 0), (.aload_n 0, 0, 0, 0), (.dup, 0, 0, 0), (.getfield 148, 2, 9, 0), (.iconst 1, 4, 0, 0), (.iadd, 0, 0, 0), (.putfield 148, 2, 9, 0)], [(.iinc 4 1, 4, 4, 0), (.goto (-40), 26, 0, 0), (.aload_n 0, 0, 0, 0), (.getfield 148, 2, 9, 0), (.ireturn, 0, 0, 0)]]
/-- 97: ScanChartModel.wipe()I -/
def am_c97 : List (List am_Ins) := [[(.aload_n 0, 0, 0, 0), (.iconst 0, 5, 0, 0), (.putfield 145, 0, 9, 0), (.aload_n 0, 0, 0, 0), (.getfield 148, 2, 9, 0), (.istore_n 1, 1, 0, 0), (.aload_n 0, 0, 0, 0), (.iconst 0, 5, 0, 0), (.putfield 148, 2, 9, 0), (.iload_n 1, 1, 0, 0), (.ireturn, 0, 0, 0)]]
/-- 98: ScanChartModel.fail(II)V -/
def am_c98 : List (List am_Ins) := [[(.aload_n 0, 0, 0, 0), (.getfield 153, 3, 9, 0), (.ifCond .ne 13, 9, 0, 0), (.aload_n 0, 0, 0, 0), (.iload_n 1, 1, 0, 0), (.putfield 153, 3, 9, 0), (.aload_n 0, 0, 0, 0), (.iload_n 2, 2, 0, 0), (.putfield 13, 4, 9, 0), (.return_, 0, 0, 0)]]
/-- 99: ScanChartModel.next()V -/
def am_c99 : List (List am_Ins) := [[(.aload_n 0, 0, 0, 0), (.aload_n 0, 0, 0, 0), (.getfield 156, 26, 9, 0), (.putfield 159, 24, 9, 0), (.aload_n 0, 0, 0, 0), (.getfield 159, 24, 9, 0), (.aload_n 0, 0, 0, 0), (.getfield 148, 2, 9, 0), (.if_icmp .ge 30, 23, 0, 0), (.aload_n 0, 0, 0, 0), (.getfield 7, 1, 9, 2), (.aload_n 0, 0, 0, 0), (.getfield 159, 24, 9, 0), (.iaload, 0, 0, 0), (.bipush 32, 1, 0, 0), (.if_icmp .gt 16, 23, 0, 0)], [(.aload_n 0, 0, 0, 0), (.dup, 0, 0, 0), (.getfield 159, 24, 9, 0), (.iconst 1, 4, 0, 0), (.iadd, 0, 0, 0), (.putfield 159, 24, 9, 0), (.goto (-35), 4, 0, 0), (.aload_n 0, 0, 0, 0), (.aload_n 0, 0, 0, 0), (.getfield 159, 24, 9, 0), (.putfield 162, 25, 9, 0), (.aload_n 0, 0, 0, 0), (.aload_n 0, 0, 0, 0), (.getfield 159, 24, 9, 0), (.putfield 156, 26, 9, 0), (.aload_n 0, 0, 0, 0)], [(.getfield 156, 26, 9, 0), (.aload_n 0, 0, 0, 0), (.getfield 148, 2, 9, 0), (.if_icmp .ge 28, 50, 0, 0), (.aload_n 0, 0, 0, 0), (.getfield 7, 1, 9, 2), (.aload_n 0, 0, 0, 0), (.getfield 156, 26, 9, 0), (.iaload, 0, 0, 0), (.bipush 59, 24, 0, 0), (.if_icmp .ne 14, 50, 0, 0), (.aload_n 0, 0, 0, 0), (.dup, 0, 0, 0), (.getfield 156, 26, 9, 0), (.iconst 1, 4, 0, 0), (.iadd, 0, 0, 0)], [(.putfield 156, 26, 9, 0), (.return_, 0, 0, 0), (.aload_n 0, 0, 0, 0), (.getfield 156, 26, 9, 0), (.aload_n 0, 0, 0, 0), (.getfield 148, 2, 9, 0), (.if_icmp .ge 44, 76, 0, 0), (.aload_n 0, 0, 0, 0), (.getfield 7, 1, 9, 2), (.aload_n 0, 0, 0, 0), (.getfield 156, 26, 9, 0), (.iaload, 0, 0, 0), (.bipush 32, 1, 0, 0), (.if_icmp .le 30, 76, 0, 0), (.aload_n 0, 0, 0, 0), (.getfield 7, 1, 9, 2)], [(.aload_n 0, 0, 0, 0), (.getfield 156, 26, 9, 0), (.iaload, 0, 0, 0), (.bipush 59, 24, 0, 0), (.if_icmp .eq 16, 76, 0, 0), (.aload_n 0, 0, 0, 0), (.dup, 0, 0, 0), (.getfield 156, 26, 9, 0), (.iconst 1, 4, 0, 0), (.iadd, 0, 0, 0), (.putfield 156, 26, 9, 0), (.goto (-49), 50, 0, 0), (.return_, 0, 0, 0)]]
/-- 100: ScanChartModel.isEnd()Z -/
def am_c100 : List (List am_Ins) := [[(.aload_n 0, 0, 0, 0), (.getfield 162, 25, 9, 0), (.aload_n 0, 0, 0, 0), (.getfield 148, 2, 9, 0), (.if_icmp .ne 7, 7, 0, 0), (.iconst 1, 4, 0, 0), (.goto 4, 8, 0, 0), (.iconst 0, 5, 0, 0), (.ireturn, 0, 0, 0)]]
/-- 101: ScanChartModel.isLineEnd()Z -/
def am_c101 : List (List am_Ins) := [[(.aload_n 0, 0, 0, 0), (.getfield 162, 25, 9, 0), (.aload_n 0, 0, 0, 0), (.getfield 148, 2, 9, 0), (.if_icmp .ge 21, 14, 0, 0), (.aload_n 0, 0, 0, 0), (.getfield 7, 1, 9, 2), (.aload_n 0, 0, 0, 0), (.getfield 162, 25, 9, 0), (.iaload, 0, 0, 0), (.bipush 59, 24, 0, 0), (.if_icmp .ne 7, 14, 0, 0), (.iconst 1, 4, 0, 0), (.goto 4, 15, 0, 0), (.iconst 0, 5, 0, 0), (.ireturn, 0, 0, 0)]]
/-- 102: ScanChartModel.code()J -/
def am_c102 : List (List am_Ins) := [[(.lconst 0, 0, 0, 0), (.lstore_n 1, 1, 0, 0), (.aload_n 0, 0, 0, 0), (.getfield 156, 26, 9, 0), (.iconst 1, 4, 0, 0), (.isub, 0, 0, 0), (.istore_n 3, 3, 0, 0), (.iload_n 3, 3, 0, 0), (.aload_n 0, 0, 0, 0), (.getfield 162, 25, 9, 0), (.if_icmp .lt 36, 30, 0, 0), (.aload_n 0, 0, 0, 0), (.getfield 156, 26, 9, 0), (.aload_n 0, 0, 0, 0), (.getfield 162, 25, 9, 0), (.isub, 0, 0, 0)], [(.bipush 8, 2, 0, 0), (.if_icmp .gt 22, 30, 0, 0), (.lload_n 1, 1, 0, 0), (.bipush 8, 2, 0, 0), (.lshl, 0, 0, 0), (.aload_n 0, 0, 0, 0), (.getfield 7, 1, 9, 2), (.iload_n 3, 3, 0, 0), (.iaload, 0, 0, 0), (.i2l, 0, 0, 0), (.lor, 0, 0, 0), (.lstore_n 1, 1, 0, 0), (.iinc 3 (-1), 3, 15, 0), (.goto (-38), 7, 0, 0), (.lload_n 1, 1, 0, 0), (.lreturn, 0, 0, 0)]]
/-- 103: ScanChartModel.isFigure(I)Z -/
def am_c103 : List (List am_Ins) := [[(.iload_n 0, 0, 0, 0), (.bipush 48, 8, 0, 0), (.if_icmp .lt 13, 8, 0, 0), (.iload_n 0, 0, 0, 0), (.bipush 57, 25, 0, 0), (.if_icmp .gt 7, 8, 0, 0), (.iconst 1, 4, 0, 0), (.goto 4, 9, 0, 0), (.iconst 0, 5, 0, 0), (.ireturn, 0, 0, 0)]]
/-- 104: ScanChartModel.areFigures(II)Z -/
def am_c104 : List (List am_Ins) := [[(.iload_n 1, 1, 0, 0), (.iload_n 2, 2, 0, 0), (.if_icmp .ge 7, 5, 0, 0), (.iconst 1, 4, 0, 0), (.goto 4, 6, 0, 0), (.iconst 0, 5, 0, 0), (.istore_n 3, 3, 0, 0), (.iload_n 1, 1, 0, 0), (.istore 4, 4, 0, 0), (.iload 4, 4, 0, 0), (.iload_n 2, 2, 0, 0), (.if_icmp .ge 32, 26, 0, 0), (.iload_n 3, 3, 0, 0), (.ifCond .eq 20, 22, 0, 0), (.aload_n 0, 0, 0, 0), (.getfield 7, 1, 9, 2)], [(.iload 4, 4, 0, 0), (.iaload, 0, 0, 0), (.invokestatic 165, 103, 1, 0), (.ifCond .eq 7, 22, 0, 0), (.iconst 1, 4, 0, 0), (.goto 4, 23, 0, 0), (.iconst 0, 5, 0, 0), (.istore_n 3, 3, 0, 0), (.iinc 4 1, 4, 4, 0), (.goto (-32), 9, 0, 0), (.iload_n 3, 3, 0, 0), (.ireturn, 0, 0, 0)]]
/-- 105: ScanChartModel.value(II)J -/
def am_c105 : List (List am_Ins) := [[(.lconst 0, 0, 0, 0), (.lstore_n 3, 3, 0, 0), (.iload_n 1, 1, 0, 0), (.istore 5, 5, 0, 0), (.iload 5, 5, 0, 0), (.iload_n 2, 2, 0, 0), (.if_icmp .ge 44, 29, 0, 0), (.ldc2_w 169, 6, 0, 0), (.lload_n 3, 3, 0, 0), (.lmul, 0, 0, 0), (.aload_n 0, 0, 0, 0), (.getfield 7, 1, 9, 2), (.iload 5, 5, 0, 0), (.iaload, 0, 0, 0), (.i2l, 0, 0, 0), (.ladd, 0, 0, 0)], [(.ldc2_w 171, 8, 0, 0), (.lsub, 0, 0, 0), (.lstore_n 3, 3, 0, 0), (.lload_n 3, 3, 0, 0), (.ldc2_w 173, 7, 0, 0), (.lcmp, 0, 0, 0), (.ifCond .le 9, 25, 0, 0), (.ldc2_w 173, 7, 0, 0), (.goto 4, 26, 0, 0), (.lload_n 3, 3, 0, 0), (.lstore_n 3, 3, 0, 0), (.iinc 5 1, 5, 4, 0), (.goto (-44), 4, 0, 0), (.lload_n 3, 3, 0, 0), (.lreturn, 0, 0, 0)]]
/-- 106: ScanChartModel.small(III)I -/
def am_c106 : List (List am_Ins) := [[(.aload_n 0, 0, 0, 0), (.iload_n 1, 1, 0, 0), (.iload_n 2, 2, 0, 0), (.invokevirtual 175, 104, 3, 9), (.ifCond .ne 14, 12, 0, 0), (.aload_n 0, 0, 0, 0), (.iconst 1, 4, 0, 0), (.aload_n 0, 0, 0, 0), (.getfield 162, 25, 9, 0), (.invokevirtual 179, 98, 3, 9), (.iconst (-1), 15, 0, 0), (.ireturn, 0, 0, 0), (.iload_n 2, 2, 0, 0), (.iload_n 1, 1, 0, 0), (.isub, 0, 0, 0), (.iconst 2, 13, 0, 0)], [(.if_icmp .gt 15, 25, 0, 0), (.aload_n 0, 0, 0, 0), (.iload_n 1, 1, 0, 0), (.iload_n 2, 2, 0, 0), (.invokevirtual 183, 105, 3, 9), (.iload_n 3, 3, 0, 0), (.i2l, 0, 0, 0), (.lcmp, 0, 0, 0), (.ifCond .le 14, 32, 0, 0), (.aload_n 0, 0, 0, 0), (.iconst 2, 13, 0, 0), (.aload_n 0, 0, 0, 0), (.getfield 162, 25, 9, 0), (.invokevirtual 179, 98, 3, 9), (.iconst (-1), 15, 0, 0), (.ireturn, 0, 0, 0)], [(.aload_n 0, 0, 0, 0), (.iload_n 1, 1, 0, 0), (.iload_n 2, 2, 0, 0), (.invokevirtual 183, 105, 3, 9), (.l2i, 0, 0, 0), (.ireturn, 0, 0, 0)]]
/-- 107: ScanChartModel.great(II)I -/
def am_c107 : List (List am_Ins) := [[(.aload_n 0, 0, 0, 0), (.iload_n 1, 1, 0, 0), (.aload_n 0, 0, 0, 0), (.getfield 156, 26, 9, 0), (.invokevirtual 175, 104, 3, 9), (.ifCond .ne 14, 13, 0, 0), (.aload_n 0, 0, 0, 0), (.iconst 1, 4, 0, 0), (.aload_n 0, 0, 0, 0), (.getfield 162, 25, 9, 0), (.invokevirtual 179, 98, 3, 9), (.iconst (-1), 15, 0, 0), (.ireturn, 0, 0, 0), (.aload_n 0, 0, 0, 0), (.iload_n 1, 1, 0, 0), (.aload_n 0, 0, 0, 0)], [(.getfield 156, 26, 9, 0), (.invokevirtual 183, 105, 3, 9), (.iload_n 2, 2, 0, 0), (.i2l, 0, 0, 0), (.lcmp, 0, 0, 0), (.ifCond .le 14, 29, 0, 0), (.aload_n 0, 0, 0, 0), (.iconst 2, 13, 0, 0), (.aload_n 0, 0, 0, 0), (.getfield 162, 25, 9, 0), (.invokevirtual 179, 98, 3, 9), (.iconst (-1), 15, 0, 0), (.ireturn, 0, 0, 0), (.aload_n 0, 0, 0, 0), (.iload_n 1, 1, 0, 0), (.aload_n 0, 0, 0, 0)], [(.getfield 156, 26, 9, 0), (.invokevirtual 183, 105, 3, 9), (.l2i, 0, 0, 0), (.ireturn, 0, 0, 0)]]
/-- 108: ScanChartModel.byteAt(I)I -/
def am_c108 : List (List am_Ins) := [[(.iload_n 1, 1, 0, 0), (.aload_n 0, 0, 0, 0), (.getfield 156, 26, 9, 0), (.if_icmp .ge 12, 9, 0, 0), (.aload_n 0, 0, 0, 0), (.getfield 7, 1, 9, 2), (.iload_n 1, 1, 0, 0), (.iaload, 0, 0, 0), (.goto 4, 10, 0, 0), (.iconst 0, 5, 0, 0), (.ireturn, 0, 0, 0)]]
/-- 109: ScanChartModel.cellKind()I -/
def am_c109 : List (List am_Ins) := [[(.aload_n 0, 0, 0, 0), (.aload_n 0, 0, 0, 0), (.getfield 162, 25, 9, 0), (.invokevirtual 187, 108, 2, 9), (.istore_n 1, 1, 0, 0), (.aload_n 0, 0, 0, 0), (.aload_n 0, 0, 0, 0), (.getfield 162, 25, 9, 0), (.iconst 1, 4, 0, 0), (.iadd, 0, 0, 0), (.invokevirtual 187, 108, 2, 9), (.istore_n 2, 2, 0, 0), (.iload_n 1, 1, 0, 0), (.bipush 84, 41, 0, 0), (.if_icmp .ne 16, 22, 0, 0), (.iload_n 2, 2, 0, 0)], [(.bipush 69, 42, 0, 0), (.if_icmp .ne 8, 20, 0, 0), (.bipush 6, 0, 0, 0), (.goto 4, 21, 0, 0), (.iconst 5, 12, 0, 0), (.ireturn, 0, 0, 0), (.iload_n 1, 1, 0, 0), (.bipush 67, 43, 0, 0), (.if_icmp .ne 17, 32, 0, 0), (.iload_n 2, 2, 0, 0), (.bipush 86, 44, 0, 0), (.if_icmp .ne 8, 30, 0, 0), (.bipush 8, 2, 0, 0), (.goto 5, 31, 0, 0), (.bipush 7, 45, 0, 0), (.ireturn, 0, 0, 0)], [(.iload_n 1, 1, 0, 0), (.bipush 73, 46, 0, 0), (.if_icmp .ne 7, 37, 0, 0), (.iconst 1, 4, 0, 0), (.goto 45, 58, 0, 0), (.iload_n 1, 1, 0, 0), (.bipush 81, 47, 0, 0), (.if_icmp .ne 7, 42, 0, 0), (.iconst 2, 13, 0, 0), (.goto 35, 58, 0, 0), (.iload_n 1, 1, 0, 0), (.bipush 77, 48, 0, 0), (.if_icmp .ne 7, 47, 0, 0), (.iconst 3, 3, 0, 0), (.goto 25, 58, 0, 0), (.iload_n 1, 1, 0, 0)], [(.bipush 87, 49, 0, 0), (.if_icmp .ne 7, 52, 0, 0), (.iconst 4, 6, 0, 0), (.goto 15, 58, 0, 0), (.iload_n 1, 1, 0, 0), (.bipush 88, 50, 0, 0), (.if_icmp .ne 8, 57, 0, 0), (.bipush 9, 11, 0, 0), (.goto 4, 58, 0, 0), (.iconst 0, 5, 0, 0), (.ireturn, 0, 0, 0)]]
/-- 110: ScanChartModel.mostOf(I)I -/
def am_c110 : List (List am_Ins) := [[(.iload_n 0, 0, 0, 0), (.iconst 5, 12, 0, 0), (.if_icmp .ge 8, 5, 0, 0), (.bipush 31, 51, 0, 0), (.goto 16, 11, 0, 0), (.iload_n 0, 0, 0, 0), (.bipush 9, 11, 0, 0), (.if_icmp .ge 8, 10, 0, 0), (.bipush 7, 45, 0, 0), (.goto 5, 11, 0, 0), (.bipush 15, 35, 0, 0), (.ireturn, 0, 0, 0)]]
/-- 111: ScanChartModel.operand(I)V -/
def am_c111 : List (List am_Ins) := [[(.aload_n 0, 0, 0, 0), (.invokevirtual 191, 109, 1, 9), (.istore_n 2, 2, 0, 0), (.aload_n 0, 0, 0, 0), (.iload_n 2, 2, 0, 0), (.putfield 195, 28, 9, 0), (.iload_n 2, 2, 0, 0), (.ifCond .le 60, 41, 0, 0), (.iload_n 1, 1, 0, 0), (.iload_n 2, 2, 0, 0), (.ishr, 0, 0, 0), (.iconst 1, 4, 0, 0), (.iand, 0, 0, 0), (.ifCond .ne 13, 20, 0, 0), (.aload_n 0, 0, 0, 0), (.iconst 1, 4, 0, 0)], [(.aload_n 0, 0, 0, 0), (.getfield 162, 25, 9, 0), (.invokevirtual 179, 98, 3, 9), (.return_, 0, 0, 0), (.aload_n 0, 0, 0, 0), (.aload_n 0, 0, 0, 0), (.aload_n 0, 0, 0, 0), (.getfield 162, 25, 9, 0), (.iload_n 2, 2, 0, 0), (.bipush 6, 0, 0, 0), (.if_icmp .eq 9, 30, 0, 0), (.iload_n 2, 2, 0, 0), (.bipush 8, 2, 0, 0), (.if_icmp .ne 7, 32, 0, 0), (.iconst 2, 13, 0, 0), (.goto 4, 33, 0, 0)], [(.iconst 1, 4, 0, 0), (.iadd, 0, 0, 0), (.aload_n 0, 0, 0, 0), (.getfield 156, 26, 9, 0), (.iload_n 2, 2, 0, 0), (.invokestatic 198, 110, 1, 0), (.invokevirtual 201, 106, 4, 9), (.putfield 205, 29, 9, 0), (.return_, 0, 0, 0), (.aload_n 0, 0, 0, 0), (.aload_n 0, 0, 0, 0), (.getfield 162, 25, 9, 0), (.invokevirtual 187, 108, 2, 9), (.bipush 45, 34, 0, 0), (.if_icmp .ne 7, 49, 0, 0), (.iconst 1, 4, 0, 0)], [(.goto 4, 50, 0, 0), (.iconst 0, 5, 0, 0), (.istore_n 3, 3, 0, 0), (.iload_n 3, 3, 0, 0), (.ifCond .eq 12, 58, 0, 0), (.aload_n 0, 0, 0, 0), (.getfield 162, 25, 9, 0), (.iconst 1, 4, 0, 0), (.iadd, 0, 0, 0), (.goto 7, 60, 0, 0), (.aload_n 0, 0, 0, 0), (.getfield 162, 25, 9, 0), (.istore 4, 4, 0, 0), (.iload_n 1, 1, 0, 0), (.iconst 1, 4, 0, 0), (.iand, 0, 0, 0)], [(.ifCond .eq 16, 71, 0, 0), (.aload_n 0, 0, 0, 0), (.iload 4, 4, 0, 0), (.aload_n 0, 0, 0, 0), (.getfield 156, 26, 9, 0), (.invokevirtual 175, 104, 3, 9), (.ifCond .ne 13, 77, 0, 0), (.aload_n 0, 0, 0, 0), (.iconst 1, 4, 0, 0), (.aload_n 0, 0, 0, 0), (.getfield 162, 25, 9, 0), (.invokevirtual 179, 98, 3, 9), (.return_, 0, 0, 0), (.iload_n 3, 3, 0, 0), (.ifCond .eq 17, 86, 0, 0), (.aload_n 0, 0, 0, 0)], [(.iload 4, 4, 0, 0), (.aload_n 0, 0, 0, 0), (.getfield 156, 26, 9, 0), (.invokevirtual 183, 105, 3, 9), (.lneg, 0, 0, 0), (.goto 13, 91, 0, 0), (.aload_n 0, 0, 0, 0), (.iload 4, 4, 0, 0), (.aload_n 0, 0, 0, 0), (.getfield 156, 26, 9, 0), (.invokevirtual 183, 105, 3, 9), (.lstore 5, 5, 0, 0), (.lload 5, 5, 0, 0), (.ldc2_w 208, 3, 0, 0), (.lcmp, 0, 0, 0), (.ifCond .lt 12, 100, 0, 0)], [(.lload 5, 5, 0, 0), (.ldc2_w 210, 4, 0, 0), (.lcmp, 0, 0, 0), (.ifCond .le 12, 105, 0, 0), (.aload_n 0, 0, 0, 0), (.iconst 2, 13, 0, 0), (.aload_n 0, 0, 0, 0), (.getfield 162, 25, 9, 0), (.invokevirtual 179, 98, 3, 9), (.aload_n 0, 0, 0, 0), (.lload 5, 5, 0, 0), (.l2i, 0, 0, 0), (.putfield 205, 29, 9, 0), (.return_, 0, 0, 0)]]
/-- 112: ScanChartModel.sign(J)I -/
def am_c112 : List (List am_Ins) := [[(.lload_n 0, 0, 0, 0), (.ldc2_w 212, 9, 0, 0), (.lcmp, 0, 0, 0), (.ifCond .ne 5, 6, 0, 0), (.iconst 0, 5, 0, 0), (.ireturn, 0, 0, 0), (.lload_n 0, 0, 0, 0), (.ldc2_w 214, 10, 0, 0), (.lcmp, 0, 0, 0), (.ifCond .ne 5, 12, 0, 0), (.iconst 1, 4, 0, 0), (.ireturn, 0, 0, 0), (.lload_n 0, 0, 0, 0), (.ldc2_w 216, 11, 0, 0), (.lcmp, 0, 0, 0), (.ifCond .ne 5, 18, 0, 0)], [(.iconst 2, 13, 0, 0), (.ireturn, 0, 0, 0), (.lload_n 0, 0, 0, 0), (.ldc2_w 218, 12, 0, 0), (.lcmp, 0, 0, 0), (.ifCond .ne 5, 24, 0, 0), (.iconst 3, 3, 0, 0), (.ireturn, 0, 0, 0), (.lload_n 0, 0, 0, 0), (.ldc2_w 220, 13, 0, 0), (.lcmp, 0, 0, 0), (.ifCond .ne 5, 30, 0, 0), (.iconst 4, 6, 0, 0), (.ireturn, 0, 0, 0), (.lload_n 0, 0, 0, 0), (.ldc2_w 222, 14, 0, 0)], [(.lcmp, 0, 0, 0), (.ifCond .ne 5, 36, 0, 0), (.iconst 5, 12, 0, 0), (.ireturn, 0, 0, 0), (.lload_n 0, 0, 0, 0), (.ldc2_w 224, 15, 0, 0), (.lcmp, 0, 0, 0), (.ifCond .ne 6, 42, 0, 0), (.bipush 6, 0, 0, 0), (.ireturn, 0, 0, 0), (.lload_n 0, 0, 0, 0), (.ldc2_w 226, 16, 0, 0), (.lcmp, 0, 0, 0), (.ifCond .ne 6, 48, 0, 0), (.bipush 7, 45, 0, 0), (.ireturn, 0, 0, 0)], [(.lload_n 0, 0, 0, 0), (.ldc2_w 228, 17, 0, 0), (.lcmp, 0, 0, 0), (.ifCond .ne 6, 54, 0, 0), (.bipush 8, 2, 0, 0), (.ireturn, 0, 0, 0), (.lload_n 0, 0, 0, 0), (.ldc2_w 230, 18, 0, 0), (.lcmp, 0, 0, 0), (.ifCond .ne 6, 60, 0, 0), (.bipush 9, 11, 0, 0), (.ireturn, 0, 0, 0), (.lload_n 0, 0, 0, 0), (.ldc2_w 232, 19, 0, 0), (.lcmp, 0, 0, 0), (.ifCond .ne 6, 66, 0, 0)], [(.bipush 10, 17, 0, 0), (.ireturn, 0, 0, 0), (.lload_n 0, 0, 0, 0), (.ldc2_w 234, 20, 0, 0), (.lcmp, 0, 0, 0), (.ifCond .ne 6, 72, 0, 0), (.bipush 11, 18, 0, 0), (.ireturn, 0, 0, 0), (.lload_n 0, 0, 0, 0), (.ldc2_w 236, 21, 0, 0), (.lcmp, 0, 0, 0), (.ifCond .ne 6, 78, 0, 0), (.bipush 12, 10, 0, 0), (.ireturn, 0, 0, 0), (.lload_n 0, 0, 0, 0), (.ldc2_w 238, 22, 0, 0)], [(.lcmp, 0, 0, 0), (.ifCond .ne 6, 84, 0, 0), (.bipush 13, 23, 0, 0), (.ireturn, 0, 0, 0), (.iconst (-1), 15, 0, 0), (.ireturn, 0, 0, 0)]]
/-- 113: ScanChartModel.add(IIIII)V -/
def am_c113 : List (List am_Ins) := [[(.bipush 80, 21, 0, 0), (.aload_n 0, 0, 0, 0), (.getfield 240, 23, 9, 0), (.imul, 0, 0, 0), (.aload_n 0, 0, 0, 0), (.getfield 32, 10, 9, 2), (.aload_n 0, 0, 0, 0), (.getfield 240, 23, 9, 0), (.iaload, 0, 0, 0), (.iadd, 0, 0, 0), (.istore 6, 6, 0, 0), (.aload_n 0, 0, 0, 0), (.getfield 17, 5, 9, 2), (.iload 6, 6, 0, 0), (.iload_n 1, 1, 0, 0), (.iastore, 0, 0, 0)], [(.aload_n 0, 0, 0, 0), (.getfield 20, 6, 9, 2), (.iload 6, 6, 0, 0), (.iload_n 2, 2, 0, 0), (.iastore, 0, 0, 0), (.aload_n 0, 0, 0, 0), (.getfield 23, 7, 9, 2), (.iload 6, 6, 0, 0), (.iload_n 3, 3, 0, 0), (.iastore, 0, 0, 0), (.aload_n 0, 0, 0, 0), (.getfield 26, 8, 9, 2), (.iload 6, 6, 0, 0), (.iload 4, 4, 0, 0), (.iastore, 0, 0, 0), (.aload_n 0, 0, 0, 0)], [(.getfield 29, 9, 9, 2), (.iload 6, 6, 0, 0), (.iload 5, 5, 0, 0), (.iastore, 0, 0, 0), (.aload_n 0, 0, 0, 0), (.getfield 32, 10, 9, 2), (.aload_n 0, 0, 0, 0), (.getfield 240, 23, 9, 0), (.dup2, 0, 0, 0), (.iaload, 0, 0, 0), (.iconst 1, 4, 0, 0), (.iadd, 0, 0, 0), (.iastore, 0, 0, 0), (.return_, 0, 0, 0)]]
/-- 114: ScanChartModel.isSign(J)Z -/
def am_c114 : List (List am_Ins) := [[(.aload_n 0, 0, 0, 0), (.getfield 156, 26, 9, 0), (.aload_n 0, 0, 0, 0), (.getfield 162, 25, 9, 0), (.isub, 0, 0, 0), (.istore_n 3, 3, 0, 0), (.iload_n 3, 3, 0, 0), (.ifCond .le 23, 19, 0, 0), (.aload_n 0, 0, 0, 0), (.getfield 7, 1, 9, 2), (.aload_n 0, 0, 0, 0), (.getfield 156, 26, 9, 0), (.iconst 1, 4, 0, 0), (.isub, 0, 0, 0), (.iaload, 0, 0, 0), (.bipush 40, 28, 0, 0)], [(.if_icmp .ne 7, 19, 0, 0), (.iconst 1, 4, 0, 0), (.goto 4, 20, 0, 0), (.iconst 0, 5, 0, 0), (.istore 4, 4, 0, 0), (.iload 4, 4, 0, 0), (.ifCond .eq 18, 35, 0, 0), (.lload_n 1, 1, 0, 0), (.lconst 1, 23, 0, 0), (.bipush 8, 2, 0, 0), (.iload_n 3, 3, 0, 0), (.iconst 1, 4, 0, 0), (.isub, 0, 0, 0), (.imul, 0, 0, 0), (.lshl, 0, 0, 0), (.lconst 1, 23, 0, 0)], [(.lsub, 0, 0, 0), (.land, 0, 0, 0), (.goto 4, 36, 0, 0), (.lload_n 1, 1, 0, 0), (.lstore 5, 5, 0, 0), (.iload 4, 4, 0, 0), (.ifCond .eq 9, 43, 0, 0), (.iload_n 3, 3, 0, 0), (.iconst 1, 4, 0, 0), (.isub, 0, 0, 0), (.goto 4, 44, 0, 0), (.iload_n 3, 3, 0, 0), (.istore 7, 7, 0, 0), (.iload_n 3, 3, 0, 0), (.bipush 8, 2, 0, 0), (.if_icmp .le 7, 50, 0, 0)], [(.iconst (-1), 15, 0, 0), (.goto 8, 52, 0, 0), (.lload 5, 5, 0, 0), (.invokestatic 243, 112, 1, 0), (.istore 8, 8, 0, 0), (.iconst 0, 5, 0, 0), (.istore 9, 9, 0, 0), (.iload 8, 8, 0, 0), (.iconst (-1), 15, 0, 0), (.if_icmp .ne 70, 97, 0, 0), (.iload_n 3, 3, 0, 0), (.bipush 8, 2, 0, 0), (.if_icmp .gt 64, 97, 0, 0), (.iload 7, 7, 0, 0), (.iconst 1, 4, 0, 0), (.if_icmp .le 58, 97, 0, 0)], [(.aload_n 0, 0, 0, 0), (.getfield 7, 1, 9, 2), (.aload_n 0, 0, 0, 0), (.getfield 162, 25, 9, 0), (.iload 7, 7, 0, 0), (.iadd, 0, 0, 0), (.iconst 1, 4, 0, 0), (.isub, 0, 0, 0), (.iaload, 0, 0, 0), (.bipush 78, 52, 0, 0), (.if_icmp .ne 39, 97, 0, 0), (.lload 5, 5, 0, 0), (.lconst 1, 23, 0, 0), (.bipush 8, 2, 0, 0), (.iload 7, 7, 0, 0), (.iconst 1, 4, 0, 0)], [(.isub, 0, 0, 0), (.imul, 0, 0, 0), (.lshl, 0, 0, 0), (.lconst 1, 23, 0, 0), (.lsub, 0, 0, 0), (.land, 0, 0, 0), (.invokestatic 243, 112, 1, 0), (.istore 8, 8, 0, 0), (.iconst 1, 4, 0, 0), (.istore 9, 9, 0, 0), (.iload 8, 8, 0, 0), (.iconst 2, 13, 0, 0), (.if_icmp .le 7, 95, 0, 0), (.iconst (-1), 15, 0, 0), (.goto 5, 96, 0, 0), (.iload 8, 8, 0, 0)], [(.istore 8, 8, 0, 0), (.iload 8, 8, 0, 0), (.iconst (-1), 15, 0, 0), (.if_icmp .ne 5, 102, 0, 0), (.iconst 0, 5, 0, 0), (.ireturn, 0, 0, 0), (.aload_n 0, 0, 0, 0), (.invokevirtual 247, 115, 1, 9), (.ifCond .ne 5, 107, 0, 0), (.iconst 1, 4, 0, 0), (.ireturn, 0, 0, 0), (.iload 4, 4, 0, 0), (.ifCond .eq 47, 134, 0, 0), (.aload_n 0, 0, 0, 0), (.getfield 251, 27, 9, 0), (.bipush 8, 2, 0, 0)], [(.if_icmp .ne 12, 118, 0, 0), (.aload_n 0, 0, 0, 0), (.iconst 5, 12, 0, 0), (.aload_n 0, 0, 0, 0), (.getfield 162, 25, 9, 0), (.invokevirtual 179, 98, 3, 9), (.aload_n 0, 0, 0, 0), (.dup, 0, 0, 0), (.getfield 251, 27, 9, 0), (.iconst 1, 4, 0, 0), (.iadd, 0, 0, 0), (.putfield 251, 27, 9, 0), (.aload_n 0, 0, 0, 0), (.iload 8, 8, 0, 0), (.iload 9, 9, 0, 0), (.iconst 2, 13, 0, 0)], [(.iadd, 0, 0, 0), (.iconst 0, 5, 0, 0), (.iconst 0, 5, 0, 0), (.iconst 0, 5, 0, 0), (.invokevirtual 254, 113, 6, 9), (.goto 31, 148, 0, 0), (.aload_n 0, 0, 0, 0), (.invokevirtual 258, 99, 1, 9), (.aload_n 0, 0, 0, 0), (.sipush 1023, 53, 0, 0), (.invokevirtual 261, 111, 2, 9), (.aload_n 0, 0, 0, 0), (.iload 8, 8, 0, 0), (.iload 9, 9, 0, 0), (.aload_n 0, 0, 0, 0), (.getfield 195, 28, 9, 0)], [(.aload_n 0, 0, 0, 0), (.getfield 205, 29, 9, 0), (.iconst 0, 5, 0, 0), (.invokevirtual 254, 113, 6, 9), (.iconst 1, 4, 0, 0), (.ireturn, 0, 0, 0)]]
/-- 115: ScanChartModel.mayComeNow()Z -/
def am_c115 : List (List am_Ins) := [[(.aload_n 0, 0, 0, 0), (.getfield 32, 10, 9, 2), (.aload_n 0, 0, 0, 0), (.getfield 240, 23, 9, 0), (.iaload, 0, 0, 0), (.bipush 80, 21, 0, 0), (.if_icmp .ne 12, 12, 0, 0), (.aload_n 0, 0, 0, 0), (.iconst 3, 3, 0, 0), (.aload_n 0, 0, 0, 0), (.getfield 162, 25, 9, 0), (.invokevirtual 179, 98, 3, 9), (.aload_n 0, 0, 0, 0), (.getfield 153, 3, 9, 0), (.ifCond .ne 7, 17, 0, 0), (.iconst 1, 4, 0, 0)], [(.goto 4, 18, 0, 0), (.iconst 0, 5, 0, 0), (.ireturn, 0, 0, 0)]]
/-- 116: ScanChartModel.isMove(J)Z -/
def am_c116 : List (List am_Ins) := [[(.lload_n 1, 1, 0, 0), (.ldc2_w 265, 24, 0, 0), (.lcmp, 0, 0, 0), (.ifCond .eq 11, 8, 0, 0), (.lload_n 1, 1, 0, 0), (.ldc2_w 267, 25, 0, 0), (.lcmp, 0, 0, 0), (.ifCond .ne 8, 10, 0, 0), (.bipush 14, 54, 0, 0), (.goto 51, 33, 0, 0), (.lload_n 1, 1, 0, 0), (.ldc2_w 269, 26, 0, 0), (.lcmp, 0, 0, 0), (.ifCond .eq 11, 18, 0, 0), (.lload_n 1, 1, 0, 0), (.ldc2_w 271, 27, 0, 0)], [(.lcmp, 0, 0, 0), (.ifCond .ne 8, 20, 0, 0), (.bipush 15, 35, 0, 0), (.goto 30, 33, 0, 0), (.lload_n 1, 1, 0, 0), (.ldc2_w 273, 28, 0, 0), (.lcmp, 0, 0, 0), (.ifCond .ne 8, 26, 0, 0), (.bipush 16, 7, 0, 0), (.goto 17, 33, 0, 0), (.lload_n 1, 1, 0, 0), (.ldc2_w 275, 29, 0, 0), (.lcmp, 0, 0, 0), (.ifCond .ne 8, 32, 0, 0), (.bipush 17, 55, 0, 0), (.goto 4, 33, 0, 0)], [(.iconst (-1), 15, 0, 0), (.istore_n 3, 3, 0, 0), (.iload_n 3, 3, 0, 0), (.iconst (-1), 15, 0, 0), (.if_icmp .ne 5, 39, 0, 0), (.iconst 0, 5, 0, 0), (.ireturn, 0, 0, 0), (.aload_n 0, 0, 0, 0), (.invokevirtual 247, 115, 1, 9), (.ifCond .eq 71, 76, 0, 0), (.aload_n 0, 0, 0, 0), (.invokevirtual 258, 99, 1, 9), (.aload_n 0, 0, 0, 0), (.iload_n 3, 3, 0, 0), (.bipush 14, 54, 0, 0), (.if_icmp .ne 9, 50, 0, 0)], [(.sipush 1023, 53, 0, 0), (.goto 16, 56, 0, 0), (.iload_n 3, 3, 0, 0), (.bipush 15, 35, 0, 0), (.if_icmp .ne 8, 55, 0, 0), (.bipush 28, 56, 0, 0), (.goto 5, 56, 0, 0), (.bipush 12, 10, 0, 0), (.invokevirtual 261, 111, 2, 9), (.aload_n 0, 0, 0, 0), (.iload_n 3, 3, 0, 0), (.lload_n 1, 1, 0, 0), (.ldc2_w 267, 25, 0, 0), (.lcmp, 0, 0, 0), (.ifCond .eq 11, 67, 0, 0), (.lload_n 1, 1, 0, 0)], [(.ldc2_w 271, 27, 0, 0), (.lcmp, 0, 0, 0), (.ifCond .ne 7, 69, 0, 0), (.iconst 1, 4, 0, 0), (.goto 4, 70, 0, 0), (.iconst 0, 5, 0, 0), (.aload_n 0, 0, 0, 0), (.getfield 195, 28, 9, 0), (.aload_n 0, 0, 0, 0), (.getfield 205, 29, 9, 0), (.iconst 0, 5, 0, 0), (.invokevirtual 254, 113, 6, 9), (.iconst 1, 4, 0, 0), (.ireturn, 0, 0, 0)]]
/-- 117: ScanChartModel.isJump(J)Z -/
def am_c117 : List (List am_Ins) := [[(.lload_n 1, 1, 0, 0), (.ldc2_w 277, 30, 0, 0), (.lcmp, 0, 0, 0), (.ifCond .eq 19, 12, 0, 0), (.lload_n 1, 1, 0, 0), (.ldc2_w 279, 31, 0, 0), (.lcmp, 0, 0, 0), (.ifCond .eq 11, 12, 0, 0), (.lload_n 1, 1, 0, 0), (.ldc2_w 281, 32, 0, 0), (.lcmp, 0, 0, 0), (.ifCond .ne 8, 14, 0, 0), (.bipush 20, 14, 0, 0), (.goto 33, 29, 0, 0), (.lload_n 1, 1, 0, 0), (.ldc2_w 283, 33, 0, 0)], [(.lcmp, 0, 0, 0), (.ifCond .eq 19, 26, 0, 0), (.lload_n 1, 1, 0, 0), (.ldc2_w 285, 34, 0, 0), (.lcmp, 0, 0, 0), (.ifCond .eq 11, 26, 0, 0), (.lload_n 1, 1, 0, 0), (.ldc2_w 287, 35, 0, 0), (.lcmp, 0, 0, 0), (.ifCond .ne 8, 28, 0, 0), (.bipush 21, 57, 0, 0), (.goto 4, 29, 0, 0), (.iconst (-1), 15, 0, 0), (.istore_n 3, 3, 0, 0), (.iload_n 3, 3, 0, 0), (.iconst (-1), 15, 0, 0)], [(.if_icmp .ne 5, 35, 0, 0), (.iconst 0, 5, 0, 0), (.ireturn, 0, 0, 0), (.aload_n 0, 0, 0, 0), (.invokevirtual 247, 115, 1, 9), (.ifCond .ne 5, 40, 0, 0), (.iconst 1, 4, 0, 0), (.ireturn, 0, 0, 0), (.aload_n 0, 0, 0, 0), (.getfield 251, 27, 9, 0), (.ifCond .le 12, 48, 0, 0), (.aload_n 0, 0, 0, 0), (.iconst 5, 12, 0, 0), (.aload_n 0, 0, 0, 0), (.getfield 162, 25, 9, 0), (.invokevirtual 179, 98, 3, 9)], [(.lload_n 1, 1, 0, 0), (.ldc2_w 279, 31, 0, 0), (.lcmp, 0, 0, 0), (.ifCond .eq 11, 56, 0, 0), (.lload_n 1, 1, 0, 0), (.ldc2_w 285, 34, 0, 0), (.lcmp, 0, 0, 0), (.ifCond .ne 7, 58, 0, 0), (.iconst 4, 6, 0, 0), (.goto 24, 69, 0, 0), (.lload_n 1, 1, 0, 0), (.ldc2_w 281, 32, 0, 0), (.lcmp, 0, 0, 0), (.ifCond .eq 11, 66, 0, 0), (.lload_n 1, 1, 0, 0), (.ldc2_w 287, 35, 0, 0)], [(.lcmp, 0, 0, 0), (.ifCond .ne 7, 68, 0, 0), (.iconst 5, 12, 0, 0), (.goto 4, 69, 0, 0), (.iconst 0, 5, 0, 0), (.istore 4, 4, 0, 0), (.iconst 0, 5, 0, 0), (.istore 5, 5, 0, 0), (.iload_n 3, 3, 0, 0), (.bipush 20, 14, 0, 0), (.if_icmp .ne 23, 85, 0, 0), (.aload_n 0, 0, 0, 0), (.invokevirtual 258, 99, 1, 9), (.aload_n 0, 0, 0, 0), (.aload_n 0, 0, 0, 0), (.getfield 156, 26, 9, 0)], [(.invokevirtual 289, 118, 2, 9), (.istore 5, 5, 0, 0), (.aload_n 0, 0, 0, 0), (.iload 5, 5, 0, 0), (.invokevirtual 292, 119, 2, 9), (.aload_n 0, 0, 0, 0), (.iload_n 3, 3, 0, 0), (.iload 4, 4, 0, 0), (.iconst 0, 5, 0, 0), (.iload 5, 5, 0, 0), (.iconst 0, 5, 0, 0), (.invokevirtual 254, 113, 6, 9), (.iconst 1, 4, 0, 0), (.ireturn, 0, 0, 0)]]
/-- 118: ScanChartModel.labelWord(I)I -/
def am_c118 : List (List am_Ins) := [[(.aload_n 0, 0, 0, 0), (.aload_n 0, 0, 0, 0), (.getfield 162, 25, 9, 0), (.invokevirtual 187, 108, 2, 9), (.bipush 76, 26, 0, 0), (.if_icmp .eq 14, 13, 0, 0), (.aload_n 0, 0, 0, 0), (.iconst 1, 4, 0, 0), (.aload_n 0, 0, 0, 0), (.getfield 162, 25, 9, 0), (.invokevirtual 179, 98, 3, 9), (.iconst (-1), 15, 0, 0), (.ireturn, 0, 0, 0), (.aload_n 0, 0, 0, 0), (.aload_n 0, 0, 0, 0), (.getfield 162, 25, 9, 0)], [(.iconst 1, 4, 0, 0), (.iadd, 0, 0, 0), (.iload_n 1, 1, 0, 0), (.bipush 31, 51, 0, 0), (.invokevirtual 201, 106, 4, 9), (.ireturn, 0, 0, 0)]]
/-- 119: ScanChartModel.names(I)V -/
def am_c119 : List (List am_Ins) := [[(.aload_n 0, 0, 0, 0), (.getfield 69, 30, 9, 2), (.aload_n 0, 0, 0, 0), (.getfield 295, 32, 9, 0), (.iload_n 1, 1, 0, 0), (.iastore, 0, 0, 0), (.aload_n 0, 0, 0, 0), (.getfield 72, 31, 9, 2), (.aload_n 0, 0, 0, 0), (.getfield 295, 32, 9, 0), (.aload_n 0, 0, 0, 0), (.getfield 162, 25, 9, 0), (.iastore, 0, 0, 0), (.aload_n 0, 0, 0, 0), (.dup, 0, 0, 0), (.getfield 295, 32, 9, 0)], [(.iconst 1, 4, 0, 0), (.iadd, 0, 0, 0), (.putfield 295, 32, 9, 0), (.return_, 0, 0, 0)]]
/-- 120: ScanChartModel.lettered(II)I -/
def am_c120 : List (List am_Ins) := [[(.aload_n 0, 0, 0, 0), (.aload_n 0, 0, 0, 0), (.getfield 162, 25, 9, 0), (.invokevirtual 187, 108, 2, 9), (.iload_n 1, 1, 0, 0), (.if_icmp .eq 14, 13, 0, 0), (.aload_n 0, 0, 0, 0), (.iconst 1, 4, 0, 0), (.aload_n 0, 0, 0, 0), (.getfield 162, 25, 9, 0), (.invokevirtual 179, 98, 3, 9), (.iconst (-1), 15, 0, 0), (.ireturn, 0, 0, 0), (.aload_n 0, 0, 0, 0), (.aload_n 0, 0, 0, 0), (.getfield 162, 25, 9, 0)], [(.iconst 1, 4, 0, 0), (.iadd, 0, 0, 0), (.aload_n 0, 0, 0, 0), (.getfield 156, 26, 9, 0), (.iload_n 2, 2, 0, 0), (.invokevirtual 201, 106, 4, 9), (.ireturn, 0, 0, 0)]]
/-- 121: ScanChartModel.isBlock(J)Z -/
def am_c121 : List (List am_Ins) := [[(.lload_n 1, 1, 0, 0), (.ldc2_w 298, 36, 0, 0), (.lcmp, 0, 0, 0), (.ifCond .ne 8, 6, 0, 0), (.bipush 22, 58, 0, 0), (.goto 95, 49, 0, 0), (.lload_n 1, 1, 0, 0), (.ldc2_w 300, 37, 0, 0), (.lcmp, 0, 0, 0), (.ifCond .ne 8, 12, 0, 0), (.bipush 23, 59, 0, 0), (.goto 82, 49, 0, 0), (.lload_n 1, 1, 0, 0), (.ldc2_w 302, 38, 0, 0), (.lcmp, 0, 0, 0), (.ifCond .ne 8, 18, 0, 0)], [(.bipush 24, 60, 0, 0), (.goto 69, 49, 0, 0), (.lload_n 1, 1, 0, 0), (.ldc2_w 304, 39, 0, 0), (.lcmp, 0, 0, 0), (.ifCond .ne 8, 24, 0, 0), (.bipush 25, 61, 0, 0), (.goto 56, 49, 0, 0), (.lload_n 1, 1, 0, 0), (.ldc2_w 306, 40, 0, 0), (.lcmp, 0, 0, 0), (.ifCond .ne 8, 30, 0, 0), (.bipush 26, 62, 0, 0), (.goto 43, 49, 0, 0), (.lload_n 1, 1, 0, 0), (.ldc2_w 308, 41, 0, 0)], [(.lcmp, 0, 0, 0), (.ifCond .ne 8, 36, 0, 0), (.bipush 27, 63, 0, 0), (.goto 30, 49, 0, 0), (.lload_n 1, 1, 0, 0), (.ldc2_w 310, 42, 0, 0), (.lcmp, 0, 0, 0), (.ifCond .ne 8, 42, 0, 0), (.bipush 28, 56, 0, 0), (.goto 17, 49, 0, 0), (.lload_n 1, 1, 0, 0), (.ldc2_w 312, 43, 0, 0), (.lcmp, 0, 0, 0), (.ifCond .ne 8, 48, 0, 0), (.bipush 29, 64, 0, 0), (.goto 4, 49, 0, 0)], [(.iconst (-1), 15, 0, 0), (.istore_n 3, 3, 0, 0), (.iload_n 3, 3, 0, 0), (.iconst (-1), 15, 0, 0), (.if_icmp .ne 5, 55, 0, 0), (.iconst 0, 5, 0, 0), (.ireturn, 0, 0, 0), (.aload_n 0, 0, 0, 0), (.invokevirtual 247, 115, 1, 9), (.ifCond .ne 5, 60, 0, 0), (.iconst 1, 4, 0, 0), (.ireturn, 0, 0, 0), (.aload_n 0, 0, 0, 0), (.invokevirtual 258, 99, 1, 9), (.iload_n 3, 3, 0, 0), (.bipush 25, 61, 0, 0)], [(.if_icmp .ge 14, 70, 0, 0), (.aload_n 0, 0, 0, 0), (.bipush 84, 41, 0, 0), (.bipush 7, 45, 0, 0), (.invokevirtual 314, 120, 3, 9), (.goto 28, 82, 0, 0), (.iload_n 3, 3, 0, 0), (.bipush 28, 56, 0, 0), (.if_icmp .ge 14, 78, 0, 0), (.aload_n 0, 0, 0, 0), (.bipush 67, 43, 0, 0), (.bipush 7, 45, 0, 0), (.invokevirtual 314, 120, 3, 9), (.goto 11, 82, 0, 0), (.aload_n 0, 0, 0, 0), (.bipush 69, 42, 0, 0)], [(.bipush 15, 35, 0, 0), (.invokevirtual 314, 120, 3, 9), (.istore 4, 4, 0, 0), (.iconst 0, 5, 0, 0), (.istore 5, 5, 0, 0), (.iload_n 3, 3, 0, 0), (.bipush 27, 63, 0, 0), (.if_icmp .ge 39, 104, 0, 0), (.aload_n 0, 0, 0, 0), (.getfield 153, 3, 9, 0), (.ifCond .ne 32, 104, 0, 0), (.aload_n 0, 0, 0, 0), (.invokevirtual 258, 99, 1, 9), (.aload_n 0, 0, 0, 0), (.aload_n 0, 0, 0, 0), (.getfield 162, 25, 9, 0)], [(.iload_n 3, 3, 0, 0), (.bipush 25, 61, 0, 0), (.if_icmp .ge 9, 101, 0, 0), (.ldc_w 318, 29, 1, 0), (.goto 6, 102, 0, 0), (.sipush 32767, 19, 0, 0), (.invokevirtual 319, 107, 3, 9), (.istore 5, 5, 0, 0), (.aload_n 0, 0, 0, 0), (.iload_n 3, 3, 0, 0), (.iconst 0, 5, 0, 0), (.iconst 0, 5, 0, 0), (.iload 4, 4, 0, 0), (.iload 5, 5, 0, 0), (.invokevirtual 254, 113, 6, 9), (.iconst 1, 4, 0, 0)], [(.ireturn, 0, 0, 0)]]
/-- 122: ScanChartModel.isAlone(J)Z -/
def am_c122 : List (List am_Ins) := [[(.lload_n 1, 1, 0, 0), (.ldc2_w 322, 44, 0, 0), (.lcmp, 0, 0, 0), (.ifCond .ne 8, 6, 0, 0), (.bipush 18, 65, 0, 0), (.goto 17, 13, 0, 0), (.lload_n 1, 1, 0, 0), (.ldc2_w 324, 45, 0, 0), (.lcmp, 0, 0, 0), (.ifCond .ne 8, 12, 0, 0), (.bipush 19, 66, 0, 0), (.goto 4, 13, 0, 0), (.iconst (-1), 15, 0, 0), (.istore_n 3, 3, 0, 0), (.iload_n 3, 3, 0, 0), (.iconst (-1), 15, 0, 0)], [(.if_icmp .ne 5, 19, 0, 0), (.iconst 0, 5, 0, 0), (.ireturn, 0, 0, 0), (.aload_n 0, 0, 0, 0), (.invokevirtual 247, 115, 1, 9), (.ifCond .eq 57, 52, 0, 0), (.iload_n 3, 3, 0, 0), (.bipush 18, 65, 0, 0), (.if_icmp .ne 19, 33, 0, 0), (.aload_n 0, 0, 0, 0), (.getfield 251, 27, 9, 0), (.ifCond .ne 12, 33, 0, 0), (.aload_n 0, 0, 0, 0), (.iconst 5, 12, 0, 0), (.aload_n 0, 0, 0, 0), (.getfield 162, 25, 9, 0)], [(.invokevirtual 179, 98, 3, 9), (.aload_n 0, 0, 0, 0), (.iload_n 3, 3, 0, 0), (.bipush 18, 65, 0, 0), (.if_icmp .ne 12, 42, 0, 0), (.aload_n 0, 0, 0, 0), (.getfield 251, 27, 9, 0), (.iconst 1, 4, 0, 0), (.isub, 0, 0, 0), (.goto 7, 44, 0, 0), (.aload_n 0, 0, 0, 0), (.getfield 251, 27, 9, 0), (.putfield 251, 27, 9, 0), (.aload_n 0, 0, 0, 0), (.iload_n 3, 3, 0, 0), (.iconst 0, 5, 0, 0)], [(.iconst 0, 5, 0, 0), (.iconst 0, 5, 0, 0), (.iconst 0, 5, 0, 0), (.invokevirtual 254, 113, 6, 9), (.iconst 1, 4, 0, 0), (.ireturn, 0, 0, 0)]]
/-- 123: ScanChartModel.actions(I)V -/
def am_c123 : List (List am_Ins) := [[(.iconst 0, 5, 0, 0), (.istore_n 2, 2, 0, 0), (.aload_n 0, 0, 0, 0), (.invokevirtual 258, 99, 1, 9), (.aload_n 0, 0, 0, 0), (.invokevirtual 326, 102, 1, 9), (.lstore_n 3, 3, 0, 0), (.aload_n 0, 0, 0, 0), (.getfield 153, 3, 9, 0), (.ifCond .ne 126, 77, 0, 0), (.iload_n 2, 2, 0, 0), (.iconst 3, 3, 0, 0), (.if_icmp .ge 121, 77, 0, 0), (.lload_n 3, 3, 0, 0), (.ldc2_w 330, 46, 0, 0), (.lcmp, 0, 0, 0)], [(.ifCond .eq 19, 25, 0, 0), (.lload_n 3, 3, 0, 0), (.ldc2_w 273, 28, 0, 0), (.lcmp, 0, 0, 0), (.ifCond .eq 11, 25, 0, 0), (.lload_n 3, 3, 0, 0), (.ldc2_w 275, 29, 0, 0), (.lcmp, 0, 0, 0), (.ifCond .ne 97, 77, 0, 0), (.bipush 48, 8, 0, 0), (.aload_n 0, 0, 0, 0), (.getfield 240, 23, 9, 0), (.imul, 0, 0, 0), (.iconst 3, 3, 0, 0), (.iload_n 1, 1, 0, 0), (.imul, 0, 0, 0)], [(.iadd, 0, 0, 0), (.iload_n 2, 2, 0, 0), (.iadd, 0, 0, 0), (.istore 5, 5, 0, 0), (.aload_n 0, 0, 0, 0), (.invokevirtual 258, 99, 1, 9), (.aload_n 0, 0, 0, 0), (.bipush 12, 10, 0, 0), (.invokevirtual 261, 111, 2, 9), (.aload_n 0, 0, 0, 0), (.getfield 42, 13, 9, 2), (.iload 5, 5, 0, 0), (.lload_n 3, 3, 0, 0), (.ldc2_w 330, 46, 0, 0), (.lcmp, 0, 0, 0), (.ifCond .ne 7, 50, 0, 0)], [(.iconst 1, 4, 0, 0), (.goto 16, 57, 0, 0), (.lload_n 3, 3, 0, 0), (.ldc2_w 273, 28, 0, 0), (.lcmp, 0, 0, 0), (.ifCond .ne 7, 56, 0, 0), (.iconst 2, 13, 0, 0), (.goto 4, 57, 0, 0), (.iconst 3, 3, 0, 0), (.iastore, 0, 0, 0), (.aload_n 0, 0, 0, 0), (.getfield 45, 14, 9, 2), (.iload 5, 5, 0, 0), (.aload_n 0, 0, 0, 0), (.getfield 195, 28, 9, 0), (.iastore, 0, 0, 0)], [(.aload_n 0, 0, 0, 0), (.getfield 48, 15, 9, 2), (.iload 5, 5, 0, 0), (.aload_n 0, 0, 0, 0), (.getfield 205, 29, 9, 0), (.iastore, 0, 0, 0), (.iinc 2 1, 2, 4, 0), (.aload_n 0, 0, 0, 0), (.invokevirtual 258, 99, 1, 9), (.aload_n 0, 0, 0, 0), (.invokevirtual 326, 102, 1, 9), (.lstore_n 3, 3, 0, 0), (.goto (-127), 7, 0, 0), (.return_, 0, 0, 0)]]
/-- 124: ScanChartModel.step()V -/
def am_c124 : List (List am_Ins) := [[(.aload_n 0, 0, 0, 0), (.getfield 251, 27, 9, 0), (.ifCond .le 12, 8, 0, 0), (.aload_n 0, 0, 0, 0), (.iconst 5, 12, 0, 0), (.aload_n 0, 0, 0, 0), (.getfield 162, 25, 9, 0), (.invokevirtual 179, 98, 3, 9), (.aload_n 0, 0, 0, 0), (.invokevirtual 258, 99, 1, 9), (.aload_n 0, 0, 0, 0), (.aload_n 0, 0, 0, 0), (.getfield 162, 25, 9, 0), (.aload_n 0, 0, 0, 0), (.getfield 156, 26, 9, 0), (.bipush 15, 35, 0, 0)], [(.invokevirtual 201, 106, 4, 9), (.istore_n 1, 1, 0, 0), (.aload_n 0, 0, 0, 0), (.getfield 153, 3, 9, 0), (.ifCond .ne 29, 36, 0, 0), (.aload_n 0, 0, 0, 0), (.getfield 38, 12, 9, 2), (.bipush 16, 7, 0, 0), (.aload_n 0, 0, 0, 0), (.getfield 240, 23, 9, 0), (.imul, 0, 0, 0), (.iload_n 1, 1, 0, 0), (.iadd, 0, 0, 0), (.baload, 0, 0, 0), (.ifCond .eq 12, 36, 0, 0), (.aload_n 0, 0, 0, 0)], [(.iconst 4, 6, 0, 0), (.aload_n 0, 0, 0, 0), (.getfield 162, 25, 9, 0), (.invokevirtual 179, 98, 3, 9), (.aload_n 0, 0, 0, 0), (.getfield 153, 3, 9, 0), (.ifCond .ne 23, 52, 0, 0), (.aload_n 0, 0, 0, 0), (.getfield 38, 12, 9, 2), (.bipush 16, 7, 0, 0), (.aload_n 0, 0, 0, 0), (.getfield 240, 23, 9, 0), (.imul, 0, 0, 0), (.iload_n 1, 1, 0, 0), (.iadd, 0, 0, 0), (.iconst 1, 4, 0, 0)], [(.bastore, 0, 0, 0), (.aload_n 0, 0, 0, 0), (.iload_n 1, 1, 0, 0), (.invokevirtual 332, 123, 2, 9), (.return_, 0, 0, 0)]]
/-- 125: ScanChartModel.some()I -/
def am_c125 : List (List am_Ins) := [[(.iconst 0, 5, 0, 0), (.istore_n 1, 1, 0, 0), (.iconst 0, 5, 0, 0), (.istore_n 2, 2, 0, 0), (.iload_n 2, 2, 0, 0), (.iconst 3, 3, 0, 0), (.if_icmp .ge 76, 46, 0, 0), (.aload_n 0, 0, 0, 0), (.getfield 153, 3, 9, 0), (.ifCond .ne 69, 46, 0, 0), (.iload_n 2, 2, 0, 0), (.ifCond .eq 18, 19, 0, 0), (.aload_n 0, 0, 0, 0), (.aload_n 0, 0, 0, 0), (.getfield 162, 25, 9, 0), (.aload_n 0, 0, 0, 0)], [(.getfield 156, 26, 9, 0), (.invokevirtual 175, 104, 3, 9), (.ifCond .eq 50, 46, 0, 0), (.aload_n 0, 0, 0, 0), (.aload_n 0, 0, 0, 0), (.getfield 162, 25, 9, 0), (.aload_n 0, 0, 0, 0), (.getfield 156, 26, 9, 0), (.bipush 15, 35, 0, 0), (.invokevirtual 201, 106, 4, 9), (.istore_n 3, 3, 0, 0), (.aload_n 0, 0, 0, 0), (.bipush 100, 36, 0, 0), (.iload_n 3, 3, 0, 0), (.iadd, 0, 0, 0), (.invokevirtual 292, 119, 2, 9)], [(.iload_n 3, 3, 0, 0), (.ifCond .ge 7, 36, 0, 0), (.iload_n 1, 1, 0, 0), (.goto 8, 41, 0, 0), (.iload_n 1, 1, 0, 0), (.iconst 1, 4, 0, 0), (.iload_n 3, 3, 0, 0), (.ishl, 0, 0, 0), (.ior, 0, 0, 0), (.istore_n 1, 1, 0, 0), (.aload_n 0, 0, 0, 0), (.invokevirtual 258, 99, 1, 9), (.iinc 2 1, 2, 4, 0), (.goto (-75), 4, 0, 0), (.iload_n 1, 1, 0, 0), (.ireturn, 0, 0, 0)]]
/-- 126: ScanChartModel.go()V -/
def am_c126 : List (List am_Ins) := [[(.aload_n 0, 0, 0, 0), (.getfield 66, 21, 9, 2), (.aload_n 0, 0, 0, 0), (.getfield 240, 23, 9, 0), (.iaload, 0, 0, 0), (.bipush 16, 7, 0, 0), (.if_icmp .ne 12, 12, 0, 0), (.aload_n 0, 0, 0, 0), (.iconst 3, 3, 0, 0), (.aload_n 0, 0, 0, 0), (.getfield 162, 25, 9, 0), (.invokevirtual 179, 98, 3, 9), (.aload_n 0, 0, 0, 0), (.getfield 251, 27, 9, 0), (.ifCond .le 12, 20, 0, 0), (.aload_n 0, 0, 0, 0)], [(.iconst 5, 12, 0, 0), (.aload_n 0, 0, 0, 0), (.getfield 162, 25, 9, 0), (.invokevirtual 179, 98, 3, 9), (.bipush 16, 7, 0, 0), (.aload_n 0, 0, 0, 0), (.getfield 240, 23, 9, 0), (.imul, 0, 0, 0), (.aload_n 0, 0, 0, 0), (.getfield 66, 21, 9, 2), (.aload_n 0, 0, 0, 0), (.getfield 240, 23, 9, 0), (.iaload, 0, 0, 0), (.bipush 16, 7, 0, 0), (.irem, 0, 0, 0), (.iadd, 0, 0, 0)], [(.istore_n 1, 1, 0, 0), (.aload_n 0, 0, 0, 0), (.invokevirtual 258, 99, 1, 9), (.aload_n 0, 0, 0, 0), (.getfield 51, 16, 9, 2), (.iload_n 1, 1, 0, 0), (.aload_n 0, 0, 0, 0), (.invokevirtual 335, 125, 1, 9), (.iastore, 0, 0, 0), (.aload_n 0, 0, 0, 0), (.invokevirtual 326, 102, 1, 9), (.ldc2_w 338, 47, 0, 0), (.lcmp, 0, 0, 0), (.ifCond .eq 12, 51, 0, 0), (.aload_n 0, 0, 0, 0), (.iconst 1, 4, 0, 0)], [(.aload_n 0, 0, 0, 0), (.getfield 162, 25, 9, 0), (.invokevirtual 179, 98, 3, 9), (.aload_n 0, 0, 0, 0), (.invokevirtual 258, 99, 1, 9), (.aload_n 0, 0, 0, 0), (.getfield 54, 17, 9, 2), (.iload_n 1, 1, 0, 0), (.aload_n 0, 0, 0, 0), (.getfield 153, 3, 9, 0), (.ifCond .ne 10, 62, 0, 0), (.aload_n 0, 0, 0, 0), (.invokevirtual 335, 125, 1, 9), (.goto 4, 63, 0, 0), (.iconst 0, 5, 0, 0), (.iastore, 0, 0, 0)], [(.aload_n 0, 0, 0, 0), (.invokevirtual 326, 102, 1, 9), (.lstore_n 2, 2, 0, 0), (.aload_n 0, 0, 0, 0), (.getfield 57, 18, 9, 2), (.iload_n 1, 1, 0, 0), (.lload_n 2, 2, 0, 0), (.ldc2_w 340, 48, 0, 0), (.lcmp, 0, 0, 0), (.ifCond .ne 7, 76, 0, 0), (.iconst 1, 4, 0, 0), (.goto 16, 83, 0, 0), (.lload_n 2, 2, 0, 0), (.ldc2_w 342, 49, 0, 0), (.lcmp, 0, 0, 0), (.ifCond .ne 7, 82, 0, 0)], [(.iconst 2, 13, 0, 0), (.goto 4, 83, 0, 0), (.iconst 0, 5, 0, 0), (.iastore, 0, 0, 0), (.aload_n 0, 0, 0, 0), (.getfield 57, 18, 9, 2), (.iload_n 1, 1, 0, 0), (.iaload, 0, 0, 0), (.ifCond .le 45, 111, 0, 0), (.aload_n 0, 0, 0, 0), (.getfield 153, 3, 9, 0), (.ifCond .ne 38, 111, 0, 0), (.aload_n 0, 0, 0, 0), (.invokevirtual 258, 99, 1, 9), (.aload_n 0, 0, 0, 0), (.sipush 1023, 53, 0, 0)], [(.invokevirtual 261, 111, 2, 9), (.aload_n 0, 0, 0, 0), (.getfield 60, 19, 9, 2), (.iload_n 1, 1, 0, 0), (.aload_n 0, 0, 0, 0), (.getfield 195, 28, 9, 0), (.iastore, 0, 0, 0), (.aload_n 0, 0, 0, 0), (.getfield 63, 20, 9, 2), (.iload_n 1, 1, 0, 0), (.aload_n 0, 0, 0, 0), (.getfield 205, 29, 9, 0), (.iastore, 0, 0, 0), (.aload_n 0, 0, 0, 0), (.invokevirtual 258, 99, 1, 9), (.aload_n 0, 0, 0, 0)], [(.getfield 66, 21, 9, 2), (.aload_n 0, 0, 0, 0), (.getfield 240, 23, 9, 0), (.dup2, 0, 0, 0), (.iaload, 0, 0, 0), (.iconst 1, 4, 0, 0), (.iadd, 0, 0, 0), (.iastore, 0, 0, 0), (.return_, 0, 0, 0)]]
/-- 127: ScanChartModel.line()V -/
def am_c127 : List (List am_Ins) := [[(.aload_n 0, 0, 0, 0), (.getfield 156, 26, 9, 0), (.iconst 1, 4, 0, 0), (.isub, 0, 0, 0), (.istore_n 1, 1, 0, 0), (.aload_n 0, 0, 0, 0), (.aload_n 0, 0, 0, 0), (.getfield 162, 25, 9, 0), (.invokevirtual 187, 108, 2, 9), (.bipush 76, 26, 0, 0), (.if_icmp .ne 103, 66, 0, 0), (.aload_n 0, 0, 0, 0), (.getfield 7, 1, 9, 2), (.iload_n 1, 1, 0, 0), (.iaload, 0, 0, 0), (.bipush 58, 27, 0, 0)], [(.if_icmp .ne 92, 66, 0, 0), (.aload_n 0, 0, 0, 0), (.iload_n 1, 1, 0, 0), (.invokevirtual 289, 118, 2, 9), (.istore_n 2, 2, 0, 0), (.aload_n 0, 0, 0, 0), (.getfield 153, 3, 9, 0), (.ifCond .ne 29, 39, 0, 0), (.aload_n 0, 0, 0, 0), (.getfield 35, 11, 9, 2), (.bipush 32, 1, 0, 0), (.aload_n 0, 0, 0, 0), (.getfield 240, 23, 9, 0), (.imul, 0, 0, 0), (.iload_n 2, 2, 0, 0), (.iadd, 0, 0, 0)], [(.iaload, 0, 0, 0), (.ifCond .lt 12, 39, 0, 0), (.aload_n 0, 0, 0, 0), (.iconst 4, 6, 0, 0), (.aload_n 0, 0, 0, 0), (.getfield 162, 25, 9, 0), (.invokevirtual 179, 98, 3, 9), (.aload_n 0, 0, 0, 0), (.getfield 251, 27, 9, 0), (.ifCond .le 12, 47, 0, 0), (.aload_n 0, 0, 0, 0), (.iconst 5, 12, 0, 0), (.aload_n 0, 0, 0, 0), (.getfield 162, 25, 9, 0), (.invokevirtual 179, 98, 3, 9), (.aload_n 0, 0, 0, 0)], [(.getfield 153, 3, 9, 0), (.ifCond .ne 26, 64, 0, 0), (.aload_n 0, 0, 0, 0), (.getfield 35, 11, 9, 2), (.bipush 32, 1, 0, 0), (.aload_n 0, 0, 0, 0), (.getfield 240, 23, 9, 0), (.imul, 0, 0, 0), (.iload_n 2, 2, 0, 0), (.iadd, 0, 0, 0), (.aload_n 0, 0, 0, 0), (.getfield 32, 10, 9, 2), (.aload_n 0, 0, 0, 0), (.getfield 240, 23, 9, 0), (.iaload, 0, 0, 0), (.iastore, 0, 0, 0)], [(.aload_n 0, 0, 0, 0), (.invokevirtual 258, 99, 1, 9), (.aload_n 0, 0, 0, 0), (.getfield 153, 3, 9, 0), (.ifCond .gt 10, 72, 0, 0), (.aload_n 0, 0, 0, 0), (.invokevirtual 344, 101, 1, 9), (.ifCond .eq 4, 73, 0, 0), (.return_, 0, 0, 0), (.aload_n 0, 0, 0, 0), (.invokevirtual 326, 102, 1, 9), (.lstore_n 2, 2, 0, 0), (.lload_n 2, 2, 0, 0), (.ldc2_w 347, 50, 0, 0), (.lcmp, 0, 0, 0), (.ifCond .ne 10, 83, 0, 0)], [(.aload_n 0, 0, 0, 0), (.invokevirtual 349, 124, 1, 9), (.goto 74, 118, 0, 0), (.lload_n 2, 2, 0, 0), (.ldc2_w 352, 51, 0, 0), (.lcmp, 0, 0, 0), (.ifCond .ne 10, 90, 0, 0), (.aload_n 0, 0, 0, 0), (.invokevirtual 354, 126, 1, 9), (.goto 59, 118, 0, 0), (.aload_n 0, 0, 0, 0), (.lload_n 2, 2, 0, 0), (.invokevirtual 357, 116, 2, 9), (.ifCond .ne 35, 110, 0, 0), (.aload_n 0, 0, 0, 0), (.lload_n 2, 2, 0, 0)], [(.invokevirtual 361, 114, 2, 9), (.ifCond .ne 27, 110, 0, 0), (.aload_n 0, 0, 0, 0), (.lload_n 2, 2, 0, 0), (.invokevirtual 364, 117, 2, 9), (.ifCond .ne 19, 110, 0, 0), (.aload_n 0, 0, 0, 0), (.lload_n 2, 2, 0, 0), (.invokevirtual 367, 121, 2, 9), (.ifCond .ne 11, 110, 0, 0), (.aload_n 0, 0, 0, 0), (.lload_n 2, 2, 0, 0), (.invokevirtual 370, 122, 2, 9), (.ifCond .eq 10, 113, 0, 0), (.aload_n 0, 0, 0, 0), (.invokevirtual 258, 99, 1, 9)], [(.goto 12, 118, 0, 0), (.aload_n 0, 0, 0, 0), (.iconst 1, 4, 0, 0), (.aload_n 0, 0, 0, 0), (.getfield 162, 25, 9, 0), (.invokevirtual 179, 98, 3, 9), (.aload_n 0, 0, 0, 0), (.getfield 153, 3, 9, 0), (.ifCond .ne 19, 129, 0, 0), (.aload_n 0, 0, 0, 0), (.invokevirtual 344, 101, 1, 9), (.ifCond .ne 12, 129, 0, 0), (.aload_n 0, 0, 0, 0), (.iconst 1, 4, 0, 0), (.aload_n 0, 0, 0, 0), (.getfield 162, 25, 9, 0)], [(.invokevirtual 179, 98, 3, 9), (.return_, 0, 0, 0)]]
/-- 128: ScanChartModel.begin()V -/
def am_c128 : List (List am_Ins) := [[(.aload_n 0, 0, 0, 0), (.iconst 0, 5, 0, 0), (.putfield 153, 3, 9, 0), (.aload_n 0, 0, 0, 0), (.iconst (-1), 15, 0, 0), (.putfield 13, 4, 9, 0), (.aload_n 0, 0, 0, 0), (.iconst 1, 4, 0, 0), (.aload_n 0, 0, 0, 0), (.getfield 373, 22, 9, 0), (.isub, 0, 0, 0), (.putfield 240, 23, 9, 0), (.aload_n 0, 0, 0, 0), (.iconst 0, 5, 0, 0), (.putfield 156, 26, 9, 0), (.aload_n 0, 0, 0, 0)], [(.iconst 0, 5, 0, 0), (.putfield 251, 27, 9, 0), (.aload_n 0, 0, 0, 0), (.iconst 0, 5, 0, 0), (.putfield 295, 32, 9, 0), (.aload_n 0, 0, 0, 0), (.getfield 32, 10, 9, 2), (.aload_n 0, 0, 0, 0), (.getfield 240, 23, 9, 0), (.iconst 0, 5, 0, 0), (.iastore, 0, 0, 0), (.aload_n 0, 0, 0, 0), (.getfield 66, 21, 9, 2), (.aload_n 0, 0, 0, 0), (.getfield 240, 23, 9, 0), (.iconst 0, 5, 0, 0)], [(.iastore, 0, 0, 0), (.iconst 0, 5, 0, 0), (.istore_n 1, 1, 0, 0), (.iload_n 1, 1, 0, 0), (.bipush 48, 8, 0, 0), (.if_icmp .ge 24, 50, 0, 0), (.aload_n 0, 0, 0, 0), (.getfield 42, 13, 9, 2), (.bipush 48, 8, 0, 0), (.aload_n 0, 0, 0, 0), (.getfield 240, 23, 9, 0), (.imul, 0, 0, 0), (.iload_n 1, 1, 0, 0), (.iadd, 0, 0, 0), (.iconst 0, 5, 0, 0), (.iastore, 0, 0, 0)], [(.iinc 1 1, 1, 4, 0), (.goto (-24), 35, 0, 0), (.iconst 0, 5, 0, 0), (.istore_n 1, 1, 0, 0), (.iload_n 1, 1, 0, 0), (.bipush 32, 1, 0, 0), (.if_icmp .ge 42, 79, 0, 0), (.aload_n 0, 0, 0, 0), (.getfield 35, 11, 9, 2), (.bipush 32, 1, 0, 0), (.aload_n 0, 0, 0, 0), (.getfield 240, 23, 9, 0), (.imul, 0, 0, 0), (.iload_n 1, 1, 0, 0), (.iadd, 0, 0, 0), (.iconst (-1), 15, 0, 0)], [(.iastore, 0, 0, 0), (.aload_n 0, 0, 0, 0), (.getfield 38, 12, 9, 2), (.bipush 16, 7, 0, 0), (.aload_n 0, 0, 0, 0), (.getfield 240, 23, 9, 0), (.imul, 0, 0, 0), (.iload_n 1, 1, 0, 0), (.bipush 16, 7, 0, 0), (.irem, 0, 0, 0), (.iadd, 0, 0, 0), (.iconst 0, 5, 0, 0), (.bastore, 0, 0, 0), (.iinc 1 1, 1, 4, 0), (.goto (-42), 52, 0, 0), (.return_, 0, 0, 0)]]
/-- 129: ScanChartModel.load()I -/
def am_c129 : List (List am_Ins) := [[(.aload_n 0, 0, 0, 0), (.iconst 0, 5, 0, 0), (.putfield 145, 0, 9, 0), (.aload_n 0, 0, 0, 0), (.invokevirtual 376, 128, 1, 9), (.aload_n 0, 0, 0, 0), (.invokevirtual 258, 99, 1, 9), (.aload_n 0, 0, 0, 0), (.getfield 153, 3, 9, 0), (.ifCond .ne 28, 21, 0, 0), (.aload_n 0, 0, 0, 0), (.invokevirtual 379, 100, 1, 9), (.ifCond .ne 21, 21, 0, 0), (.aload_n 0, 0, 0, 0), (.invokevirtual 344, 101, 1, 9), (.ifCond .ne 7, 18, 0, 0)], [(.aload_n 0, 0, 0, 0), (.invokevirtual 382, 127, 1, 9), (.aload_n 0, 0, 0, 0), (.invokevirtual 258, 99, 1, 9), (.goto (-29), 7, 0, 0), (.aload_n 0, 0, 0, 0), (.getfield 153, 3, 9, 0), (.ifCond .ne 19, 32, 0, 0), (.aload_n 0, 0, 0, 0), (.getfield 251, 27, 9, 0), (.ifCond .le 12, 32, 0, 0), (.aload_n 0, 0, 0, 0), (.iconst 5, 12, 0, 0), (.aload_n 0, 0, 0, 0), (.getfield 148, 2, 9, 0), (.invokevirtual 179, 98, 3, 9)], [(.iconst 0, 5, 0, 0), (.istore_n 1, 1, 0, 0), (.iload_n 1, 1, 0, 0), (.aload_n 0, 0, 0, 0), (.getfield 295, 32, 9, 0), (.if_icmp .ge 88, 86, 0, 0), (.aload_n 0, 0, 0, 0), (.getfield 153, 3, 9, 0), (.ifCond .ne 81, 86, 0, 0), (.aload_n 0, 0, 0, 0), (.getfield 69, 30, 9, 2), (.iload_n 1, 1, 0, 0), (.iaload, 0, 0, 0), (.istore_n 2, 2, 0, 0), (.iload_n 2, 2, 0, 0), (.bipush 100, 36, 0, 0)], [(.if_icmp .ge 28, 63, 0, 0), (.aload_n 0, 0, 0, 0), (.getfield 35, 11, 9, 2), (.bipush 32, 1, 0, 0), (.aload_n 0, 0, 0, 0), (.getfield 240, 23, 9, 0), (.imul, 0, 0, 0), (.iload_n 2, 2, 0, 0), (.iadd, 0, 0, 0), (.iaload, 0, 0, 0), (.ifCond .lt 7, 61, 0, 0), (.iconst 1, 4, 0, 0), (.goto 24, 74, 0, 0), (.iconst 0, 5, 0, 0), (.goto 20, 74, 0, 0), (.aload_n 0, 0, 0, 0)], [(.getfield 38, 12, 9, 2), (.bipush 16, 7, 0, 0), (.aload_n 0, 0, 0, 0), (.getfield 240, 23, 9, 0), (.imul, 0, 0, 0), (.iload_n 2, 2, 0, 0), (.iadd, 0, 0, 0), (.bipush 100, 36, 0, 0), (.isub, 0, 0, 0), (.baload, 0, 0, 0), (.istore_n 3, 3, 0, 0), (.iload_n 3, 3, 0, 0), (.ifCond .ne 15, 84, 0, 0), (.aload_n 0, 0, 0, 0), (.bipush 6, 0, 0, 0), (.aload_n 0, 0, 0, 0)], [(.getfield 72, 31, 9, 2), (.iload_n 1, 1, 0, 0), (.iaload, 0, 0, 0), (.invokevirtual 179, 98, 3, 9), (.iinc 1 1, 1, 4, 0), (.goto (-90), 34, 0, 0), (.aload_n 0, 0, 0, 0), (.getfield 153, 3, 9, 0), (.ifCond .le 5, 91, 0, 0), (.iconst (-1), 15, 0, 0), (.ireturn, 0, 0, 0), (.aload_n 0, 0, 0, 0), (.aload_n 0, 0, 0, 0), (.getfield 240, 23, 9, 0), (.putfield 373, 22, 9, 0), (.aload_n 0, 0, 0, 0)], [(.invokevirtual 142, 132, 1, 9), (.aload_n 0, 0, 0, 0), (.getfield 32, 10, 9, 2), (.aload_n 0, 0, 0, 0), (.getfield 373, 22, 9, 0), (.iaload, 0, 0, 0), (.ireturn, 0, 0, 0)]]
/-- 130: ScanChartModel.fault()I -/
def am_c130 : List (List am_Ins) := [[(.aload_n 0, 0, 0, 0), (.iconst 0, 5, 0, 0), (.putfield 145, 0, 9, 0), (.aload_n 0, 0, 0, 0), (.getfield 153, 3, 9, 0), (.ireturn, 0, 0, 0)]]
/-- 131: ScanChartModel.place()I -/
def am_c131 : List (List am_Ins) := [[(.aload_n 0, 0, 0, 0), (.iconst 0, 5, 0, 0), (.putfield 145, 0, 9, 0), (.aload_n 0, 0, 0, 0), (.getfield 13, 4, 9, 0), (.ireturn, 0, 0, 0)]]
/-- 132: ScanChartModel.resetAll()V -/
def am_c132 : List (List am_Ins) := [[(.iconst 0, 5, 0, 0), (.istore_n 1, 1, 0, 0), (.iload_n 1, 1, 0, 0), (.bipush 32, 1, 0, 0), (.if_icmp .ge 44, 32, 0, 0), (.aload_n 0, 0, 0, 0), (.getfield 78, 34, 9, 2), (.iload_n 1, 1, 0, 0), (.iconst 0, 5, 0, 0), (.iastore, 0, 0, 0), (.aload_n 0, 0, 0, 0), (.getfield 81, 35, 9, 2), (.iload_n 1, 1, 0, 0), (.iconst 0, 5, 0, 0), (.iastore, 0, 0, 0), (.aload_n 0, 0, 0, 0)], [(.getfield 84, 36, 9, 2), (.iload_n 1, 1, 0, 0), (.iconst 0, 5, 0, 0), (.iastore, 0, 0, 0), (.aload_n 0, 0, 0, 0), (.getfield 87, 37, 9, 2), (.iload_n 1, 1, 0, 0), (.iconst 0, 5, 0, 0), (.iastore, 0, 0, 0), (.aload_n 0, 0, 0, 0), (.getfield 105, 43, 9, 2), (.iload_n 1, 1, 0, 0), (.iconst 0, 5, 0, 0), (.iastore, 0, 0, 0), (.iinc 1 1, 1, 4, 0), (.goto (-44), 2, 0, 0)], [(.iconst 0, 5, 0, 0), (.istore_n 1, 1, 0, 0), (.iload_n 1, 1, 0, 0), (.bipush 8, 2, 0, 0), (.if_icmp .ge 92, 94, 0, 0), (.aload_n 0, 0, 0, 0), (.getfield 90, 38, 9, 2), (.iload_n 1, 1, 0, 0), (.iconst 0, 5, 0, 0), (.iastore, 0, 0, 0), (.aload_n 0, 0, 0, 0), (.getfield 93, 39, 9, 2), (.iload_n 1, 1, 0, 0), (.iconst 0, 5, 0, 0), (.iastore, 0, 0, 0), (.aload_n 0, 0, 0, 0)], [(.getfield 96, 40, 9, 2), (.iload_n 1, 1, 0, 0), (.iconst 0, 5, 0, 0), (.iastore, 0, 0, 0), (.aload_n 0, 0, 0, 0), (.getfield 99, 41, 9, 2), (.iload_n 1, 1, 0, 0), (.iconst 0, 5, 0, 0), (.iastore, 0, 0, 0), (.aload_n 0, 0, 0, 0), (.getfield 108, 48, 9, 2), (.iload_n 1, 1, 0, 0), (.ldc2_w 385, 1, 0, 0), (.lastore, 0, 0, 0), (.aload_n 0, 0, 0, 0), (.getfield 112, 49, 9, 2)], [(.iload_n 1, 1, 0, 0), (.iconst 0, 5, 0, 0), (.bastore, 0, 0, 0), (.aload_n 0, 0, 0, 0), (.getfield 115, 50, 9, 2), (.iload_n 1, 1, 0, 0), (.ldc2_w 385, 1, 0, 0), (.lastore, 0, 0, 0), (.aload_n 0, 0, 0, 0), (.getfield 118, 51, 9, 2), (.iload_n 1, 1, 0, 0), (.ldc2_w 385, 1, 0, 0), (.lastore, 0, 0, 0), (.aload_n 0, 0, 0, 0), (.getfield 121, 52, 9, 2), (.iload_n 1, 1, 0, 0)], [(.iconst 0, 5, 0, 0), (.bastore, 0, 0, 0), (.aload_n 0, 0, 0, 0), (.getfield 124, 53, 9, 2), (.iload_n 1, 1, 0, 0), (.iconst 0, 5, 0, 0), (.bastore, 0, 0, 0), (.aload_n 0, 0, 0, 0), (.getfield 127, 54, 9, 2), (.iload_n 1, 1, 0, 0), (.iconst 0, 5, 0, 0), (.bastore, 0, 0, 0), (.iinc 1 1, 1, 4, 0), (.goto (-92), 34, 0, 0), (.iconst 0, 5, 0, 0), (.istore_n 1, 1, 0, 0)], [(.iload_n 1, 1, 0, 0), (.bipush 16, 7, 0, 0), (.if_icmp .ge 38, 120, 0, 0), (.aload_n 0, 0, 0, 0), (.getfield 102, 42, 9, 2), (.iload_n 1, 1, 0, 0), (.iload_n 1, 1, 0, 0), (.ifCond .ne 7, 106, 0, 0), (.iconst 1, 4, 0, 0), (.goto 4, 107, 0, 0), (.iconst 0, 5, 0, 0), (.iastore, 0, 0, 0), (.aload_n 0, 0, 0, 0), (.getfield 130, 55, 9, 2), (.iload_n 1, 1, 0, 0), (.iconst 0, 5, 0, 0)], [(.bastore, 0, 0, 0), (.aload_n 0, 0, 0, 0), (.getfield 133, 56, 9, 2), (.iload_n 1, 1, 0, 0), (.iconst 0, 5, 0, 0), (.bastore, 0, 0, 0), (.iinc 1 1, 1, 4, 0), (.goto (-38), 96, 0, 0), (.aload_n 0, 0, 0, 0), (.lconst 0, 0, 0, 0), (.putfield 387, 44, 9, 1), (.aload_n 0, 0, 0, 0), (.iconst 0, 5, 0, 0), (.putfield 391, 45, 9, 0), (.aload_n 0, 0, 0, 0), (.iconst 0, 5, 0, 0)], [(.putfield 394, 46, 9, 0), (.aload_n 0, 0, 0, 0), (.iconst 0, 5, 0, 0), (.putfield 397, 47, 9, 0), (.return_, 0, 0, 0)]]
/-- 133: ScanChartModel.reset()V -/
def am_c133 : List (List am_Ins) := [[(.aload_n 0, 0, 0, 0), (.iconst 0, 5, 0, 0), (.putfield 145, 0, 9, 0), (.aload_n 0, 0, 0, 0), (.invokevirtual 142, 132, 1, 9), (.return_, 0, 0, 0)]]
/-- 134: ScanChartModel.cell(II)I -/
def am_c134 : List (List am_Ins) := [[(.iload_n 1, 1, 0, 0), (.tableswitch 109 0 8 #[51, 53, 60, 67, 74, 81, 88, 95, 102], 8, 5, 0), (.iload_n 2, 2, 0, 0), (.ireturn, 0, 0, 0), (.aload_n 0, 0, 0, 0), (.getfield 78, 34, 9, 2), (.iload_n 2, 2, 0, 0), (.iaload, 0, 0, 0), (.ireturn, 0, 0, 0), (.aload_n 0, 0, 0, 0), (.getfield 81, 35, 9, 2), (.iload_n 2, 2, 0, 0), (.iaload, 0, 0, 0), (.ireturn, 0, 0, 0), (.aload_n 0, 0, 0, 0), (.getfield 84, 36, 9, 2)], [(.iload_n 2, 2, 0, 0), (.iaload, 0, 0, 0), (.ireturn, 0, 0, 0), (.aload_n 0, 0, 0, 0), (.getfield 87, 37, 9, 2), (.iload_n 2, 2, 0, 0), (.iaload, 0, 0, 0), (.ireturn, 0, 0, 0), (.aload_n 0, 0, 0, 0), (.getfield 93, 39, 9, 2), (.iload_n 2, 2, 0, 0), (.iaload, 0, 0, 0), (.ireturn, 0, 0, 0), (.aload_n 0, 0, 0, 0), (.getfield 90, 38, 9, 2), (.iload_n 2, 2, 0, 0)], [(.iaload, 0, 0, 0), (.ireturn, 0, 0, 0), (.aload_n 0, 0, 0, 0), (.getfield 99, 41, 9, 2), (.iload_n 2, 2, 0, 0), (.iaload, 0, 0, 0), (.ireturn, 0, 0, 0), (.aload_n 0, 0, 0, 0), (.getfield 96, 40, 9, 2), (.iload_n 2, 2, 0, 0), (.iaload, 0, 0, 0), (.ireturn, 0, 0, 0), (.aload_n 0, 0, 0, 0), (.getfield 102, 42, 9, 2), (.iload_n 2, 2, 0, 0), (.iaload, 0, 0, 0)], [(.ireturn, 0, 0, 0)]]
/-- 135: ScanChartModel.setBit(III)V -/
def am_c135 : List (List am_Ins) := [[(.iload_n 1, 1, 0, 0), (.iconst 2, 13, 0, 0), (.if_icmp .ne 13, 9, 0, 0), (.aload_n 0, 0, 0, 0), (.getfield 81, 35, 9, 2), (.iload_n 2, 2, 0, 0), (.iload_n 3, 3, 0, 0), (.iastore, 0, 0, 0), (.goto 10, 14, 0, 0), (.aload_n 0, 0, 0, 0), (.getfield 84, 36, 9, 2), (.iload_n 2, 2, 0, 0), (.iload_n 3, 3, 0, 0), (.iastore, 0, 0, 0), (.return_, 0, 0, 0)]]
/-- 136: ScanChartModel.past(JI)I -/
def am_c136 : List (List am_Ins) := [[(.aload_n 0, 0, 0, 0), (.getfield 387, 44, 9, 1), (.lload_n 1, 1, 0, 0), (.lsub, 0, 0, 0), (.lstore 4, 4, 0, 0), (.lload 4, 4, 0, 0), (.iload_n 3, 3, 0, 0), (.i2l, 0, 0, 0), (.lcmp, 0, 0, 0), (.ifCond .ge 9, 13, 0, 0), (.lload 4, 4, 0, 0), (.l2i, 0, 0, 0), (.goto 4, 14, 0, 0), (.iload_n 3, 3, 0, 0), (.ireturn, 0, 0, 0)]]
/-- 137: ScanChartModel.timer(III)V -/
def am_c137 : List (List am_Ins) := [[(.aload_n 0, 0, 0, 0), (.getfield 400, 60, 9, 0), (.ifCond .eq 7, 5, 0, 0), (.iconst 1, 4, 0, 0), (.goto 4, 6, 0, 0), (.iconst 0, 5, 0, 0), (.istore 4, 4, 0, 0), (.aload_n 0, 0, 0, 0), (.getfield 90, 38, 9, 2), (.iload_n 2, 2, 0, 0), (.iconst 0, 5, 0, 0), (.iastore, 0, 0, 0), (.aload_n 0, 0, 0, 0), (.getfield 93, 39, 9, 2), (.iload_n 2, 2, 0, 0), (.iconst 0, 5, 0, 0)], [(.iastore, 0, 0, 0), (.iload_n 1, 1, 0, 0), (.bipush 22, 58, 0, 0), (.if_icmp .ne 90, 69, 0, 0), (.aload_n 0, 0, 0, 0), (.getfield 108, 48, 9, 2), (.iload_n 2, 2, 0, 0), (.iload 4, 4, 0, 0), (.ifCond .ne 9, 27, 0, 0), (.ldc2_w 385, 1, 0, 0), (.goto 27, 41, 0, 0), (.aload_n 0, 0, 0, 0), (.getfield 108, 48, 9, 2), (.iload_n 2, 2, 0, 0), (.laload, 0, 0, 0), (.lconst 0, 0, 0, 0)], [(.lcmp, 0, 0, 0), (.ifCond .ge 10, 37, 0, 0), (.aload_n 0, 0, 0, 0), (.getfield 387, 44, 9, 1), (.goto 9, 41, 0, 0), (.aload_n 0, 0, 0, 0), (.getfield 108, 48, 9, 2), (.iload_n 2, 2, 0, 0), (.laload, 0, 0, 0), (.lastore, 0, 0, 0), (.iload 4, 4, 0, 0), (.ifCond .eq 322, 230, 0, 0), (.aload_n 0, 0, 0, 0), (.getfield 90, 38, 9, 2), (.iload_n 2, 2, 0, 0), (.aload_n 0, 0, 0, 0)], [(.aload_n 0, 0, 0, 0), (.getfield 108, 48, 9, 2), (.iload_n 2, 2, 0, 0), (.laload, 0, 0, 0), (.iload_n 3, 3, 0, 0), (.invokevirtual 403, 136, 3, 9), (.iastore, 0, 0, 0), (.aload_n 0, 0, 0, 0), (.getfield 93, 39, 9, 2), (.iload_n 2, 2, 0, 0), (.aload_n 0, 0, 0, 0), (.getfield 90, 38, 9, 2), (.iload_n 2, 2, 0, 0), (.iaload, 0, 0, 0), (.iload_n 3, 3, 0, 0), (.if_icmp .ne 7, 66, 0, 0)], [(.iconst 1, 4, 0, 0), (.goto 4, 67, 0, 0), (.iconst 0, 5, 0, 0), (.iastore, 0, 0, 0), (.goto 281, 230, 0, 0), (.iload_n 1, 1, 0, 0), (.bipush 23, 59, 0, 0), (.if_icmp .ne 143, 151, 0, 0), (.aload_n 0, 0, 0, 0), (.getfield 112, 49, 9, 2), (.iload_n 2, 2, 0, 0), (.aload_n 0, 0, 0, 0), (.getfield 112, 49, 9, 2), (.iload_n 2, 2, 0, 0), (.baload, 0, 0, 0), (.ifCond .ne 8, 82, 0, 0)], [(.iload 4, 4, 0, 0), (.ifCond .eq 7, 84, 0, 0), (.iconst 1, 4, 0, 0), (.goto 4, 85, 0, 0), (.iconst 0, 5, 0, 0), (.bastore, 0, 0, 0), (.aload_n 0, 0, 0, 0), (.getfield 115, 50, 9, 2), (.iload_n 2, 2, 0, 0), (.iload 4, 4, 0, 0), (.ifCond .eq 9, 93, 0, 0), (.ldc2_w 385, 1, 0, 0), (.goto 36, 112, 0, 0), (.aload_n 0, 0, 0, 0), (.getfield 115, 50, 9, 2), (.iload_n 2, 2, 0, 0)], [(.laload, 0, 0, 0), (.lconst 0, 0, 0, 0), (.lcmp, 0, 0, 0), (.ifCond .ge 19, 108, 0, 0), (.aload_n 0, 0, 0, 0), (.getfield 112, 49, 9, 2), (.iload_n 2, 2, 0, 0), (.baload, 0, 0, 0), (.ifCond .eq 10, 108, 0, 0), (.aload_n 0, 0, 0, 0), (.getfield 387, 44, 9, 1), (.goto 9, 112, 0, 0), (.aload_n 0, 0, 0, 0), (.getfield 115, 50, 9, 2), (.iload_n 2, 2, 0, 0), (.laload, 0, 0, 0)], [(.lastore, 0, 0, 0), (.iload 4, 4, 0, 0), (.ifCond .eq 13, 121, 0, 0), (.aload_n 0, 0, 0, 0), (.getfield 93, 39, 9, 2), (.iload_n 2, 2, 0, 0), (.iconst 1, 4, 0, 0), (.iastore, 0, 0, 0), (.goto 185, 230, 0, 0), (.aload_n 0, 0, 0, 0), (.getfield 112, 49, 9, 2), (.iload_n 2, 2, 0, 0), (.baload, 0, 0, 0), (.ifCond .eq 176, 230, 0, 0), (.aload_n 0, 0, 0, 0), (.getfield 90, 38, 9, 2)], [(.iload_n 2, 2, 0, 0), (.aload_n 0, 0, 0, 0), (.aload_n 0, 0, 0, 0), (.getfield 115, 50, 9, 2), (.iload_n 2, 2, 0, 0), (.laload, 0, 0, 0), (.iload_n 3, 3, 0, 0), (.invokevirtual 403, 136, 3, 9), (.iastore, 0, 0, 0), (.aload_n 0, 0, 0, 0), (.getfield 93, 39, 9, 2), (.iload_n 2, 2, 0, 0), (.aload_n 0, 0, 0, 0), (.getfield 90, 38, 9, 2), (.iload_n 2, 2, 0, 0), (.iaload, 0, 0, 0)], [(.iload_n 3, 3, 0, 0), (.if_icmp .ge 7, 148, 0, 0), (.iconst 1, 4, 0, 0), (.goto 4, 149, 0, 0), (.iconst 0, 5, 0, 0), (.iastore, 0, 0, 0), (.goto 135, 230, 0, 0), (.aload_n 0, 0, 0, 0), (.getfield 118, 51, 9, 2), (.iload_n 2, 2, 0, 0), (.iload 4, 4, 0, 0), (.ifCond .eq 30, 171, 0, 0), (.aload_n 0, 0, 0, 0), (.getfield 118, 51, 9, 2), (.iload_n 2, 2, 0, 0), (.laload, 0, 0, 0)], [(.lconst 0, 0, 0, 0), (.lcmp, 0, 0, 0), (.ifCond .ge 19, 171, 0, 0), (.aload_n 0, 0, 0, 0), (.getfield 121, 52, 9, 2), (.iload_n 2, 2, 0, 0), (.baload, 0, 0, 0), (.ifCond .ne 10, 171, 0, 0), (.aload_n 0, 0, 0, 0), (.getfield 387, 44, 9, 1), (.goto 9, 175, 0, 0), (.aload_n 0, 0, 0, 0), (.getfield 118, 51, 9, 2), (.iload_n 2, 2, 0, 0), (.laload, 0, 0, 0), (.lastore, 0, 0, 0)], [(.aload_n 0, 0, 0, 0), (.getfield 121, 52, 9, 2), (.iload_n 2, 2, 0, 0), (.iload 4, 4, 0, 0), (.bastore, 0, 0, 0), (.aload_n 0, 0, 0, 0), (.getfield 118, 51, 9, 2), (.iload_n 2, 2, 0, 0), (.laload, 0, 0, 0), (.lconst 0, 0, 0, 0), (.lcmp, 0, 0, 0), (.ifCond .lt 72, 230, 0, 0), (.aload_n 0, 0, 0, 0), (.getfield 90, 38, 9, 2), (.iload_n 2, 2, 0, 0), (.aload_n 0, 0, 0, 0)], [(.aload_n 0, 0, 0, 0), (.getfield 118, 51, 9, 2), (.iload_n 2, 2, 0, 0), (.laload, 0, 0, 0), (.iload_n 3, 3, 0, 0), (.invokevirtual 403, 136, 3, 9), (.iastore, 0, 0, 0), (.aload_n 0, 0, 0, 0), (.getfield 93, 39, 9, 2), (.iload_n 2, 2, 0, 0), (.aload_n 0, 0, 0, 0), (.getfield 90, 38, 9, 2), (.iload_n 2, 2, 0, 0), (.iaload, 0, 0, 0), (.iload_n 3, 3, 0, 0), (.if_icmp .ge 7, 210, 0, 0)], [(.iconst 1, 4, 0, 0), (.goto 4, 211, 0, 0), (.iconst 0, 5, 0, 0), (.iastore, 0, 0, 0), (.aload_n 0, 0, 0, 0), (.getfield 90, 38, 9, 2), (.iload_n 2, 2, 0, 0), (.iaload, 0, 0, 0), (.iload_n 3, 3, 0, 0), (.if_icmp .ne 24, 230, 0, 0), (.iload 4, 4, 0, 0), (.ifCond .ne 19, 230, 0, 0), (.aload_n 0, 0, 0, 0), (.getfield 118, 51, 9, 2), (.iload_n 2, 2, 0, 0), (.ldc2_w 385, 1, 0, 0)], [(.lastore, 0, 0, 0), (.aload_n 0, 0, 0, 0), (.getfield 90, 38, 9, 2), (.iload_n 2, 2, 0, 0), (.iconst 0, 5, 0, 0), (.iastore, 0, 0, 0), (.aload_n 0, 0, 0, 0), (.aload_n 0, 0, 0, 0), (.getfield 93, 39, 9, 2), (.iload_n 2, 2, 0, 0), (.iaload, 0, 0, 0), (.putfield 400, 60, 9, 0), (.return_, 0, 0, 0)]]
/-- 138: ScanChartModel.counter(III)V -/
def am_c138 : List (List am_Ins) := [[(.aload_n 0, 0, 0, 0), (.getfield 400, 60, 9, 0), (.ifCond .eq 7, 5, 0, 0), (.iconst 1, 4, 0, 0), (.goto 4, 6, 0, 0), (.iconst 0, 5, 0, 0), (.istore 4, 4, 0, 0), (.iload_n 1, 1, 0, 0), (.bipush 25, 61, 0, 0), (.if_icmp .ne 84, 57, 0, 0), (.aload_n 0, 0, 0, 0), (.getfield 96, 40, 9, 2), (.iload_n 2, 2, 0, 0), (.iload 4, 4, 0, 0), (.ifCond .eq 35, 33, 0, 0), (.aload_n 0, 0, 0, 0)], [(.getfield 124, 53, 9, 2), (.iload_n 2, 2, 0, 0), (.baload, 0, 0, 0), (.ifCond .ne 26, 33, 0, 0), (.aload_n 0, 0, 0, 0), (.getfield 96, 40, 9, 2), (.iload_n 2, 2, 0, 0), (.iaload, 0, 0, 0), (.sipush 32767, 19, 0, 0), (.if_icmp .ge 14, 33, 0, 0), (.aload_n 0, 0, 0, 0), (.getfield 96, 40, 9, 2), (.iload_n 2, 2, 0, 0), (.iaload, 0, 0, 0), (.iconst 1, 4, 0, 0), (.iadd, 0, 0, 0)], [(.goto 9, 37, 0, 0), (.aload_n 0, 0, 0, 0), (.getfield 96, 40, 9, 2), (.iload_n 2, 2, 0, 0), (.iaload, 0, 0, 0), (.iastore, 0, 0, 0), (.aload_n 0, 0, 0, 0), (.getfield 124, 53, 9, 2), (.iload_n 2, 2, 0, 0), (.iload 4, 4, 0, 0), (.bastore, 0, 0, 0), (.aload_n 0, 0, 0, 0), (.getfield 99, 41, 9, 2), (.iload_n 2, 2, 0, 0), (.aload_n 0, 0, 0, 0), (.getfield 96, 40, 9, 2)], [(.iload_n 2, 2, 0, 0), (.iaload, 0, 0, 0), (.iload_n 3, 3, 0, 0), (.if_icmp .lt 7, 54, 0, 0), (.iconst 1, 4, 0, 0), (.goto 4, 55, 0, 0), (.iconst 0, 5, 0, 0), (.iastore, 0, 0, 0), (.goto 80, 102, 0, 0), (.aload_n 0, 0, 0, 0), (.getfield 96, 40, 9, 2), (.iload_n 2, 2, 0, 0), (.iload 4, 4, 0, 0), (.ifCond .eq 35, 80, 0, 0), (.aload_n 0, 0, 0, 0), (.getfield 127, 54, 9, 2)], [(.iload_n 2, 2, 0, 0), (.baload, 0, 0, 0), (.ifCond .ne 26, 80, 0, 0), (.aload_n 0, 0, 0, 0), (.getfield 96, 40, 9, 2), (.iload_n 2, 2, 0, 0), (.iaload, 0, 0, 0), (.sipush (-32768), 20, 0, 0), (.if_icmp .le 14, 80, 0, 0), (.aload_n 0, 0, 0, 0), (.getfield 96, 40, 9, 2), (.iload_n 2, 2, 0, 0), (.iaload, 0, 0, 0), (.iconst 1, 4, 0, 0), (.isub, 0, 0, 0), (.goto 9, 84, 0, 0)], [(.aload_n 0, 0, 0, 0), (.getfield 96, 40, 9, 2), (.iload_n 2, 2, 0, 0), (.iaload, 0, 0, 0), (.iastore, 0, 0, 0), (.aload_n 0, 0, 0, 0), (.getfield 127, 54, 9, 2), (.iload_n 2, 2, 0, 0), (.iload 4, 4, 0, 0), (.bastore, 0, 0, 0), (.aload_n 0, 0, 0, 0), (.getfield 99, 41, 9, 2), (.iload_n 2, 2, 0, 0), (.aload_n 0, 0, 0, 0), (.getfield 96, 40, 9, 2), (.iload_n 2, 2, 0, 0)], [(.iaload, 0, 0, 0), (.ifCond .gt 7, 100, 0, 0), (.iconst 1, 4, 0, 0), (.goto 4, 101, 0, 0), (.iconst 0, 5, 0, 0), (.iastore, 0, 0, 0), (.aload_n 0, 0, 0, 0), (.aload_n 0, 0, 0, 0), (.getfield 99, 41, 9, 2), (.iload_n 2, 2, 0, 0), (.iaload, 0, 0, 0), (.putfield 400, 60, 9, 0), (.return_, 0, 0, 0)]]
/-- 139: ScanChartModel.edge(II)V -/
def am_c139 : List (List am_Ins) := [[(.aload_n 0, 0, 0, 0), (.getfield 400, 60, 9, 0), (.ifCond .eq 7, 5, 0, 0), (.iconst 1, 4, 0, 0), (.goto 4, 6, 0, 0), (.iconst 0, 5, 0, 0), (.istore_n 3, 3, 0, 0), (.iload_n 1, 1, 0, 0), (.bipush 28, 56, 0, 0), (.if_icmp .ne 35, 28, 0, 0), (.aload_n 0, 0, 0, 0), (.iload_n 3, 3, 0, 0), (.ifCond .eq 16, 20, 0, 0), (.aload_n 0, 0, 0, 0), (.getfield 130, 55, 9, 2), (.iload_n 2, 2, 0, 0)], [(.baload, 0, 0, 0), (.ifCond .ne 7, 20, 0, 0), (.iconst 1, 4, 0, 0), (.goto 4, 21, 0, 0), (.iconst 0, 5, 0, 0), (.putfield 400, 60, 9, 0), (.aload_n 0, 0, 0, 0), (.getfield 130, 55, 9, 2), (.iload_n 2, 2, 0, 0), (.iload_n 3, 3, 0, 0), (.bastore, 0, 0, 0), (.goto 32, 45, 0, 0), (.aload_n 0, 0, 0, 0), (.iload_n 3, 3, 0, 0), (.ifCond .ne 16, 38, 0, 0), (.aload_n 0, 0, 0, 0)], [(.getfield 133, 56, 9, 2), (.iload_n 2, 2, 0, 0), (.baload, 0, 0, 0), (.ifCond .eq 7, 38, 0, 0), (.iconst 1, 4, 0, 0), (.goto 4, 39, 0, 0), (.iconst 0, 5, 0, 0), (.putfield 400, 60, 9, 0), (.aload_n 0, 0, 0, 0), (.getfield 133, 56, 9, 2), (.iload_n 2, 2, 0, 0), (.iload_n 3, 3, 0, 0), (.bastore, 0, 0, 0), (.return_, 0, 0, 0)]]
/-- 140: ScanChartModel.truth(Z)I -/
def am_c140 : List (List am_Ins) := [[(.iload_n 0, 0, 0, 0), (.ifCond .eq 7, 4, 0, 0), (.iconst 1, 4, 0, 0), (.goto 4, 5, 0, 0), (.iconst 0, 5, 0, 0), (.ireturn, 0, 0, 0)]]
/-- 141: ScanChartModel.made(III)I -/
def am_c141 : List (List am_Ins) := [[(.iload_n 0, 0, 0, 0), (.tableswitch 169 0 12 #[67, 71, 75, 79, 83, 87, 91, 95, 99, 113, 127, 141, 155], 9, 5, 0), (.iload_n 1, 1, 0, 0), (.iload_n 2, 2, 0, 0), (.iand, 0, 0, 0), (.ireturn, 0, 0, 0), (.iload_n 1, 1, 0, 0), (.iload_n 2, 2, 0, 0), (.ior, 0, 0, 0), (.ireturn, 0, 0, 0), (.iload_n 1, 1, 0, 0), (.iload_n 2, 2, 0, 0), (.ixor, 0, 0, 0), (.ireturn, 0, 0, 0), (.iload_n 1, 1, 0, 0), (.iload_n 2, 2, 0, 0)], [(.iadd, 0, 0, 0), (.ireturn, 0, 0, 0), (.iload_n 1, 1, 0, 0), (.iload_n 2, 2, 0, 0), (.isub, 0, 0, 0), (.ireturn, 0, 0, 0), (.iload_n 1, 1, 0, 0), (.iload_n 2, 2, 0, 0), (.imul, 0, 0, 0), (.ireturn, 0, 0, 0), (.iload_n 1, 1, 0, 0), (.iload_n 2, 2, 0, 0), (.idiv, 0, 0, 0), (.ireturn, 0, 0, 0), (.iload_n 1, 1, 0, 0), (.iload_n 2, 2, 0, 0)], [(.irem, 0, 0, 0), (.ireturn, 0, 0, 0), (.iload_n 1, 1, 0, 0), (.iload_n 2, 2, 0, 0), (.if_icmp .le 7, 39, 0, 0), (.iconst 1, 4, 0, 0), (.goto 4, 40, 0, 0), (.iconst 0, 5, 0, 0), (.invokestatic 407, 140, 1, 0), (.ireturn, 0, 0, 0), (.iload_n 1, 1, 0, 0), (.iload_n 2, 2, 0, 0), (.if_icmp .lt 7, 47, 0, 0), (.iconst 1, 4, 0, 0), (.goto 4, 48, 0, 0), (.iconst 0, 5, 0, 0)], [(.invokestatic 407, 140, 1, 0), (.ireturn, 0, 0, 0), (.iload_n 1, 1, 0, 0), (.iload_n 2, 2, 0, 0), (.if_icmp .ne 7, 55, 0, 0), (.iconst 1, 4, 0, 0), (.goto 4, 56, 0, 0), (.iconst 0, 5, 0, 0), (.invokestatic 407, 140, 1, 0), (.ireturn, 0, 0, 0), (.iload_n 1, 1, 0, 0), (.iload_n 2, 2, 0, 0), (.if_icmp .eq 7, 63, 0, 0), (.iconst 1, 4, 0, 0), (.goto 4, 64, 0, 0), (.iconst 0, 5, 0, 0)], [(.invokestatic 407, 140, 1, 0), (.ireturn, 0, 0, 0), (.iload_n 1, 1, 0, 0), (.iload_n 2, 2, 0, 0), (.if_icmp .gt 7, 71, 0, 0), (.iconst 1, 4, 0, 0), (.goto 4, 72, 0, 0), (.iconst 0, 5, 0, 0), (.invokestatic 407, 140, 1, 0), (.ireturn, 0, 0, 0), (.iload_n 1, 1, 0, 0), (.iload_n 2, 2, 0, 0), (.if_icmp .ge 7, 79, 0, 0), (.iconst 1, 4, 0, 0), (.goto 4, 80, 0, 0), (.iconst 0, 5, 0, 0)], [(.invokestatic 407, 140, 1, 0), (.ireturn, 0, 0, 0)]]
/-- 142: ScanChartModel.join(III)I -/
def am_c142 : List (List am_Ins) := [[(.iload_n 1, 1, 0, 0), (.bipush 6, 0, 0, 0), (.if_icmp .eq 9, 6, 0, 0), (.iload_n 1, 1, 0, 0), (.bipush 7, 45, 0, 0), (.if_icmp .ne 9, 10, 0, 0), (.iload_n 3, 3, 0, 0), (.ifCond .ne 5, 10, 0, 0), (.iconst 2, 13, 0, 0), (.ireturn, 0, 0, 0), (.aload_n 0, 0, 0, 0), (.iload_n 1, 1, 0, 0), (.iload_n 2, 2, 0, 0), (.iload_n 3, 3, 0, 0), (.invokestatic 411, 141, 3, 0), (.putfield 400, 60, 9, 0)], [(.iconst 0, 5, 0, 0), (.ireturn, 0, 0, 0)]]
/-- 143: ScanChartModel.signed(I)I -/
def am_c143 : List (List am_Ins) := [[(.aload_n 0, 0, 0, 0), (.getfield 20, 6, 9, 2), (.iload_n 1, 1, 0, 0), (.iaload, 0, 0, 0), (.iconst 2, 13, 0, 0), (.if_icmp .lt 43, 30, 0, 0), (.aload_n 0, 0, 0, 0), (.getfield 136, 57, 9, 2), (.aload_n 0, 0, 0, 0), (.getfield 414, 59, 9, 0), (.aload_n 0, 0, 0, 0), (.getfield 400, 60, 9, 0), (.iastore, 0, 0, 0), (.aload_n 0, 0, 0, 0), (.getfield 139, 58, 9, 2), (.aload_n 0, 0, 0, 0)], [(.getfield 414, 59, 9, 0), (.iload_n 1, 1, 0, 0), (.iastore, 0, 0, 0), (.aload_n 0, 0, 0, 0), (.dup, 0, 0, 0), (.getfield 414, 59, 9, 0), (.iconst 1, 4, 0, 0), (.iadd, 0, 0, 0), (.putfield 414, 59, 9, 0), (.aload_n 0, 0, 0, 0), (.iconst 0, 5, 0, 0), (.putfield 400, 60, 9, 0), (.iconst 0, 5, 0, 0), (.ireturn, 0, 0, 0), (.aload_n 0, 0, 0, 0), (.aload_n 0, 0, 0, 0)], [(.getfield 23, 7, 9, 2), (.iload_n 1, 1, 0, 0), (.iaload, 0, 0, 0), (.aload_n 0, 0, 0, 0), (.getfield 26, 8, 9, 2), (.iload_n 1, 1, 0, 0), (.iaload, 0, 0, 0), (.invokevirtual 417, 134, 3, 9), (.istore_n 2, 2, 0, 0), (.aload_n 0, 0, 0, 0), (.aload_n 0, 0, 0, 0), (.getfield 17, 5, 9, 2), (.iload_n 1, 1, 0, 0), (.iaload, 0, 0, 0), (.aload_n 0, 0, 0, 0), (.getfield 400, 60, 9, 0)], [(.aload_n 0, 0, 0, 0), (.getfield 20, 6, 9, 2), (.iload_n 1, 1, 0, 0), (.iaload, 0, 0, 0), (.iconst 1, 4, 0, 0), (.if_icmp .ne 18, 61, 0, 0), (.iload_n 2, 2, 0, 0), (.ifCond .ne 7, 58, 0, 0), (.iconst 1, 4, 0, 0), (.goto 4, 59, 0, 0), (.iconst 0, 5, 0, 0), (.invokestatic 407, 140, 1, 0), (.goto 4, 62, 0, 0), (.iload_n 2, 2, 0, 0), (.invokevirtual 420, 142, 4, 9), (.ireturn, 0, 0, 0)]]
/-- 144: ScanChartModel.close()I -/
def am_c144 : List (List am_Ins) := [[(.aload_n 0, 0, 0, 0), (.dup, 0, 0, 0), (.getfield 414, 59, 9, 0), (.iconst 1, 4, 0, 0), (.isub, 0, 0, 0), (.putfield 414, 59, 9, 0), (.aload_n 0, 0, 0, 0), (.getfield 139, 58, 9, 2), (.aload_n 0, 0, 0, 0), (.getfield 414, 59, 9, 0), (.iaload, 0, 0, 0), (.istore_n 1, 1, 0, 0), (.aload_n 0, 0, 0, 0), (.aload_n 0, 0, 0, 0), (.getfield 17, 5, 9, 2), (.iload_n 1, 1, 0, 0)], [(.iaload, 0, 0, 0), (.aload_n 0, 0, 0, 0), (.getfield 136, 57, 9, 2), (.aload_n 0, 0, 0, 0), (.getfield 414, 59, 9, 0), (.iaload, 0, 0, 0), (.aload_n 0, 0, 0, 0), (.getfield 20, 6, 9, 2), (.iload_n 1, 1, 0, 0), (.iaload, 0, 0, 0), (.iconst 3, 3, 0, 0), (.if_icmp .ne 21, 36, 0, 0), (.aload_n 0, 0, 0, 0), (.getfield 400, 60, 9, 0), (.ifCond .ne 7, 33, 0, 0), (.iconst 1, 4, 0, 0)], [(.goto 4, 34, 0, 0), (.iconst 0, 5, 0, 0), (.invokestatic 407, 140, 1, 0), (.goto 7, 38, 0, 0), (.aload_n 0, 0, 0, 0), (.getfield 400, 60, 9, 0), (.invokevirtual 420, 142, 4, 9), (.ireturn, 0, 0, 0)]]
/-- 145: ScanChartModel.store(I)V -/
def am_c145 : List (List am_Ins) := [[(.aload_n 0, 0, 0, 0), (.getfield 17, 5, 9, 2), (.iload_n 1, 1, 0, 0), (.iaload, 0, 0, 0), (.bipush 15, 35, 0, 0), (.if_icmp .ne 59, 36, 0, 0), (.aload_n 0, 0, 0, 0), (.getfield 23, 7, 9, 2), (.iload_n 1, 1, 0, 0), (.iaload, 0, 0, 0), (.iconst 4, 6, 0, 0), (.if_icmp .ne 49, 36, 0, 0), (.aload_n 0, 0, 0, 0), (.getfield 87, 37, 9, 2), (.aload_n 0, 0, 0, 0), (.getfield 26, 8, 9, 2)], [(.iload_n 1, 1, 0, 0), (.iaload, 0, 0, 0), (.aload_n 0, 0, 0, 0), (.getfield 20, 6, 9, 2), (.iload_n 1, 1, 0, 0), (.iaload, 0, 0, 0), (.iconst 1, 4, 0, 0), (.if_icmp .ne 21, 32, 0, 0), (.aload_n 0, 0, 0, 0), (.getfield 400, 60, 9, 0), (.ifCond .ne 7, 29, 0, 0), (.iconst 1, 4, 0, 0), (.goto 4, 30, 0, 0), (.iconst 0, 5, 0, 0), (.invokestatic 407, 140, 1, 0), (.goto 7, 34, 0, 0)], [(.aload_n 0, 0, 0, 0), (.getfield 400, 60, 9, 0), (.iastore, 0, 0, 0), (.goto 115, 96, 0, 0), (.aload_n 0, 0, 0, 0), (.getfield 17, 5, 9, 2), (.iload_n 1, 1, 0, 0), (.iaload, 0, 0, 0), (.bipush 15, 35, 0, 0), (.if_icmp .ne 65, 74, 0, 0), (.aload_n 0, 0, 0, 0), (.aload_n 0, 0, 0, 0), (.getfield 23, 7, 9, 2), (.iload_n 1, 1, 0, 0), (.iaload, 0, 0, 0), (.aload_n 0, 0, 0, 0)], [(.getfield 26, 8, 9, 2), (.iload_n 1, 1, 0, 0), (.iaload, 0, 0, 0), (.aload_n 0, 0, 0, 0), (.getfield 20, 6, 9, 2), (.iload_n 1, 1, 0, 0), (.iaload, 0, 0, 0), (.iconst 1, 4, 0, 0), (.if_icmp .ne 21, 65, 0, 0), (.aload_n 0, 0, 0, 0), (.getfield 400, 60, 9, 0), (.ifCond .ne 7, 62, 0, 0), (.iconst 1, 4, 0, 0), (.goto 4, 63, 0, 0), (.iconst 0, 5, 0, 0), (.invokestatic 407, 140, 1, 0)], [(.goto 18, 72, 0, 0), (.aload_n 0, 0, 0, 0), (.getfield 400, 60, 9, 0), (.ifCond .eq 7, 70, 0, 0), (.iconst 1, 4, 0, 0), (.goto 4, 71, 0, 0), (.iconst 0, 5, 0, 0), (.invokestatic 407, 140, 1, 0), (.invokevirtual 423, 135, 4, 9), (.goto 42, 96, 0, 0), (.aload_n 0, 0, 0, 0), (.getfield 400, 60, 9, 0), (.ifCond .eq 35, 96, 0, 0), (.aload_n 0, 0, 0, 0), (.aload_n 0, 0, 0, 0), (.getfield 23, 7, 9, 2)], [(.iload_n 1, 1, 0, 0), (.iaload, 0, 0, 0), (.aload_n 0, 0, 0, 0), (.getfield 26, 8, 9, 2), (.iload_n 1, 1, 0, 0), (.iaload, 0, 0, 0), (.aload_n 0, 0, 0, 0), (.getfield 17, 5, 9, 2), (.iload_n 1, 1, 0, 0), (.iaload, 0, 0, 0), (.bipush 16, 7, 0, 0), (.if_icmp .ne 7, 94, 0, 0), (.iconst 1, 4, 0, 0), (.goto 4, 95, 0, 0), (.iconst 0, 5, 0, 0), (.invokevirtual 423, 135, 4, 9)], [(.return_, 0, 0, 0)]]
/-- 146: ScanChartModel.act(I)I -/
def am_c146 : List (List am_Ins) := [[(.aload_n 0, 0, 0, 0), (.getfield 17, 5, 9, 2), (.iload_n 1, 1, 0, 0), (.iaload, 0, 0, 0), (.istore_n 2, 2, 0, 0), (.iload_n 2, 2, 0, 0), (.bipush 14, 54, 0, 0), (.if_icmp .ge 9, 12, 0, 0), (.aload_n 0, 0, 0, 0), (.iload_n 1, 1, 0, 0), (.invokevirtual 427, 143, 2, 9), (.ireturn, 0, 0, 0), (.iload_n 2, 2, 0, 0), (.bipush 14, 54, 0, 0), (.if_icmp .ne 53, 43, 0, 0), (.aload_n 0, 0, 0, 0)], [(.aload_n 0, 0, 0, 0), (.getfield 23, 7, 9, 2), (.iload_n 1, 1, 0, 0), (.iaload, 0, 0, 0), (.aload_n 0, 0, 0, 0), (.getfield 26, 8, 9, 2), (.iload_n 1, 1, 0, 0), (.iaload, 0, 0, 0), (.invokevirtual 417, 134, 3, 9), (.istore_n 3, 3, 0, 0), (.aload_n 0, 0, 0, 0), (.aload_n 0, 0, 0, 0), (.getfield 20, 6, 9, 2), (.iload_n 1, 1, 0, 0), (.iaload, 0, 0, 0), (.iconst 1, 4, 0, 0)], [(.if_icmp .ne 18, 40, 0, 0), (.iload_n 3, 3, 0, 0), (.ifCond .ne 7, 37, 0, 0), (.iconst 1, 4, 0, 0), (.goto 4, 38, 0, 0), (.iconst 0, 5, 0, 0), (.invokestatic 407, 140, 1, 0), (.goto 4, 41, 0, 0), (.iload_n 3, 3, 0, 0), (.putfield 400, 60, 9, 0), (.goto 161, 129, 0, 0), (.iload_n 2, 2, 0, 0), (.bipush 17, 55, 0, 0), (.if_icmp .gt 11, 50, 0, 0), (.aload_n 0, 0, 0, 0), (.iload_n 1, 1, 0, 0)], [(.invokevirtual 430, 145, 2, 9), (.goto 147, 129, 0, 0), (.iload_n 2, 2, 0, 0), (.bipush 18, 65, 0, 0), (.if_icmp .ne 8, 56, 0, 0), (.aload_n 0, 0, 0, 0), (.invokevirtual 433, 144, 1, 9), (.ireturn, 0, 0, 0), (.iload_n 2, 2, 0, 0), (.bipush 19, 66, 0, 0), (.if_icmp .ne 25, 69, 0, 0), (.aload_n 0, 0, 0, 0), (.aload_n 0, 0, 0, 0), (.getfield 400, 60, 9, 0), (.ifCond .ne 7, 65, 0, 0), (.iconst 1, 4, 0, 0)], [(.goto 4, 66, 0, 0), (.iconst 0, 5, 0, 0), (.invokestatic 407, 140, 1, 0), (.putfield 400, 60, 9, 0), (.goto 108, 129, 0, 0), (.iload_n 2, 2, 0, 0), (.bipush 24, 60, 0, 0), (.if_icmp .gt 23, 84, 0, 0), (.aload_n 0, 0, 0, 0), (.iload_n 2, 2, 0, 0), (.aload_n 0, 0, 0, 0), (.getfield 26, 8, 9, 2), (.iload_n 1, 1, 0, 0), (.iaload, 0, 0, 0), (.aload_n 0, 0, 0, 0), (.getfield 29, 9, 9, 2)], [(.iload_n 1, 1, 0, 0), (.iaload, 0, 0, 0), (.invokevirtual 436, 137, 4, 9), (.goto 82, 129, 0, 0), (.iload_n 2, 2, 0, 0), (.bipush 26, 62, 0, 0), (.if_icmp .gt 23, 99, 0, 0), (.aload_n 0, 0, 0, 0), (.iload_n 2, 2, 0, 0), (.aload_n 0, 0, 0, 0), (.getfield 26, 8, 9, 2), (.iload_n 1, 1, 0, 0), (.iaload, 0, 0, 0), (.aload_n 0, 0, 0, 0), (.getfield 29, 9, 9, 2), (.iload_n 1, 1, 0, 0)], [(.iaload, 0, 0, 0), (.invokevirtual 439, 138, 4, 9), (.goto 56, 129, 0, 0), (.iload_n 2, 2, 0, 0), (.bipush 27, 63, 0, 0), (.if_icmp .ne 39, 122, 0, 0), (.aload_n 0, 0, 0, 0), (.getfield 96, 40, 9, 2), (.aload_n 0, 0, 0, 0), (.getfield 26, 8, 9, 2), (.iload_n 1, 1, 0, 0), (.iaload, 0, 0, 0), (.aload_n 0, 0, 0, 0), (.getfield 400, 60, 9, 0), (.ifCond .eq 7, 113, 0, 0), (.iconst 0, 5, 0, 0)], [(.goto 14, 120, 0, 0), (.aload_n 0, 0, 0, 0), (.getfield 96, 40, 9, 2), (.aload_n 0, 0, 0, 0), (.getfield 26, 8, 9, 2), (.iload_n 1, 1, 0, 0), (.iaload, 0, 0, 0), (.iaload, 0, 0, 0), (.iastore, 0, 0, 0), (.goto 14, 129, 0, 0), (.aload_n 0, 0, 0, 0), (.iload_n 2, 2, 0, 0), (.aload_n 0, 0, 0, 0), (.getfield 26, 8, 9, 2), (.iload_n 1, 1, 0, 0), (.iaload, 0, 0, 0)], [(.invokevirtual 442, 139, 3, 9), (.iconst 0, 5, 0, 0), (.ireturn, 0, 0, 0)]]
/-- 147: ScanChartModel.list()I -/
def am_c147 : List (List am_Ins) := [[(.aload_n 0, 0, 0, 0), (.iconst 0, 5, 0, 0), (.putfield 400, 60, 9, 0), (.aload_n 0, 0, 0, 0), (.iconst 0, 5, 0, 0), (.putfield 414, 59, 9, 0), (.aload_n 0, 0, 0, 0), (.getfield 32, 10, 9, 2), (.aload_n 0, 0, 0, 0), (.getfield 373, 22, 9, 0), (.iaload, 0, 0, 0), (.istore_n 1, 1, 0, 0), (.iconst 0, 5, 0, 0), (.istore_n 2, 2, 0, 0), (.iconst 0, 5, 0, 0), (.istore_n 3, 3, 0, 0)], [(.aload_n 0, 0, 0, 0), (.iconst 0, 5, 0, 0), (.putfield 394, 46, 9, 0), (.iload_n 2, 2, 0, 0), (.iload_n 1, 1, 0, 0), (.if_icmp .ge 193, 122, 0, 0), (.iload_n 3, 3, 0, 0), (.ifCond .ne 189, 122, 0, 0), (.bipush 80, 21, 0, 0), (.aload_n 0, 0, 0, 0), (.getfield 373, 22, 9, 0), (.imul, 0, 0, 0), (.iload_n 2, 2, 0, 0), (.iadd, 0, 0, 0), (.istore 4, 4, 0, 0), (.aload_n 0, 0, 0, 0)], [(.getfield 20, 6, 9, 2), (.iload 4, 4, 0, 0), (.iaload, 0, 0, 0), (.iconst 4, 6, 0, 0), (.if_icmp .ne 18, 44, 0, 0), (.aload_n 0, 0, 0, 0), (.getfield 400, 60, 9, 0), (.ifCond .eq 7, 42, 0, 0), (.iconst 1, 4, 0, 0), (.goto 30, 56, 0, 0), (.iconst 0, 5, 0, 0), (.goto 26, 56, 0, 0), (.aload_n 0, 0, 0, 0), (.getfield 20, 6, 9, 2), (.iload 4, 4, 0, 0), (.iaload, 0, 0, 0)], [(.iconst 5, 12, 0, 0), (.if_icmp .ne 10, 53, 0, 0), (.aload_n 0, 0, 0, 0), (.getfield 400, 60, 9, 0), (.ifCond .ne 7, 55, 0, 0), (.iconst 1, 4, 0, 0), (.goto 4, 56, 0, 0), (.iconst 0, 5, 0, 0), (.istore 5, 5, 0, 0), (.aload_n 0, 0, 0, 0), (.getfield 394, 46, 9, 0), (.sipush 500, 9, 0, 0), (.if_icmp .ne 8, 64, 0, 0), (.iconst 3, 3, 0, 0), (.istore_n 3, 3, 0, 0), (.goto 88, 110, 0, 0)], [(.aload_n 0, 0, 0, 0), (.getfield 17, 5, 9, 2), (.iload 4, 4, 0, 0), (.iaload, 0, 0, 0), (.bipush 20, 14, 0, 0), (.if_icmp .ne 38, 90, 0, 0), (.iload 5, 5, 0, 0), (.ifCond .eq 26, 85, 0, 0), (.aload_n 0, 0, 0, 0), (.getfield 35, 11, 9, 2), (.bipush 32, 1, 0, 0), (.aload_n 0, 0, 0, 0), (.getfield 373, 22, 9, 0), (.imul, 0, 0, 0), (.aload_n 0, 0, 0, 0), (.getfield 26, 8, 9, 2)], [(.iload 4, 4, 0, 0), (.iaload, 0, 0, 0), (.iadd, 0, 0, 0), (.iaload, 0, 0, 0), (.goto 6, 88, 0, 0), (.iload_n 2, 2, 0, 0), (.iconst 1, 4, 0, 0), (.iadd, 0, 0, 0), (.istore_n 2, 2, 0, 0), (.goto 41, 110, 0, 0), (.aload_n 0, 0, 0, 0), (.getfield 17, 5, 9, 2), (.iload 4, 4, 0, 0), (.iaload, 0, 0, 0), (.bipush 21, 57, 0, 0), (.if_icmp .ne 19, 105, 0, 0)], [(.iload 5, 5, 0, 0), (.ifCond .eq 7, 100, 0, 0), (.iload_n 1, 1, 0, 0), (.goto 6, 103, 0, 0), (.iload_n 2, 2, 0, 0), (.iconst 1, 4, 0, 0), (.iadd, 0, 0, 0), (.istore_n 2, 2, 0, 0), (.goto 13, 110, 0, 0), (.aload_n 0, 0, 0, 0), (.iload 4, 4, 0, 0), (.invokevirtual 445, 146, 2, 9), (.istore_n 3, 3, 0, 0), (.iinc 2 1, 2, 4, 0), (.aload_n 0, 0, 0, 0), (.iload_n 3, 3, 0, 0)], [(.ifCond .ne 12, 118, 0, 0), (.aload_n 0, 0, 0, 0), (.getfield 394, 46, 9, 0), (.iconst 1, 4, 0, 0), (.iadd, 0, 0, 0), (.goto 7, 120, 0, 0), (.aload_n 0, 0, 0, 0), (.getfield 394, 46, 9, 0), (.putfield 394, 46, 9, 0), (.goto (-192), 19, 0, 0), (.iload_n 3, 3, 0, 0), (.ireturn, 0, 0, 0)]]
/-- 148: ScanChartModel.chart()V -/
def am_c148 : List (List am_Ins) := [[(.iconst 0, 5, 0, 0), (.istore_n 1, 1, 0, 0), (.iconst 0, 5, 0, 0), (.istore_n 2, 2, 0, 0), (.iconst 0, 5, 0, 0), (.istore_n 3, 3, 0, 0), (.iload_n 3, 3, 0, 0), (.bipush 16, 7, 0, 0), (.if_icmp .ge 20, 20, 0, 0), (.iload_n 1, 1, 0, 0), (.aload_n 0, 0, 0, 0), (.getfield 102, 42, 9, 2), (.iload_n 3, 3, 0, 0), (.iaload, 0, 0, 0), (.iload_n 3, 3, 0, 0), (.ishl, 0, 0, 0)], [(.ior, 0, 0, 0), (.istore_n 1, 1, 0, 0), (.iinc 3 1, 3, 4, 0), (.goto (-20), 6, 0, 0), (.iconst 0, 5, 0, 0), (.istore_n 3, 3, 0, 0), (.bipush 16, 7, 0, 0), (.aload_n 0, 0, 0, 0), (.getfield 373, 22, 9, 0), (.imul, 0, 0, 0), (.istore 4, 4, 0, 0), (.iload 4, 4, 0, 0), (.bipush 16, 7, 0, 0), (.aload_n 0, 0, 0, 0), (.getfield 373, 22, 9, 0), (.imul, 0, 0, 0)], [(.aload_n 0, 0, 0, 0), (.getfield 66, 21, 9, 2), (.aload_n 0, 0, 0, 0), (.getfield 373, 22, 9, 0), (.iaload, 0, 0, 0), (.iadd, 0, 0, 0), (.if_icmp .ge 212, 154, 0, 0), (.aload_n 0, 0, 0, 0), (.getfield 51, 16, 9, 2), (.iload 4, 4, 0, 0), (.iaload, 0, 0, 0), (.iload_n 1, 1, 0, 0), (.iconst (-1), 15, 0, 0), (.ixor, 0, 0, 0), (.iand, 0, 0, 0), (.ifCond .ne 19, 57, 0, 0)], [(.aload_n 0, 0, 0, 0), (.getfield 51, 16, 9, 2), (.iload 4, 4, 0, 0), (.iaload, 0, 0, 0), (.iload_n 3, 3, 0, 0), (.iand, 0, 0, 0), (.ifCond .ne 7, 57, 0, 0), (.iconst 1, 4, 0, 0), (.goto 4, 58, 0, 0), (.iconst 0, 5, 0, 0), (.istore 5, 5, 0, 0), (.aload_n 0, 0, 0, 0), (.getfield 57, 18, 9, 2), (.iload 4, 4, 0, 0), (.iaload, 0, 0, 0), (.ifCond .ne 7, 66, 0, 0)], [(.iconst 0, 5, 0, 0), (.goto 21, 76, 0, 0), (.aload_n 0, 0, 0, 0), (.aload_n 0, 0, 0, 0), (.getfield 60, 19, 9, 2), (.iload 4, 4, 0, 0), (.iaload, 0, 0, 0), (.aload_n 0, 0, 0, 0), (.getfield 63, 20, 9, 2), (.iload 4, 4, 0, 0), (.iaload, 0, 0, 0), (.invokevirtual 417, 134, 3, 9), (.istore 6, 6, 0, 0), (.iload 5, 5, 0, 0), (.ifCond .eq 46, 101, 0, 0), (.aload_n 0, 0, 0, 0)], [(.getfield 57, 18, 9, 2), (.iload 4, 4, 0, 0), (.iaload, 0, 0, 0), (.ifCond .eq 32, 99, 0, 0), (.iload 6, 6, 0, 0), (.ifCond .eq 7, 88, 0, 0), (.iconst 1, 4, 0, 0), (.goto 4, 89, 0, 0), (.iconst 0, 5, 0, 0), (.aload_n 0, 0, 0, 0), (.getfield 57, 18, 9, 2), (.iload 4, 4, 0, 0), (.iaload, 0, 0, 0), (.iconst 1, 4, 0, 0), (.if_icmp .ne 7, 97, 0, 0), (.iconst 1, 4, 0, 0)], [(.goto 4, 98, 0, 0), (.iconst 0, 5, 0, 0), (.if_icmp .ne 7, 101, 0, 0), (.iconst 1, 4, 0, 0), (.goto 4, 102, 0, 0), (.iconst 0, 5, 0, 0), (.istore 5, 5, 0, 0), (.iload 5, 5, 0, 0), (.ifCond .eq 83, 152, 0, 0), (.aload_n 0, 0, 0, 0), (.dup, 0, 0, 0), (.getfield 397, 47, 9, 0), (.iconst 1, 4, 0, 0), (.iadd, 0, 0, 0), (.putfield 397, 47, 9, 0), (.iload_n 3, 3, 0, 0)], [(.aload_n 0, 0, 0, 0), (.getfield 51, 16, 9, 2), (.iload 4, 4, 0, 0), (.iaload, 0, 0, 0), (.ior, 0, 0, 0), (.istore_n 3, 3, 0, 0), (.iload_n 2, 2, 0, 0), (.aload_n 0, 0, 0, 0), (.getfield 54, 17, 9, 2), (.iload 4, 4, 0, 0), (.iaload, 0, 0, 0), (.ior, 0, 0, 0), (.istore_n 2, 2, 0, 0), (.iconst 0, 5, 0, 0), (.istore 7, 7, 0, 0), (.iload 7, 7, 0, 0)], [(.bipush 16, 7, 0, 0), (.if_icmp .ge 43, 152, 0, 0), (.aload_n 0, 0, 0, 0), (.getfield 102, 42, 9, 2), (.iload 7, 7, 0, 0), (.aload_n 0, 0, 0, 0), (.getfield 51, 16, 9, 2), (.iload 4, 4, 0, 0), (.iaload, 0, 0, 0), (.iload 7, 7, 0, 0), (.ishr, 0, 0, 0), (.iconst 1, 4, 0, 0), (.iand, 0, 0, 0), (.iconst 1, 4, 0, 0), (.if_icmp .ne 7, 145, 0, 0), (.iconst 0, 5, 0, 0)], [(.goto 10, 149, 0, 0), (.aload_n 0, 0, 0, 0), (.getfield 102, 42, 9, 2), (.iload 7, 7, 0, 0), (.iaload, 0, 0, 0), (.iastore, 0, 0, 0), (.iinc 7 1, 7, 4, 0), (.goto (-44), 127, 0, 0), (.iinc 4 1, 4, 4, 0), (.goto (-228), 27, 0, 0), (.iconst 0, 5, 0, 0), (.istore 4, 4, 0, 0), (.iload 4, 4, 0, 0), (.bipush 16, 7, 0, 0), (.if_icmp .ge 37, 178, 0, 0), (.aload_n 0, 0, 0, 0)], [(.getfield 102, 42, 9, 2), (.iload 4, 4, 0, 0), (.iload_n 2, 2, 0, 0), (.iload 4, 4, 0, 0), (.ishr, 0, 0, 0), (.iconst 1, 4, 0, 0), (.iand, 0, 0, 0), (.iconst 1, 4, 0, 0), (.if_icmp .ne 7, 171, 0, 0), (.iconst 1, 4, 0, 0), (.goto 10, 175, 0, 0), (.aload_n 0, 0, 0, 0), (.getfield 102, 42, 9, 2), (.iload 4, 4, 0, 0), (.iaload, 0, 0, 0), (.iastore, 0, 0, 0)], [(.iinc 4 1, 4, 4, 0), (.goto (-38), 156, 0, 0), (.iconst 0, 5, 0, 0), (.istore 4, 4, 0, 0), (.iload 4, 4, 0, 0), (.iconst 3, 3, 0, 0), (.if_icmp .ge 170, 271, 0, 0), (.bipush 48, 8, 0, 0), (.aload_n 0, 0, 0, 0), (.getfield 373, 22, 9, 0), (.imul, 0, 0, 0), (.istore 5, 5, 0, 0), (.iload 5, 5, 0, 0), (.bipush 48, 8, 0, 0), (.aload_n 0, 0, 0, 0), (.getfield 373, 22, 9, 0)], [(.imul, 0, 0, 0), (.bipush 48, 8, 0, 0), (.iadd, 0, 0, 0), (.if_icmp .ge 140, 269, 0, 0), (.aload_n 0, 0, 0, 0), (.getfield 102, 42, 9, 2), (.iload 5, 5, 0, 0), (.bipush 48, 8, 0, 0), (.aload_n 0, 0, 0, 0), (.getfield 373, 22, 9, 0), (.imul, 0, 0, 0), (.isub, 0, 0, 0), (.iconst 3, 3, 0, 0), (.idiv, 0, 0, 0), (.iaload, 0, 0, 0), (.iconst 1, 4, 0, 0)], [(.if_icmp .ne 7, 211, 0, 0), (.iconst 1, 4, 0, 0), (.goto 4, 212, 0, 0), (.iconst 0, 5, 0, 0), (.istore 6, 6, 0, 0), (.aload_n 0, 0, 0, 0), (.getfield 42, 13, 9, 2), (.iload 5, 5, 0, 0), (.iaload, 0, 0, 0), (.iconst 1, 4, 0, 0), (.if_icmp .ne 39, 237, 0, 0), (.iload 4, 4, 0, 0), (.ifCond .eq 14, 226, 0, 0), (.iload 4, 4, 0, 0), (.iconst 1, 4, 0, 0), (.if_icmp .ne 28, 237, 0, 0)], [(.iload 6, 6, 0, 0), (.ifCond .eq 23, 237, 0, 0), (.aload_n 0, 0, 0, 0), (.aload_n 0, 0, 0, 0), (.getfield 45, 14, 9, 2), (.iload 5, 5, 0, 0), (.iaload, 0, 0, 0), (.aload_n 0, 0, 0, 0), (.getfield 48, 15, 9, 2), (.iload 5, 5, 0, 0), (.iaload, 0, 0, 0), (.iload 4, 4, 0, 0), (.invokevirtual 423, 135, 4, 9), (.aload_n 0, 0, 0, 0), (.getfield 42, 13, 9, 2), (.iload 5, 5, 0, 0)], [(.iaload, 0, 0, 0), (.iconst 1, 4, 0, 0), (.if_icmp .le 48, 267, 0, 0), (.iload 4, 4, 0, 0), (.iconst 2, 13, 0, 0), (.if_icmp .ne 42, 267, 0, 0), (.iload 6, 6, 0, 0), (.ifCond .eq 37, 267, 0, 0), (.aload_n 0, 0, 0, 0), (.aload_n 0, 0, 0, 0), (.getfield 45, 14, 9, 2), (.iload 5, 5, 0, 0), (.iaload, 0, 0, 0), (.aload_n 0, 0, 0, 0), (.getfield 48, 15, 9, 2), (.iload 5, 5, 0, 0)], [(.iaload, 0, 0, 0), (.aload_n 0, 0, 0, 0), (.getfield 42, 13, 9, 2), (.iload 5, 5, 0, 0), (.iaload, 0, 0, 0), (.iconst 2, 13, 0, 0), (.if_icmp .ne 7, 265, 0, 0), (.iconst 1, 4, 0, 0), (.goto 4, 266, 0, 0), (.iconst 0, 5, 0, 0), (.invokevirtual 423, 135, 4, 9), (.iinc 5 1, 5, 4, 0), (.goto (-149), 188, 0, 0), (.iinc 4 1, 4, 4, 0), (.goto (-170), 180, 0, 0), (.return_, 0, 0, 0)]]
/-- 149: ScanChartModel.scanOnce(I)I -/
def am_c149 : List (List am_Ins) := [[(.aload_n 0, 0, 0, 0), (.getfield 391, 45, 9, 0), (.ifCond .le 5, 5, 0, 0), (.iconst (-1), 15, 0, 0), (.ireturn, 0, 0, 0), (.aload_n 0, 0, 0, 0), (.aload_n 0, 0, 0, 0), (.getfield 387, 44, 9, 1), (.iload_n 1, 1, 0, 0), (.i2l, 0, 0, 0), (.ladd, 0, 0, 0), (.putfield 387, 44, 9, 1), (.iconst 0, 5, 0, 0), (.istore_n 2, 2, 0, 0), (.iload_n 2, 2, 0, 0), (.bipush 32, 1, 0, 0)], [(.if_icmp .ge 24, 28, 0, 0), (.aload_n 0, 0, 0, 0), (.getfield 78, 34, 9, 2), (.iload_n 2, 2, 0, 0), (.aload_n 0, 0, 0, 0), (.getfield 75, 33, 9, 2), (.iload_n 2, 2, 0, 0), (.baload, 0, 0, 0), (.invokestatic 407, 140, 1, 0), (.iastore, 0, 0, 0), (.iinc 2 1, 2, 4, 0), (.goto (-24), 14, 0, 0), (.aload_n 0, 0, 0, 0), (.iconst 0, 5, 0, 0), (.putfield 397, 47, 9, 0), (.aload_n 0, 0, 0, 0)], [(.aload_n 0, 0, 0, 0), (.invokevirtual 448, 147, 1, 9), (.putfield 391, 45, 9, 0), (.aload_n 0, 0, 0, 0), (.getfield 391, 45, 9, 0), (.ifCond .ne 33, 55, 0, 0), (.aload_n 0, 0, 0, 0), (.invokevirtual 451, 148, 1, 9), (.iconst 0, 5, 0, 0), (.istore_n 2, 2, 0, 0), (.iload_n 2, 2, 0, 0), (.bipush 32, 1, 0, 0), (.if_icmp .ge 21, 55, 0, 0), (.aload_n 0, 0, 0, 0), (.getfield 105, 43, 9, 2), (.iload_n 2, 2, 0, 0)], [(.aload_n 0, 0, 0, 0), (.getfield 81, 35, 9, 2), (.iload_n 2, 2, 0, 0), (.iaload, 0, 0, 0), (.iastore, 0, 0, 0), (.iinc 2 1, 2, 4, 0), (.goto (-21), 42, 0, 0), (.aload_n 0, 0, 0, 0), (.getfield 391, 45, 9, 0), (.ireturn, 0, 0, 0)]]
/-- 150: ScanChartModel.scan(I)I -/
def am_c150 : List (List am_Ins) := [[(.aload_n 0, 0, 0, 0), (.iload_n 1, 1, 0, 0), (.ifCond .lt 10, 6, 0, 0), (.iload_n 1, 1, 0, 0), (.ldc_w 318, 29, 1, 0), (.if_icmp .le 7, 8, 0, 0), (.iconst 1, 4, 0, 0), (.goto 4, 9, 0, 0), (.iconst 0, 5, 0, 0), (.putfield 145, 0, 9, 0), (.aload_n 0, 0, 0, 0), (.getfield 145, 0, 9, 0), (.ifCond .le 7, 15, 0, 0), (.iconst 0, 5, 0, 0), (.goto 8, 18, 0, 0), (.aload_n 0, 0, 0, 0)], [(.iload_n 1, 1, 0, 0), (.invokevirtual 454, 149, 2, 9), (.ireturn, 0, 0, 0)]]
/-- 151: ScanChartModel.run(II)I -/
def am_c151 : List (List am_Ins) := [[(.aload_n 0, 0, 0, 0), (.iload_n 1, 1, 0, 0), (.ifCond .lt 20, 11, 0, 0), (.iload_n 1, 1, 0, 0), (.bipush 100, 36, 0, 0), (.if_icmp .gt 14, 11, 0, 0), (.iload_n 2, 2, 0, 0), (.ifCond .lt 10, 11, 0, 0), (.iload_n 2, 2, 0, 0), (.ldc_w 318, 29, 1, 0), (.if_icmp .le 7, 13, 0, 0), (.iconst 1, 4, 0, 0), (.goto 4, 14, 0, 0), (.iconst 0, 5, 0, 0), (.putfield 145, 0, 9, 0), (.iconst 0, 5, 0, 0)], [(.istore_n 3, 3, 0, 0), (.aload_n 0, 0, 0, 0), (.getfield 145, 0, 9, 0), (.ifCond .ne 7, 22, 0, 0), (.iconst 1, 4, 0, 0), (.goto 4, 23, 0, 0), (.iconst 0, 5, 0, 0), (.istore 4, 4, 0, 0), (.iload 4, 4, 0, 0), (.ifCond .eq 39, 46, 0, 0), (.iload_n 3, 3, 0, 0), (.iload_n 1, 1, 0, 0), (.if_icmp .ge 34, 46, 0, 0), (.aload_n 0, 0, 0, 0), (.iload_n 2, 2, 0, 0), (.invokevirtual 454, 149, 2, 9)], [(.ifCond .ne 7, 35, 0, 0), (.iconst 1, 4, 0, 0), (.goto 4, 36, 0, 0), (.iconst 0, 5, 0, 0), (.istore 4, 4, 0, 0), (.iload 4, 4, 0, 0), (.ifCond .eq 9, 43, 0, 0), (.iload_n 3, 3, 0, 0), (.iconst 1, 4, 0, 0), (.iadd, 0, 0, 0), (.goto 4, 44, 0, 0), (.iload_n 3, 3, 0, 0), (.istore_n 3, 3, 0, 0), (.goto (-38), 24, 0, 0), (.iload_n 3, 3, 0, 0), (.ireturn, 0, 0, 0)]]
/-- 152: ScanChartModel.noPlace(II)Z -/
def am_c152 : List (List am_Ins) := [[(.iload_n 0, 0, 0, 0), (.ifCond .lt 8, 5, 0, 0), (.iload_n 0, 0, 0, 0), (.iload_n 1, 1, 0, 0), (.if_icmp .le 7, 7, 0, 0), (.iconst 1, 4, 0, 0), (.goto 4, 8, 0, 0), (.iconst 0, 5, 0, 0), (.ireturn, 0, 0, 0)]]
/-- 153: ScanChartModel.input(IZ)V -/
def am_c153 : List (List am_Ins) := [[(.aload_n 0, 0, 0, 0), (.iload_n 1, 1, 0, 0), (.bipush 31, 51, 0, 0), (.invokestatic 457, 152, 2, 0), (.ifCond .eq 7, 7, 0, 0), (.iconst 1, 4, 0, 0), (.goto 4, 8, 0, 0), (.iconst 0, 5, 0, 0), (.putfield 145, 0, 9, 0), (.aload_n 0, 0, 0, 0), (.getfield 145, 0, 9, 0), (.ifCond .ne 10, 17, 0, 0), (.aload_n 0, 0, 0, 0), (.getfield 75, 33, 9, 2), (.iload_n 1, 1, 0, 0), (.iload_n 2, 2, 0, 0)], [(.bastore, 0, 0, 0), (.return_, 0, 0, 0)]]
/-- 154: ScanChartModel.output(I)Z -/
def am_c154 : List (List am_Ins) := [[(.aload_n 0, 0, 0, 0), (.iload_n 1, 1, 0, 0), (.bipush 31, 51, 0, 0), (.invokestatic 457, 152, 2, 0), (.ifCond .eq 7, 7, 0, 0), (.iconst 1, 4, 0, 0), (.goto 4, 8, 0, 0), (.iconst 0, 5, 0, 0), (.putfield 145, 0, 9, 0), (.aload_n 0, 0, 0, 0), (.getfield 145, 0, 9, 0), (.ifCond .ne 17, 20, 0, 0), (.aload_n 0, 0, 0, 0), (.getfield 105, 43, 9, 2), (.iload_n 1, 1, 0, 0), (.iaload, 0, 0, 0)], [(.iconst 1, 4, 0, 0), (.if_icmp .ne 7, 20, 0, 0), (.iconst 1, 4, 0, 0), (.goto 4, 21, 0, 0), (.iconst 0, 5, 0, 0), (.ireturn, 0, 0, 0)]]
/-- 155: ScanChartModel.bits(I)I -/
def am_c155 : List (List am_Ins) := [[(.aload_n 0, 0, 0, 0), (.iload_n 1, 1, 0, 0), (.iconst 4, 6, 0, 0), (.invokestatic 457, 152, 2, 0), (.ifCond .eq 7, 7, 0, 0), (.iconst 1, 4, 0, 0), (.goto 4, 8, 0, 0), (.iconst 0, 5, 0, 0), (.putfield 145, 0, 9, 0), (.iconst 0, 5, 0, 0), (.istore_n 2, 2, 0, 0), (.iconst 0, 5, 0, 0), (.istore_n 3, 3, 0, 0), (.iload_n 3, 3, 0, 0), (.bipush 32, 1, 0, 0), (.if_icmp .ge 96, 68, 0, 0)], [(.aload_n 0, 0, 0, 0), (.getfield 145, 0, 9, 0), (.ifCond .ne 89, 68, 0, 0), (.iload_n 1, 1, 0, 0), (.ifCond .ne 12, 26, 0, 0), (.aload_n 0, 0, 0, 0), (.getfield 78, 34, 9, 2), (.iload_n 3, 3, 0, 0), (.iaload, 0, 0, 0), (.goto 61, 59, 0, 0), (.iload_n 1, 1, 0, 0), (.iconst 1, 4, 0, 0), (.if_icmp .ne 12, 34, 0, 0), (.aload_n 0, 0, 0, 0), (.getfield 81, 35, 9, 2), (.iload_n 3, 3, 0, 0)], [(.iaload, 0, 0, 0), (.goto 47, 59, 0, 0), (.iload_n 1, 1, 0, 0), (.iconst 2, 13, 0, 0), (.if_icmp .ne 12, 42, 0, 0), (.aload_n 0, 0, 0, 0), (.getfield 84, 36, 9, 2), (.iload_n 3, 3, 0, 0), (.iaload, 0, 0, 0), (.goto 33, 59, 0, 0), (.iload_n 1, 1, 0, 0), (.iconst 4, 6, 0, 0), (.if_icmp .ne 12, 50, 0, 0), (.aload_n 0, 0, 0, 0), (.getfield 105, 43, 9, 2), (.iload_n 3, 3, 0, 0)], [(.iaload, 0, 0, 0), (.goto 19, 59, 0, 0), (.iload_n 3, 3, 0, 0), (.bipush 16, 7, 0, 0), (.if_icmp .ge 12, 58, 0, 0), (.aload_n 0, 0, 0, 0), (.getfield 102, 42, 9, 2), (.iload_n 3, 3, 0, 0), (.iaload, 0, 0, 0), (.goto 4, 59, 0, 0), (.iconst 0, 5, 0, 0), (.istore 4, 4, 0, 0), (.iload_n 2, 2, 0, 0), (.iload 4, 4, 0, 0), (.iload_n 3, 3, 0, 0), (.ishl, 0, 0, 0)], [(.ior, 0, 0, 0), (.istore_n 2, 2, 0, 0), (.iinc 3 1, 3, 4, 0), (.goto (-96), 13, 0, 0), (.iload_n 2, 2, 0, 0), (.ireturn, 0, 0, 0)]]
/-- 156: ScanChartModel.word(I)I -/
def am_c156 : List (List am_Ins) := [[(.aload_n 0, 0, 0, 0), (.iload_n 1, 1, 0, 0), (.bipush 31, 51, 0, 0), (.invokestatic 457, 152, 2, 0), (.ifCond .eq 7, 7, 0, 0), (.iconst 1, 4, 0, 0), (.goto 4, 8, 0, 0), (.iconst 0, 5, 0, 0), (.putfield 145, 0, 9, 0), (.aload_n 0, 0, 0, 0), (.getfield 145, 0, 9, 0), (.ifCond .le 7, 14, 0, 0), (.iconst 0, 5, 0, 0), (.goto 9, 18, 0, 0), (.aload_n 0, 0, 0, 0), (.getfield 87, 37, 9, 2)], [(.iload_n 1, 1, 0, 0), (.iaload, 0, 0, 0), (.ireturn, 0, 0, 0)]]
/-- 157: ScanChartModel.block(II)I -/
def am_c157 : List (List am_Ins) := [[(.aload_n 0, 0, 0, 0), (.iload_n 1, 1, 0, 0), (.bipush 7, 45, 0, 0), (.invokestatic 457, 152, 2, 0), (.ifCond .eq 7, 7, 0, 0), (.iconst 1, 4, 0, 0), (.goto 16, 14, 0, 0), (.iload_n 2, 2, 0, 0), (.iconst 3, 3, 0, 0), (.invokestatic 457, 152, 2, 0), (.ifCond .eq 7, 13, 0, 0), (.iconst 2, 13, 0, 0), (.goto 4, 14, 0, 0), (.iconst 0, 5, 0, 0), (.putfield 145, 0, 9, 0), (.aload_n 0, 0, 0, 0)], [(.getfield 145, 0, 9, 0), (.ifCond .le 5, 20, 0, 0), (.iconst 0, 5, 0, 0), (.ireturn, 0, 0, 0), (.iload_n 2, 2, 0, 0), (.ifCond .ne 12, 27, 0, 0), (.aload_n 0, 0, 0, 0), (.getfield 93, 39, 9, 2), (.iload_n 1, 1, 0, 0), (.iaload, 0, 0, 0), (.goto 37, 47, 0, 0), (.iload_n 2, 2, 0, 0), (.iconst 1, 4, 0, 0), (.if_icmp .ne 12, 35, 0, 0), (.aload_n 0, 0, 0, 0), (.getfield 90, 38, 9, 2)], [(.iload_n 1, 1, 0, 0), (.iaload, 0, 0, 0), (.goto 23, 47, 0, 0), (.iload_n 2, 2, 0, 0), (.iconst 2, 13, 0, 0), (.if_icmp .ne 12, 43, 0, 0), (.aload_n 0, 0, 0, 0), (.getfield 99, 41, 9, 2), (.iload_n 1, 1, 0, 0), (.iaload, 0, 0, 0), (.goto 9, 47, 0, 0), (.aload_n 0, 0, 0, 0), (.getfield 96, 40, 9, 2), (.iload_n 1, 1, 0, 0), (.iaload, 0, 0, 0), (.ireturn, 0, 0, 0)]]
/-- 158: ScanChartModel.done()I -/
def am_c158 : List (List am_Ins) := [[(.aload_n 0, 0, 0, 0), (.iconst 0, 5, 0, 0), (.putfield 145, 0, 9, 0), (.aload_n 0, 0, 0, 0), (.getfield 394, 46, 9, 0), (.ireturn, 0, 0, 0)]]
/-- 159: ScanChartModel.fired()I -/
def am_c159 : List (List am_Ins) := [[(.aload_n 0, 0, 0, 0), (.iconst 0, 5, 0, 0), (.putfield 145, 0, 9, 0), (.aload_n 0, 0, 0, 0), (.getfield 397, 47, 9, 0), (.ireturn, 0, 0, 0)]]
/-- 160: ScanChartModel.time()J -/
def am_c160 : List (List am_Ins) := [[(.aload_n 0, 0, 0, 0), (.iconst 0, 5, 0, 0), (.putfield 145, 0, 9, 0), (.aload_n 0, 0, 0, 0), (.getfield 387, 44, 9, 1), (.lreturn, 0, 0, 0)]]
/-- 161: java/lang/Enum.ordinal()I -/
def am_c161 : List (List am_Ins) := [[(.aload_n 0, 0, 0, 0), (.getfield 7, 3, 30, 3), (.ireturn, 0, 0, 0)]]
/-- 162: java/lang/Math.max(II)I -/
def am_c162 : List (List am_Ins) := [[(.iload_n 0, 0, 0, 0), (.iload_n 1, 1, 0, 0), (.if_icmp .lt 7, 5, 0, 0), (.iload_n 0, 0, 0, 0), (.goto 4, 6, 0, 0), (.iload_n 1, 1, 0, 0), (.ireturn, 0, 0, 0)]]
/-- 163: java/lang/Math.min(II)I -/
def am_c163 : List (List am_Ins) := [[(.iload_n 0, 0, 0, 0), (.iload_n 1, 1, 0, 0), (.if_icmp .gt 7, 5, 0, 0), (.iload_n 0, 0, 0, 0), (.goto 4, 6, 0, 0), (.iload_n 1, 1, 0, 0), (.ireturn, 0, 0, 0)]]
/-- 164: java/lang/Math.min(JJ)J -/
def am_c164 : List (List am_Ins) := [[(.lload_n 0, 0, 0, 0), (.lload_n 2, 2, 0, 0), (.lcmp, 0, 0, 0), (.ifCond .gt 7, 6, 0, 0), (.lload_n 0, 0, 0, 0), (.goto 4, 7, 0, 0), (.lload_n 2, 2, 0, 0), (.lreturn, 0, 0, 0)]]
/-- 165: java/lang/String.length()I -/
def am_c165 : List (List am_Ins) := [[(.aload_n 0, 0, 0, 0), (.getfield 9, 10, 31, 4), (.arraylength, 0, 0, 0), (.aload_n 0, 0, 0, 0), (.invokevirtual 335, 169, 1, 31), (.ishr, 0, 0, 0), (.ireturn, 0, 0, 0)]]
/-- 166: java/lang/String.charAt(I)C -/
def am_c166 : List (List am_Ins) := [[(.aload_n 0, 0, 0, 0), (.invokevirtual 492, 170, 1, 31), (.ifCond .eq 12, 8, 0, 0), (.aload_n 0, 0, 0, 0), (.getfield 9, 10, 31, 4), (.iload_n 1, 1, 0, 0), (.invokestatic 495, 173, 2, 0), (.ireturn, 0, 0, 0), (.aload_n 0, 0, 0, 0), (.getfield 9, 10, 31, 4), (.iload_n 1, 1, 0, 0), (.nop, 0, 0, 0), (.ireturn, 0, 0, 0)]]
/-- 167: java/lang/String.indexOf(I)I -/
def am_c167 : List (List am_Ins) := [[(.aload_n 0, 0, 0, 0), (.iload_n 1, 1, 0, 0), (.iconst 0, 5, 0, 0), (.invokevirtual 633, 168, 3, 31), (.ireturn, 0, 0, 0)]]
/-- 168: java/lang/String.indexOf(II)I -/
def am_c168 : List (List am_Ins) := [[(.aload_n 0, 0, 0, 0), (.invokevirtual 492, 170, 1, 31), (.ifCond .eq 19, 11, 0, 0), (.aload_n 0, 0, 0, 0), (.getfield 9, 10, 31, 4), (.iload_n 1, 1, 0, 0), (.iload_n 2, 2, 0, 0), (.aload_n 0, 0, 0, 0), (.invokevirtual 505, 165, 1, 31), (.invokestatic 637, 175, 4, 0), (.goto 16, 18, 0, 0), (.aload_n 0, 0, 0, 0), (.getfield 9, 10, 31, 4), (.iload_n 1, 1, 0, 0), (.iload_n 2, 2, 0, 0), (.aload_n 0, 0, 0, 0)], [(.invokevirtual 505, 165, 1, 31), (.nop, 0, 0, 0), (.ireturn, 0, 0, 0)]]
/-- 169: java/lang/String.coder()B -/
def am_c169 : List (List am_Ins) := [[(.getstatic 38, 4, 1, 0), (.ifCond .eq 10, 5, 0, 0), (.aload_n 0, 0, 0, 0), (.getfield 15, 11, 31, 3), (.goto 4, 6, 0, 0), (.iconst 1, 4, 0, 0), (.ireturn, 0, 0, 0)]]
/-- 170: java/lang/String.isLatin1()Z -/
def am_c170 : List (List am_Ins) := [[(.getstatic 38, 4, 1, 0), (.ifCond .eq 14, 7, 0, 0), (.aload_n 0, 0, 0, 0), (.getfield 15, 11, 31, 3), (.ifCond .ne 7, 7, 0, 0), (.iconst 1, 4, 0, 0), (.goto 4, 8, 0, 0), (.iconst 0, 5, 0, 0), (.ireturn, 0, 0, 0)]]
/-- 171: java/lang/String.checkIndex(II)V -/
def am_c171 : List (List am_Ins) := [[(.iload_n 0, 0, 0, 0), (.iload_n 1, 1, 0, 0), (.getstatic 1053, 4500, 0, 0), (.invokestatic 1059, 177, 3, 0), (.pop, 0, 0, 0), (.return_, 0, 0, 0)]]
/-- 172: java/lang/String.checkBoundsBeginEnd(III)V -/
def am_c172 : List (List am_Ins) := [[(.iload_n 0, 0, 0, 0), (.iload_n 1, 1, 0, 0), (.iload_n 2, 2, 0, 0), (.getstatic 1053, 4500, 0, 0), (.invokestatic 1062, 178, 4, 0), (.pop, 0, 0, 0), (.return_, 0, 0, 0)]]
/-- 173: java/lang/StringLatin1.charAt([BI)C -/
def am_c173 : List (List am_Ins) := [[(.iload_n 1, 1, 0, 0), (.aload_n 0, 0, 0, 0), (.arraylength, 0, 0, 0), (.invokestatic 9, 171, 2, 0), (.aload_n 0, 0, 0, 0), (.iload_n 1, 1, 0, 0), (.baload, 0, 0, 0), (.sipush 255, 67, 0, 0), (.iand, 0, 0, 0), (.i2c, 0, 0, 0), (.ireturn, 0, 0, 0)]]
/-- 174: java/lang/StringLatin1.canEncode(I)Z -/
def am_c174 : List (List am_Ins) := [[(.iload_n 0, 0, 0, 0), (.ifCond .lt 14, 7, 0, 0), (.iload_n 0, 0, 0, 0), (.sipush 255, 67, 0, 0), (.if_icmp .gt 7, 7, 0, 0), (.iconst 1, 4, 0, 0), (.goto 4, 8, 0, 0), (.iconst 0, 5, 0, 0), (.ireturn, 0, 0, 0)]]
/-- 175: java/lang/StringLatin1.indexOf([BIII)I -/
def am_c175 : List (List am_Ins) := [[(.iload_n 1, 1, 0, 0), (.invokestatic 88, 174, 1, 0), (.ifCond .ne 5, 5, 0, 0), (.iconst (-1), 15, 0, 0), (.ireturn, 0, 0, 0), (.iload_n 2, 2, 0, 0), (.iconst 0, 5, 0, 0), (.invokestatic 92, 162, 2, 0), (.istore_n 2, 2, 0, 0), (.iload_n 3, 3, 0, 0), (.aload_n 0, 0, 0, 0), (.arraylength, 0, 0, 0), (.invokestatic 38, 163, 2, 0), (.istore_n 3, 3, 0, 0), (.iload_n 2, 2, 0, 0), (.iload_n 3, 3, 0, 0)], [(.if_icmp .lt 5, 19, 0, 0), (.iconst (-1), 15, 0, 0), (.ireturn, 0, 0, 0), (.aload_n 0, 0, 0, 0), (.iload_n 1, 1, 0, 0), (.iload_n 2, 2, 0, 0), (.iload_n 3, 3, 0, 0), (.invokestatic 95, 176, 4, 0), (.ireturn, 0, 0, 0)]]
/-- 176: java/lang/StringLatin1.indexOfChar([BIII)I -/
def am_c176 : List (List am_Ins) := [[(.iload_n 1, 1, 0, 0), (.i2b, 0, 0, 0), (.istore 4, 4, 0, 0), (.iload_n 2, 2, 0, 0), (.istore 5, 5, 0, 0), (.iload 5, 5, 0, 0), (.iload_n 3, 3, 0, 0), (.if_icmp .ge 21, 17, 0, 0), (.aload_n 0, 0, 0, 0), (.iload 5, 5, 0, 0), (.baload, 0, 0, 0), (.iload 4, 4, 0, 0), (.if_icmp .ne 6, 15, 0, 0), (.iload 5, 5, 0, 0), (.ireturn, 0, 0, 0), (.iinc 5 1, 5, 4, 0)], [(.goto (-21), 5, 0, 0), (.iconst (-1), 15, 0, 0), (.ireturn, 0, 0, 0)]]
/-- 177: jdk/internal/util/Preconditions.checkIndex(IILjava/util/function/BiFunction;)I -/
def am_c177 : List (List am_Ins) := [[(.iload_n 0, 0, 0, 0), (.ifCond .lt 8, 5, 0, 0), (.iload_n 0, 0, 0, 0), (.iload_n 1, 1, 0, 0), (.if_icmp .lt 10, 10, 0, 0), (.aload_n 2, 2, 0, 0), (.iload_n 0, 0, 0, 0), (.iload_n 1, 1, 0, 0), (.nop, 0, 0, 0), (.athrow, 0, 0, 0), (.iload_n 0, 0, 0, 0), (.ireturn, 0, 0, 0)]]
/-- 178: jdk/internal/util/Preconditions.checkFromToIndex(IIILjava/util/function/BiFunction;)I -/
def am_c178 : List (List am_Ins) := [[(.iload_n 0, 0, 0, 0), (.ifCond .lt 13, 8, 0, 0), (.iload_n 0, 0, 0, 0), (.iload_n 1, 1, 0, 0), (.if_icmp .gt 8, 8, 0, 0), (.iload_n 1, 1, 0, 0), (.iload_n 2, 2, 0, 0), (.if_icmp .le 11, 14, 0, 0), (.aload_n 3, 3, 0, 0), (.iload_n 0, 0, 0, 0), (.iload_n 1, 1, 0, 0), (.iload_n 2, 2, 0, 0), (.nop, 0, 0, 0), (.athrow, 0, 0, 0), (.iload_n 0, 0, 0, 0), (.ireturn, 0, 0, 0)]]
/-- 179: ScanChartLaw.law([I)Z -/
def am_c179 : List (List am_Ins) := [[(.new 8, 8, 4, 0), (.dup, 0, 0, 0), (.invokespecial 42, 72, 1, 8), (.astore_n 1, 1, 0, 0), (.new 43, 9, 61, 0), (.dup, 0, 0, 0), (.invokespecial 45, 94, 1, 9), (.astore_n 2, 2, 0, 0), (.iconst 1, 4, 0, 0), (.newarray .long, 22, 0, 0), (.astore_n 3, 3, 0, 0), (.iconst 0, 5, 0, 0), (.istore 4, 4, 0, 0), (.iload 4, 4, 0, 0), (.aload_n 0, 0, 0, 0), (.arraylength, 0, 0, 0)], [(.iconst 4, 6, 0, 0), (.isub, 0, 0, 0), (.if_icmp .gt 727, 424, 0, 0), (.aload_n 0, 0, 0, 0), (.iload 4, 4, 0, 0), (.iaload, 0, 0, 0), (.bipush 15, 35, 0, 0), (.iand, 0, 0, 0), (.tableswitch 711 0 15 #[77, 177, 190, 203, 216, 229, 240, 304, 360, 428, 491, 547, 603, 671, 684, 697], 10, 5, 0), (.aload_n 1, 1, 0, 0), (.aload_n 0, 0, 0, 0), (.iload 4, 4, 0, 0), (.iconst 1, 4, 0, 0), (.iadd, 0, 0, 0), (.iaload, 0, 0, 0), (.aload_n 0, 0, 0, 0)], [(.iload 4, 4, 0, 0), (.iconst 2, 13, 0, 0), (.iadd, 0, 0, 0), (.iaload, 0, 0, 0), (.i2l, 0, 0, 0), (.bipush 32, 1, 0, 0), (.lshl, 0, 0, 0), (.aload_n 0, 0, 0, 0), (.iload 4, 4, 0, 0), (.iconst 3, 3, 0, 0), (.iadd, 0, 0, 0), (.iaload, 0, 0, 0), (.i2l, 0, 0, 0), (.ldc2_w 46, 52, 0, 0), (.land, 0, 0, 0), (.lor, 0, 0, 0)], [(.aload_n 3, 3, 0, 0), (.invokestatic 48, 0, 4, 98), (.istore 5, 5, 0, 0), (.aload_n 2, 2, 0, 0), (.aload_n 0, 0, 0, 0), (.iload 4, 4, 0, 0), (.iconst 1, 4, 0, 0), (.iadd, 0, 0, 0), (.iaload, 0, 0, 0), (.aload_n 0, 0, 0, 0), (.iload 4, 4, 0, 0), (.iconst 2, 13, 0, 0), (.iadd, 0, 0, 0), (.iaload, 0, 0, 0), (.i2l, 0, 0, 0), (.bipush 32, 1, 0, 0)], [(.lshl, 0, 0, 0), (.aload_n 0, 0, 0, 0), (.iload 4, 4, 0, 0), (.iconst 3, 3, 0, 0), (.iadd, 0, 0, 0), (.iaload, 0, 0, 0), (.i2l, 0, 0, 0), (.ldc2_w 46, 52, 0, 0), (.land, 0, 0, 0), (.lor, 0, 0, 0), (.invokevirtual 53, 96, 3, 9), (.istore 6, 6, 0, 0), (.aload_n 2, 2, 0, 0), (.invokevirtual 54, 95, 1, 9), (.iload 5, 5, 0, 0), (.if_icmp .eq 5, 82, 0, 0)], [(.iconst 0, 5, 0, 0), (.ireturn, 0, 0, 0), (.iload 5, 5, 0, 0), (.ifCond .ne 15, 93, 0, 0), (.aload_n 3, 3, 0, 0), (.iconst 0, 5, 0, 0), (.laload, 0, 0, 0), (.iload 6, 6, 0, 0), (.i2l, 0, 0, 0), (.lcmp, 0, 0, 0), (.ifCond .eq 5, 93, 0, 0), (.iconst 0, 5, 0, 0), (.ireturn, 0, 0, 0), (.goto 537, 422, 0, 0), (.aload_n 1, 1, 0, 0), (.invokevirtual 58, 74, 1, 8)], [(.aload_n 2, 2, 0, 0), (.invokevirtual 61, 97, 1, 9), (.if_icmp .eq 526, 422, 0, 0), (.iconst 0, 5, 0, 0), (.ireturn, 0, 0, 0), (.aload_n 1, 1, 0, 0), (.invokevirtual 62, 75, 1, 97), (.aload_n 2, 2, 0, 0), (.invokevirtual 65, 129, 1, 9), (.if_icmp .eq 513, 422, 0, 0), (.iconst 0, 5, 0, 0), (.ireturn, 0, 0, 0), (.aload_n 1, 1, 0, 0), (.invokevirtual 66, 76, 1, 8), (.aload_n 2, 2, 0, 0), (.invokevirtual 69, 130, 1, 9)], [(.if_icmp .eq 500, 422, 0, 0), (.iconst 0, 5, 0, 0), (.ireturn, 0, 0, 0), (.aload_n 1, 1, 0, 0), (.invokevirtual 70, 77, 1, 8), (.aload_n 2, 2, 0, 0), (.invokevirtual 73, 131, 1, 9), (.if_icmp .eq 487, 422, 0, 0), (.iconst 0, 5, 0, 0), (.ireturn, 0, 0, 0), (.aload_n 1, 1, 0, 0), (.invokevirtual 74, 78, 1, 8), (.aload_n 2, 2, 0, 0), (.invokevirtual 77, 133, 1, 9), (.goto 474, 422, 0, 0), (.aload_n 1, 1, 0, 0)], [(.aload_n 0, 0, 0, 0), (.iload 4, 4, 0, 0), (.iconst 1, 4, 0, 0), (.iadd, 0, 0, 0), (.iaload, 0, 0, 0), (.aload_n 0, 0, 0, 0), (.iload 4, 4, 0, 0), (.iconst 2, 13, 0, 0), (.iadd, 0, 0, 0), (.iaload, 0, 0, 0), (.ifCond .eq 7, 141, 0, 0), (.iconst 1, 4, 0, 0), (.goto 4, 142, 0, 0), (.iconst 0, 5, 0, 0), (.invokestatic 78, 1, 3, 98), (.istore 5, 5, 0, 0)], [(.aload_n 2, 2, 0, 0), (.aload_n 0, 0, 0, 0), (.iload 4, 4, 0, 0), (.iconst 1, 4, 0, 0), (.iadd, 0, 0, 0), (.iaload, 0, 0, 0), (.aload_n 0, 0, 0, 0), (.iload 4, 4, 0, 0), (.iconst 2, 13, 0, 0), (.iadd, 0, 0, 0), (.iaload, 0, 0, 0), (.ifCond .eq 7, 158, 0, 0), (.iconst 1, 4, 0, 0), (.goto 4, 159, 0, 0), (.iconst 0, 5, 0, 0), (.invokevirtual 81, 153, 3, 9)], [(.aload_n 2, 2, 0, 0), (.invokevirtual 54, 95, 1, 9), (.iload 5, 5, 0, 0), (.if_icmp .eq 5, 166, 0, 0), (.iconst 0, 5, 0, 0), (.ireturn, 0, 0, 0), (.goto 410, 422, 0, 0), (.aload_n 1, 1, 0, 0), (.aload_n 0, 0, 0, 0), (.iload 4, 4, 0, 0), (.iconst 1, 4, 0, 0), (.iadd, 0, 0, 0), (.iaload, 0, 0, 0), (.aload_n 3, 3, 0, 0), (.invokestatic 82, 2, 3, 98), (.istore 5, 5, 0, 0)], [(.aload_n 2, 2, 0, 0), (.aload_n 0, 0, 0, 0), (.iload 4, 4, 0, 0), (.iconst 1, 4, 0, 0), (.iadd, 0, 0, 0), (.iaload, 0, 0, 0), (.invokevirtual 85, 150, 2, 9), (.istore 6, 6, 0, 0), (.aload_n 2, 2, 0, 0), (.invokevirtual 54, 95, 1, 9), (.iload 5, 5, 0, 0), (.if_icmp .eq 5, 190, 0, 0), (.iconst 0, 5, 0, 0), (.ireturn, 0, 0, 0), (.iload 5, 5, 0, 0), (.ifCond .ne 15, 201, 0, 0)], [(.aload_n 3, 3, 0, 0), (.iconst 0, 5, 0, 0), (.laload, 0, 0, 0), (.iload 6, 6, 0, 0), (.i2l, 0, 0, 0), (.lcmp, 0, 0, 0), (.ifCond .eq 5, 201, 0, 0), (.iconst 0, 5, 0, 0), (.ireturn, 0, 0, 0), (.goto 354, 422, 0, 0), (.aload_n 1, 1, 0, 0), (.aload_n 0, 0, 0, 0), (.iload 4, 4, 0, 0), (.iconst 1, 4, 0, 0), (.iadd, 0, 0, 0), (.iaload, 0, 0, 0)], [(.aload_n 0, 0, 0, 0), (.iload 4, 4, 0, 0), (.iconst 2, 13, 0, 0), (.iadd, 0, 0, 0), (.iaload, 0, 0, 0), (.aload_n 3, 3, 0, 0), (.invokestatic 86, 3, 4, 98), (.istore 5, 5, 0, 0), (.aload_n 2, 2, 0, 0), (.aload_n 0, 0, 0, 0), (.iload 4, 4, 0, 0), (.iconst 1, 4, 0, 0), (.iadd, 0, 0, 0), (.iaload, 0, 0, 0), (.aload_n 0, 0, 0, 0), (.iload 4, 4, 0, 0)], [(.iconst 2, 13, 0, 0), (.iadd, 0, 0, 0), (.iaload, 0, 0, 0), (.invokevirtual 89, 151, 3, 9), (.istore 6, 6, 0, 0), (.aload_n 2, 2, 0, 0), (.invokevirtual 54, 95, 1, 9), (.iload 5, 5, 0, 0), (.if_icmp .eq 5, 235, 0, 0), (.iconst 0, 5, 0, 0), (.ireturn, 0, 0, 0), (.iload 5, 5, 0, 0), (.ifCond .ne 15, 246, 0, 0), (.aload_n 3, 3, 0, 0), (.iconst 0, 5, 0, 0), (.laload, 0, 0, 0)], [(.iload 6, 6, 0, 0), (.i2l, 0, 0, 0), (.lcmp, 0, 0, 0), (.ifCond .eq 5, 246, 0, 0), (.iconst 0, 5, 0, 0), (.ireturn, 0, 0, 0), (.goto 286, 422, 0, 0), (.aload_n 1, 1, 0, 0), (.aload_n 0, 0, 0, 0), (.iload 4, 4, 0, 0), (.iconst 1, 4, 0, 0), (.iadd, 0, 0, 0), (.iaload, 0, 0, 0), (.aload_n 3, 3, 0, 0), (.invokestatic 90, 4, 3, 98), (.istore 5, 5, 0, 0)], [(.aload_n 2, 2, 0, 0), (.aload_n 0, 0, 0, 0), (.iload 4, 4, 0, 0), (.iconst 1, 4, 0, 0), (.iadd, 0, 0, 0), (.iaload, 0, 0, 0), (.invokevirtual 92, 154, 2, 9), (.istore 6, 6, 0, 0), (.aload_n 2, 2, 0, 0), (.invokevirtual 54, 95, 1, 9), (.iload 5, 5, 0, 0), (.if_icmp .eq 5, 270, 0, 0), (.iconst 0, 5, 0, 0), (.ireturn, 0, 0, 0), (.iload 5, 5, 0, 0), (.ifCond .ne 22, 284, 0, 0)], [(.aload_n 3, 3, 0, 0), (.iconst 0, 5, 0, 0), (.laload, 0, 0, 0), (.iload 6, 6, 0, 0), (.ifCond .eq 7, 279, 0, 0), (.lconst 1, 23, 0, 0), (.goto 4, 280, 0, 0), (.lconst 0, 0, 0, 0), (.lcmp, 0, 0, 0), (.ifCond .eq 5, 284, 0, 0), (.iconst 0, 5, 0, 0), (.ireturn, 0, 0, 0), (.goto 223, 422, 0, 0), (.aload_n 1, 1, 0, 0), (.aload_n 0, 0, 0, 0), (.iload 4, 4, 0, 0)], [(.iconst 1, 4, 0, 0), (.iadd, 0, 0, 0), (.iaload, 0, 0, 0), (.aload_n 3, 3, 0, 0), (.invokestatic 93, 5, 3, 98), (.istore 5, 5, 0, 0), (.aload_n 2, 2, 0, 0), (.aload_n 0, 0, 0, 0), (.iload 4, 4, 0, 0), (.iconst 1, 4, 0, 0), (.iadd, 0, 0, 0), (.iaload, 0, 0, 0), (.invokevirtual 95, 155, 2, 9), (.istore 6, 6, 0, 0), (.aload_n 2, 2, 0, 0), (.invokevirtual 54, 95, 1, 9)], [(.iload 5, 5, 0, 0), (.if_icmp .eq 5, 308, 0, 0), (.iconst 0, 5, 0, 0), (.ireturn, 0, 0, 0), (.iload 5, 5, 0, 0), (.ifCond .ne 15, 319, 0, 0), (.aload_n 3, 3, 0, 0), (.iconst 0, 5, 0, 0), (.laload, 0, 0, 0), (.iload 6, 6, 0, 0), (.i2l, 0, 0, 0), (.lcmp, 0, 0, 0), (.ifCond .eq 5, 319, 0, 0), (.iconst 0, 5, 0, 0), (.ireturn, 0, 0, 0), (.goto 167, 422, 0, 0)], [(.aload_n 1, 1, 0, 0), (.aload_n 0, 0, 0, 0), (.iload 4, 4, 0, 0), (.iconst 1, 4, 0, 0), (.iadd, 0, 0, 0), (.iaload, 0, 0, 0), (.aload_n 3, 3, 0, 0), (.invokestatic 96, 6, 3, 98), (.istore 5, 5, 0, 0), (.aload_n 2, 2, 0, 0), (.aload_n 0, 0, 0, 0), (.iload 4, 4, 0, 0), (.iconst 1, 4, 0, 0), (.iadd, 0, 0, 0), (.iaload, 0, 0, 0), (.invokevirtual 98, 156, 2, 9)], [(.istore 6, 6, 0, 0), (.aload_n 2, 2, 0, 0), (.invokevirtual 54, 95, 1, 9), (.iload 5, 5, 0, 0), (.if_icmp .eq 5, 343, 0, 0), (.iconst 0, 5, 0, 0), (.ireturn, 0, 0, 0), (.iload 5, 5, 0, 0), (.ifCond .ne 15, 354, 0, 0), (.aload_n 3, 3, 0, 0), (.iconst 0, 5, 0, 0), (.laload, 0, 0, 0), (.iload 6, 6, 0, 0), (.i2l, 0, 0, 0), (.lcmp, 0, 0, 0), (.ifCond .eq 5, 354, 0, 0)], [(.iconst 0, 5, 0, 0), (.ireturn, 0, 0, 0), (.goto 111, 422, 0, 0), (.aload_n 1, 1, 0, 0), (.aload_n 0, 0, 0, 0), (.iload 4, 4, 0, 0), (.iconst 1, 4, 0, 0), (.iadd, 0, 0, 0), (.iaload, 0, 0, 0), (.aload_n 0, 0, 0, 0), (.iload 4, 4, 0, 0), (.iconst 2, 13, 0, 0), (.iadd, 0, 0, 0), (.iaload, 0, 0, 0), (.aload_n 3, 3, 0, 0), (.invokestatic 99, 7, 4, 98)], [(.istore 5, 5, 0, 0), (.aload_n 2, 2, 0, 0), (.aload_n 0, 0, 0, 0), (.iload 4, 4, 0, 0), (.iconst 1, 4, 0, 0), (.iadd, 0, 0, 0), (.iaload, 0, 0, 0), (.aload_n 0, 0, 0, 0), (.iload 4, 4, 0, 0), (.iconst 2, 13, 0, 0), (.iadd, 0, 0, 0), (.iaload, 0, 0, 0), (.invokevirtual 101, 157, 3, 9), (.istore 6, 6, 0, 0), (.aload_n 2, 2, 0, 0), (.invokevirtual 54, 95, 1, 9)], [(.iload 5, 5, 0, 0), (.if_icmp .eq 5, 388, 0, 0), (.iconst 0, 5, 0, 0), (.ireturn, 0, 0, 0), (.iload 5, 5, 0, 0), (.ifCond .ne 15, 399, 0, 0), (.aload_n 3, 3, 0, 0), (.iconst 0, 5, 0, 0), (.laload, 0, 0, 0), (.iload 6, 6, 0, 0), (.i2l, 0, 0, 0), (.lcmp, 0, 0, 0), (.ifCond .eq 5, 399, 0, 0), (.iconst 0, 5, 0, 0), (.ireturn, 0, 0, 0), (.goto 43, 422, 0, 0)], [(.aload_n 1, 1, 0, 0), (.invokevirtual 102, 86, 1, 8), (.aload_n 2, 2, 0, 0), (.invokevirtual 105, 158, 1, 9), (.if_icmp .eq 32, 422, 0, 0), (.iconst 0, 5, 0, 0), (.ireturn, 0, 0, 0), (.aload_n 1, 1, 0, 0), (.invokevirtual 106, 87, 1, 8), (.aload_n 2, 2, 0, 0), (.invokevirtual 109, 159, 1, 9), (.if_icmp .eq 19, 422, 0, 0), (.iconst 0, 5, 0, 0), (.ireturn, 0, 0, 0), (.aload_n 1, 1, 0, 0), (.invokevirtual 110, 88, 1, 8)], [(.aload_n 2, 2, 0, 0), (.invokevirtual 114, 160, 1, 9), (.lcmp, 0, 0, 0), (.ifCond .eq 5, 422, 0, 0), (.iconst 0, 5, 0, 0), (.ireturn, 0, 0, 0), (.iinc 4 4, 4, 6, 0), (.goto (-730), 13, 0, 0), (.iconst 1, 4, 0, 0), (.ireturn, 0, 0, 0)]]
def am_code : List (List (List (List am_Ins))) := [[am_c0, am_c1, am_c2, am_c3, am_c4, am_c5, am_c6, am_c7, am_c8, am_c9, am_c10, am_c11, am_c12, am_c13, am_c14, am_c15], [am_c16, am_c17, am_c18, am_c19, am_c20, am_c21, am_c22, am_c23, am_c24, am_c25, am_c26, am_c27, am_c28, am_c29, am_c30, am_c31], [am_c32, am_c33, am_c34, am_c35, am_c36, am_c37, am_c38, am_c39, am_c40, am_c41, am_c42, am_c43, am_c44, am_c45, am_c46, am_c47], [am_c48, am_c49, am_c50, am_c51, am_c52, am_c53, am_c54, am_c55, am_c56, am_c57, am_c58, am_c59, am_c60, am_c61, am_c62, am_c63], [am_c64, am_c65, am_c66, am_c67, am_c68, am_c69, am_c70, am_c71, am_c72, am_c73, am_c74, am_c75, am_c76, am_c77, am_c78, am_c79], [am_c80, am_c81, am_c82, am_c83, am_c84, am_c85, am_c86, am_c87, am_c88, am_c89, am_c90, am_c91, am_c92, am_c93, am_c94, am_c95], [am_c96, am_c97, am_c98, am_c99, am_c100, am_c101, am_c102, am_c103, am_c104, am_c105, am_c106, am_c107, am_c108, am_c109, am_c110, am_c111], [am_c112, am_c113, am_c114, am_c115, am_c116, am_c117, am_c118, am_c119, am_c120, am_c121, am_c122, am_c123, am_c124, am_c125, am_c126, am_c127], [am_c128, am_c129, am_c130, am_c131, am_c132, am_c133, am_c134, am_c135, am_c136, am_c137, am_c138, am_c139, am_c140, am_c141, am_c142, am_c143], [am_c144, am_c145, am_c146, am_c147, am_c148, am_c149, am_c150, am_c151, am_c152, am_c153, am_c154, am_c155, am_c156, am_c157, am_c158, am_c159], [am_c160, am_c161, am_c162, am_c163, am_c164, am_c165, am_c166, am_c167, am_c168, am_c169, am_c170, am_c171, am_c172, am_c173, am_c174, am_c175], [am_c176, am_c177, am_c178, am_c179]]
def am_ins (m i : Nat) : am_Ins := ((((am_code.getD (m / 16) []).getD (m % 16) []).getD (i / 16) []).getD (i % 16) (.nop, 0, 0, 0))
def am_nLs : List (List Nat) := [[1, 1, 3, 4, 4, 4, 3, 1, 1, 6, 7, 1, 1, 4, 5, 6], [5, 2, 2, 5, 4, 6, 5, 6, 6, 2, 1, 2, 1, 1, 4, 7], [8, 8, 9, 6, 5, 4, 4, 1, 1, 5, 2, 1, 4, 2, 3, 1], [2, 1, 1, 4, 2, 7, 2, 2, 7, 2, 2, 5, 5, 5, 1, 4], [4, 4, 3, 1, 5, 2, 5, 7, 1, 4, 2, 2, 1, 1, 1, 3], [2, 5, 2, 2, 2, 3, 1, 1, 1, 2, 3, 2, 3, 3, 1, 1], [5, 2, 3, 1, 1, 1, 4, 1, 5, 6, 4, 3, 2, 3, 1, 7], [2, 7, 10, 1, 4, 6, 2, 2, 3, 6, 4, 6, 2, 4, 4, 4], [2, 4, 1, 1, 2, 1, 3, 4, 6, 5, 5, 4, 1, 3, 4, 3], [2, 2, 4, 6, 8, 3, 2, 5, 2, 3, 2, 5, 2, 3, 1, 1], [1, 1, 2, 2, 4, 1, 2, 2, 3, 1, 1, 2, 3, 2, 1, 4], [6, 3, 4, 7]]
def am_nL (m : Nat) : Nat := (am_nLs.getD (m / 16) []).getD (m % 16) 0
/-- what a method answers: 0 nothing, 1 int, 2 long, 3 a reference, 4 boolean, 5 char, 6 byte -/
def am_rts : List (List Nat) := [[0, 0, 1, 0, 0, 0, 0, 0, 0, 0, 0, 0, 0, 0, 0, 0], [0, 0, 0, 1, 4, 0, 4, 0, 0, 1, 4, 4, 0, 0, 0, 1], [0, 0, 0, 0, 0, 4, 4, 0, 0, 0, 3, 0, 4, 4, 4, 0], [4, 4, 4, 4, 3, 3, 4, 4, 4, 1, 1, 4, 4, 4, 1, 4], [1, 0, 4, 0, 1, 1, 4, 2, 0, 1, 1, 1, 1, 1, 0, 0], [1, 1, 4, 1, 1, 1, 1, 1, 2, 1, 0, 4, 1, 0, 0, 1], [1, 1, 0, 0, 4, 4, 2, 4, 4, 2, 1, 1, 1, 1, 1, 0], [1, 0, 4, 4, 4, 4, 1, 0, 1, 4, 4, 0, 0, 1, 0, 0], [0, 1, 1, 1, 0, 0, 1, 0, 1, 0, 0, 0, 1, 1, 1, 1], [1, 0, 1, 1, 0, 1, 1, 1, 4, 0, 4, 1, 1, 1, 1, 1], [2, 1, 1, 1, 2, 1, 5, 1, 1, 6, 4, 0, 0, 5, 4, 1], [1, 1, 1, 4]]
def am_rt (m : Nat) : Nat := (am_rts.getD (m / 16) []).getD (m % 16) 0
/-- ids from 1 on: the kind and the length of what is made; in the order of making -/
def am_sh : List (List (Nat × Nat)) := [[(0, 0), (8, 4), (6, 14), (7, 2), (20, 700), (5, 7), (2, 10), (20, 16), (20, 16), (20, 16), (20, 16), (20, 16), (20, 48), (20, 48), (20, 48), (23, 80)], [(20, 80), (20, 80), (20, 80), (20, 32), (20, 32), (20, 16), (3, 12), (1, 4), (20, 6), (20, 32), (20, 8), (20, 8), (4, 11), (22, 8), (22, 8), (22, 8)], [(20, 8), (23, 8), (5, 7), (2, 10), (20, 16), (20, 16), (20, 16), (20, 16), (20, 16), (20, 48), (20, 48), (20, 48), (23, 80), (20, 80), (20, 80), (20, 80)], [(20, 32), (9, 61), (20, 700), (20, 160), (20, 160), (20, 160), (20, 160), (20, 160), (20, 2), (20, 64), (21, 32), (20, 96), (20, 96), (20, 96), (20, 32), (20, 32)], [(20, 32), (20, 32), (20, 32), (20, 2), (20, 400), (20, 400), (21, 32), (20, 32), (20, 32), (20, 32), (20, 32), (20, 8), (20, 8), (20, 8), (20, 8), (20, 16)], [(20, 32), (22, 8), (21, 8), (22, 8), (22, 8), (21, 8), (21, 8), (21, 8), (21, 16), (21, 16), (20, 8), (20, 8), (22, 1)]]
def am_strs : List String := ["LD", "LDN", "ST", "STN", "S", "R", "AND", "ANDN", "OR", "ORN", "XOR", "XORN", "ADD", "SUB", "MUL", "DIV", "MOD", "GT", "GE", "EQ", "NE", "LE", "LT", ")", "NOT", "JMP", "JMPC", "JMPCN", "RET", "RETC", "RETCN", "TON", "TOF", "TP", "CTU", "CTD", "CLR", "RISE", "FALL", "STEP", "GO", "IQMXTCWLE", "TE", "CV", "N", "TO", "IF", "IFN", "n is not 1 to 8", "i is not 0 to 31", "ticks is not 0 to 1000000", "n is not 0 to 100", "kind is not 0 to 4", "i is not 0 to 7", "what is not 0 to 3"]
def am_blen : List (List Nat) := [[2, 3, 2, 3, 1, 1, 3, 4, 2, 3, 3, 4, 3, 3, 3, 3], [3, 2, 2, 2, 2, 2, 2, 1, 3, 3, 4, 5, 3, 4, 5, 3], [3, 2, 3, 3, 3, 4, 4, 4, 2, 9, 2, 2, 1, 2, 2, 3], [15, 16, 25, 17, 18, 15, 18]]
def am_byt : List (List (List Int32)) := [[[76, 68], [76, 68, 78], [83, 84], [83, 84, 78], [83], [82], [65, 78, 68], [65, 78, 68, 78], [79, 82], [79, 82, 78], [88, 79, 82], [88, 79, 82, 78], [65, 68, 68], [83, 85, 66], [77, 85, 76], [68, 73, 86]], [[77, 79, 68], [71, 84], [71, 69], [69, 81], [78, 69], [76, 69], [76, 84], [41], [78, 79, 84], [74, 77, 80], [74, 77, 80, 67], [74, 77, 80, 67, 78], [82, 69, 84], [82, 69, 84, 67], [82, 69, 84, 67, 78], [84, 79, 78]], [[84, 79, 70], [84, 80], [67, 84, 85], [67, 84, 68], [67, 76, 82], [82, 73, 83, 69], [70, 65, 76, 76], [83, 84, 69, 80], [71, 79], [73, 81, 77, 88, 84, 67, 87, 76, 69], [84, 69], [67, 86], [78], [84, 79], [73, 70], [73, 70, 78]], [[110, 32, 105, 115, 32, 110, 111, 116, 32, 49, 32, 116, 111, 32, 56], [105, 32, 105, 115, 32, 110, 111, 116, 32, 48, 32, 116, 111, 32, 51, 49], [116, 105, 99, 107, 115, 32, 105, 115, 32, 110, 111, 116, 32, 48, 32, 116, 111, 32, 49, 48, 48, 48, 48, 48, 48], [110, 32, 105, 115, 32, 110, 111, 116, 32, 48, 32, 116, 111, 32, 49, 48, 48], [107, 105, 110, 100, 32, 105, 115, 32, 110, 111, 116, 32, 48, 32, 116, 111, 32, 52], [105, 32, 105, 115, 32, 110, 111, 116, 32, 48, 32, 116, 111, 32, 55], [119, 104, 97, 116, 32, 105, 115, 32, 110, 111, 116, 32, 48, 32, 116, 111, 32, 51]]]
def am_arr : List (List (List Int32)) := [[[32, 32, 32, 16, 8, 8, 32, 32, 16, 8, 8], [0, 0, 0, 0, 0, 0, 9, 10, 11, 12, 13, 14, 15, 16, 17, 18, 19, 20, 21, 22, 23, 24, 0, 0, 0, 0, 0, 0, 0, 0, 0, 1, 2, 3, 4, 5, 6, 7, 8, 0, 0]]]
def am_form : List (List Int32) := [[0, 0, 2, 2, 3, 3, 1, 1, 1, 1, 1, 1, 1, 1, 1, 1], [1, 1, 1, 1, 1, 1, 1, 4, 5, 6, 6, 6, 7, 7, 7, 8], [8, 8, 9, 9, 10, 11, 11, 12, 13]]
def am_mode : List (List Int32) := [[0, 1, 0, 1, 0, 0, 0, 1, 0, 1, 0, 1, 0, 0, 0, 0], [0, 0, 0, 0, 0, 0, 0, 0, 0, 0, 2, 3, 0, 2, 3, 0], [0, 0, 0, 0, 0, 0, 0, 0, 0]]
def am_ord : List (List Int32) := [[0, 1, 2, 3, 4, 5, 6, 7, 8, 9, 10, 11, 12, 13, 14, 15], [16, 17, 18, 19, 20, 21, 22, 23, 24, 25, 26, 27, 28, 29, 30, 31], [32, 33, 34, 35, 36, 37, 38, 39, 40]]
def am_spl : List (List Nat) := [[2001, 2002, 2003, 2004, 2005, 2006, 2007, 2008, 2009, 2010, 2011, 2012, 2013, 2014, 2015, 2016], [2017, 2018, 2019, 2020, 2021, 2022, 2023, 2024, 2025, 2026, 2027, 2028, 2029, 2030, 2031, 2032], [2033, 2034, 2035, 2036, 2037, 2038, 2039, 2040, 2041]]
/-- the class's own method behind a catch of the law -/
def am_wm (a : Nat) : Nat := ([73, 79, 80, 81, 82, 83, 84, 85] : List Nat).getD a 0
def am_get {α : Type} (l : List (List α)) (k : Nat) (d : α) : α := (l.getD (k / 16) []).getD (k % 16) d
/-- constants that stand at the start: ops 1001.., strings 2001.., their bytes 3001.., OPS 4001, int tables 4002.., the script 4600 -/
def am_S0 (L q : Nat) : Nat × Nat := cond (Nat.ble q 1000) (0, 0) (cond (Nat.ble q 1041) (30, 0) (cond (Nat.ble q 2000) (0, 0) (cond (Nat.ble q 2055) (31, 0) (cond (Nat.ble q 3000) (0, 0) (cond (Nat.ble q 3055) (27, am_get am_blen (q - 3001) 0) (cond (Nat.ble q 4000) (0, 0) (cond (Nat.beq q 4001) (25, 41) (cond (Nat.beq q 4600) (24, L) (cond (Nat.ble q 4003) (26, (am_get am_arr (q - 4002) []).length) (0, 0))))))))))
def am_SF (L q : Nat) : Nat × Nat := cond (Nat.ble q 92) (am_get am_sh q (0, 0)) (am_S0 L q)
/-- what constant arrays and objects hold: ints -/
def am_cI (q k : Nat) : Int32 := cond (Nat.ble q 2000) (cond (Nat.beq k 1) (am_get am_form (q - 1001) 0) (cond (Nat.beq k 2) (am_get am_mode (q - 1001) 0) (am_get am_ord (q - 1001) 0))) (cond (Nat.ble q 3000) 0 (cond (Nat.ble q 4000) ((am_get am_byt (q - 3001) []).getD k 0) ((am_get am_arr (q - 4002) []).getD k 0)))
/-- and references -/
def am_cR (q k : Nat) : Nat := cond (Nat.ble q 2000) (am_get am_spl (q - 1001) 0) (cond (Nat.ble q 3000) (q + 1000) (1001 + k))
def am_rf : List (List (List Nat)) := [[[], [2, 22, 34, 0], [3, 5, 0, 0, 0, 0, 0, 0, 0, 0, 0, 0, 20, 21], [4, 0], [], [6, 15, 16, 17, 18, 19, 0], [7, 8, 9, 10, 11, 0, 12, 13, 14, 0], [], [], [], [], [], [], [], [], []], [[], [], [], [], [], [], [23, 0, 0, 0, 0, 0, 28, 0, 0, 0, 32, 33], [24, 25, 26, 27], [], [], [], [], [0, 29, 0, 0, 30, 0, 31, 0, 0, 0, 0], [], [], []], [[], [], [35, 44, 45, 46, 47, 48, 0], [36, 37, 38, 39, 40, 0, 41, 42, 43, 0], [], [], [], [], [], [], [], [], [], [], [], []], [[], [0, 50, 0, 0, 0, 51, 52, 53, 54, 55, 56, 57, 58, 59, 60, 61, 62, 63, 64, 65, 66, 67, 0, 0, 0, 0, 0, 0, 0, 0, 68, 69, 0, 70, 71, 72, 73, 74, 75, 76, 77, 78, 79, 80, 0, 0, 0, 0, 81, 82, 83, 84, 85, 86, 87, 88, 89, 90, 91, 0, 0], [], [], [], [], [], [], [], [], [], [], [], [], [], []], [[], [], [], [], [], [], [], [], [], [], [], [], [], [], [], []], [[], [], [], [], [], [], [], [], [], [], [], [], []]]
/-- the references in fields, when all is made -/
def am_RF (q k : Nat) : Nat := (am_get am_rf q []).getD k 0
/-- the change of places of the two programs -/
def am_sig (q : Nat) : Nat := cond (Nat.ble 5 q && Nat.ble q 19) (q + 29) (cond (Nat.ble 34 q && Nat.ble q 48) (q - 29) q)
/-- field types by kind: 0 int, 5 boolean, 1 long, 2 a reference -/
def am_fts : List (List Nat) := [[], [2, 2, 2, 2], [2, 2, 2, 2, 2, 0, 2, 2, 2, 0], [2, 1, 0, 0, 0, 0, 2, 0, 0, 0, 2, 2], [0, 2, 0, 0, 2, 0, 2, 0, 0, 0, 0], [2, 2, 2, 2, 2, 2, 0], [2, 2, 0, 0, 0, 0, 0, 0, 5, 0, 0, 0, 2, 2], [2, 0], [2, 2, 2, 0], [0, 2, 0, 0, 0, 2, 2, 2, 2, 2, 2, 2, 2, 2, 2, 2, 2, 2, 2, 2, 2, 2, 0, 0, 0, 0, 0, 0, 0, 0, 2, 2, 0, 2, 2, 2, 2, 2, 2, 2, 2, 2, 2, 2, 1, 0, 0, 0, 2, 2, 2, 2, 2, 2, 2, 2, 2, 2, 2, 0, 0]]
def am_ft (kd k : Nat) : Nat := (am_fts.getD kd []).getD k 0
end
section
/-! LINKS: where each instruction of the tables stands in the bytecode, and which word of the tables resolves it: (pc, length, word, place in a list of constants). -/
def am_l0 : List (List (Nat × Nat × Nat × Nat)) := [[(0, 1, 0, 0), (1, 3, 277, 0), (4, 1, 0, 0), (5, 2, 0, 0), (7, 2, 0, 0), (9, 3, 281, 0), (12, 1, 0, 0), (13, 2, 0, 0), (15, 2, 0, 0), (17, 3, 284, 0), (20, 1, 0, 0), (21, 2, 0, 0), (23, 2, 0, 0), (25, 3, 285, 0), (28, 1, 0, 0), (29, 2, 0, 0)], [(31, 2, 0, 0), (33, 3, 286, 0), (36, 1, 0, 0), (37, 3, 281, 0), (40, 1, 0, 0), (41, 1, 0, 0), (42, 3, 278, 1), (45, 1, 0, 0)]]
def am_l1 : List (List (Nat × Nat × Nat × Nat)) := [[(0, 1, 0, 0), (1, 3, 281, 0), (4, 1, 0, 0), (5, 3, 683, 2), (8, 1, 0, 0), (9, 3, 284, 0), (12, 1, 0, 0), (13, 3, 683, 2), (16, 1, 0, 0), (17, 3, 285, 0), (20, 1, 0, 0), (21, 3, 683, 2), (24, 1, 0, 0), (25, 3, 286, 0), (28, 1, 0, 0), (29, 3, 683, 2)], [(32, 1, 0, 0), (33, 3, 281, 0), (36, 1, 0, 0), (37, 1, 0, 0), (38, 3, 278, 1), (41, 1, 0, 0)]]
def am_l2 : List (List (Nat × Nat × Nat × Nat)) := [[(0, 1, 0, 0), (1, 39, 0, 0), (40, 1, 0, 0), (41, 1, 0, 0), (42, 1, 0, 0), (43, 3, 284, 0), (46, 1, 0, 0), (47, 3, 876, 3), (50, 1, 0, 0), (51, 1, 0, 0), (52, 3, 285, 0), (55, 1, 0, 0), (56, 3, 876, 3), (59, 1, 0, 0), (60, 1, 0, 0), (61, 3, 286, 0)], [(64, 1, 0, 0), (65, 3, 876, 3), (68, 1, 0, 0), (69, 1, 0, 0), (70, 3, 281, 0), (73, 1, 0, 0), (74, 3, 876, 3), (77, 1, 0, 0), (78, 1, 0, 0), (79, 1, 0, 0), (80, 1, 0, 0), (81, 1, 0, 0)]]
def am_l3 : List (List (Nat × Nat × Nat × Nat)) := [[(0, 1, 0, 0), (1, 3, 281, 0), (4, 1, 0, 0), (5, 1, 0, 0), (6, 3, 281, 0), (9, 1, 0, 0), (10, 3, 876, 3), (13, 1, 0, 0), (14, 1, 0, 0), (15, 3, 877, 4), (18, 3, 278, 1), (21, 1, 0, 0)]]
def am_l4 : List (List (Nat × Nat × Nat × Nat)) := [[(0, 1, 0, 0), (1, 2, 0, 0), (3, 3, 0, 0), (6, 1, 0, 0), (7, 3, 284, 0), (10, 1, 0, 0), (11, 1, 0, 0), (12, 3, 278, 1), (15, 3, 0, 0), (18, 1, 0, 0), (19, 1, 0, 0), (20, 1, 0, 0), (21, 1, 0, 0), (22, 3, 0, 0), (25, 1, 0, 0), (26, 3, 0, 0)], [(29, 1, 0, 0), (30, 3, 942, 0), (33, 1, 0, 0)]]
def am_l5 : List (List (Nat × Nat × Nat × Nat)) := [[(0, 1, 0, 0), (1, 3, 281, 0), (4, 1, 0, 0), (5, 1, 0, 0), (6, 3, 281, 0), (9, 1, 0, 0), (10, 3, 876, 3), (13, 1, 0, 0), (14, 1, 0, 0), (15, 3, 877, 4), (18, 3, 278, 1), (21, 1, 0, 0), (22, 3, 285, 0), (25, 1, 0, 0), (26, 1, 0, 0), (27, 3, 278, 1)], [(30, 1, 0, 0)]]
def am_l6 : List (List (Nat × Nat × Nat × Nat)) := [[(0, 1, 0, 0), (1, 3, 286, 0), (4, 1, 0, 0), (5, 1, 0, 0), (6, 3, 278, 1), (9, 1, 0, 0)]]
def am_l7 : List (List (Nat × Nat × Nat × Nat)) := [[(0, 1, 0, 0), (1, 3, 142, 0), (4, 1, 0, 0), (5, 2, 0, 0), (7, 2, 0, 0), (9, 3, 143, 0), (12, 1, 0, 0), (13, 2, 0, 0), (15, 2, 0, 0), (17, 3, 145, 0), (20, 1, 0, 0), (21, 2, 0, 0), (23, 2, 0, 0), (25, 3, 147, 0), (28, 1, 0, 0), (29, 2, 0, 0)], [(31, 2, 0, 0), (33, 3, 149, 0), (36, 1, 0, 0), (37, 2, 0, 0), (39, 2, 0, 0), (41, 3, 151, 0), (44, 1, 0, 0), (45, 1, 0, 0), (46, 3, 153, 0), (49, 1, 0, 0), (50, 2, 0, 0), (52, 2, 0, 0), (54, 3, 156, 0), (57, 1, 0, 0), (58, 2, 0, 0), (60, 2, 0, 0)], [(62, 3, 158, 0), (65, 1, 0, 0), (66, 2, 0, 0), (68, 2, 0, 0), (70, 3, 160, 0), (73, 1, 0, 0), (74, 1, 0, 0), (75, 3, 162, 0), (78, 1, 0, 0)]]
def am_l8 : List (List (Nat × Nat × Nat × Nat)) := [[(0, 1, 0, 0), (1, 1, 0, 0), (2, 3, 153, 0), (5, 1, 0, 0), (6, 1, 0, 0), (7, 3, 162, 0), (10, 1, 0, 0), (11, 3, 156, 0), (14, 1, 0, 0), (15, 3, 419, 5), (18, 1, 0, 0)]]
def am_l9 : List (List (Nat × Nat × Nat × Nat)) := [[(0, 1, 0, 0), (1, 3, 143, 0), (4, 1, 0, 0), (5, 3, 153, 0), (8, 1, 0, 0), (9, 3, 636, 6), (12, 1, 0, 0), (13, 3, 145, 0), (16, 1, 0, 0), (17, 3, 153, 0), (20, 1, 0, 0), (21, 3, 636, 6), (24, 1, 0, 0), (25, 3, 147, 0), (28, 1, 0, 0), (29, 3, 153, 0)], [(32, 1, 0, 0), (33, 3, 636, 6), (36, 1, 0, 0), (37, 3, 149, 0), (40, 1, 0, 0), (41, 3, 153, 0), (44, 2, 0, 0), (46, 3, 636, 6), (49, 1, 0, 0), (50, 3, 151, 0), (53, 1, 0, 0), (54, 3, 153, 0), (57, 2, 0, 0), (59, 3, 636, 6), (62, 1, 0, 0), (63, 1, 0, 0)], [(64, 3, 153, 0), (67, 1, 0, 0), (68, 1, 0, 0), (69, 3, 153, 0), (72, 1, 0, 0)]]
def am_l10 : List (List (Nat × Nat × Nat × Nat)) := [[(0, 1, 0, 0), (1, 1, 0, 0), (2, 1, 0, 0), (3, 1, 0, 0), (4, 1, 0, 0), (5, 2, 0, 0), (7, 1, 0, 0), (8, 3, 156, 0), (11, 2, 0, 0), (13, 1, 0, 0), (14, 3, 636, 6), (17, 1, 0, 0), (18, 3, 158, 0), (21, 2, 0, 0), (23, 2, 0, 0), (25, 3, 636, 6)], [(28, 1, 0, 0), (29, 3, 160, 0), (32, 2, 0, 0), (34, 2, 0, 0), (36, 3, 636, 6), (39, 1, 0, 0)]]
def am_l11 : List (List (Nat × Nat × Nat × Nat)) := [[(0, 1, 0, 0), (1, 3, 271, 0), (4, 1, 0, 0), (5, 3, 272, 0), (8, 1, 0, 0), (9, 3, 274, 0), (12, 3, 338, 0), (15, 1, 0, 0), (16, 1, 0, 0), (17, 3, 340, 0), (20, 1, 0, 0), (21, 1, 0, 0), (22, 3, 342, 0), (25, 1, 0, 0), (26, 1, 0, 0), (27, 3, 344, 0)], [(30, 1, 0, 0), (31, 1, 0, 0), (32, 3, 346, 0), (35, 1, 0, 0), (36, 1, 0, 0), (37, 3, 348, 0), (40, 1, 0, 0), (41, 3, 296, 0), (44, 1, 0, 0), (45, 3, 298, 7), (48, 3, 350, 0), (51, 1, 0, 0), (52, 1, 0, 0), (53, 3, 351, 0), (56, 1, 0, 0), (57, 1, 0, 0)], [(58, 3, 352, 0), (61, 1, 0, 0), (62, 1, 0, 0), (63, 3, 353, 0), (66, 1, 0, 0), (67, 2, 0, 0), (69, 2, 0, 0), (71, 3, 354, 0), (74, 1, 0, 0), (75, 2, 0, 0), (77, 3, 337, 0), (80, 3, 355, 0), (83, 1, 0, 0)]]
def am_l12 : List (List (Nat × Nat × Nat × Nat)) := [[(0, 1, 0, 0), (1, 3, 338, 0), (4, 3, 679, 0), (7, 1, 0, 0), (8, 3, 350, 0), (11, 3, 684, 0), (14, 1, 0, 0), (15, 1, 0, 0), (16, 3, 340, 0), (19, 1, 0, 0), (20, 1, 0, 0), (21, 3, 342, 0), (24, 1, 0, 0), (25, 1, 0, 0), (26, 3, 344, 0), (29, 1, 0, 0)], [(30, 1, 0, 0), (31, 3, 346, 0), (34, 1, 0, 0), (35, 1, 0, 0), (36, 3, 348, 0), (39, 1, 0, 0)]]
def am_l13 : List (List (Nat × Nat × Nat × Nat)) := [[(0, 1, 0, 0), (1, 1, 0, 0), (2, 3, 340, 0), (5, 1, 0, 0), (6, 1, 0, 0), (7, 1, 0, 0), (8, 3, 340, 0), (11, 1, 0, 0), (12, 3, 338, 0), (15, 3, 282, 0), (18, 1, 0, 0), (19, 1, 0, 0), (20, 3, 833, 8), (23, 1, 0, 0), (24, 1, 0, 0), (25, 3, 348, 0)], [(28, 1, 0, 0), (29, 1, 0, 0), (30, 3, 834, 0), (33, 1, 0, 0), (34, 3, 344, 0), (37, 3, 0, 0), (40, 1, 0, 0), (41, 1, 0, 0), (42, 1, 0, 0), (43, 3, 188, 0), (46, 3, 954, 0), (49, 1, 0, 0), (50, 1, 0, 0), (51, 3, 188, 0), (54, 3, 962, 0), (57, 1, 0, 0)], [(58, 1, 0, 0), (59, 3, 338, 0), (62, 3, 282, 0), (65, 1, 0, 0), (66, 3, 846, 9), (69, 3, 342, 0), (72, 1, 0, 0)]]
def am_l14 : List (List (Nat × Nat × Nat × Nat)) := [[(0, 1, 0, 0), (1, 1, 0, 0), (2, 3, 351, 0), (5, 1, 0, 0), (6, 1, 0, 0), (7, 3, 352, 0), (10, 1, 0, 0), (11, 1, 0, 0), (12, 3, 353, 0), (15, 1, 0, 0), (16, 1, 0, 0), (17, 3, 346, 0), (20, 1, 0, 0), (21, 1, 0, 0), (22, 1, 0, 0), (23, 3, 0, 0)], [(26, 3, 0, 0), (29, 1, 0, 0), (30, 3, 352, 0), (33, 1, 0, 0), (34, 3, 201, 0), (37, 3, 0, 0), (40, 1, 0, 0), (41, 3, 352, 0), (44, 1, 0, 0), (45, 1, 0, 0), (46, 1, 0, 0), (47, 1, 0, 0), (48, 1, 0, 0), (49, 3, 352, 0), (52, 1, 0, 0), (53, 1, 0, 0)], [(54, 3, 838, 0), (57, 2, 0, 0), (59, 2, 0, 0), (61, 3, 0, 0), (64, 1, 0, 0), (65, 2, 0, 0), (67, 3, 842, 0), (70, 3, 0, 0), (73, 1, 0, 0), (74, 2, 0, 0), (76, 1, 0, 0), (77, 3, 194, 0), (80, 1, 0, 0), (81, 3, 846, 9), (84, 1, 0, 0), (85, 3, 196, 0)], [(88, 1, 0, 0), (89, 3, 846, 9), (92, 3, 847, 0), (95, 3, 0, 0), (98, 1, 0, 0), (99, 2, 0, 0), (101, 1, 0, 0), (102, 1, 0, 0), (103, 3, 916, 0), (106, 1, 0, 0), (107, 3, 344, 0), (110, 3, 0, 0), (113, 1, 0, 0), (114, 1, 0, 0), (115, 1, 0, 0), (116, 3, 346, 0)], [(119, 1, 0, 0), (120, 1, 0, 0), (121, 3, 346, 0), (124, 3, 0, 0), (127, 3, 0, 0), (130, 1, 0, 0), (131, 3, 352, 0), (134, 1, 0, 0), (135, 3, 201, 0), (138, 3, 0, 0), (141, 1, 0, 0), (142, 1, 0, 0), (143, 3, 344, 0), (146, 1, 0, 0)]]
def am_l15 : List (List (Nat × Nat × Nat × Nat)) := [[(0, 1, 0, 0), (1, 3, 192, 0), (4, 1, 0, 0), (5, 3, 846, 9), (8, 2, 0, 0), (10, 1, 0, 0), (11, 3, 194, 0), (14, 1, 0, 0), (15, 3, 846, 9), (18, 2, 0, 0), (20, 1, 0, 0), (21, 3, 1521, 0), (24, 48, 0, 0), (72, 1, 0, 0), (73, 1, 0, 0), (74, 1, 0, 0)], [(75, 3, 338, 0), (78, 2, 0, 0), (80, 2, 0, 0), (82, 3, 915, 0), (85, 3, 920, 0), (88, 3, 351, 0), (91, 3, 0, 0), (94, 2, 0, 0), (96, 2, 0, 0), (98, 3, 0, 0), (101, 1, 0, 0), (102, 1, 0, 0), (103, 3, 924, 0), (106, 3, 0, 0), (109, 1, 0, 0), (110, 1, 0, 0)], [(111, 1, 0, 0), (112, 1, 0, 0), (113, 3, 351, 0), (116, 1, 0, 0), (117, 3, 338, 0), (120, 2, 0, 0), (122, 2, 0, 0), (124, 3, 915, 0), (127, 3, 928, 0), (130, 3, 351, 0), (133, 3, 0, 0), (136, 1, 0, 0), (137, 3, 338, 0), (140, 2, 0, 0), (142, 2, 0, 0), (144, 1, 0, 0)], [(145, 1, 0, 0), (146, 3, 351, 0), (149, 3, 920, 0), (152, 3, 938, 0), (155, 3, 0, 0), (158, 1, 0, 0), (159, 3, 351, 0), (162, 3, 0, 0), (165, 1, 0, 0), (166, 3, 338, 0), (169, 2, 0, 0), (171, 2, 0, 0), (173, 1, 0, 0), (174, 3, 943, 0), (177, 3, 0, 0), (180, 1, 0, 0)], [(181, 3, 0, 0), (184, 1, 0, 0), (185, 3, 945, 0), (188, 3, 0, 0), (191, 1, 0, 0), (192, 3, 946, 0), (195, 3, 0, 0), (198, 1, 0, 0), (199, 1, 0, 0), (200, 3, 351, 0), (203, 3, 0, 0), (206, 1, 0, 0), (207, 3, 0, 0), (210, 1, 0, 0), (211, 3, 351, 0), (214, 3, 0, 0)], [(217, 1, 0, 0), (218, 1, 0, 0), (219, 3, 351, 0), (222, 3, 950, 0), (225, 3, 0, 0), (228, 1, 0, 0), (229, 1, 0, 0), (230, 3, 198, 0), (233, 2, 0, 0), (235, 3, 846, 9), (238, 3, 352, 0), (241, 3, 0, 0), (244, 1, 0, 0), (245, 1, 0, 0), (246, 3, 351, 0), (249, 3, 950, 0)], [(252, 3, 0, 0), (255, 1, 0, 0), (256, 1, 0, 0), (257, 3, 201, 0), (260, 3, 352, 0), (263, 3, 0, 0), (266, 1, 0, 0)]]
def am_l16 : List (List (Nat × Nat × Nat × Nat)) := [[(0, 1, 0, 0), (1, 3, 351, 0), (4, 3, 0, 0), (7, 1, 0, 0), (8, 3, 0, 0), (11, 1, 0, 0), (12, 2, 0, 0), (14, 3, 851, 1), (17, 1, 0, 0), (18, 3, 853, 0), (21, 1, 0, 0), (22, 46, 0, 0), (68, 1, 0, 0), (69, 3, 350, 0), (72, 1, 0, 0), (73, 3, 338, 0)], [(76, 1, 0, 0), (77, 2, 0, 0), (79, 1, 0, 0), (80, 1, 0, 0), (81, 3, 340, 0), (84, 3, 859, 0), (87, 3, 0, 0), (90, 1, 0, 0), (91, 3, 350, 0), (94, 1, 0, 0), (95, 3, 338, 0), (98, 1, 0, 0), (99, 2, 0, 0), (101, 1, 0, 0), (102, 1, 0, 0), (103, 3, 340, 0)], [(106, 3, 878, 0), (109, 3, 0, 0), (112, 1, 0, 0), (113, 3, 350, 0), (116, 1, 0, 0), (117, 3, 338, 0), (120, 1, 0, 0), (121, 2, 0, 0), (123, 1, 0, 0), (124, 1, 0, 0), (125, 3, 340, 0), (128, 3, 882, 0), (131, 3, 0, 0), (134, 1, 0, 0), (135, 3, 350, 0), (138, 1, 0, 0)], [(139, 3, 338, 0), (142, 1, 0, 0), (143, 2, 0, 0), (145, 1, 0, 0), (146, 3, 886, 0), (149, 3, 0, 0), (152, 1, 0, 0), (153, 3, 350, 0), (156, 1, 0, 0), (157, 3, 338, 0), (160, 1, 0, 0), (161, 2, 0, 0), (163, 3, 902, 0), (166, 3, 0, 0), (169, 2, 0, 0), (171, 3, 0, 0)], [(174, 1, 0, 0), (175, 3, 338, 0), (178, 1, 0, 0), (179, 1, 0, 0), (180, 3, 906, 0), (183, 3, 0, 0), (186, 1, 0, 0), (187, 1, 0, 0), (188, 3, 350, 0), (191, 1, 0, 0), (192, 2, 0, 0), (194, 3, 907, 0), (197, 3, 0, 0), (200, 1, 0, 0), (201, 3, 0, 0), (204, 1, 0, 0)], [(205, 3, 351, 0), (208, 3, 0, 0), (211, 1, 0, 0), (212, 1, 0, 0), (213, 3, 350, 0), (216, 1, 0, 0), (217, 2, 0, 0), (219, 3, 911, 0), (222, 3, 0, 0), (225, 1, 0, 0), (226, 3, 0, 0), (229, 1, 0, 0), (230, 3, 351, 0), (233, 3, 0, 0), (236, 1, 0, 0), (237, 3, 1521, 0)], [(240, 2, 0, 0), (242, 3, 0, 0), (245, 1, 0, 0), (246, 1, 0, 0), (247, 3, 338, 0), (250, 1, 0, 0), (251, 1, 0, 0), (252, 3, 915, 0), (255, 3, 351, 0), (258, 3, 0, 0), (261, 1, 0, 0), (262, 3, 1521, 0), (265, 2, 0, 0), (267, 3, 0, 0), (270, 1, 0, 0), (271, 1, 0, 0)], [(272, 3, 338, 0), (275, 1, 0, 0), (276, 1, 0, 0), (277, 3, 915, 0), (280, 3, 351, 0), (283, 1, 0, 0)]]
def am_l17 : List (List (Nat × Nat × Nat × Nat)) := [[(0, 1, 0, 0), (1, 3, 353, 0), (4, 3, 0, 0), (7, 1, 0, 0), (8, 3, 353, 0), (11, 1, 0, 0), (12, 3, 355, 0), (15, 1, 0, 0), (16, 3, 0, 0), (19, 1, 0, 0), (20, 1, 0, 0), (21, 3, 355, 0), (24, 1, 0, 0), (25, 3, 353, 0), (28, 1, 0, 0), (29, 1, 0, 0)], [(30, 1, 0, 0), (31, 3, 354, 0), (34, 1, 0, 0), (35, 3, 353, 0), (38, 1, 0, 0), (39, 3, 351, 0), (42, 3, 833, 8), (45, 1, 0, 0), (46, 1, 0, 0), (47, 3, 353, 0), (50, 1, 0, 0), (51, 1, 0, 0), (52, 3, 353, 0), (55, 1, 0, 0), (56, 1, 0, 0), (57, 3, 351, 0)], [(60, 1, 0, 0)]]
def am_l18 : List (List (Nat × Nat × Nat × Nat)) := [[(0, 1, 0, 0), (1, 3, 353, 0), (4, 1, 0, 0), (5, 3, 0, 0), (8, 1, 0, 0), (9, 3, 353, 0), (12, 1, 0, 0), (13, 3, 355, 0), (16, 1, 0, 0), (17, 3, 0, 0), (20, 1, 0, 0), (21, 1, 0, 0), (22, 1, 0, 0), (23, 3, 353, 0), (26, 1, 0, 0), (27, 1, 0, 0)], [(28, 3, 353, 0), (31, 1, 0, 0), (32, 3, 355, 0), (35, 1, 0, 0), (36, 3, 353, 0), (39, 1, 0, 0), (40, 1, 0, 0), (41, 1, 0, 0), (42, 3, 0, 0), (45, 1, 0, 0), (46, 1, 0, 0), (47, 1, 0, 0), (48, 1, 0, 0), (49, 3, 354, 0), (52, 1, 0, 0), (53, 3, 353, 0)], [(56, 3, 846, 9), (59, 1, 0, 0), (60, 3, 351, 0), (63, 3, 928, 0), (66, 3, 351, 0), (69, 1, 0, 0)]]
def am_l19 : List (List (Nat × Nat × Nat × Nat)) := [[(0, 1, 0, 0), (1, 1, 0, 0), (2, 3, 920, 0), (5, 2, 0, 0), (7, 3, 851, 1), (10, 1, 0, 0), (11, 3, 853, 0), (14, 1, 0, 0), (15, 57, 0, 0), (72, 1, 0, 0), (73, 2, 0, 0), (75, 1, 0, 0), (76, 1, 0, 0), (77, 1, 0, 0), (78, 2, 0, 0), (80, 1, 0, 0)], [(81, 1, 0, 0), (82, 1, 0, 0), (83, 2, 0, 0), (85, 1, 0, 0), (86, 1, 0, 0), (87, 1, 0, 0), (88, 2, 0, 0), (90, 1, 0, 0), (91, 1, 0, 0), (92, 1, 0, 0), (93, 2, 0, 0), (95, 1, 0, 0), (96, 1, 0, 0), (97, 1, 0, 0), (98, 2, 0, 0), (100, 1, 0, 0)], [(101, 1, 0, 0), (102, 2, 0, 0), (104, 3, 0, 0), (107, 1, 0, 0), (108, 1, 0, 0), (109, 3, 344, 0), (112, 1, 0, 0), (113, 1, 0, 0), (114, 1, 0, 0), (115, 3, 932, 2), (118, 3, 0, 0), (121, 1, 0, 0), (122, 2, 0, 0), (124, 1, 0, 0), (125, 3, 0, 0), (128, 1, 0, 0)], [(129, 2, 0, 0), (131, 1, 0, 0), (132, 1, 0, 0), (133, 1, 0, 0), (134, 1, 0, 0), (135, 1, 0, 0), (136, 2, 0, 0), (138, 3, 934, 0), (141, 3, 0, 0), (144, 1, 0, 0), (145, 3, 0, 0), (148, 1, 0, 0), (149, 1, 0, 0)]]
def am_l20 : List (List (Nat × Nat × Nat × Nat)) := [[(0, 3, 851, 1), (3, 1, 0, 0), (4, 3, 853, 0), (7, 1, 0, 0), (8, 36, 0, 0), (44, 1, 0, 0), (45, 1, 0, 0), (46, 3, 0, 0), (49, 1, 0, 0), (50, 3, 0, 0), (53, 1, 0, 0), (54, 1, 0, 0), (55, 1, 0, 0), (56, 1, 0, 0), (57, 3, 0, 0), (60, 1, 0, 0)], [(61, 3, 0, 0), (64, 1, 0, 0), (65, 1, 0, 0), (66, 1, 0, 0), (67, 1, 0, 0), (68, 3, 0, 0), (71, 1, 0, 0), (72, 3, 0, 0), (75, 1, 0, 0), (76, 1, 0, 0), (77, 1, 0, 0), (78, 1, 0, 0), (79, 3, 0, 0), (82, 1, 0, 0), (83, 3, 0, 0), (86, 1, 0, 0)], [(87, 1, 0, 0), (88, 1, 0, 0), (89, 1, 0, 0), (90, 3, 0, 0), (93, 1, 0, 0), (94, 3, 0, 0), (97, 1, 0, 0), (98, 1, 0, 0), (99, 1, 0, 0), (100, 1, 0, 0), (101, 3, 0, 0), (104, 1, 0, 0), (105, 3, 0, 0), (108, 1, 0, 0), (109, 1, 0, 0)]]
def am_l21 : List (List (Nat × Nat × Nat × Nat)) := [[(0, 1, 0, 0), (1, 1, 0, 0), (2, 1, 0, 0), (3, 1, 0, 0), (4, 1, 0, 0), (5, 1, 0, 0), (6, 3, 154, 0), (9, 3, 0, 0), (12, 1, 0, 0), (13, 3, 144, 0), (16, 1, 0, 0), (17, 3, 846, 9), (20, 2, 0, 0), (22, 1, 0, 0), (23, 3, 338, 0), (26, 3, 282, 0)], [(29, 1, 0, 0), (30, 3, 846, 9), (33, 2, 0, 0), (35, 2, 0, 0), (37, 2, 0, 0), (39, 1, 0, 0), (40, 2, 0, 0), (42, 3, 0, 0), (45, 1, 0, 0), (46, 1, 0, 0), (47, 1, 0, 0), (48, 3, 958, 0), (51, 3, 0, 0), (54, 1, 0, 0), (55, 3, 338, 0), (58, 3, 282, 0)], [(61, 1, 0, 0), (62, 2, 0, 0), (64, 2, 0, 0), (66, 1, 0, 0), (67, 1, 0, 0), (68, 1, 0, 0), (69, 3, 833, 8), (72, 1, 0, 0), (73, 1, 0, 0), (74, 3, 146, 0), (77, 1, 0, 0), (78, 3, 846, 9), (81, 1, 0, 0), (82, 1, 0, 0), (83, 1, 0, 0), (84, 1, 0, 0)], [(85, 3, 348, 0), (88, 1, 0, 0), (89, 1, 0, 0), (90, 3, 348, 0), (93, 3, 0, 0), (96, 3, 0, 0), (99, 1, 0, 0), (100, 3, 338, 0), (103, 3, 282, 0), (106, 1, 0, 0), (107, 1, 0, 0), (108, 3, 338, 0), (111, 3, 282, 0), (114, 1, 0, 0), (115, 3, 846, 9), (118, 1, 0, 0)], [(119, 1, 0, 0), (120, 3, 833, 8), (123, 1, 0, 0)]]
def am_l22 : List (List (Nat × Nat × Nat × Nat)) := [[(0, 1, 0, 0), (1, 3, 148, 0), (4, 1, 0, 0), (5, 3, 846, 9), (8, 1, 0, 0), (9, 1, 0, 0), (10, 3, 0, 0), (13, 1, 0, 0), (14, 1, 0, 0), (15, 1, 0, 0), (16, 3, 338, 0), (19, 1, 0, 0), (20, 3, 150, 0), (23, 1, 0, 0), (24, 3, 846, 9), (27, 1, 0, 0)], [(28, 3, 152, 0), (31, 1, 0, 0), (32, 3, 846, 9), (35, 3, 915, 0), (38, 2, 0, 0), (40, 1, 0, 0), (41, 1, 0, 0), (42, 3, 0, 0), (45, 1, 0, 0), (46, 3, 0, 0), (49, 1, 0, 0), (50, 2, 0, 0), (52, 3, 0, 0), (55, 1, 0, 0), (56, 3, 0, 0), (59, 1, 0, 0)], [(60, 3, 0, 0), (63, 1, 0, 0), (64, 3, 0, 0), (67, 1, 0, 0), (68, 1, 0, 0)]]
def am_l23 : List (List (Nat × Nat × Nat × Nat)) := [[(0, 1, 0, 0), (1, 3, 338, 0), (4, 3, 282, 0), (7, 1, 0, 0), (8, 3, 846, 9), (11, 1, 0, 0), (12, 2, 966, 0), (14, 1, 0, 0), (15, 1, 0, 0), (16, 1, 0, 0), (17, 1, 0, 0), (18, 1, 0, 0), (19, 1, 0, 0), (20, 3, 967, 0), (23, 1, 0, 0), (24, 1, 0, 0)], [(25, 1, 0, 0), (26, 1, 0, 0), (27, 1, 0, 0), (28, 3, 967, 0), (31, 1, 0, 0), (32, 2, 0, 0), (34, 2, 0, 0), (36, 2, 0, 0), (38, 3, 0, 0), (41, 1, 0, 0), (42, 3, 157, 0), (45, 2, 0, 0), (47, 3, 846, 9), (50, 2, 0, 0), (52, 2, 0, 0), (54, 1, 0, 0)], [(55, 3, 0, 0), (58, 2, 0, 0), (60, 1, 0, 0), (61, 3, 0, 0), (64, 1, 0, 0), (65, 2, 0, 0), (67, 1, 0, 0), (68, 1, 0, 0), (69, 3, 971, 10), (72, 3, 0, 0), (75, 1, 0, 0), (76, 3, 338, 0), (79, 1, 0, 0), (80, 3, 159, 0), (83, 2, 0, 0), (85, 3, 846, 9)], [(88, 1, 0, 0), (89, 3, 161, 0), (92, 2, 0, 0), (94, 3, 846, 9), (97, 2, 0, 0), (99, 1, 0, 0), (100, 3, 0, 0), (103, 1, 0, 0), (104, 3, 0, 0), (107, 1, 0, 0), (108, 3, 945, 0), (111, 3, 0, 0), (114, 3, 0, 0), (117, 1, 0, 0)]]
def am_l24 : List (List (Nat × Nat × Nat × Nat)) := [[(0, 1, 0, 0), (1, 2, 0, 0), (3, 2, 0, 0), (5, 2, 0, 0), (7, 3, 0, 0), (10, 1, 0, 0), (11, 3, 157, 0), (14, 2, 0, 0), (16, 3, 846, 9), (19, 1, 0, 0), (20, 3, 0, 0), (23, 1, 0, 0), (24, 2, 0, 0), (26, 1, 0, 0), (27, 1, 0, 0), (28, 3, 971, 10)], [(31, 3, 0, 0), (34, 1, 0, 0), (35, 3, 338, 0), (38, 1, 0, 0), (39, 3, 159, 0), (42, 2, 0, 0), (44, 3, 846, 9), (47, 1, 0, 0), (48, 3, 161, 0), (51, 2, 0, 0), (53, 3, 846, 9), (56, 2, 0, 0), (58, 3, 945, 0), (61, 3, 0, 0), (64, 3, 0, 0), (67, 1, 0, 0)]]
def am_l25 : List (List (Nat × Nat × Nat × Nat)) := [[(0, 1, 0, 0), (1, 3, 1522, 0), (4, 1, 0, 0), (5, 3, 0, 0), (8, 1, 0, 0), (9, 3, 0, 0), (12, 1, 0, 0), (13, 3, 0, 0), (16, 1, 0, 0), (17, 1, 0, 0), (18, 1, 0, 0), (19, 1, 0, 0)]]
def am_l26 : List (List (Nat × Nat × Nat × Nat)) := [[(0, 1, 0, 0), (1, 3, 1519, 0), (4, 2, 0, 0), (6, 3, 0, 0), (9, 1, 0, 0), (10, 3, 1519, 0), (13, 2, 0, 0), (15, 3, 0, 0), (18, 1, 0, 0), (19, 3, 1519, 0), (22, 2, 0, 0), (24, 3, 0, 0), (27, 1, 0, 0), (28, 3, 1519, 0), (31, 2, 0, 0), (33, 3, 0, 0)], [(36, 1, 0, 0), (37, 3, 0, 0), (40, 1, 0, 0), (41, 1, 0, 0)]]
def am_l27 : List (List (Nat × Nat × Nat × Nat)) := [[(0, 1, 0, 0), (1, 3, 1522, 0), (4, 3, 0, 0), (7, 1, 0, 0), (8, 3, 1522, 0), (11, 1, 0, 0), (12, 3, 0, 0), (15, 1, 0, 0), (16, 3, 0, 0), (19, 1, 0, 0), (20, 1, 0, 0), (21, 3, 0, 0), (24, 1, 0, 0), (25, 3, 0, 0), (28, 1, 0, 0), (29, 3, 0, 0)], [(32, 1, 0, 0), (33, 3, 0, 0), (36, 1, 0, 0), (37, 1, 0, 0)]]
def am_l28 : List (List (Nat × Nat × Nat × Nat)) := [[(0, 1, 0, 0), (1, 3, 301, 0), (4, 1, 0, 0), (5, 1, 0, 0), (6, 3, 302, 0), (9, 1, 0, 0), (10, 2, 0, 0), (12, 2, 0, 0), (14, 3, 303, 0), (17, 1, 0, 0), (18, 1, 0, 0), (19, 3, 304, 0), (22, 1, 0, 0), (23, 1, 0, 0), (24, 3, 305, 0), (27, 1, 0, 0)], [(28, 2, 0, 0), (30, 2, 0, 0), (32, 3, 306, 0), (35, 1, 0, 0), (36, 1, 0, 0), (37, 3, 307, 0), (40, 1, 0, 0), (41, 2, 0, 0), (43, 2, 0, 0), (45, 3, 308, 0), (48, 1, 0, 0), (49, 1, 0, 0), (50, 3, 309, 0), (53, 1, 0, 0), (54, 1, 0, 0), (55, 3, 310, 0)], [(58, 1, 0, 0), (59, 1, 0, 0), (60, 3, 311, 0), (63, 1, 0, 0), (64, 1, 0, 0), (65, 3, 312, 0), (68, 1, 0, 0)]]
def am_l29 : List (List (Nat × Nat × Nat × Nat)) := [[(0, 1, 0, 0), (1, 1, 0, 0), (2, 3, 302, 0), (5, 1, 0, 0), (6, 1, 0, 0), (7, 3, 304, 0), (10, 1, 0, 0), (11, 1, 0, 0), (12, 3, 305, 0), (15, 1, 0, 0), (16, 1, 0, 0), (17, 3, 307, 0), (20, 1, 0, 0), (21, 1, 0, 0), (22, 3, 309, 0), (25, 1, 0, 0)], [(26, 1, 0, 0), (27, 3, 310, 0), (30, 1, 0, 0), (31, 1, 0, 0), (32, 3, 311, 0), (35, 1, 0, 0), (36, 1, 0, 0), (37, 3, 312, 0), (40, 1, 0, 0)]]
def am_l30 : List (List (Nat × Nat × Nat × Nat)) := [[(0, 1, 0, 0), (1, 3, 0, 0), (4, 1, 0, 0), (5, 1, 0, 0), (6, 1, 0, 0), (7, 3, 0, 0), (10, 1, 0, 0), (11, 1, 0, 0), (12, 1, 0, 0), (13, 1, 0, 0), (14, 1, 0, 0)]]
def am_l31 : List (List (Nat × Nat × Nat × Nat)) := [[(0, 1, 0, 0), (1, 3, 0, 0), (4, 1, 0, 0), (5, 1, 0, 0), (6, 1, 0, 0), (7, 3, 0, 0), (10, 1, 0, 0), (11, 1, 0, 0), (12, 1, 0, 0), (13, 3, 0, 0), (16, 1, 0, 0), (17, 2, 0, 0), (19, 1, 0, 0), (20, 2, 0, 0), (22, 1, 0, 0), (23, 2, 0, 0)], [(25, 1, 0, 0), (26, 3, 871, 0), (29, 1, 0, 0), (30, 1, 0, 0)]]
def am_l32 : List (List (Nat × Nat × Nat × Nat)) := [[(0, 1, 0, 0), (1, 3, 0, 0), (4, 1, 0, 0), (5, 3, 302, 0), (8, 1, 0, 0), (9, 3, 863, 11), (12, 3, 0, 0), (15, 1, 0, 0), (16, 3, 303, 0), (19, 1, 0, 0), (20, 2, 0, 0), (22, 3, 864, 0), (25, 1, 0, 0), (26, 1, 0, 0), (27, 3, 302, 0), (30, 1, 0, 0)], [(31, 1, 0, 0), (32, 3, 867, 12), (35, 3, 302, 0), (38, 1, 0, 0), (39, 3, 0, 0), (42, 1, 0, 0), (43, 3, 303, 0), (46, 1, 0, 0), (47, 2, 0, 0), (49, 2, 0, 0), (51, 3, 868, 0), (54, 3, 0, 0), (57, 1, 0, 0), (58, 2, 0, 0), (60, 1, 0, 0), (61, 1, 0, 0)], [(62, 1, 0, 0), (63, 3, 0, 0), (66, 2, 0, 0), (68, 2, 0, 0), (70, 3, 0, 0), (73, 1, 0, 0), (74, 3, 0, 0), (77, 1, 0, 0), (78, 2, 0, 0), (80, 3, 872, 0), (83, 1, 0, 0)]]
def am_l33 : List (List (Nat × Nat × Nat × Nat)) := [[(0, 1, 0, 0), (1, 3, 0, 0), (4, 1, 0, 0), (5, 1, 0, 0), (6, 3, 304, 0), (9, 1, 0, 0), (10, 1, 0, 0), (11, 3, 867, 12), (14, 3, 304, 0), (17, 1, 0, 0), (18, 1, 0, 0), (19, 3, 305, 0), (22, 1, 0, 0), (23, 1, 0, 0), (24, 3, 867, 12), (27, 3, 305, 0)], [(30, 1, 0, 0), (31, 1, 0, 0), (32, 1, 0, 0), (33, 1, 0, 0), (34, 3, 872, 0), (37, 1, 0, 0), (38, 1, 0, 0), (39, 3, 304, 0), (42, 1, 0, 0), (43, 3, 863, 11), (46, 3, 0, 0), (49, 1, 0, 0), (50, 1, 0, 0), (51, 1, 0, 0), (52, 1, 0, 0), (53, 3, 872, 0)], [(56, 1, 0, 0), (57, 1, 0, 0), (58, 3, 305, 0), (61, 1, 0, 0), (62, 3, 863, 11), (65, 3, 0, 0), (68, 1, 0, 0), (69, 1, 0, 0), (70, 3, 305, 0), (73, 1, 0, 0), (74, 1, 0, 0), (75, 3, 867, 12), (78, 3, 305, 0), (81, 1, 0, 0), (82, 3, 306, 0), (85, 1, 0, 0)], [(86, 2, 0, 0), (88, 3, 864, 0), (91, 1, 0, 0), (92, 3, 306, 0), (95, 1, 0, 0), (96, 2, 0, 0), (98, 2, 0, 0), (100, 3, 868, 0), (103, 2, 0, 0), (105, 1, 0, 0), (106, 1, 0, 0), (107, 2, 0, 0), (109, 2, 0, 0), (111, 3, 0, 0), (114, 1, 0, 0), (115, 3, 0, 0)], [(118, 1, 0, 0), (119, 2, 0, 0), (121, 3, 872, 0), (124, 1, 0, 0)]]
def am_l34 : List (List (Nat × Nat × Nat × Nat)) := [[(0, 1, 0, 0), (1, 3, 0, 0), (4, 1, 0, 0), (5, 3, 307, 0), (8, 1, 0, 0), (9, 3, 863, 11), (12, 3, 0, 0), (15, 1, 0, 0), (16, 1, 0, 0), (17, 1, 0, 0), (18, 1, 0, 0), (19, 3, 872, 0), (22, 1, 0, 0), (23, 1, 0, 0), (24, 3, 307, 0), (27, 1, 0, 0)], [(28, 3, 863, 11), (31, 3, 0, 0), (34, 1, 0, 0), (35, 3, 308, 0), (38, 1, 0, 0), (39, 2, 0, 0), (41, 3, 864, 0), (44, 1, 0, 0), (45, 3, 308, 0), (48, 1, 0, 0), (49, 2, 0, 0), (51, 2, 0, 0), (53, 3, 868, 0), (56, 2, 0, 0), (58, 2, 0, 0), (60, 2, 0, 0)], [(62, 3, 0, 0), (65, 1, 0, 0), (66, 3, 0, 0), (69, 1, 0, 0), (70, 3, 0, 0), (73, 1, 0, 0), (74, 2, 0, 0), (76, 1, 0, 0), (77, 1, 0, 0), (78, 3, 307, 0), (81, 1, 0, 0), (82, 2, 0, 0), (84, 3, 0, 0), (87, 1, 0, 0), (88, 3, 0, 0), (91, 1, 0, 0)], [(92, 3, 867, 12), (95, 3, 307, 0), (98, 1, 0, 0), (99, 1, 0, 0), (100, 2, 0, 0), (102, 2, 0, 0), (104, 3, 0, 0), (107, 1, 0, 0), (108, 3, 0, 0), (111, 1, 0, 0), (112, 2, 0, 0), (114, 3, 0, 0), (117, 1, 0, 0), (118, 3, 0, 0), (121, 2, 0, 0), (123, 3, 872, 0)], [(126, 1, 0, 0)]]
def am_l35 : List (List (Nat × Nat × Nat × Nat)) := [[(0, 1, 0, 0), (1, 2, 0, 0), (3, 1, 0, 0), (4, 3, 890, 0), (7, 2, 0, 0), (9, 1, 0, 0), (10, 3, 0, 0), (13, 1, 0, 0), (14, 3, 309, 0), (17, 1, 0, 0), (18, 3, 863, 11), (21, 3, 0, 0), (24, 2, 0, 0), (26, 3, 0, 0), (29, 3, 0, 0), (32, 3, 0, 0)], [(35, 1, 0, 0), (36, 1, 0, 0), (37, 3, 309, 0), (40, 1, 0, 0), (41, 1, 0, 0), (42, 3, 867, 12), (45, 3, 309, 0), (48, 1, 0, 0), (49, 1, 0, 0), (50, 2, 0, 0), (52, 3, 894, 0), (55, 1, 0, 0), (56, 1, 0, 0), (57, 1, 0, 0), (58, 2, 0, 0), (60, 2, 0, 0)], [(62, 3, 0, 0), (65, 1, 0, 0), (66, 3, 0, 0), (69, 1, 0, 0), (70, 3, 898, 0), (73, 1, 0, 0)]]
def am_l36 : List (List (Nat × Nat × Nat × Nat)) := [[(0, 1, 0, 0), (1, 2, 0, 0), (3, 1, 0, 0), (4, 3, 890, 0), (7, 2, 0, 0), (9, 1, 0, 0), (10, 3, 0, 0), (13, 1, 0, 0), (14, 3, 310, 0), (17, 1, 0, 0), (18, 3, 863, 11), (21, 3, 0, 0), (24, 2, 0, 0), (26, 3, 0, 0), (29, 3, 0, 0), (32, 3, 0, 0)], [(35, 1, 0, 0), (36, 1, 0, 0), (37, 3, 310, 0), (40, 1, 0, 0), (41, 1, 0, 0), (42, 3, 867, 12), (45, 3, 310, 0), (48, 1, 0, 0), (49, 1, 0, 0), (50, 2, 0, 0), (52, 3, 894, 0), (55, 1, 0, 0), (56, 1, 0, 0), (57, 1, 0, 0), (58, 2, 0, 0), (60, 3, 0, 0)], [(63, 1, 0, 0), (64, 3, 0, 0), (67, 1, 0, 0), (68, 3, 898, 0), (71, 1, 0, 0)]]
def am_l37 : List (List (Nat × Nat × Nat × Nat)) := [[(0, 1, 0, 0), (1, 3, 311, 0), (4, 1, 0, 0), (5, 3, 863, 11), (8, 1, 0, 0), (9, 1, 0, 0), (10, 1, 0, 0), (11, 3, 311, 0), (14, 1, 0, 0), (15, 1, 0, 0), (16, 3, 867, 12), (19, 3, 311, 0), (22, 1, 0, 0), (23, 3, 0, 0), (26, 1, 0, 0), (27, 3, 0, 0)], [(30, 1, 0, 0), (31, 3, 0, 0), (34, 1, 0, 0), (35, 1, 0, 0)]]
def am_l38 : List (List (Nat × Nat × Nat × Nat)) := [[(0, 1, 0, 0), (1, 3, 312, 0), (4, 1, 0, 0), (5, 3, 863, 11), (8, 1, 0, 0), (9, 1, 0, 0), (10, 1, 0, 0), (11, 3, 312, 0), (14, 1, 0, 0), (15, 1, 0, 0), (16, 3, 867, 12), (19, 3, 312, 0), (22, 1, 0, 0), (23, 3, 0, 0), (26, 1, 0, 0), (27, 3, 0, 0)], [(30, 1, 0, 0), (31, 3, 0, 0), (34, 1, 0, 0), (35, 1, 0, 0)]]
def am_l39 : List (List (Nat × Nat × Nat × Nat)) := [[(0, 1, 0, 0), (1, 3, 136, 0), (4, 1, 0, 0), (5, 3, 137, 0), (8, 1, 0, 0), (9, 3, 139, 13), (12, 3, 187, 0), (15, 1, 0, 0), (16, 2, 0, 0), (18, 3, 185, 0), (21, 3, 190, 0), (24, 1, 0, 0), (25, 2, 0, 0), (27, 2, 0, 0), (29, 3, 191, 0), (32, 1, 0, 0)], [(33, 2, 0, 0), (35, 2, 0, 0), (37, 3, 193, 0), (40, 1, 0, 0), (41, 2, 0, 0), (43, 2, 0, 0), (45, 3, 195, 0), (48, 1, 0, 0), (49, 2, 0, 0), (51, 2, 0, 0), (53, 3, 197, 0), (56, 1, 0, 0), (57, 1, 0, 0), (58, 3, 200, 0), (61, 1, 0, 0)]]
def am_l40 : List (List (Nat × Nat × Nat × Nat)) := [[(0, 1, 0, 0), (1, 1, 0, 0), (2, 3, 200, 0), (5, 1, 0, 0), (6, 3, 197, 0), (9, 1, 0, 0), (10, 3, 412, 14), (13, 1, 0, 0), (14, 3, 187, 0), (17, 3, 415, 0), (20, 1, 0, 0)]]
def am_l41 : List (List (Nat × Nat × Nat × Nat)) := [[(0, 1, 0, 0), (1, 3, 200, 0), (4, 3, 0, 0), (7, 1, 0, 0), (8, 3, 200, 0), (11, 1, 0, 0), (12, 3, 190, 0), (15, 1, 0, 0), (16, 3, 0, 0), (19, 1, 0, 0), (20, 1, 0, 0), (21, 3, 190, 0), (24, 1, 0, 0), (25, 3, 200, 0), (28, 1, 0, 0), (29, 1, 0, 0)], [(30, 1, 0, 0), (31, 3, 191, 0), (34, 1, 0, 0), (35, 3, 200, 0), (38, 1, 0, 0), (39, 3, 669, 15), (42, 1, 0, 0), (43, 3, 193, 0), (46, 1, 0, 0), (47, 3, 200, 0), (50, 1, 0, 0), (51, 3, 669, 15), (54, 1, 0, 0), (55, 3, 195, 0), (58, 1, 0, 0), (59, 3, 200, 0)], [(62, 2, 0, 0), (64, 3, 669, 15), (67, 1, 0, 0), (68, 1, 0, 0), (69, 3, 200, 0), (72, 1, 0, 0), (73, 1, 0, 0), (74, 3, 200, 0), (77, 1, 0, 0)]]
def am_l42 : List (List (Nat × Nat × Nat × Nat)) := [[(0, 1, 0, 0), (1, 3, 0, 0), (4, 1, 0, 0), (5, 1, 0, 0), (6, 3, 190, 0), (9, 1, 0, 0), (10, 3, 0, 0), (13, 1, 0, 0), (14, 3, 190, 0), (17, 1, 0, 0), (18, 1, 0, 0), (19, 3, 0, 0), (22, 1, 0, 0), (23, 1, 0, 0)]]
def am_l43 : List (List (Nat × Nat × Nat × Nat)) := [[(0, 1, 0, 0), (1, 3, 114, 0), (4, 1, 0, 0), (5, 3, 115, 0), (8, 1, 0, 0), (9, 3, 117, 16), (12, 3, 219, 0), (15, 1, 0, 0), (16, 3, 131, 0), (19, 1, 0, 0), (20, 3, 133, 17), (23, 3, 221, 0), (26, 1, 0, 0), (27, 1, 0, 0), (28, 3, 223, 0), (31, 1, 0, 0)], [(32, 1, 0, 0), (33, 3, 225, 0), (36, 1, 0, 0), (37, 2, 0, 0), (39, 2, 0, 0), (41, 3, 235, 0), (44, 1, 0, 0), (45, 2, 0, 0), (47, 2, 0, 0), (49, 3, 236, 0), (52, 1, 0, 0)]]
def am_l44 : List (List (Nat × Nat × Nat × Nat)) := [[(0, 1, 0, 0), (1, 3, 221, 0), (4, 3, 408, 0), (7, 1, 0, 0), (8, 3, 235, 0), (11, 1, 0, 0), (12, 3, 420, 18), (15, 1, 0, 0), (16, 3, 236, 0), (19, 1, 0, 0), (20, 3, 420, 18), (23, 1, 0, 0), (24, 1, 0, 0), (25, 3, 223, 0), (28, 1, 0, 0), (29, 1, 0, 0)], [(30, 3, 225, 0), (33, 1, 0, 0), (34, 1, 0, 0), (35, 3, 232, 0), (38, 1, 0, 0), (39, 1, 0, 0), (40, 3, 229, 0), (43, 1, 0, 0), (44, 3, 421, 0), (47, 1, 0, 0), (48, 1, 0, 0), (49, 1, 0, 0), (50, 3, 0, 0), (53, 3, 0, 0), (56, 1, 0, 0), (57, 3, 227, 0)], [(60, 3, 0, 0), (63, 1, 0, 0), (64, 3, 429, 0), (67, 3, 0, 0), (70, 1, 0, 0), (71, 3, 445, 0), (74, 3, 0, 0), (77, 1, 0, 0), (78, 3, 0, 0), (81, 1, 0, 0), (82, 1, 0, 0), (83, 1, 0, 0), (84, 3, 0, 0), (87, 1, 0, 0), (88, 3, 227, 0), (91, 1, 0, 0)], [(92, 3, 0, 0), (95, 1, 0, 0), (96, 3, 458, 0), (99, 1, 0, 0), (100, 1, 0, 0), (101, 3, 0, 0), (104, 1, 0, 0), (105, 3, 1518, 0), (108, 2, 0, 0), (110, 3, 0, 0), (113, 1, 0, 0), (114, 3, 528, 0), (117, 3, 0, 0), (120, 3, 0, 0), (123, 1, 0, 0), (124, 3, 1518, 0)], [(127, 2, 0, 0), (129, 3, 0, 0), (132, 1, 0, 0), (133, 3, 637, 0), (136, 3, 0, 0), (139, 3, 0, 0), (142, 1, 0, 0), (143, 1, 0, 0), (144, 3, 656, 0), (147, 3, 0, 0), (150, 1, 0, 0), (151, 3, 0, 0), (154, 1, 0, 0), (155, 1, 0, 0), (156, 1, 0, 0), (157, 3, 0, 0)], [(160, 1, 0, 0), (161, 1, 0, 0), (162, 1, 0, 0), (163, 3, 227, 0), (166, 1, 0, 0), (167, 3, 0, 0), (170, 1, 0, 0), (171, 1, 0, 0), (172, 3, 450, 0), (175, 1, 0, 0), (176, 1, 0, 0), (177, 3, 421, 0), (180, 3, 0, 0), (183, 3, 0, 0), (186, 1, 0, 0), (187, 3, 232, 0)], [(190, 3, 0, 0), (193, 1, 0, 0), (194, 1, 0, 0), (195, 3, 450, 0), (198, 3, 0, 0), (201, 1, 0, 0), (202, 3, 670, 0), (205, 1, 0, 0)]]
def am_l45 : List (List (Nat × Nat × Nat × Nat)) := [[(0, 1, 0, 0), (1, 1, 0, 0), (2, 3, 223, 0), (5, 1, 0, 0), (6, 1, 0, 0), (7, 3, 228, 0), (10, 3, 225, 0), (13, 1, 0, 0), (14, 1, 0, 0)]]
def am_l46 : List (List (Nat × Nat × Nat × Nat)) := [[(0, 1, 0, 0), (1, 1, 0, 0), (2, 3, 223, 0), (5, 1, 0, 0), (6, 1, 0, 0), (7, 3, 225, 0), (10, 1, 0, 0), (11, 1, 0, 0)]]
def am_l47 : List (List (Nat × Nat × Nat × Nat)) := [[(0, 1, 0, 0), (1, 1, 0, 0), (2, 3, 229, 0), (5, 3, 228, 0), (8, 1, 0, 0), (9, 3, 228, 0), (12, 1, 0, 0), (13, 3, 219, 0), (16, 3, 124, 0), (19, 3, 0, 0), (22, 1, 0, 0), (23, 3, 219, 0), (26, 1, 0, 0), (27, 3, 228, 0), (30, 3, 425, 0), (33, 2, 0, 0)], [(35, 3, 0, 0), (38, 1, 0, 0), (39, 1, 0, 0), (40, 3, 228, 0), (43, 1, 0, 0), (44, 1, 0, 0), (45, 3, 228, 0), (48, 3, 0, 0), (51, 1, 0, 0), (52, 1, 0, 0), (53, 3, 228, 0), (56, 3, 229, 0), (59, 1, 0, 0), (60, 3, 229, 0), (63, 1, 0, 0), (64, 3, 219, 0)], [(67, 3, 124, 0), (70, 3, 0, 0), (73, 1, 0, 0), (74, 3, 219, 0), (77, 1, 0, 0), (78, 3, 229, 0), (81, 3, 425, 0), (84, 2, 0, 0), (86, 3, 0, 0), (89, 1, 0, 0), (90, 3, 219, 0), (93, 1, 0, 0), (94, 3, 229, 0), (97, 3, 425, 0), (100, 2, 0, 0), (102, 3, 0, 0)], [(105, 1, 0, 0), (106, 1, 0, 0), (107, 3, 229, 0), (110, 1, 0, 0), (111, 1, 0, 0), (112, 3, 229, 0), (115, 3, 0, 0), (118, 1, 0, 0), (119, 3, 229, 0), (122, 1, 0, 0), (123, 3, 228, 0), (126, 3, 0, 0), (129, 1, 0, 0), (130, 1, 0, 0), (131, 3, 227, 0), (134, 3, 0, 0)], [(137, 1, 0, 0), (138, 3, 228, 0), (141, 1, 0, 0), (142, 3, 219, 0), (145, 3, 124, 0), (148, 3, 0, 0), (151, 1, 0, 0), (152, 1, 0, 0), (153, 3, 227, 0), (156, 1, 0, 0), (157, 1, 0, 0), (158, 3, 228, 0), (161, 1, 0, 0), (162, 1, 0, 0), (163, 3, 229, 0), (166, 3, 0, 0)], [(169, 1, 0, 0), (170, 1, 0, 0), (171, 3, 227, 0), (174, 1, 0, 0), (175, 1, 0, 0), (176, 3, 229, 0), (179, 3, 230, 0), (182, 1, 0, 0), (183, 3, 230, 0), (186, 1, 0, 0), (187, 3, 228, 0), (190, 3, 0, 0), (193, 1, 0, 0), (194, 3, 219, 0), (197, 1, 0, 0), (198, 3, 230, 0)], [(201, 1, 0, 0), (202, 1, 0, 0), (203, 3, 425, 0), (206, 2, 0, 0), (208, 3, 0, 0), (211, 1, 0, 0), (212, 3, 219, 0), (215, 1, 0, 0), (216, 3, 230, 0), (219, 1, 0, 0), (220, 1, 0, 0), (221, 3, 425, 0), (224, 2, 0, 0), (226, 3, 0, 0), (229, 1, 0, 0), (230, 1, 0, 0)], [(231, 3, 230, 0), (234, 1, 0, 0), (235, 1, 0, 0), (236, 3, 230, 0), (239, 3, 0, 0), (242, 1, 0, 0)]]
def am_l48 : List (List (Nat × Nat × Nat × Nat)) := [[(0, 1, 0, 0), (1, 3, 227, 0), (4, 1, 0, 0), (5, 3, 0, 0), (8, 1, 0, 0), (9, 3, 219, 0), (12, 1, 0, 0), (13, 1, 0, 0), (14, 3, 228, 0), (17, 1, 0, 0), (18, 3, 229, 0), (21, 3, 468, 0), (24, 3, 0, 0), (27, 1, 0, 0), (28, 3, 0, 0), (31, 1, 0, 0)], [(32, 1, 0, 0)]]
def am_l49 : List (List (Nat × Nat × Nat × Nat)) := [[(0, 1, 0, 0), (1, 3, 227, 0), (4, 1, 0, 0), (5, 3, 0, 0), (8, 1, 0, 0), (9, 3, 230, 0), (12, 1, 0, 0), (13, 3, 228, 0), (16, 3, 0, 0), (19, 1, 0, 0), (20, 3, 0, 0), (23, 1, 0, 0), (24, 1, 0, 0)]]
def am_l50 : List (List (Nat × Nat × Nat × Nat)) := [[(0, 1, 0, 0), (1, 3, 227, 0), (4, 1, 0, 0), (5, 3, 0, 0), (8, 1, 0, 0), (9, 3, 219, 0), (12, 1, 0, 0), (13, 3, 228, 0), (16, 3, 425, 0), (19, 2, 0, 0), (21, 3, 0, 0), (24, 1, 0, 0), (25, 3, 219, 0), (28, 1, 0, 0), (29, 3, 229, 0), (32, 1, 0, 0)], [(33, 1, 0, 0), (34, 3, 425, 0), (37, 2, 0, 0), (39, 3, 0, 0), (42, 1, 0, 0), (43, 3, 219, 0), (46, 1, 0, 0), (47, 3, 228, 0), (50, 1, 0, 0), (51, 1, 0, 0), (52, 1, 0, 0), (53, 3, 229, 0), (56, 1, 0, 0), (57, 1, 0, 0), (58, 3, 433, 0), (61, 3, 444, 0)], [(64, 1, 0, 0), (65, 3, 0, 0), (68, 1, 0, 0), (69, 3, 0, 0), (72, 1, 0, 0), (73, 1, 0, 0)]]
def am_l51 : List (List (Nat × Nat × Nat × Nat)) := [[(0, 1, 0, 0), (1, 3, 219, 0), (4, 1, 0, 0), (5, 3, 228, 0), (8, 1, 0, 0), (9, 1, 0, 0), (10, 1, 0, 0), (11, 3, 229, 0), (14, 1, 0, 0), (15, 1, 0, 0), (16, 3, 433, 0), (19, 1, 0, 0), (20, 1, 0, 0), (21, 3, 229, 0), (24, 1, 0, 0), (25, 3, 228, 0)], [(28, 1, 0, 0), (29, 1, 0, 0), (30, 1, 0, 0), (31, 1, 0, 0), (32, 3, 0, 0), (35, 1, 0, 0), (36, 1, 0, 0), (37, 1, 0, 0), (38, 3, 0, 0), (41, 1, 0, 0), (42, 3, 449, 0), (45, 1, 0, 0), (46, 3, 0, 0), (49, 1, 0, 0), (50, 1, 0, 0), (51, 3, 450, 0)], [(54, 1, 0, 0), (55, 1, 0, 0), (56, 1, 0, 0), (57, 1, 0, 0), (58, 1, 0, 0), (59, 3, 221, 0), (62, 3, 199, 0), (65, 1, 0, 0), (66, 3, 454, 19), (69, 1, 0, 0), (70, 3, 0, 0), (73, 1, 0, 0), (74, 1, 0, 0), (75, 3, 450, 0), (78, 1, 0, 0), (79, 1, 0, 0)], [(80, 3, 232, 0), (83, 3, 0, 0), (86, 1, 0, 0), (87, 1, 0, 0), (88, 3, 450, 0), (91, 1, 0, 0), (92, 1, 0, 0), (93, 3, 221, 0), (96, 3, 199, 0), (99, 1, 0, 0), (100, 1, 0, 0), (101, 3, 221, 0), (104, 3, 203, 0), (107, 3, 457, 20), (110, 1, 0, 0), (111, 3, 421, 0)], [(114, 1, 0, 0), (115, 1, 0, 0)]]
def am_l52 : List (List (Nat × Nat × Nat × Nat)) := [[(0, 1, 0, 0), (1, 1, 0, 0), (2, 3, 219, 0), (5, 1, 0, 0), (6, 3, 229, 0), (9, 1, 0, 0), (10, 1, 0, 0), (11, 3, 425, 0), (14, 2, 0, 0), (16, 3, 0, 0), (19, 1, 0, 0), (20, 3, 0, 0), (23, 1, 0, 0), (24, 3, 231, 0), (27, 1, 0, 0), (28, 1, 0, 0)], [(29, 3, 228, 0), (32, 1, 0, 0), (33, 3, 231, 0), (36, 3, 0, 0), (39, 1, 0, 0), (40, 3, 229, 0), (43, 1, 0, 0), (44, 1, 0, 0), (45, 3, 0, 0), (48, 1, 0, 0), (49, 3, 229, 0), (52, 3, 462, 0), (55, 1, 0, 0), (56, 1, 0, 0), (57, 3, 0, 0), (60, 1, 0, 0)], [(61, 3, 231, 0), (64, 3, 0, 0), (67, 1, 0, 0), (68, 3, 1518, 0), (71, 1, 0, 0), (72, 3, 0, 0), (75, 1, 0, 0), (76, 1, 0, 0), (77, 3, 450, 0), (80, 1, 0, 0), (81, 1, 0, 0), (82, 1, 0, 0), (83, 1, 0, 0), (84, 1, 0, 0), (85, 3, 520, 0), (88, 3, 0, 0)], [(91, 1, 0, 0), (92, 1, 0, 0), (93, 3, 450, 0), (96, 1, 0, 0), (97, 1, 0, 0), (98, 1, 0, 0), (99, 1, 0, 0), (100, 1, 0, 0), (101, 3, 524, 0), (104, 3, 0, 0), (107, 1, 0, 0), (108, 1, 0, 0), (109, 3, 450, 0), (112, 1, 0, 0), (113, 1, 0, 0), (114, 1, 0, 0)], [(115, 1, 0, 0), (116, 3, 231, 0), (119, 3, 0, 0), (122, 1, 0, 0), (123, 1, 0, 0), (124, 3, 232, 0), (127, 1, 0, 0), (128, 1, 0, 0), (129, 3, 232, 0), (132, 3, 0, 0), (135, 1, 0, 0), (136, 3, 1518, 0), (139, 1, 0, 0), (140, 3, 0, 0), (143, 1, 0, 0), (144, 1, 0, 0)], [(145, 3, 232, 0), (148, 1, 0, 0), (149, 1, 0, 0), (150, 3, 232, 0), (153, 1, 0, 0), (154, 3, 421, 0), (157, 1, 0, 0), (158, 1, 0, 0)]]
def am_l53 : List (List (Nat × Nat × Nat × Nat)) := [[(0, 3, 10000, 3), (3, 1, 0, 0), (4, 1, 0, 0), (5, 1, 0, 0), (6, 2, 0, 0), (8, 1, 0, 0), (9, 2, 0, 0), (11, 2, 0, 0), (13, 2, 0, 0), (15, 3, 0, 0), (18, 1, 0, 0), (19, 2, 0, 0), (21, 1, 0, 0), (22, 2, 0, 0), (24, 1, 0, 0), (25, 3, 219, 0)], [(28, 2, 0, 0), (30, 3, 1515, 0), (33, 1, 0, 0), (34, 1, 0, 0), (35, 3, 468, 0), (38, 3, 0, 0), (41, 2, 0, 0), (43, 1, 0, 0), (44, 3, 0, 0), (47, 3, 0, 0), (50, 1, 0, 0), (51, 1, 0, 0)]]
def am_l54 : List (List (Nat × Nat × Nat × Nat)) := [[(0, 1, 0, 0), (1, 3, 1518, 0), (4, 2, 0, 0), (6, 3, 0, 0), (9, 1, 0, 0), (10, 3, 221, 0), (13, 3, 189, 0), (16, 3, 155, 0), (19, 2, 0, 0), (21, 3, 0, 0), (24, 1, 0, 0), (25, 3, 0, 0), (28, 1, 0, 0), (29, 1, 0, 0), (30, 1, 0, 0), (31, 3, 1518, 0)], [(34, 2, 0, 0), (36, 3, 0, 0), (39, 1, 0, 0), (40, 3, 221, 0), (43, 3, 203, 0), (46, 2, 0, 0), (48, 3, 0, 0), (51, 1, 0, 0), (52, 3, 0, 0), (55, 1, 0, 0), (56, 1, 0, 0)]]
def am_l55 : List (List (Nat × Nat × Nat × Nat)) := [[(0, 1, 0, 0), (1, 3, 1518, 0), (4, 68, 0, 0), (72, 1, 0, 0), (73, 3, 231, 0), (76, 3, 0, 0), (79, 1, 0, 0), (80, 3, 232, 0), (83, 2, 0, 0), (85, 3, 0, 0), (88, 1, 0, 0), (89, 3, 0, 0), (92, 1, 0, 0), (93, 1, 0, 0), (94, 1, 0, 0), (95, 3, 232, 0)], [(98, 3, 0, 0), (101, 1, 0, 0), (102, 3, 0, 0), (105, 1, 0, 0), (106, 1, 0, 0), (107, 1, 0, 0), (108, 3, 232, 0), (111, 3, 0, 0), (114, 1, 0, 0), (115, 3, 0, 0), (118, 1, 0, 0), (119, 1, 0, 0), (120, 1, 0, 0), (121, 1, 0, 0)]]
def am_l56 : List (List (Nat × Nat × Nat × Nat)) := [[(0, 1, 0, 0), (1, 3, 228, 0), (4, 1, 0, 0), (5, 1, 0, 0), (6, 1, 0, 0), (7, 1, 0, 0), (8, 2, 0, 0), (10, 3, 233, 0), (13, 1, 0, 0), (14, 1, 0, 0), (15, 3, 234, 0), (18, 1, 0, 0), (19, 3, 231, 0), (22, 3, 0, 0), (25, 1, 0, 0), (26, 3, 0, 0)], [(29, 1, 0, 0), (30, 1, 0, 0), (31, 3, 660, 0), (34, 2, 0, 0), (36, 2, 0, 0), (38, 3, 0, 0), (41, 1, 0, 0), (42, 2, 0, 0), (44, 3, 555, 0), (47, 3, 0, 0), (50, 1, 0, 0), (51, 1, 0, 0), (52, 1, 0, 0), (53, 3, 233, 0), (56, 2, 0, 0), (58, 1, 0, 0)], [(59, 3, 234, 0), (62, 2, 0, 0), (64, 1, 0, 0), (65, 3, 1518, 0), (68, 2, 0, 0), (70, 3, 0, 0), (73, 1, 0, 0), (74, 3, 1518, 0), (77, 2, 0, 0), (79, 3, 0, 0), (82, 1, 0, 0), (83, 3, 0, 0), (86, 1, 0, 0), (87, 3, 1518, 0), (90, 2, 0, 0), (92, 3, 0, 0)], [(95, 2, 664, 0), (97, 3, 0, 0), (100, 3, 0, 0), (103, 3, 540, 0), (106, 3, 0, 0), (109, 1, 0, 0), (110, 1, 0, 0), (111, 1, 0, 0), (112, 3, 234, 0), (115, 1, 0, 0), (116, 3, 0, 0), (119, 1, 0, 0), (120, 3, 1518, 0), (123, 2, 0, 0), (125, 3, 0, 0), (128, 1, 0, 0)], [(129, 1, 0, 0), (130, 3, 235, 0), (133, 2, 0, 0), (135, 1, 0, 0), (136, 3, 544, 0), (139, 1, 0, 0), (140, 3, 221, 0), (143, 1, 0, 0), (144, 2, 0, 0), (146, 2, 0, 0), (148, 1, 0, 0), (149, 3, 665, 0), (152, 1, 0, 0), (153, 1, 0, 0)]]
def am_l57 : List (List (Nat × Nat × Nat × Nat)) := [[(0, 1, 0, 0), (1, 3, 1518, 0), (4, 64, 0, 0), (68, 3, 0, 0), (71, 1, 0, 0), (72, 2, 0, 0), (74, 1, 0, 0), (75, 2, 0, 0), (77, 1, 0, 0), (78, 3, 0, 0), (81, 1, 0, 0), (82, 2, 0, 0), (84, 1, 0, 0), (85, 2, 0, 0), (87, 1, 0, 0), (88, 3, 0, 0)], [(91, 1, 0, 0), (92, 1, 0, 0), (93, 1, 0, 0)]]
def am_l58 : List (List (Nat × Nat × Nat × Nat)) := [[(0, 1, 0, 0), (1, 3, 227, 0), (4, 1, 0, 0), (5, 3, 0, 0), (8, 1, 0, 0), (9, 3, 230, 0), (12, 1, 0, 0), (13, 3, 229, 0), (16, 3, 0, 0), (19, 1, 0, 0), (20, 1, 0, 0), (21, 1, 0, 0), (22, 3, 230, 0), (25, 1, 0, 0), (26, 3, 228, 0), (29, 3, 0, 0)], [(32, 2, 0, 0), (34, 1, 0, 0), (35, 1, 0, 0), (36, 3, 230, 0), (39, 1, 0, 0), (40, 3, 228, 0), (43, 1, 0, 0), (44, 1, 0, 0), (45, 3, 0, 0), (48, 1, 0, 0), (49, 3, 219, 0), (52, 1, 0, 0), (53, 3, 228, 0), (56, 3, 425, 0), (59, 1, 0, 0), (60, 1, 0, 0)], [(61, 2, 0, 0), (63, 3, 0, 0), (66, 2, 0, 0), (68, 3, 0, 0), (71, 2, 563, 0), (73, 1, 0, 0), (74, 1, 0, 0), (75, 3, 564, 0), (78, 1, 0, 0), (79, 1, 0, 0), (80, 3, 219, 0), (83, 2, 623, 1), (85, 1, 0, 0), (86, 3, 228, 0), (89, 1, 0, 0), (90, 3, 230, 0)], [(93, 3, 468, 0), (96, 3, 0, 0), (99, 2, 0, 0), (101, 1, 0, 0), (102, 1, 0, 0), (103, 3, 219, 0), (106, 2, 624, 2), (108, 1, 0, 0), (109, 3, 228, 0), (112, 1, 0, 0), (113, 3, 230, 0), (116, 3, 468, 0), (119, 3, 0, 0), (122, 2, 0, 0), (124, 3, 0, 0), (127, 1, 0, 0)], [(128, 1, 0, 0)]]
def am_l59 : List (List (Nat × Nat × Nat × Nat)) := [[(0, 1, 0, 0), (1, 3, 559, 0), (4, 1, 0, 0), (5, 1, 0, 0), (6, 1, 0, 0), (7, 3, 0, 0), (10, 1, 0, 0), (11, 1, 0, 0), (12, 3, 625, 21), (15, 3, 0, 0), (18, 1, 0, 0), (19, 1, 0, 0), (20, 3, 450, 0), (23, 1, 0, 0), (24, 1, 0, 0), (25, 3, 219, 0)], [(28, 1, 0, 0), (29, 3, 230, 0), (32, 1, 0, 0), (33, 3, 229, 0), (36, 3, 433, 0), (39, 1, 0, 0), (40, 1, 0, 0), (41, 2, 0, 0), (43, 3, 0, 0), (46, 1, 0, 0), (47, 3, 230, 0), (50, 1, 0, 0), (51, 3, 228, 0), (54, 3, 0, 0), (57, 1, 0, 0), (58, 1, 0, 0)], [(59, 3, 0, 0), (62, 1, 0, 0), (63, 1, 0, 0), (64, 1, 0, 0), (65, 3, 628, 0), (68, 1, 0, 0), (69, 3, 0, 0), (72, 1, 0, 0), (73, 3, 629, 0), (76, 1, 0, 0), (77, 3, 0, 0), (80, 1, 0, 0), (81, 1, 0, 0), (82, 3, 450, 0), (85, 1, 0, 0), (86, 1, 0, 0)], [(87, 3, 229, 0), (90, 1, 0, 0), (91, 3, 230, 0), (94, 1, 0, 0), (95, 1, 0, 0), (96, 3, 0, 0), (99, 1, 0, 0), (100, 3, 10001, 4), (103, 1, 0, 0), (104, 3, 454, 19), (107, 1, 0, 0), (108, 1, 0, 0), (109, 3, 0, 0), (112, 1, 0, 0), (113, 1, 0, 0), (114, 3, 450, 0)], [(117, 1, 0, 0), (118, 1, 0, 0), (119, 1, 0, 0), (120, 3, 233, 0), (123, 1, 0, 0), (124, 1, 0, 0), (125, 1, 0, 0), (126, 3, 234, 0), (129, 1, 0, 0), (130, 3, 421, 0), (133, 1, 0, 0), (134, 1, 0, 0)]]
def am_l60 : List (List (Nat × Nat × Nat × Nat)) := [[(0, 1, 0, 0), (1, 3, 536, 0), (4, 3, 0, 0), (7, 1, 0, 0), (8, 1, 0, 0), (9, 3, 450, 0), (12, 1, 0, 0), (13, 1, 0, 0), (14, 3, 219, 0), (17, 1, 0, 0), (18, 3, 228, 0), (21, 1, 0, 0), (22, 3, 229, 0), (25, 3, 433, 0), (28, 1, 0, 0), (29, 1, 0, 0)], [(30, 3, 229, 0), (33, 1, 0, 0), (34, 3, 228, 0), (37, 1, 0, 0), (38, 1, 0, 0), (39, 3, 0, 0), (42, 1, 0, 0), (43, 1, 0, 0), (44, 1, 0, 0), (45, 1, 0, 0), (46, 3, 0, 0), (49, 1, 0, 0), (50, 1, 0, 0), (51, 3, 450, 0), (54, 1, 0, 0), (55, 1, 0, 0)], [(56, 1, 0, 0), (57, 1, 0, 0), (58, 3, 234, 0), (61, 1, 0, 0), (62, 3, 421, 0), (65, 1, 0, 0), (66, 1, 0, 0)]]
def am_l61 : List (List (Nat × Nat × Nat × Nat)) := [[(0, 1, 0, 0), (1, 3, 228, 0), (4, 1, 0, 0), (5, 1, 0, 0), (6, 1, 0, 0), (7, 2, 0, 0), (9, 3, 540, 0), (12, 3, 0, 0), (15, 1, 0, 0), (16, 1, 0, 0), (17, 1, 0, 0), (18, 3, 221, 0), (21, 3, 189, 0), (24, 3, 163, 0), (27, 1, 0, 0), (28, 3, 234, 0)], [(31, 3, 625, 21), (34, 3, 0, 0), (37, 1, 0, 0), (38, 1, 0, 0), (39, 1, 0, 0), (40, 3, 641, 0), (43, 1, 0, 0), (44, 1, 0, 0), (45, 3, 234, 0), (48, 1, 0, 0), (49, 1, 0, 0), (50, 3, 221, 0), (53, 3, 189, 0), (56, 1, 0, 0), (57, 3, 163, 0), (60, 1, 0, 0)], [(61, 1, 0, 0), (62, 1, 0, 0), (63, 1, 0, 0), (64, 3, 163, 0), (67, 1, 0, 0), (68, 1, 0, 0), (69, 1, 0, 0), (70, 1, 0, 0), (71, 3, 0, 0), (74, 1, 0, 0), (75, 3, 645, 0), (78, 2, 0, 0), (80, 2, 0, 0), (82, 3, 0, 0), (85, 1, 0, 0), (86, 1, 0, 0)], [(87, 1, 0, 0), (88, 3, 421, 0), (91, 1, 0, 0), (92, 2, 0, 0), (94, 3, 555, 0), (97, 3, 0, 0), (100, 1, 0, 0), (101, 1, 0, 0), (102, 1, 0, 0), (103, 3, 221, 0), (106, 3, 189, 0), (109, 1, 0, 0), (110, 1, 0, 0), (111, 2, 0, 0), (113, 1, 0, 0), (114, 3, 233, 0)], [(117, 1, 0, 0), (118, 3, 234, 0), (121, 3, 652, 0), (124, 3, 0, 0), (127, 3, 0, 0), (130, 1, 0, 0), (131, 1, 0, 0)]]
def am_l62 : List (List (Nat × Nat × Nat × Nat)) := [[(0, 1, 0, 0), (1, 2, 649, 3), (3, 3, 549, 0), (6, 3, 0, 0), (9, 1, 0, 0), (10, 1, 0, 0), (11, 1, 0, 0), (12, 2, 650, 4), (14, 3, 549, 0), (17, 3, 0, 0), (20, 1, 0, 0), (21, 1, 0, 0), (22, 1, 0, 0), (23, 2, 651, 5), (25, 3, 549, 0), (28, 3, 0, 0)], [(31, 1, 0, 0), (32, 3, 0, 0), (35, 1, 0, 0), (36, 1, 0, 0)]]
def am_l63 : List (List (Nat × Nat × Nat × Nat)) := [[(0, 1, 0, 0), (1, 3, 532, 0), (4, 1, 0, 0), (5, 1, 0, 0), (6, 3, 0, 0), (9, 1, 0, 0), (10, 1, 0, 0), (11, 1, 0, 0), (12, 2, 548, 6), (14, 3, 549, 0), (17, 3, 0, 0), (20, 1, 0, 0), (21, 1, 0, 0), (22, 3, 450, 0), (25, 1, 0, 0), (26, 1, 0, 0)], [(27, 3, 421, 0), (30, 1, 0, 0), (31, 3, 532, 0), (34, 1, 0, 0), (35, 1, 0, 0), (36, 3, 0, 0), (39, 1, 0, 0), (40, 1, 0, 0), (41, 1, 0, 0), (42, 2, 553, 7), (44, 3, 549, 0), (47, 3, 0, 0), (50, 1, 0, 0), (51, 3, 0, 0), (54, 1, 0, 0), (55, 2, 554, 8)], [(57, 3, 549, 0), (60, 3, 0, 0), (63, 1, 0, 0), (64, 3, 0, 0), (67, 1, 0, 0), (68, 1, 0, 0), (69, 1, 0, 0), (70, 3, 0, 0), (73, 1, 0, 0), (74, 3, 421, 0), (77, 1, 0, 0), (78, 3, 0, 0), (81, 3, 555, 0), (84, 3, 0, 0), (87, 1, 0, 0), (88, 1, 0, 0)], [(89, 1, 0, 0), (90, 3, 221, 0), (93, 3, 189, 0), (96, 1, 0, 0), (97, 1, 0, 0), (98, 1, 0, 0), (99, 1, 0, 0), (100, 3, 233, 0), (103, 1, 0, 0), (104, 3, 234, 0), (107, 3, 632, 0), (110, 1, 0, 0), (111, 1, 0, 0)]]
def am_l64 : List (List (Nat × Nat × Nat × Nat)) := [[(0, 1, 0, 0), (1, 1, 0, 0), (2, 1, 0, 0), (3, 1, 0, 0), (4, 1, 0, 0), (5, 1, 0, 0), (6, 3, 0, 0), (9, 1, 0, 0), (10, 3, 0, 0), (13, 1, 0, 0), (14, 3, 536, 0), (17, 3, 0, 0), (20, 1, 0, 0), (21, 3, 228, 0), (24, 1, 0, 0), (25, 1, 0, 0)], [(26, 1, 0, 0), (27, 2, 0, 0), (29, 3, 540, 0), (32, 3, 0, 0), (35, 1, 0, 0), (36, 1, 0, 0), (37, 1, 0, 0), (38, 1, 0, 0), (39, 3, 236, 0), (42, 1, 0, 0), (43, 3, 234, 0), (46, 1, 0, 0), (47, 3, 544, 0), (50, 1, 0, 0), (51, 1, 0, 0), (52, 1, 0, 0)], [(53, 3, 234, 0), (56, 1, 0, 0), (57, 1, 0, 0), (58, 1, 0, 0), (59, 3, 0, 0), (62, 3, 0, 0), (65, 1, 0, 0), (66, 1, 0, 0)]]
def am_l65 : List (List (Nat × Nat × Nat × Nat)) := [[(0, 1, 0, 0), (1, 1, 0, 0), (2, 3, 454, 19), (5, 1, 0, 0), (6, 3, 0, 0), (9, 1, 0, 0), (10, 1, 0, 0), (11, 1, 0, 0), (12, 3, 457, 20), (15, 1, 0, 0)]]
def am_l66 : List (List (Nat × Nat × Nat × Nat)) := [[(0, 3, 0, 0), (3, 1, 0, 0), (4, 1, 0, 0), (5, 1, 0, 0), (6, 1, 0, 0), (7, 2, 0, 0), (9, 3, 0, 0), (12, 1, 0, 0), (13, 3, 235, 0), (16, 1, 0, 0), (17, 3, 454, 19), (20, 1, 0, 0), (21, 3, 0, 0), (24, 1, 0, 0), (25, 3, 221, 0), (28, 3, 199, 0)], [(31, 1, 0, 0), (32, 3, 454, 19), (35, 1, 0, 0), (36, 3, 0, 0), (39, 1, 0, 0), (40, 1, 0, 0), (41, 3, 235, 0), (44, 1, 0, 0), (45, 3, 454, 19), (48, 3, 674, 0), (51, 1, 0, 0), (52, 3, 0, 0), (55, 3, 0, 0), (58, 1, 0, 0), (59, 1, 0, 0), (60, 1, 0, 0)], [(61, 2, 0, 0), (63, 3, 0, 0), (66, 1, 0, 0), (67, 3, 236, 0), (70, 1, 0, 0), (71, 3, 454, 19), (74, 1, 0, 0), (75, 3, 0, 0), (78, 1, 0, 0), (79, 3, 221, 0), (82, 3, 189, 0), (85, 3, 163, 0), (88, 1, 0, 0), (89, 3, 625, 21), (92, 3, 0, 0), (95, 1, 0, 0)], [(96, 1, 0, 0), (97, 3, 236, 0), (100, 1, 0, 0), (101, 3, 454, 19), (104, 3, 674, 0), (107, 1, 0, 0), (108, 3, 0, 0), (111, 3, 0, 0), (114, 1, 0, 0), (115, 3, 0, 0), (118, 3, 0, 0), (121, 1, 0, 0), (122, 2, 0, 0), (124, 1, 0, 0), (125, 3, 641, 0), (128, 3, 0, 0)], [(131, 1, 0, 0), (132, 3, 0, 0), (135, 1, 0, 0), (136, 1, 0, 0)]]
def am_l67 : List (List (Nat × Nat × Nat × Nat)) := [[(0, 1, 0, 0), (1, 3, 120, 0), (4, 1, 0, 0), (5, 3, 0, 0), (8, 2, 0, 0), (10, 3, 121, 0), (13, 1, 0, 0), (14, 1, 0, 0), (15, 3, 122, 0), (18, 1, 0, 0)]]
def am_l68 : List (List (Nat × Nat × Nat × Nat)) := [[(0, 1, 0, 0), (1, 3, 122, 0), (4, 1, 0, 0), (5, 1, 0, 0), (6, 3, 0, 0), (9, 3, 0, 0), (12, 1, 0, 0), (13, 1, 0, 0), (14, 1, 0, 0), (15, 2, 0, 0), (17, 2, 0, 0), (19, 1, 0, 0), (20, 3, 0, 0), (23, 1, 0, 0), (24, 3, 121, 0), (27, 1, 0, 0)], [(28, 3, 122, 0), (31, 2, 0, 0), (33, 1, 0, 0), (34, 1, 0, 0), (35, 2, 0, 0), (37, 2, 0, 0), (39, 1, 0, 0), (40, 1, 0, 0), (41, 3, 791, 0), (44, 1, 0, 0), (45, 1, 0, 0), (46, 3, 792, 22), (49, 3, 0, 0), (52, 3, 0, 0), (55, 1, 0, 0), (56, 1, 0, 0)], [(57, 3, 122, 0), (60, 1, 0, 0), (61, 1, 0, 0), (62, 3, 122, 0), (65, 1, 0, 0), (66, 3, 122, 0), (69, 1, 0, 0)]]
def am_l69 : List (List (Nat × Nat × Nat × Nat)) := [[(0, 1, 0, 0), (1, 3, 0, 0), (4, 1, 0, 0), (5, 1, 0, 0), (6, 3, 122, 0), (9, 3, 0, 0), (12, 1, 0, 0), (13, 1, 0, 0), (14, 3, 121, 0), (17, 1, 0, 0), (18, 3, 0, 0), (21, 1, 0, 0), (22, 3, 121, 0), (25, 1, 0, 0), (26, 1, 0, 0), (27, 3, 0, 0)], [(30, 1, 0, 0), (31, 1, 0, 0)]]
def am_l70 : List (List (Nat × Nat × Nat × Nat)) := [[(0, 1, 0, 0), (1, 3, 472, 0), (4, 1, 0, 0), (5, 1, 0, 0), (6, 1, 0, 0), (7, 3, 0, 0), (10, 1, 0, 0), (11, 1, 0, 0), (12, 1, 0, 0), (13, 2, 0, 0), (15, 2, 0, 0), (17, 1, 0, 0), (18, 3, 472, 0), (21, 3, 0, 0), (24, 1, 0, 0), (25, 1, 0, 0)], [(26, 2, 0, 0), (28, 1, 0, 0), (29, 3, 438, 0), (32, 1, 0, 0), (33, 2, 0, 0), (35, 3, 482, 0), (38, 3, 0, 0), (41, 1, 0, 0), (42, 1, 0, 0), (43, 3, 0, 0), (46, 3, 0, 0), (49, 1, 0, 0), (50, 1, 0, 0)]]
def am_l71 : List (List (Nat × Nat × Nat × Nat)) := [[(0, 1, 0, 0), (1, 1, 0, 0), (2, 3, 0, 0), (5, 3, 437, 0), (8, 1, 0, 0), (9, 1, 0, 0), (10, 1, 0, 0), (11, 1, 0, 0), (12, 2, 0, 0), (14, 2, 0, 0), (16, 1, 0, 0), (17, 3, 0, 0), (20, 1, 0, 0), (21, 2, 0, 0), (23, 3, 438, 0), (26, 2, 0, 0)], [(28, 1, 0, 0), (29, 2, 0, 0), (31, 2, 0, 0), (33, 3, 0, 0), (36, 2, 0, 0), (38, 2, 0, 0), (40, 3, 0, 0), (43, 3, 437, 0), (46, 1, 0, 0), (47, 1, 0, 0), (48, 3, 439, 0), (51, 1, 0, 0), (52, 2, 0, 0), (54, 1, 0, 0), (55, 1, 0, 0), (56, 3, 440, 0)], [(59, 3, 441, 0), (62, 1, 0, 0), (63, 3, 0, 0), (66, 3, 0, 0), (69, 1, 0, 0), (70, 1, 0, 0)]]
def am_l72 : List (List (Nat × Nat × Nat × Nat)) := [[(0, 1, 0, 0), (1, 3, 106, 0), (4, 1, 0, 0), (5, 3, 109, 0), (8, 1, 0, 0), (9, 3, 111, 23), (12, 3, 383, 0), (15, 1, 0, 0), (16, 3, 266, 0), (19, 1, 0, 0), (20, 3, 268, 24), (23, 3, 384, 0), (26, 1, 0, 0), (27, 3, 381, 0), (30, 1, 0, 0), (31, 3, 382, 25)], [(34, 3, 385, 0), (37, 1, 0, 0), (38, 1, 0, 0), (39, 3, 386, 0), (42, 1, 0, 0)]]
def am_l73 : List (List (Nat × Nat × Nat × Nat)) := [[(0, 1, 0, 0), (1, 1, 0, 0), (2, 3, 0, 0), (5, 1, 0, 0), (6, 2, 0, 0), (8, 3, 0, 0), (11, 3, 0, 0), (14, 1, 0, 0), (15, 2, 761, 9), (17, 3, 0, 0), (20, 1, 0, 0), (21, 1, 0, 0), (22, 3, 383, 0), (25, 3, 220, 0), (28, 1, 0, 0), (29, 1, 0, 0)], [(30, 3, 787, 0), (33, 1, 0, 0)]]
def am_l74 : List (List (Nat × Nat × Nat × Nat)) := [[(0, 1, 0, 0), (1, 3, 383, 0), (4, 3, 220, 0), (7, 3, 123, 0), (10, 1, 0, 0), (11, 1, 0, 0), (12, 3, 383, 0), (15, 3, 220, 0), (18, 1, 0, 0), (19, 3, 123, 0), (22, 1, 0, 0), (23, 1, 0, 0)]]
def am_l75 : List (List (Nat × Nat × Nat × Nat)) := [[(0, 1, 0, 0), (1, 3, 383, 0), (4, 3, 404, 0), (7, 3, 0, 0), (10, 1, 0, 0), (11, 1, 0, 0), (12, 1, 0, 0), (13, 3, 383, 0), (16, 3, 222, 0), (19, 1, 0, 0), (20, 1, 0, 0), (21, 3, 383, 0), (24, 1, 0, 0), (25, 3, 385, 0), (28, 3, 222, 0), (31, 1, 0, 0)], [(32, 1, 0, 0), (33, 3, 385, 0), (36, 1, 0, 0), (37, 3, 384, 0), (40, 3, 675, 0), (43, 1, 0, 0), (44, 3, 385, 0), (47, 3, 202, 0), (50, 1, 0, 0)]]
def am_l76 : List (List (Nat × Nat × Nat × Nat)) := [[(0, 1, 0, 0), (1, 3, 383, 0), (4, 3, 224, 0), (7, 1, 0, 0)]]
def am_l77 : List (List (Nat × Nat × Nat × Nat)) := [[(0, 1, 0, 0), (1, 3, 383, 0), (4, 3, 226, 0), (7, 1, 0, 0)]]
def am_l78 : List (List (Nat × Nat × Nat × Nat)) := [[(0, 1, 0, 0), (1, 3, 384, 0), (4, 3, 675, 0), (7, 1, 0, 0)]]
def am_l79 : List (List (Nat × Nat × Nat × Nat)) := [[(0, 1, 0, 0), (1, 3, 0, 0), (4, 1, 0, 0), (5, 2, 0, 0), (7, 3, 0, 0), (10, 3, 0, 0), (13, 1, 0, 0), (14, 2, 810, 10), (16, 3, 0, 0), (19, 1, 0, 0), (20, 1, 0, 0), (21, 1, 0, 0), (22, 3, 386, 0), (25, 1, 0, 0), (26, 1, 0, 0), (27, 3, 817, 0)], [(30, 3, 386, 0), (33, 1, 0, 0)]]
def am_l80 : List (List (Nat × Nat × Nat × Nat)) := [[(0, 1, 0, 0), (1, 3, 0, 0), (4, 1, 0, 0), (5, 2, 827, 0), (7, 3, 0, 0), (10, 3, 0, 0), (13, 1, 0, 0), (14, 2, 828, 11), (16, 3, 0, 0), (19, 1, 0, 0), (20, 1, 0, 0), (21, 3, 384, 0), (24, 3, 345, 0), (27, 3, 0, 0), (30, 1, 0, 0), (31, 1, 0, 0)], [(32, 1, 0, 0), (33, 3, 384, 0), (36, 1, 0, 0), (37, 3, 385, 0), (40, 1, 0, 0), (41, 3, 386, 0), (44, 1, 0, 0), (45, 3, 829, 0), (48, 1, 0, 0), (49, 3, 384, 0), (52, 3, 345, 0), (55, 1, 0, 0)]]
def am_l81 : List (List (Nat × Nat × Nat × Nat)) := [[(0, 1, 0, 0), (1, 3, 0, 0), (4, 1, 0, 0), (5, 2, 0, 0), (7, 3, 0, 0), (10, 3, 0, 0), (13, 1, 0, 0), (14, 2, 979, 12), (16, 3, 0, 0), (19, 1, 0, 0), (20, 1, 0, 0), (21, 3, 0, 0), (24, 1, 0, 0), (25, 2, 827, 0), (27, 3, 0, 0), (30, 3, 0, 0)], [(33, 1, 0, 0), (34, 2, 828, 11), (36, 3, 0, 0), (39, 1, 0, 0), (40, 1, 0, 0), (41, 1, 0, 0), (42, 1, 0, 0), (43, 2, 0, 0), (45, 2, 0, 0), (47, 1, 0, 0), (48, 3, 0, 0), (51, 1, 0, 0), (52, 3, 384, 0), (55, 3, 345, 0), (58, 3, 0, 0), (61, 1, 0, 0)], [(62, 3, 384, 0), (65, 1, 0, 0), (66, 3, 385, 0), (69, 1, 0, 0), (70, 3, 386, 0), (73, 1, 0, 0), (74, 3, 829, 0), (77, 1, 0, 0), (78, 3, 384, 0), (81, 3, 345, 0), (84, 3, 0, 0), (87, 3, 0, 0), (90, 3, 0, 0), (93, 3, 0, 0), (96, 1, 0, 0), (97, 1, 0, 0)]]
def am_l82 : List (List (Nat × Nat × Nat × Nat)) := [[(0, 1, 0, 0), (1, 3, 0, 0), (4, 1, 0, 0), (5, 2, 0, 0), (7, 3, 0, 0), (10, 3, 0, 0), (13, 1, 0, 0), (14, 2, 810, 10), (16, 3, 0, 0), (19, 1, 0, 0), (20, 1, 0, 0), (21, 3, 384, 0), (24, 3, 343, 0), (27, 1, 0, 0), (28, 3, 987, 0), (31, 1, 0, 0)]]
def am_l83 : List (List (Nat × Nat × Nat × Nat)) := [[(0, 1, 0, 0), (1, 3, 0, 0), (4, 1, 0, 0), (5, 1, 0, 0), (6, 3, 0, 0), (9, 3, 0, 0), (12, 1, 0, 0), (13, 2, 995, 13), (15, 3, 0, 0), (18, 1, 0, 0), (19, 1, 0, 0), (20, 1, 0, 0), (21, 3, 0, 0), (24, 1, 0, 0), (25, 3, 384, 0), (28, 3, 343, 0)], [(31, 3, 0, 0), (34, 1, 0, 0), (35, 3, 384, 0), (38, 3, 339, 0), (41, 3, 283, 0), (44, 1, 0, 0), (45, 3, 996, 0), (48, 1, 0, 0)]]
def am_l84 : List (List (Nat × Nat × Nat × Nat)) := [[(0, 1, 0, 0), (1, 3, 0, 0), (4, 1, 0, 0), (5, 2, 0, 0), (7, 3, 0, 0), (10, 3, 0, 0), (13, 1, 0, 0), (14, 2, 810, 10), (16, 3, 0, 0), (19, 1, 0, 0), (20, 1, 0, 0), (21, 3, 384, 0), (24, 3, 339, 0), (27, 2, 0, 0), (29, 1, 0, 0), (30, 3, 1004, 0)], [(33, 1, 0, 0)]]
def am_l85 : List (List (Nat × Nat × Nat × Nat)) := [[(0, 1, 0, 0), (1, 3, 0, 0), (4, 1, 0, 0), (5, 2, 0, 0), (7, 3, 0, 0), (10, 3, 0, 0), (13, 1, 0, 0), (14, 2, 1012, 14), (16, 3, 0, 0), (19, 1, 0, 0), (20, 1, 0, 0), (21, 31, 0, 0), (52, 1, 0, 0), (53, 3, 384, 0), (56, 3, 339, 0), (59, 1, 0, 0)], [(60, 1, 0, 0), (61, 3, 1004, 0), (64, 1, 0, 0), (65, 1, 0, 0), (66, 3, 384, 0), (69, 3, 339, 0), (72, 2, 0, 0), (74, 1, 0, 0), (75, 3, 1004, 0), (78, 1, 0, 0), (79, 1, 0, 0), (80, 3, 384, 0), (83, 3, 339, 0), (86, 1, 0, 0), (87, 1, 0, 0), (88, 3, 1004, 0)], [(91, 1, 0, 0), (92, 1, 0, 0), (93, 3, 384, 0), (96, 3, 339, 0), (99, 2, 0, 0), (101, 1, 0, 0), (102, 3, 1004, 0), (105, 1, 0, 0), (106, 3, 0, 0), (109, 1, 0, 0), (110, 2, 1013, 15), (112, 3, 0, 0), (115, 1, 0, 0)]]
def am_l86 : List (List (Nat × Nat × Nat × Nat)) := [[(0, 1, 0, 0), (1, 3, 384, 0), (4, 3, 347, 0), (7, 1, 0, 0)]]
def am_l87 : List (List (Nat × Nat × Nat × Nat)) := [[(0, 1, 0, 0), (1, 3, 384, 0), (4, 3, 349, 0), (7, 1, 0, 0)]]
def am_l88 : List (List (Nat × Nat × Nat × Nat)) := [[(0, 1, 0, 0), (1, 3, 384, 0), (4, 3, 341, 0), (7, 1, 0, 0)]]
def am_l89 : List (List (Nat × Nat × Nat × Nat)) := [[(0, 1, 0, 0), (1, 3, 0, 0), (4, 1, 0, 0), (5, 1, 0, 0), (6, 1, 0, 0), (7, 3, 0, 0), (10, 1, 0, 0), (11, 1, 0, 0), (12, 1, 0, 0), (13, 3, 0, 0), (16, 1, 0, 0), (17, 1, 0, 0)]]
def am_l90 : List (List (Nat × Nat × Nat × Nat)) := [[(0, 1, 0, 0), (1, 3, 0, 0), (4, 1, 0, 0), (5, 1, 0, 0), (6, 1, 0, 0), (7, 3, 0, 0), (10, 1, 0, 0), (11, 1, 0, 0), (12, 1, 0, 0), (13, 1, 0, 0), (14, 1, 0, 0)]]
def am_l91 : List (List (Nat × Nat × Nat × Nat)) := [[(0, 1, 0, 0), (1, 1, 0, 0), (2, 1, 0, 0), (3, 1, 0, 0), (4, 1, 0, 0), (5, 3, 0, 0), (8, 1, 0, 0), (9, 3, 0, 0), (12, 1, 0, 0), (13, 1, 0, 0)]]
def am_l92 : List (List (Nat × Nat × Nat × Nat)) := [[(0, 1, 0, 0), (1, 3, 0, 0), (4, 1, 0, 0), (5, 1, 0, 0), (6, 1, 0, 0), (7, 1, 0, 0), (8, 1, 0, 0), (9, 3, 0, 0), (12, 1, 0, 0), (13, 1, 0, 0), (14, 1, 0, 0), (15, 1, 0, 0), (16, 1, 0, 0), (17, 1, 0, 0), (18, 1, 0, 0), (19, 1, 0, 0)]]
def am_l93 : List (List (Nat × Nat × Nat × Nat)) := [[(0, 1, 0, 0), (1, 1, 0, 0), (2, 1, 0, 0), (3, 1, 0, 0), (4, 1, 0, 0), (5, 3, 0, 0), (8, 1, 0, 0), (9, 1, 0, 0), (10, 1, 0, 0), (11, 1, 0, 0), (12, 3, 0, 0), (15, 3, 0, 0), (18, 1, 0, 0)]]
def am_l94 : List (List (Nat × Nat × Nat × Nat)) := [[(0, 1, 0, 0), (1, 3, 1019, 0), (4, 1, 0, 0), (5, 3, 0, 0), (8, 2, 0, 0), (10, 3, 1026, 0), (13, 1, 0, 0), (14, 1, 0, 0), (15, 3, 1029, 0), (18, 1, 0, 0), (19, 3, 0, 0), (22, 2, 0, 0), (24, 3, 1030, 0), (27, 1, 0, 0), (28, 3, 0, 0), (31, 2, 0, 0)], [(33, 3, 1031, 0), (36, 1, 0, 0), (37, 3, 0, 0), (40, 2, 0, 0), (42, 3, 1032, 0), (45, 1, 0, 0), (46, 3, 0, 0), (49, 2, 0, 0), (51, 3, 1033, 0), (54, 1, 0, 0), (55, 3, 0, 0), (58, 2, 0, 0), (60, 3, 1034, 0), (63, 1, 0, 0), (64, 1, 0, 0), (65, 2, 0, 0)], [(67, 3, 1035, 0), (70, 1, 0, 0), (71, 2, 0, 0), (73, 2, 0, 0), (75, 3, 1036, 0), (78, 1, 0, 0), (79, 2, 0, 0), (81, 2, 0, 0), (83, 3, 1037, 0), (86, 1, 0, 0), (87, 2, 0, 0), (89, 2, 0, 0), (91, 3, 1038, 0), (94, 1, 0, 0), (95, 2, 0, 0), (97, 2, 0, 0)], [(99, 3, 1039, 0), (102, 1, 0, 0), (103, 2, 0, 0), (105, 2, 0, 0), (107, 3, 1040, 0), (110, 1, 0, 0), (111, 2, 0, 0), (113, 2, 0, 0), (115, 3, 1041, 0), (118, 1, 0, 0), (119, 2, 0, 0), (121, 2, 0, 0), (123, 3, 1042, 0), (126, 1, 0, 0), (127, 2, 0, 0), (129, 2, 0, 0)], [(131, 3, 1043, 0), (134, 1, 0, 0), (135, 2, 0, 0), (137, 2, 0, 0), (139, 3, 1044, 0), (142, 1, 0, 0), (143, 2, 0, 0), (145, 2, 0, 0), (147, 3, 1045, 0), (150, 1, 0, 0), (151, 1, 0, 0), (152, 2, 0, 0), (154, 3, 1046, 0), (157, 1, 0, 0), (158, 3, 0, 0), (161, 2, 0, 0)], [(163, 3, 1055, 0), (166, 1, 0, 0), (167, 3, 0, 0), (170, 2, 0, 0), (172, 3, 1056, 0), (175, 1, 0, 0), (176, 2, 0, 0), (178, 2, 0, 0), (180, 3, 1058, 0), (183, 1, 0, 0), (184, 2, 0, 0), (186, 2, 0, 0), (188, 3, 1059, 0), (191, 1, 0, 0), (192, 2, 0, 0), (194, 2, 0, 0)], [(196, 3, 1060, 0), (199, 1, 0, 0), (200, 2, 0, 0), (202, 2, 0, 0), (204, 3, 1061, 0), (207, 1, 0, 0), (208, 2, 0, 0), (210, 2, 0, 0), (212, 3, 1062, 0), (215, 1, 0, 0), (216, 2, 0, 0), (218, 2, 0, 0), (220, 3, 1063, 0), (223, 1, 0, 0), (224, 2, 0, 0), (226, 2, 0, 0)], [(228, 3, 1064, 0), (231, 1, 0, 0), (232, 2, 0, 0), (234, 2, 0, 0), (236, 3, 1065, 0), (239, 1, 0, 0), (240, 2, 0, 0), (242, 2, 0, 0), (244, 3, 1066, 0), (247, 1, 0, 0), (248, 2, 0, 0), (250, 2, 0, 0), (252, 3, 1067, 0), (255, 1, 0, 0), (256, 2, 0, 0), (258, 2, 0, 0)], [(260, 3, 1068, 0), (263, 1, 0, 0), (264, 2, 0, 0), (266, 2, 0, 0), (268, 3, 1073, 0), (271, 1, 0, 0), (272, 2, 0, 0), (274, 2, 0, 0), (276, 3, 1074, 0), (279, 1, 0, 0), (280, 2, 0, 0), (282, 2, 0, 0), (284, 3, 1075, 0), (287, 1, 0, 0), (288, 2, 0, 0), (290, 2, 0, 0)], [(292, 3, 1076, 0), (295, 1, 0, 0), (296, 2, 0, 0), (298, 2, 0, 0), (300, 3, 1077, 0), (303, 1, 0, 0), (304, 2, 0, 0), (306, 2, 0, 0), (308, 3, 1078, 0), (311, 1, 0, 0), (312, 2, 0, 0), (314, 2, 0, 0), (316, 3, 1079, 0), (319, 1, 0, 0), (320, 2, 0, 0), (322, 2, 0, 0)], [(324, 3, 1080, 0), (327, 1, 0, 0), (328, 2, 0, 0), (330, 2, 0, 0), (332, 3, 1081, 0), (335, 1, 0, 0), (336, 2, 0, 0), (338, 2, 0, 0), (340, 3, 1082, 0), (343, 1, 0, 0), (344, 2, 0, 0), (346, 2, 0, 0), (348, 3, 1083, 0), (351, 1, 0, 0), (352, 3, 1020, 0), (355, 1, 0, 0)]]
def am_l95 : List (List (Nat × Nat × Nat × Nat)) := [[(0, 1, 0, 0), (1, 3, 1025, 0), (4, 1, 0, 0)]]
def am_l96 : List (List (Nat × Nat × Nat × Nat)) := [[(0, 1, 0, 0), (1, 1, 0, 0), (2, 1, 0, 0), (3, 3, 0, 0), (6, 1, 0, 0), (7, 2, 0, 0), (9, 3, 0, 0), (12, 1, 0, 0), (13, 3, 0, 0), (16, 1, 0, 0), (17, 3, 1025, 0), (20, 1, 0, 0), (21, 3, 1025, 0), (24, 3, 0, 0), (27, 1, 0, 0), (28, 1, 0, 0)], [(29, 1, 0, 0), (30, 3, 1027, 0), (33, 1, 0, 0), (34, 1, 0, 0), (35, 3, 0, 0), (38, 3, 0, 0), (41, 1, 0, 0), (42, 1, 0, 0), (43, 1, 0, 0), (44, 2, 0, 0), (46, 2, 0, 0), (48, 1, 0, 0), (49, 3, 0, 0), (52, 1, 0, 0), (53, 3, 1026, 0), (56, 1, 0, 0)], [(57, 3, 1027, 0), (60, 1, 0, 0), (61, 2, 0, 0), (63, 2, 0, 0), (65, 1, 0, 0), (66, 1, 0, 0), (67, 3, 1218, 0), (70, 1, 0, 0), (71, 1, 0, 0), (72, 1, 0, 0), (73, 1, 0, 0), (74, 1, 0, 0), (75, 3, 1027, 0), (78, 1, 0, 0), (79, 1, 0, 0), (80, 3, 1027, 0)], [(83, 3, 0, 0), (86, 3, 0, 0), (89, 1, 0, 0), (90, 3, 1027, 0), (93, 1, 0, 0)]]
def am_l97 : List (List (Nat × Nat × Nat × Nat)) := [[(0, 1, 0, 0), (1, 1, 0, 0), (2, 3, 1025, 0), (5, 1, 0, 0), (6, 3, 1027, 0), (9, 1, 0, 0), (10, 1, 0, 0), (11, 1, 0, 0), (12, 3, 1027, 0), (15, 1, 0, 0), (16, 1, 0, 0)]]
def am_l98 : List (List (Nat × Nat × Nat × Nat)) := [[(0, 1, 0, 0), (1, 3, 1028, 0), (4, 3, 0, 0), (7, 1, 0, 0), (8, 1, 0, 0), (9, 3, 1028, 0), (12, 1, 0, 0), (13, 1, 0, 0), (14, 3, 1029, 0), (17, 1, 0, 0)]]
def am_l99 : List (List (Nat × Nat × Nat × Nat)) := [[(0, 1, 0, 0), (1, 1, 0, 0), (2, 3, 1051, 0), (5, 3, 1049, 0), (8, 1, 0, 0), (9, 3, 1049, 0), (12, 1, 0, 0), (13, 3, 1027, 0), (16, 3, 0, 0), (19, 1, 0, 0), (20, 3, 1026, 0), (23, 1, 0, 0), (24, 3, 1049, 0), (27, 1, 0, 0), (28, 2, 0, 0), (30, 3, 0, 0)], [(33, 1, 0, 0), (34, 1, 0, 0), (35, 3, 1049, 0), (38, 1, 0, 0), (39, 1, 0, 0), (40, 3, 1049, 0), (43, 3, 0, 0), (46, 1, 0, 0), (47, 1, 0, 0), (48, 3, 1049, 0), (51, 3, 1050, 0), (54, 1, 0, 0), (55, 1, 0, 0), (56, 3, 1049, 0), (59, 3, 1051, 0), (62, 1, 0, 0)], [(63, 3, 1051, 0), (66, 1, 0, 0), (67, 3, 1027, 0), (70, 3, 0, 0), (73, 1, 0, 0), (74, 3, 1026, 0), (77, 1, 0, 0), (78, 3, 1051, 0), (81, 1, 0, 0), (82, 2, 0, 0), (84, 3, 0, 0), (87, 1, 0, 0), (88, 1, 0, 0), (89, 3, 1051, 0), (92, 1, 0, 0), (93, 1, 0, 0)], [(94, 3, 1051, 0), (97, 1, 0, 0), (98, 1, 0, 0), (99, 3, 1051, 0), (102, 1, 0, 0), (103, 3, 1027, 0), (106, 3, 0, 0), (109, 1, 0, 0), (110, 3, 1026, 0), (113, 1, 0, 0), (114, 3, 1051, 0), (117, 1, 0, 0), (118, 2, 0, 0), (120, 3, 0, 0), (123, 1, 0, 0), (124, 3, 1026, 0)], [(127, 1, 0, 0), (128, 3, 1051, 0), (131, 1, 0, 0), (132, 2, 0, 0), (134, 3, 0, 0), (137, 1, 0, 0), (138, 1, 0, 0), (139, 3, 1051, 0), (142, 1, 0, 0), (143, 1, 0, 0), (144, 3, 1051, 0), (147, 3, 0, 0), (150, 1, 0, 0)]]
def am_l100 : List (List (Nat × Nat × Nat × Nat)) := [[(0, 1, 0, 0), (1, 3, 1050, 0), (4, 1, 0, 0), (5, 3, 1027, 0), (8, 3, 0, 0), (11, 1, 0, 0), (12, 3, 0, 0), (15, 1, 0, 0), (16, 1, 0, 0)]]
def am_l101 : List (List (Nat × Nat × Nat × Nat)) := [[(0, 1, 0, 0), (1, 3, 1050, 0), (4, 1, 0, 0), (5, 3, 1027, 0), (8, 3, 0, 0), (11, 1, 0, 0), (12, 3, 1026, 0), (15, 1, 0, 0), (16, 3, 1050, 0), (19, 1, 0, 0), (20, 2, 0, 0), (22, 3, 0, 0), (25, 1, 0, 0), (26, 3, 0, 0), (29, 1, 0, 0), (30, 1, 0, 0)]]
def am_l102 : List (List (Nat × Nat × Nat × Nat)) := [[(0, 1, 0, 0), (1, 1, 0, 0), (2, 1, 0, 0), (3, 3, 1051, 0), (6, 1, 0, 0), (7, 1, 0, 0), (8, 1, 0, 0), (9, 1, 0, 0), (10, 1, 0, 0), (11, 3, 1050, 0), (14, 3, 0, 0), (17, 1, 0, 0), (18, 3, 1051, 0), (21, 1, 0, 0), (22, 3, 1050, 0), (25, 1, 0, 0)], [(26, 2, 0, 0), (28, 3, 0, 0), (31, 1, 0, 0), (32, 2, 0, 0), (34, 1, 0, 0), (35, 1, 0, 0), (36, 3, 1026, 0), (39, 1, 0, 0), (40, 1, 0, 0), (41, 1, 0, 0), (42, 1, 0, 0), (43, 1, 0, 0), (44, 3, 0, 0), (47, 3, 0, 0), (50, 1, 0, 0), (51, 1, 0, 0)]]
def am_l103 : List (List (Nat × Nat × Nat × Nat)) := [[(0, 1, 0, 0), (1, 2, 0, 0), (3, 3, 0, 0), (6, 1, 0, 0), (7, 2, 0, 0), (9, 3, 0, 0), (12, 1, 0, 0), (13, 3, 0, 0), (16, 1, 0, 0), (17, 1, 0, 0)]]
def am_l104 : List (List (Nat × Nat × Nat × Nat)) := [[(0, 1, 0, 0), (1, 1, 0, 0), (2, 3, 0, 0), (5, 1, 0, 0), (6, 3, 0, 0), (9, 1, 0, 0), (10, 1, 0, 0), (11, 1, 0, 0), (12, 2, 0, 0), (14, 2, 0, 0), (16, 1, 0, 0), (17, 3, 0, 0), (20, 1, 0, 0), (21, 3, 0, 0), (24, 1, 0, 0), (25, 3, 1026, 0)], [(28, 2, 0, 0), (30, 1, 0, 0), (31, 3, 1267, 0), (34, 3, 0, 0), (37, 1, 0, 0), (38, 3, 0, 0), (41, 1, 0, 0), (42, 1, 0, 0), (43, 3, 0, 0), (46, 3, 0, 0), (49, 1, 0, 0), (50, 1, 0, 0)]]
def am_l105 : List (List (Nat × Nat × Nat × Nat)) := [[(0, 1, 0, 0), (1, 1, 0, 0), (2, 1, 0, 0), (3, 2, 0, 0), (5, 2, 0, 0), (7, 1, 0, 0), (8, 3, 0, 0), (11, 3, 1274, 0), (14, 1, 0, 0), (15, 1, 0, 0), (16, 1, 0, 0), (17, 3, 1026, 0), (20, 2, 0, 0), (22, 1, 0, 0), (23, 1, 0, 0), (24, 1, 0, 0)], [(25, 3, 1275, 0), (28, 1, 0, 0), (29, 1, 0, 0), (30, 1, 0, 0), (31, 3, 1276, 0), (34, 1, 0, 0), (35, 3, 0, 0), (38, 3, 1276, 0), (41, 3, 0, 0), (44, 1, 0, 0), (45, 1, 0, 0), (46, 3, 0, 0), (49, 3, 0, 0), (52, 1, 0, 0), (53, 1, 0, 0)]]
def am_l106 : List (List (Nat × Nat × Nat × Nat)) := [[(0, 1, 0, 0), (1, 1, 0, 0), (2, 1, 0, 0), (3, 3, 1263, 0), (6, 3, 0, 0), (9, 1, 0, 0), (10, 1, 0, 0), (11, 1, 0, 0), (12, 3, 1050, 0), (15, 3, 1255, 0), (18, 1, 0, 0), (19, 1, 0, 0), (20, 1, 0, 0), (21, 1, 0, 0), (22, 1, 0, 0), (23, 1, 0, 0)], [(24, 3, 0, 0), (27, 1, 0, 0), (28, 1, 0, 0), (29, 1, 0, 0), (30, 3, 1270, 0), (33, 1, 0, 0), (34, 1, 0, 0), (35, 1, 0, 0), (36, 3, 0, 0), (39, 1, 0, 0), (40, 1, 0, 0), (41, 1, 0, 0), (42, 3, 1050, 0), (45, 3, 1255, 0), (48, 1, 0, 0), (49, 1, 0, 0)], [(50, 1, 0, 0), (51, 1, 0, 0), (52, 1, 0, 0), (53, 3, 1270, 0), (56, 1, 0, 0), (57, 1, 0, 0)]]
def am_l107 : List (List (Nat × Nat × Nat × Nat)) := [[(0, 1, 0, 0), (1, 1, 0, 0), (2, 1, 0, 0), (3, 3, 1051, 0), (6, 3, 1263, 0), (9, 3, 0, 0), (12, 1, 0, 0), (13, 1, 0, 0), (14, 1, 0, 0), (15, 3, 1050, 0), (18, 3, 1255, 0), (21, 1, 0, 0), (22, 1, 0, 0), (23, 1, 0, 0), (24, 1, 0, 0), (25, 1, 0, 0)], [(26, 3, 1051, 0), (29, 3, 1270, 0), (32, 1, 0, 0), (33, 1, 0, 0), (34, 1, 0, 0), (35, 3, 0, 0), (38, 1, 0, 0), (39, 1, 0, 0), (40, 1, 0, 0), (41, 3, 1050, 0), (44, 3, 1255, 0), (47, 1, 0, 0), (48, 1, 0, 0), (49, 1, 0, 0), (50, 1, 0, 0), (51, 1, 0, 0)], [(52, 3, 1051, 0), (55, 3, 1270, 0), (58, 1, 0, 0), (59, 1, 0, 0)]]
def am_l108 : List (List (Nat × Nat × Nat × Nat)) := [[(0, 1, 0, 0), (1, 1, 0, 0), (2, 3, 1051, 0), (5, 3, 0, 0), (8, 1, 0, 0), (9, 3, 1026, 0), (12, 1, 0, 0), (13, 1, 0, 0), (14, 3, 0, 0), (17, 1, 0, 0), (18, 1, 0, 0)]]
def am_l109 : List (List (Nat × Nat × Nat × Nat)) := [[(0, 1, 0, 0), (1, 1, 0, 0), (2, 3, 1050, 0), (5, 3, 1247, 0), (8, 1, 0, 0), (9, 1, 0, 0), (10, 1, 0, 0), (11, 3, 1050, 0), (14, 1, 0, 0), (15, 1, 0, 0), (16, 3, 1247, 0), (19, 1, 0, 0), (20, 1, 0, 0), (21, 2, 0, 0), (23, 3, 0, 0), (26, 1, 0, 0)], [(27, 2, 0, 0), (29, 3, 0, 0), (32, 2, 0, 0), (34, 3, 0, 0), (37, 1, 0, 0), (38, 1, 0, 0), (39, 1, 0, 0), (40, 2, 0, 0), (42, 3, 0, 0), (45, 1, 0, 0), (46, 2, 0, 0), (48, 3, 0, 0), (51, 2, 0, 0), (53, 3, 0, 0), (56, 2, 0, 0), (58, 1, 0, 0)], [(59, 1, 0, 0), (60, 2, 0, 0), (62, 3, 0, 0), (65, 1, 0, 0), (66, 3, 0, 0), (69, 1, 0, 0), (70, 2, 0, 0), (72, 3, 0, 0), (75, 1, 0, 0), (76, 3, 0, 0), (79, 1, 0, 0), (80, 2, 0, 0), (82, 3, 0, 0), (85, 1, 0, 0), (86, 3, 0, 0), (89, 1, 0, 0)], [(90, 2, 0, 0), (92, 3, 0, 0), (95, 1, 0, 0), (96, 3, 0, 0), (99, 1, 0, 0), (100, 2, 0, 0), (102, 3, 0, 0), (105, 2, 0, 0), (107, 3, 0, 0), (110, 1, 0, 0), (111, 1, 0, 0)]]
def am_l110 : List (List (Nat × Nat × Nat × Nat)) := [[(0, 1, 0, 0), (1, 1, 0, 0), (2, 3, 0, 0), (5, 2, 0, 0), (7, 3, 0, 0), (10, 1, 0, 0), (11, 2, 0, 0), (13, 3, 0, 0), (16, 2, 0, 0), (18, 3, 0, 0), (21, 2, 0, 0), (23, 1, 0, 0)]]
def am_l111 : List (List (Nat × Nat × Nat × Nat)) := [[(0, 1, 0, 0), (1, 3, 1297, 0), (4, 1, 0, 0), (5, 1, 0, 0), (6, 1, 0, 0), (7, 3, 1053, 0), (10, 1, 0, 0), (11, 3, 0, 0), (14, 1, 0, 0), (15, 1, 0, 0), (16, 1, 0, 0), (17, 1, 0, 0), (18, 1, 0, 0), (19, 3, 0, 0), (22, 1, 0, 0), (23, 1, 0, 0)], [(24, 1, 0, 0), (25, 3, 1050, 0), (28, 3, 1255, 0), (31, 1, 0, 0), (32, 1, 0, 0), (33, 1, 0, 0), (34, 1, 0, 0), (35, 3, 1050, 0), (38, 1, 0, 0), (39, 2, 0, 0), (41, 3, 0, 0), (44, 1, 0, 0), (45, 2, 0, 0), (47, 3, 0, 0), (50, 1, 0, 0), (51, 3, 0, 0)], [(54, 1, 0, 0), (55, 1, 0, 0), (56, 1, 0, 0), (57, 3, 1051, 0), (60, 1, 0, 0), (61, 3, 1301, 0), (64, 3, 1259, 0), (67, 3, 1054, 0), (70, 1, 0, 0), (71, 1, 0, 0), (72, 1, 0, 0), (73, 3, 1050, 0), (76, 3, 1247, 0), (79, 2, 0, 0), (81, 3, 0, 0), (84, 1, 0, 0)], [(85, 3, 0, 0), (88, 1, 0, 0), (89, 1, 0, 0), (90, 1, 0, 0), (91, 3, 0, 0), (94, 1, 0, 0), (95, 3, 1050, 0), (98, 1, 0, 0), (99, 1, 0, 0), (100, 3, 0, 0), (103, 1, 0, 0), (104, 3, 1050, 0), (107, 2, 0, 0), (109, 1, 0, 0), (110, 1, 0, 0), (111, 1, 0, 0)], [(112, 3, 0, 0), (115, 1, 0, 0), (116, 2, 0, 0), (118, 1, 0, 0), (119, 3, 1051, 0), (122, 3, 1263, 0), (125, 3, 0, 0), (128, 1, 0, 0), (129, 1, 0, 0), (130, 1, 0, 0), (131, 3, 1050, 0), (134, 3, 1255, 0), (137, 1, 0, 0), (138, 1, 0, 0), (139, 3, 0, 0), (142, 1, 0, 0)], [(143, 2, 0, 0), (145, 1, 0, 0), (146, 3, 1051, 0), (149, 3, 1270, 0), (152, 1, 0, 0), (153, 3, 0, 0), (156, 1, 0, 0), (157, 2, 0, 0), (159, 1, 0, 0), (160, 3, 1051, 0), (163, 3, 1270, 0), (166, 2, 0, 0), (168, 2, 0, 0), (170, 3, 1304, 0), (173, 1, 0, 0), (174, 3, 0, 0)], [(177, 2, 0, 0), (179, 3, 1305, 0), (182, 1, 0, 0), (183, 3, 0, 0), (186, 1, 0, 0), (187, 1, 0, 0), (188, 1, 0, 0), (189, 3, 1050, 0), (192, 3, 1255, 0), (195, 1, 0, 0), (196, 2, 0, 0), (198, 1, 0, 0), (199, 3, 1054, 0), (202, 1, 0, 0)]]
def am_l112 : List (List (Nat × Nat × Nat × Nat)) := [[(0, 1, 0, 0), (1, 3, 1345, 0), (4, 1, 0, 0), (5, 3, 0, 0), (8, 1, 0, 0), (9, 1, 0, 0), (10, 1, 0, 0), (11, 3, 1346, 0), (14, 1, 0, 0), (15, 3, 0, 0), (18, 1, 0, 0), (19, 1, 0, 0), (20, 1, 0, 0), (21, 3, 1347, 0), (24, 1, 0, 0), (25, 3, 0, 0)], [(28, 1, 0, 0), (29, 1, 0, 0), (30, 1, 0, 0), (31, 3, 1348, 0), (34, 1, 0, 0), (35, 3, 0, 0), (38, 1, 0, 0), (39, 1, 0, 0), (40, 1, 0, 0), (41, 3, 1349, 0), (44, 1, 0, 0), (45, 3, 0, 0), (48, 1, 0, 0), (49, 1, 0, 0), (50, 1, 0, 0), (51, 3, 1350, 0)], [(54, 1, 0, 0), (55, 3, 0, 0), (58, 1, 0, 0), (59, 1, 0, 0), (60, 1, 0, 0), (61, 3, 1351, 0), (64, 1, 0, 0), (65, 3, 0, 0), (68, 2, 0, 0), (70, 1, 0, 0), (71, 1, 0, 0), (72, 3, 1352, 0), (75, 1, 0, 0), (76, 3, 0, 0), (79, 2, 0, 0), (81, 1, 0, 0)], [(82, 1, 0, 0), (83, 3, 1353, 0), (86, 1, 0, 0), (87, 3, 0, 0), (90, 2, 0, 0), (92, 1, 0, 0), (93, 1, 0, 0), (94, 3, 1354, 0), (97, 1, 0, 0), (98, 3, 0, 0), (101, 2, 0, 0), (103, 1, 0, 0), (104, 1, 0, 0), (105, 3, 1355, 0), (108, 1, 0, 0), (109, 3, 0, 0)], [(112, 2, 0, 0), (114, 1, 0, 0), (115, 1, 0, 0), (116, 3, 1356, 0), (119, 1, 0, 0), (120, 3, 0, 0), (123, 2, 0, 0), (125, 1, 0, 0), (126, 1, 0, 0), (127, 3, 1357, 0), (130, 1, 0, 0), (131, 3, 0, 0), (134, 2, 0, 0), (136, 1, 0, 0), (137, 1, 0, 0), (138, 3, 1358, 0)], [(141, 1, 0, 0), (142, 3, 0, 0), (145, 2, 0, 0), (147, 1, 0, 0), (148, 1, 0, 0), (149, 1, 0, 0)]]
def am_l113 : List (List (Nat × Nat × Nat × Nat)) := [[(0, 2, 0, 0), (2, 1, 0, 0), (3, 3, 1048, 0), (6, 1, 0, 0), (7, 1, 0, 0), (8, 3, 1035, 0), (11, 1, 0, 0), (12, 3, 1048, 0), (15, 1, 0, 0), (16, 1, 0, 0), (17, 2, 0, 0), (19, 1, 0, 0), (20, 3, 1030, 0), (23, 2, 0, 0), (25, 1, 0, 0), (26, 1, 0, 0)], [(27, 1, 0, 0), (28, 3, 1031, 0), (31, 2, 0, 0), (33, 1, 0, 0), (34, 1, 0, 0), (35, 1, 0, 0), (36, 3, 1032, 0), (39, 2, 0, 0), (41, 1, 0, 0), (42, 1, 0, 0), (43, 1, 0, 0), (44, 3, 1033, 0), (47, 2, 0, 0), (49, 2, 0, 0), (51, 1, 0, 0), (52, 1, 0, 0)], [(53, 3, 1034, 0), (56, 2, 0, 0), (58, 2, 0, 0), (60, 1, 0, 0), (61, 1, 0, 0), (62, 3, 1035, 0), (65, 1, 0, 0), (66, 3, 1048, 0), (69, 1, 0, 0), (70, 1, 0, 0), (71, 1, 0, 0), (72, 1, 0, 0), (73, 1, 0, 0), (74, 1, 0, 0)]]
def am_l114 : List (List (Nat × Nat × Nat × Nat)) := [[(0, 1, 0, 0), (1, 3, 1051, 0), (4, 1, 0, 0), (5, 3, 1050, 0), (8, 1, 0, 0), (9, 1, 0, 0), (10, 1, 0, 0), (11, 3, 0, 0), (14, 1, 0, 0), (15, 3, 1026, 0), (18, 1, 0, 0), (19, 3, 1051, 0), (22, 1, 0, 0), (23, 1, 0, 0), (24, 1, 0, 0), (25, 2, 0, 0)], [(27, 3, 0, 0), (30, 1, 0, 0), (31, 3, 0, 0), (34, 1, 0, 0), (35, 2, 0, 0), (37, 2, 0, 0), (39, 3, 0, 0), (42, 1, 0, 0), (43, 1, 0, 0), (44, 2, 0, 0), (46, 1, 0, 0), (47, 1, 0, 0), (48, 1, 0, 0), (49, 1, 0, 0), (50, 1, 0, 0), (51, 1, 0, 0)], [(52, 1, 0, 0), (53, 1, 0, 0), (54, 3, 0, 0), (57, 1, 0, 0), (58, 2, 0, 0), (60, 2, 0, 0), (62, 3, 0, 0), (65, 1, 0, 0), (66, 1, 0, 0), (67, 1, 0, 0), (68, 3, 0, 0), (71, 1, 0, 0), (72, 2, 0, 0), (74, 1, 0, 0), (75, 2, 0, 0), (77, 3, 0, 0)], [(80, 1, 0, 0), (81, 3, 0, 0), (84, 2, 0, 0), (86, 3, 1342, 0), (89, 2, 0, 0), (91, 1, 0, 0), (92, 2, 0, 0), (94, 2, 0, 0), (96, 1, 0, 0), (97, 3, 0, 0), (100, 1, 0, 0), (101, 2, 0, 0), (103, 3, 0, 0), (106, 2, 0, 0), (108, 1, 0, 0), (109, 3, 0, 0)], [(112, 1, 0, 0), (113, 3, 1026, 0), (116, 1, 0, 0), (117, 3, 1050, 0), (120, 2, 0, 0), (122, 1, 0, 0), (123, 1, 0, 0), (124, 1, 0, 0), (125, 1, 0, 0), (126, 2, 0, 0), (128, 3, 0, 0), (131, 2, 0, 0), (133, 1, 0, 0), (134, 2, 0, 0), (136, 2, 0, 0), (138, 1, 0, 0)], [(139, 1, 0, 0), (140, 1, 0, 0), (141, 1, 0, 0), (142, 1, 0, 0), (143, 1, 0, 0), (144, 1, 0, 0), (145, 3, 1342, 0), (148, 2, 0, 0), (150, 1, 0, 0), (151, 2, 0, 0), (153, 2, 0, 0), (155, 1, 0, 0), (156, 3, 0, 0), (159, 1, 0, 0), (160, 3, 0, 0), (163, 2, 0, 0)], [(165, 2, 0, 0), (167, 2, 0, 0), (169, 1, 0, 0), (170, 3, 0, 0), (173, 1, 0, 0), (174, 1, 0, 0), (175, 1, 0, 0), (176, 3, 1330, 0), (179, 3, 0, 0), (182, 1, 0, 0), (183, 1, 0, 0), (184, 2, 0, 0), (186, 3, 0, 0), (189, 1, 0, 0), (190, 3, 1052, 0), (193, 2, 0, 0)], [(195, 3, 0, 0), (198, 1, 0, 0), (199, 1, 0, 0), (200, 1, 0, 0), (201, 3, 1050, 0), (204, 3, 1255, 0), (207, 1, 0, 0), (208, 1, 0, 0), (209, 3, 1052, 0), (212, 1, 0, 0), (213, 1, 0, 0), (214, 3, 1052, 0), (217, 1, 0, 0), (218, 2, 0, 0), (220, 2, 0, 0), (222, 1, 0, 0)], [(223, 1, 0, 0), (224, 1, 0, 0), (225, 1, 0, 0), (226, 1, 0, 0), (227, 3, 1334, 0), (230, 3, 0, 0), (233, 1, 0, 0), (234, 3, 1231, 0), (237, 1, 0, 0), (238, 3, 0, 0), (241, 3, 1293, 0), (244, 1, 0, 0), (245, 2, 0, 0), (247, 2, 0, 0), (249, 1, 0, 0), (250, 3, 1053, 0)], [(253, 1, 0, 0), (254, 3, 1054, 0), (257, 1, 0, 0), (258, 3, 1334, 0), (261, 1, 0, 0), (262, 1, 0, 0)]]
def am_l115 : List (List (Nat × Nat × Nat × Nat)) := [[(0, 1, 0, 0), (1, 3, 1035, 0), (4, 1, 0, 0), (5, 3, 1048, 0), (8, 1, 0, 0), (9, 2, 0, 0), (11, 3, 0, 0), (14, 1, 0, 0), (15, 1, 0, 0), (16, 1, 0, 0), (17, 3, 1050, 0), (20, 3, 1255, 0), (23, 1, 0, 0), (24, 3, 1028, 0), (27, 3, 0, 0), (30, 1, 0, 0)], [(31, 3, 0, 0), (34, 1, 0, 0), (35, 1, 0, 0)]]
def am_l116 : List (List (Nat × Nat × Nat × Nat)) := [[(0, 1, 0, 0), (1, 3, 1326, 0), (4, 1, 0, 0), (5, 3, 0, 0), (8, 1, 0, 0), (9, 3, 1327, 0), (12, 1, 0, 0), (13, 3, 0, 0), (16, 2, 0, 0), (18, 3, 0, 0), (21, 1, 0, 0), (22, 3, 1328, 0), (25, 1, 0, 0), (26, 3, 0, 0), (29, 1, 0, 0), (30, 3, 1329, 0)], [(33, 1, 0, 0), (34, 3, 0, 0), (37, 2, 0, 0), (39, 3, 0, 0), (42, 1, 0, 0), (43, 3, 1291, 0), (46, 1, 0, 0), (47, 3, 0, 0), (50, 2, 0, 0), (52, 3, 0, 0), (55, 1, 0, 0), (56, 3, 1292, 0), (59, 1, 0, 0), (60, 3, 0, 0), (63, 2, 0, 0), (65, 3, 0, 0)], [(68, 1, 0, 0), (69, 1, 0, 0), (70, 1, 0, 0), (71, 1, 0, 0), (72, 3, 0, 0), (75, 1, 0, 0), (76, 1, 0, 0), (77, 1, 0, 0), (78, 3, 1330, 0), (81, 3, 0, 0), (84, 1, 0, 0), (85, 3, 1231, 0), (88, 1, 0, 0), (89, 1, 0, 0), (90, 2, 0, 0), (92, 3, 0, 0)], [(95, 3, 0, 0), (98, 3, 0, 0), (101, 1, 0, 0), (102, 2, 0, 0), (104, 3, 0, 0), (107, 2, 0, 0), (109, 3, 0, 0), (112, 2, 0, 0), (114, 3, 1293, 0), (117, 1, 0, 0), (118, 1, 0, 0), (119, 1, 0, 0), (120, 3, 1327, 0), (123, 1, 0, 0), (124, 3, 0, 0), (127, 1, 0, 0)], [(128, 3, 1329, 0), (131, 1, 0, 0), (132, 3, 0, 0), (135, 1, 0, 0), (136, 3, 0, 0), (139, 1, 0, 0), (140, 1, 0, 0), (141, 3, 1053, 0), (144, 1, 0, 0), (145, 3, 1054, 0), (148, 1, 0, 0), (149, 3, 1334, 0), (152, 1, 0, 0), (153, 1, 0, 0)]]
def am_l117 : List (List (Nat × Nat × Nat × Nat)) := [[(0, 1, 0, 0), (1, 3, 1363, 0), (4, 1, 0, 0), (5, 3, 0, 0), (8, 1, 0, 0), (9, 3, 1364, 0), (12, 1, 0, 0), (13, 3, 0, 0), (16, 1, 0, 0), (17, 3, 1365, 0), (20, 1, 0, 0), (21, 3, 0, 0), (24, 2, 0, 0), (26, 3, 0, 0), (29, 1, 0, 0), (30, 3, 1366, 0)], [(33, 1, 0, 0), (34, 3, 0, 0), (37, 1, 0, 0), (38, 3, 1367, 0), (41, 1, 0, 0), (42, 3, 0, 0), (45, 1, 0, 0), (46, 3, 1368, 0), (49, 1, 0, 0), (50, 3, 0, 0), (53, 2, 0, 0), (55, 3, 0, 0), (58, 1, 0, 0), (59, 1, 0, 0), (60, 1, 0, 0), (61, 1, 0, 0)], [(62, 3, 0, 0), (65, 1, 0, 0), (66, 1, 0, 0), (67, 1, 0, 0), (68, 3, 1330, 0), (71, 3, 0, 0), (74, 1, 0, 0), (75, 1, 0, 0), (76, 1, 0, 0), (77, 3, 1052, 0), (80, 3, 0, 0), (83, 1, 0, 0), (84, 1, 0, 0), (85, 1, 0, 0), (86, 3, 1050, 0), (89, 3, 1255, 0)], [(92, 1, 0, 0), (93, 3, 1364, 0), (96, 1, 0, 0), (97, 3, 0, 0), (100, 1, 0, 0), (101, 3, 1367, 0), (104, 1, 0, 0), (105, 3, 0, 0), (108, 1, 0, 0), (109, 3, 0, 0), (112, 1, 0, 0), (113, 3, 1365, 0), (116, 1, 0, 0), (117, 3, 0, 0), (120, 1, 0, 0), (121, 3, 1368, 0)], [(124, 1, 0, 0), (125, 3, 0, 0), (128, 1, 0, 0), (129, 3, 0, 0), (132, 1, 0, 0), (133, 2, 0, 0), (135, 1, 0, 0), (136, 2, 0, 0), (138, 1, 0, 0), (139, 2, 0, 0), (141, 3, 0, 0), (144, 1, 0, 0), (145, 3, 1231, 0), (148, 1, 0, 0), (149, 1, 0, 0), (150, 3, 1051, 0)], [(153, 3, 1251, 0), (156, 2, 0, 0), (158, 1, 0, 0), (159, 2, 0, 0), (161, 3, 1315, 0), (164, 1, 0, 0), (165, 1, 0, 0), (166, 2, 0, 0), (168, 1, 0, 0), (169, 2, 0, 0), (171, 1, 0, 0), (172, 3, 1334, 0), (175, 1, 0, 0), (176, 1, 0, 0)]]
def am_l118 : List (List (Nat × Nat × Nat × Nat)) := [[(0, 1, 0, 0), (1, 1, 0, 0), (2, 3, 1050, 0), (5, 3, 1247, 0), (8, 2, 0, 0), (10, 3, 0, 0), (13, 1, 0, 0), (14, 1, 0, 0), (15, 1, 0, 0), (16, 3, 1050, 0), (19, 3, 1255, 0), (22, 1, 0, 0), (23, 1, 0, 0), (24, 1, 0, 0), (25, 1, 0, 0), (26, 3, 1050, 0)], [(29, 1, 0, 0), (30, 1, 0, 0), (31, 1, 0, 0), (32, 2, 0, 0), (34, 3, 1259, 0), (37, 1, 0, 0)]]
def am_l119 : List (List (Nat × Nat × Nat × Nat)) := [[(0, 1, 0, 0), (1, 3, 1055, 0), (4, 1, 0, 0), (5, 3, 1057, 0), (8, 1, 0, 0), (9, 1, 0, 0), (10, 1, 0, 0), (11, 3, 1056, 0), (14, 1, 0, 0), (15, 3, 1057, 0), (18, 1, 0, 0), (19, 3, 1050, 0), (22, 1, 0, 0), (23, 1, 0, 0), (24, 1, 0, 0), (25, 3, 1057, 0)], [(28, 1, 0, 0), (29, 1, 0, 0), (30, 3, 1057, 0), (33, 1, 0, 0)]]
def am_l120 : List (List (Nat × Nat × Nat × Nat)) := [[(0, 1, 0, 0), (1, 1, 0, 0), (2, 3, 1050, 0), (5, 3, 1247, 0), (8, 1, 0, 0), (9, 3, 0, 0), (12, 1, 0, 0), (13, 1, 0, 0), (14, 1, 0, 0), (15, 3, 1050, 0), (18, 3, 1255, 0), (21, 1, 0, 0), (22, 1, 0, 0), (23, 1, 0, 0), (24, 1, 0, 0), (25, 3, 1050, 0)], [(28, 1, 0, 0), (29, 1, 0, 0), (30, 1, 0, 0), (31, 3, 1051, 0), (34, 1, 0, 0), (35, 3, 1259, 0), (38, 1, 0, 0)]]
def am_l121 : List (List (Nat × Nat × Nat × Nat)) := [[(0, 1, 0, 0), (1, 3, 1373, 0), (4, 1, 0, 0), (5, 3, 0, 0), (8, 2, 0, 0), (10, 3, 0, 0), (13, 1, 0, 0), (14, 3, 1374, 0), (17, 1, 0, 0), (18, 3, 0, 0), (21, 2, 0, 0), (23, 3, 0, 0), (26, 1, 0, 0), (27, 3, 1375, 0), (30, 1, 0, 0), (31, 3, 0, 0)], [(34, 2, 0, 0), (36, 3, 0, 0), (39, 1, 0, 0), (40, 3, 1376, 0), (43, 1, 0, 0), (44, 3, 0, 0), (47, 2, 0, 0), (49, 3, 0, 0), (52, 1, 0, 0), (53, 3, 1377, 0), (56, 1, 0, 0), (57, 3, 0, 0), (60, 2, 0, 0), (62, 3, 0, 0), (65, 1, 0, 0), (66, 3, 1378, 0)], [(69, 1, 0, 0), (70, 3, 0, 0), (73, 2, 0, 0), (75, 3, 0, 0), (78, 1, 0, 0), (79, 3, 1379, 0), (82, 1, 0, 0), (83, 3, 0, 0), (86, 2, 0, 0), (88, 3, 0, 0), (91, 1, 0, 0), (92, 3, 1380, 0), (95, 1, 0, 0), (96, 3, 0, 0), (99, 2, 0, 0), (101, 3, 0, 0)], [(104, 1, 0, 0), (105, 1, 0, 0), (106, 1, 0, 0), (107, 1, 0, 0), (108, 3, 0, 0), (111, 1, 0, 0), (112, 1, 0, 0), (113, 1, 0, 0), (114, 3, 1330, 0), (117, 3, 0, 0), (120, 1, 0, 0), (121, 1, 0, 0), (122, 1, 0, 0), (123, 3, 1231, 0), (126, 1, 0, 0), (127, 2, 0, 0)], [(129, 3, 0, 0), (132, 1, 0, 0), (133, 2, 0, 0), (135, 2, 0, 0), (137, 3, 1381, 0), (140, 3, 0, 0), (143, 1, 0, 0), (144, 2, 0, 0), (146, 3, 0, 0), (149, 1, 0, 0), (150, 2, 0, 0), (152, 2, 0, 0), (154, 3, 1381, 0), (157, 3, 0, 0), (160, 1, 0, 0), (161, 2, 0, 0)], [(163, 2, 0, 0), (165, 3, 1381, 0), (168, 2, 0, 0), (170, 1, 0, 0), (171, 2, 0, 0), (173, 1, 0, 0), (174, 2, 0, 0), (176, 3, 0, 0), (179, 1, 0, 0), (180, 3, 1028, 0), (183, 3, 0, 0), (186, 1, 0, 0), (187, 3, 1231, 0), (190, 1, 0, 0), (191, 1, 0, 0), (192, 3, 1050, 0)], [(195, 1, 0, 0), (196, 2, 0, 0), (198, 3, 0, 0), (201, 3, 1385, 0), (204, 3, 0, 0), (207, 3, 0, 0), (210, 3, 1386, 0), (213, 2, 0, 0), (215, 1, 0, 0), (216, 1, 0, 0), (217, 1, 0, 0), (218, 1, 0, 0), (219, 2, 0, 0), (221, 2, 0, 0), (223, 3, 1334, 0), (226, 1, 0, 0)], [(227, 1, 0, 0)]]
def am_l122 : List (List (Nat × Nat × Nat × Nat)) := [[(0, 1, 0, 0), (1, 3, 1394, 0), (4, 1, 0, 0), (5, 3, 0, 0), (8, 2, 0, 0), (10, 3, 0, 0), (13, 1, 0, 0), (14, 3, 1395, 0), (17, 1, 0, 0), (18, 3, 0, 0), (21, 2, 0, 0), (23, 3, 0, 0), (26, 1, 0, 0), (27, 1, 0, 0), (28, 1, 0, 0), (29, 1, 0, 0)], [(30, 3, 0, 0), (33, 1, 0, 0), (34, 1, 0, 0), (35, 1, 0, 0), (36, 3, 1330, 0), (39, 3, 0, 0), (42, 1, 0, 0), (43, 2, 0, 0), (45, 3, 0, 0), (48, 1, 0, 0), (49, 3, 1052, 0), (52, 3, 0, 0), (55, 1, 0, 0), (56, 1, 0, 0), (57, 1, 0, 0), (58, 3, 1050, 0)], [(61, 3, 1255, 0), (64, 1, 0, 0), (65, 1, 0, 0), (66, 2, 0, 0), (68, 3, 0, 0), (71, 1, 0, 0), (72, 3, 1052, 0), (75, 1, 0, 0), (76, 1, 0, 0), (77, 3, 0, 0), (80, 1, 0, 0), (81, 3, 1052, 0), (84, 3, 1052, 0), (87, 1, 0, 0), (88, 1, 0, 0), (89, 1, 0, 0)], [(90, 1, 0, 0), (91, 1, 0, 0), (92, 1, 0, 0), (93, 3, 1334, 0), (96, 1, 0, 0), (97, 1, 0, 0)]]
def am_l123 : List (List (Nat × Nat × Nat × Nat)) := [[(0, 1, 0, 0), (1, 1, 0, 0), (2, 1, 0, 0), (3, 3, 1231, 0), (6, 1, 0, 0), (7, 3, 1277, 0), (10, 1, 0, 0), (11, 1, 0, 0), (12, 3, 1028, 0), (15, 3, 0, 0), (18, 1, 0, 0), (19, 1, 0, 0), (20, 3, 0, 0), (23, 1, 0, 0), (24, 3, 1290, 0), (27, 1, 0, 0)], [(28, 3, 0, 0), (31, 1, 0, 0), (32, 3, 1291, 0), (35, 1, 0, 0), (36, 3, 0, 0), (39, 1, 0, 0), (40, 3, 1292, 0), (43, 1, 0, 0), (44, 3, 0, 0), (47, 2, 0, 0), (49, 1, 0, 0), (50, 3, 1048, 0), (53, 1, 0, 0), (54, 1, 0, 0), (55, 1, 0, 0), (56, 1, 0, 0)], [(57, 1, 0, 0), (58, 1, 0, 0), (59, 1, 0, 0), (60, 2, 0, 0), (62, 1, 0, 0), (63, 3, 1231, 0), (66, 1, 0, 0), (67, 2, 0, 0), (69, 3, 1293, 0), (72, 1, 0, 0), (73, 3, 1038, 0), (76, 2, 0, 0), (78, 1, 0, 0), (79, 3, 1290, 0), (82, 1, 0, 0), (83, 3, 0, 0)], [(86, 1, 0, 0), (87, 3, 0, 0), (90, 1, 0, 0), (91, 3, 1291, 0), (94, 1, 0, 0), (95, 3, 0, 0), (98, 1, 0, 0), (99, 3, 0, 0), (102, 1, 0, 0), (103, 1, 0, 0), (104, 1, 0, 0), (105, 3, 1039, 0), (108, 2, 0, 0), (110, 1, 0, 0), (111, 3, 1053, 0), (114, 1, 0, 0)], [(115, 1, 0, 0), (116, 3, 1040, 0), (119, 2, 0, 0), (121, 1, 0, 0), (122, 3, 1054, 0), (125, 1, 0, 0), (126, 3, 0, 0), (129, 1, 0, 0), (130, 3, 1231, 0), (133, 1, 0, 0), (134, 3, 1277, 0), (137, 1, 0, 0), (138, 3, 0, 0), (141, 1, 0, 0)]]
def am_l124 : List (List (Nat × Nat × Nat × Nat)) := [[(0, 1, 0, 0), (1, 3, 1052, 0), (4, 3, 0, 0), (7, 1, 0, 0), (8, 1, 0, 0), (9, 1, 0, 0), (10, 3, 1050, 0), (13, 3, 1255, 0), (16, 1, 0, 0), (17, 3, 1231, 0), (20, 1, 0, 0), (21, 1, 0, 0), (22, 3, 1050, 0), (25, 1, 0, 0), (26, 3, 1051, 0), (29, 2, 0, 0)], [(31, 3, 1259, 0), (34, 1, 0, 0), (35, 1, 0, 0), (36, 3, 1028, 0), (39, 3, 0, 0), (42, 1, 0, 0), (43, 3, 1037, 0), (46, 2, 0, 0), (48, 1, 0, 0), (49, 3, 1048, 0), (52, 1, 0, 0), (53, 1, 0, 0), (54, 1, 0, 0), (55, 1, 0, 0), (56, 3, 0, 0), (59, 1, 0, 0)], [(60, 1, 0, 0), (61, 1, 0, 0), (62, 3, 1050, 0), (65, 3, 1255, 0), (68, 1, 0, 0), (69, 3, 1028, 0), (72, 3, 0, 0), (75, 1, 0, 0), (76, 3, 1037, 0), (79, 2, 0, 0), (81, 1, 0, 0), (82, 3, 1048, 0), (85, 1, 0, 0), (86, 1, 0, 0), (87, 1, 0, 0), (88, 1, 0, 0)], [(89, 1, 0, 0), (90, 1, 0, 0), (91, 1, 0, 0), (92, 3, 1286, 0), (95, 1, 0, 0)]]
def am_l125 : List (List (Nat × Nat × Nat × Nat)) := [[(0, 1, 0, 0), (1, 1, 0, 0), (2, 1, 0, 0), (3, 1, 0, 0), (4, 1, 0, 0), (5, 1, 0, 0), (6, 3, 0, 0), (9, 1, 0, 0), (10, 3, 1028, 0), (13, 3, 0, 0), (16, 1, 0, 0), (17, 3, 0, 0), (20, 1, 0, 0), (21, 1, 0, 0), (22, 3, 1050, 0), (25, 1, 0, 0)], [(26, 3, 1051, 0), (29, 3, 1263, 0), (32, 3, 0, 0), (35, 1, 0, 0), (36, 1, 0, 0), (37, 3, 1050, 0), (40, 1, 0, 0), (41, 3, 1051, 0), (44, 2, 0, 0), (46, 3, 1259, 0), (49, 1, 0, 0), (50, 1, 0, 0), (51, 2, 0, 0), (53, 1, 0, 0), (54, 1, 0, 0), (55, 3, 1315, 0)], [(58, 1, 0, 0), (59, 3, 0, 0), (62, 1, 0, 0), (63, 3, 0, 0), (66, 1, 0, 0), (67, 1, 0, 0), (68, 1, 0, 0), (69, 1, 0, 0), (70, 1, 0, 0), (71, 1, 0, 0), (72, 1, 0, 0), (73, 3, 1231, 0), (76, 3, 0, 0), (79, 3, 0, 0), (82, 1, 0, 0), (83, 1, 0, 0)]]
def am_l126 : List (List (Nat × Nat × Nat × Nat)) := [[(0, 1, 0, 0), (1, 3, 1046, 0), (4, 1, 0, 0), (5, 3, 1048, 0), (8, 1, 0, 0), (9, 2, 0, 0), (11, 3, 0, 0), (14, 1, 0, 0), (15, 1, 0, 0), (16, 1, 0, 0), (17, 3, 1050, 0), (20, 3, 1255, 0), (23, 1, 0, 0), (24, 3, 1052, 0), (27, 3, 0, 0), (30, 1, 0, 0)], [(31, 1, 0, 0), (32, 1, 0, 0), (33, 3, 1050, 0), (36, 3, 1255, 0), (39, 2, 0, 0), (41, 1, 0, 0), (42, 3, 1048, 0), (45, 1, 0, 0), (46, 1, 0, 0), (47, 3, 1046, 0), (50, 1, 0, 0), (51, 3, 1048, 0), (54, 1, 0, 0), (55, 2, 0, 0), (57, 1, 0, 0), (58, 1, 0, 0)], [(59, 1, 0, 0), (60, 1, 0, 0), (61, 3, 1231, 0), (64, 1, 0, 0), (65, 3, 1041, 0), (68, 1, 0, 0), (69, 1, 0, 0), (70, 3, 1311, 0), (73, 1, 0, 0), (74, 1, 0, 0), (75, 3, 1277, 0), (78, 3, 1319, 0), (81, 1, 0, 0), (82, 3, 0, 0), (85, 1, 0, 0), (86, 1, 0, 0)], [(87, 1, 0, 0), (88, 3, 1050, 0), (91, 3, 1255, 0), (94, 1, 0, 0), (95, 3, 1231, 0), (98, 1, 0, 0), (99, 3, 1042, 0), (102, 1, 0, 0), (103, 1, 0, 0), (104, 3, 1028, 0), (107, 3, 0, 0), (110, 1, 0, 0), (111, 3, 1311, 0), (114, 3, 0, 0), (117, 1, 0, 0), (118, 1, 0, 0)], [(119, 1, 0, 0), (120, 3, 1277, 0), (123, 1, 0, 0), (124, 1, 0, 0), (125, 3, 1043, 0), (128, 1, 0, 0), (129, 1, 0, 0), (130, 3, 1320, 0), (133, 1, 0, 0), (134, 3, 0, 0), (137, 1, 0, 0), (138, 3, 0, 0), (141, 1, 0, 0), (142, 3, 1321, 0), (145, 1, 0, 0), (146, 3, 0, 0)], [(149, 1, 0, 0), (150, 3, 0, 0), (153, 1, 0, 0), (154, 1, 0, 0), (155, 1, 0, 0), (156, 3, 1043, 0), (159, 1, 0, 0), (160, 1, 0, 0), (161, 3, 0, 0), (164, 1, 0, 0), (165, 3, 1028, 0), (168, 3, 0, 0), (171, 1, 0, 0), (172, 3, 1231, 0), (175, 1, 0, 0), (176, 3, 0, 0)], [(179, 3, 1293, 0), (182, 1, 0, 0), (183, 3, 1044, 0), (186, 1, 0, 0), (187, 1, 0, 0), (188, 3, 1053, 0), (191, 1, 0, 0), (192, 1, 0, 0), (193, 3, 1045, 0), (196, 1, 0, 0), (197, 1, 0, 0), (198, 3, 1054, 0), (201, 1, 0, 0), (202, 1, 0, 0), (203, 3, 1231, 0), (206, 1, 0, 0)], [(207, 3, 1046, 0), (210, 1, 0, 0), (211, 3, 1048, 0), (214, 1, 0, 0), (215, 1, 0, 0), (216, 1, 0, 0), (217, 1, 0, 0), (218, 1, 0, 0), (219, 1, 0, 0)]]
def am_l127 : List (List (Nat × Nat × Nat × Nat)) := [[(0, 1, 0, 0), (1, 3, 1051, 0), (4, 1, 0, 0), (5, 1, 0, 0), (6, 1, 0, 0), (7, 1, 0, 0), (8, 1, 0, 0), (9, 3, 1050, 0), (12, 3, 1247, 0), (15, 2, 0, 0), (17, 3, 0, 0), (20, 1, 0, 0), (21, 3, 1026, 0), (24, 1, 0, 0), (25, 1, 0, 0), (26, 2, 0, 0)], [(28, 3, 0, 0), (31, 1, 0, 0), (32, 1, 0, 0), (33, 3, 1251, 0), (36, 1, 0, 0), (37, 1, 0, 0), (38, 3, 1028, 0), (41, 3, 0, 0), (44, 1, 0, 0), (45, 3, 1036, 0), (48, 2, 0, 0), (50, 1, 0, 0), (51, 3, 1048, 0), (54, 1, 0, 0), (55, 1, 0, 0), (56, 1, 0, 0)], [(57, 1, 0, 0), (58, 3, 0, 0), (61, 1, 0, 0), (62, 1, 0, 0), (63, 1, 0, 0), (64, 3, 1050, 0), (67, 3, 1255, 0), (70, 1, 0, 0), (71, 3, 1052, 0), (74, 3, 0, 0), (77, 1, 0, 0), (78, 1, 0, 0), (79, 1, 0, 0), (80, 3, 1050, 0), (83, 3, 1255, 0), (86, 1, 0, 0)], [(87, 3, 1028, 0), (90, 3, 0, 0), (93, 1, 0, 0), (94, 3, 1036, 0), (97, 2, 0, 0), (99, 1, 0, 0), (100, 3, 1048, 0), (103, 1, 0, 0), (104, 1, 0, 0), (105, 1, 0, 0), (106, 1, 0, 0), (107, 3, 1035, 0), (110, 1, 0, 0), (111, 3, 1048, 0), (114, 1, 0, 0), (115, 1, 0, 0)], [(116, 1, 0, 0), (117, 3, 1231, 0), (120, 1, 0, 0), (121, 3, 1028, 0), (124, 3, 0, 0), (127, 1, 0, 0), (128, 3, 1239, 0), (131, 3, 0, 0), (134, 1, 0, 0), (135, 1, 0, 0), (136, 3, 1277, 0), (139, 1, 0, 0), (140, 1, 0, 0), (141, 3, 1281, 0), (144, 1, 0, 0), (145, 3, 0, 0)], [(148, 1, 0, 0), (149, 3, 1282, 0), (152, 3, 0, 0), (155, 1, 0, 0), (156, 3, 1306, 0), (159, 1, 0, 0), (160, 3, 0, 0), (163, 1, 0, 0), (164, 3, 1307, 0), (167, 3, 0, 0), (170, 1, 0, 0), (171, 1, 0, 0), (172, 3, 1322, 0), (175, 3, 0, 0), (178, 1, 0, 0), (179, 1, 0, 0)], [(180, 3, 1338, 0), (183, 3, 0, 0), (186, 1, 0, 0), (187, 1, 0, 0), (188, 3, 1359, 0), (191, 3, 0, 0), (194, 1, 0, 0), (195, 1, 0, 0), (196, 3, 1369, 0), (199, 3, 0, 0), (202, 1, 0, 0), (203, 1, 0, 0), (204, 3, 1390, 0), (207, 3, 0, 0), (210, 1, 0, 0), (211, 3, 1231, 0)], [(214, 3, 0, 0), (217, 1, 0, 0), (218, 1, 0, 0), (219, 1, 0, 0), (220, 3, 1050, 0), (223, 3, 1255, 0), (226, 1, 0, 0), (227, 3, 1028, 0), (230, 3, 0, 0), (233, 1, 0, 0), (234, 3, 1239, 0), (237, 3, 0, 0), (240, 1, 0, 0), (241, 1, 0, 0), (242, 1, 0, 0), (243, 3, 1050, 0)], [(246, 3, 1255, 0), (249, 1, 0, 0)]]
def am_l128 : List (List (Nat × Nat × Nat × Nat)) := [[(0, 1, 0, 0), (1, 1, 0, 0), (2, 3, 1028, 0), (5, 1, 0, 0), (6, 1, 0, 0), (7, 3, 1029, 0), (10, 1, 0, 0), (11, 1, 0, 0), (12, 1, 0, 0), (13, 3, 1047, 0), (16, 1, 0, 0), (17, 3, 1048, 0), (20, 1, 0, 0), (21, 1, 0, 0), (22, 3, 1051, 0), (25, 1, 0, 0)], [(26, 1, 0, 0), (27, 3, 1052, 0), (30, 1, 0, 0), (31, 1, 0, 0), (32, 3, 1057, 0), (35, 1, 0, 0), (36, 3, 1035, 0), (39, 1, 0, 0), (40, 3, 1048, 0), (43, 1, 0, 0), (44, 1, 0, 0), (45, 1, 0, 0), (46, 3, 1046, 0), (49, 1, 0, 0), (50, 3, 1048, 0), (53, 1, 0, 0)], [(54, 1, 0, 0), (55, 1, 0, 0), (56, 1, 0, 0), (57, 1, 0, 0), (58, 2, 0, 0), (60, 3, 0, 0), (63, 1, 0, 0), (64, 3, 1038, 0), (67, 2, 0, 0), (69, 1, 0, 0), (70, 3, 1048, 0), (73, 1, 0, 0), (74, 1, 0, 0), (75, 1, 0, 0), (76, 1, 0, 0), (77, 1, 0, 0)], [(78, 3, 0, 0), (81, 3, 0, 0), (84, 1, 0, 0), (85, 1, 0, 0), (86, 1, 0, 0), (87, 2, 0, 0), (89, 3, 0, 0), (92, 1, 0, 0), (93, 3, 1036, 0), (96, 2, 0, 0), (98, 1, 0, 0), (99, 3, 1048, 0), (102, 1, 0, 0), (103, 1, 0, 0), (104, 1, 0, 0), (105, 1, 0, 0)], [(106, 1, 0, 0), (107, 1, 0, 0), (108, 3, 1037, 0), (111, 2, 0, 0), (113, 1, 0, 0), (114, 3, 1048, 0), (117, 1, 0, 0), (118, 1, 0, 0), (119, 2, 0, 0), (121, 1, 0, 0), (122, 1, 0, 0), (123, 1, 0, 0), (124, 1, 0, 0), (125, 3, 0, 0), (128, 3, 0, 0), (131, 1, 0, 0)]]
def am_l129 : List (List (Nat × Nat × Nat × Nat)) := [[(0, 1, 0, 0), (1, 1, 0, 0), (2, 3, 1025, 0), (5, 1, 0, 0), (6, 3, 1227, 0), (9, 1, 0, 0), (10, 3, 1231, 0), (13, 1, 0, 0), (14, 3, 1028, 0), (17, 3, 0, 0), (20, 1, 0, 0), (21, 3, 1235, 0), (24, 3, 0, 0), (27, 1, 0, 0), (28, 3, 1239, 0), (31, 3, 0, 0)], [(34, 1, 0, 0), (35, 3, 1243, 0), (38, 1, 0, 0), (39, 3, 1231, 0), (42, 3, 0, 0), (45, 1, 0, 0), (46, 3, 1028, 0), (49, 3, 0, 0), (52, 1, 0, 0), (53, 3, 1052, 0), (56, 3, 0, 0), (59, 1, 0, 0), (60, 1, 0, 0), (61, 1, 0, 0), (62, 3, 1027, 0), (65, 3, 1255, 0)], [(68, 1, 0, 0), (69, 1, 0, 0), (70, 1, 0, 0), (71, 1, 0, 0), (72, 3, 1057, 0), (75, 3, 0, 0), (78, 1, 0, 0), (79, 3, 1028, 0), (82, 3, 0, 0), (85, 1, 0, 0), (86, 3, 1055, 0), (89, 1, 0, 0), (90, 1, 0, 0), (91, 1, 0, 0), (92, 1, 0, 0), (93, 2, 0, 0)], [(95, 3, 0, 0), (98, 1, 0, 0), (99, 3, 1036, 0), (102, 2, 0, 0), (104, 1, 0, 0), (105, 3, 1048, 0), (108, 1, 0, 0), (109, 1, 0, 0), (110, 1, 0, 0), (111, 1, 0, 0), (112, 3, 0, 0), (115, 1, 0, 0), (116, 3, 0, 0), (119, 1, 0, 0), (120, 3, 0, 0), (123, 1, 0, 0)], [(124, 3, 1037, 0), (127, 2, 0, 0), (129, 1, 0, 0), (130, 3, 1048, 0), (133, 1, 0, 0), (134, 1, 0, 0), (135, 1, 0, 0), (136, 2, 0, 0), (138, 1, 0, 0), (139, 1, 0, 0), (140, 1, 0, 0), (141, 1, 0, 0), (142, 3, 0, 0), (145, 1, 0, 0), (146, 2, 0, 0), (148, 1, 0, 0)], [(149, 3, 1056, 0), (152, 1, 0, 0), (153, 1, 0, 0), (154, 3, 1255, 0), (157, 3, 0, 0), (160, 3, 0, 0), (163, 1, 0, 0), (164, 3, 1028, 0), (167, 3, 0, 0), (170, 1, 0, 0), (171, 1, 0, 0), (172, 1, 0, 0), (173, 1, 0, 0), (174, 3, 1048, 0), (177, 3, 1047, 0), (180, 1, 0, 0)], [(181, 3, 1020, 0), (184, 1, 0, 0), (185, 3, 1035, 0), (188, 1, 0, 0), (189, 3, 1047, 0), (192, 1, 0, 0), (193, 1, 0, 0)]]
def am_l130 : List (List (Nat × Nat × Nat × Nat)) := [[(0, 1, 0, 0), (1, 1, 0, 0), (2, 3, 1025, 0), (5, 1, 0, 0), (6, 3, 1028, 0), (9, 1, 0, 0)]]
def am_l131 : List (List (Nat × Nat × Nat × Nat)) := [[(0, 1, 0, 0), (1, 1, 0, 0), (2, 3, 1025, 0), (5, 1, 0, 0), (6, 3, 1029, 0), (9, 1, 0, 0)]]
def am_l132 : List (List (Nat × Nat × Nat × Nat)) := [[(0, 1, 0, 0), (1, 1, 0, 0), (2, 1, 0, 0), (3, 2, 0, 0), (5, 3, 0, 0), (8, 1, 0, 0), (9, 3, 1059, 0), (12, 1, 0, 0), (13, 1, 0, 0), (14, 1, 0, 0), (15, 1, 0, 0), (16, 3, 1060, 0), (19, 1, 0, 0), (20, 1, 0, 0), (21, 1, 0, 0), (22, 1, 0, 0)], [(23, 3, 1061, 0), (26, 1, 0, 0), (27, 1, 0, 0), (28, 1, 0, 0), (29, 1, 0, 0), (30, 3, 1062, 0), (33, 1, 0, 0), (34, 1, 0, 0), (35, 1, 0, 0), (36, 1, 0, 0), (37, 3, 1068, 0), (40, 1, 0, 0), (41, 1, 0, 0), (42, 1, 0, 0), (43, 3, 0, 0), (46, 3, 0, 0)], [(49, 1, 0, 0), (50, 1, 0, 0), (51, 1, 0, 0), (52, 2, 0, 0), (54, 3, 0, 0), (57, 1, 0, 0), (58, 3, 1063, 0), (61, 1, 0, 0), (62, 1, 0, 0), (63, 1, 0, 0), (64, 1, 0, 0), (65, 3, 1064, 0), (68, 1, 0, 0), (69, 1, 0, 0), (70, 1, 0, 0), (71, 1, 0, 0)], [(72, 3, 1065, 0), (75, 1, 0, 0), (76, 1, 0, 0), (77, 1, 0, 0), (78, 1, 0, 0), (79, 3, 1066, 0), (82, 1, 0, 0), (83, 1, 0, 0), (84, 1, 0, 0), (85, 1, 0, 0), (86, 3, 1073, 0), (89, 1, 0, 0), (90, 3, 1024, 0), (93, 1, 0, 0), (94, 1, 0, 0), (95, 3, 1074, 0)], [(98, 1, 0, 0), (99, 1, 0, 0), (100, 1, 0, 0), (101, 1, 0, 0), (102, 3, 1075, 0), (105, 1, 0, 0), (106, 3, 1024, 0), (109, 1, 0, 0), (110, 1, 0, 0), (111, 3, 1076, 0), (114, 1, 0, 0), (115, 3, 1024, 0), (118, 1, 0, 0), (119, 1, 0, 0), (120, 3, 1077, 0), (123, 1, 0, 0)], [(124, 1, 0, 0), (125, 1, 0, 0), (126, 1, 0, 0), (127, 3, 1078, 0), (130, 1, 0, 0), (131, 1, 0, 0), (132, 1, 0, 0), (133, 1, 0, 0), (134, 3, 1079, 0), (137, 1, 0, 0), (138, 1, 0, 0), (139, 1, 0, 0), (140, 3, 0, 0), (143, 3, 0, 0), (146, 1, 0, 0), (147, 1, 0, 0)], [(148, 1, 0, 0), (149, 2, 0, 0), (151, 3, 0, 0), (154, 1, 0, 0), (155, 3, 1067, 0), (158, 1, 0, 0), (159, 1, 0, 0), (160, 3, 0, 0), (163, 1, 0, 0), (164, 3, 0, 0), (167, 1, 0, 0), (168, 1, 0, 0), (169, 1, 0, 0), (170, 3, 1080, 0), (173, 1, 0, 0), (174, 1, 0, 0)], [(175, 1, 0, 0), (176, 1, 0, 0), (177, 3, 1081, 0), (180, 1, 0, 0), (181, 1, 0, 0), (182, 1, 0, 0), (183, 3, 0, 0), (186, 3, 0, 0), (189, 1, 0, 0), (190, 1, 0, 0), (191, 3, 1069, 0), (194, 1, 0, 0), (195, 1, 0, 0), (196, 3, 1070, 0), (199, 1, 0, 0), (200, 1, 0, 0)], [(201, 3, 1071, 0), (204, 1, 0, 0), (205, 1, 0, 0), (206, 3, 1072, 0), (209, 1, 0, 0)]]
def am_l133 : List (List (Nat × Nat × Nat × Nat)) := [[(0, 1, 0, 0), (1, 1, 0, 0), (2, 3, 1025, 0), (5, 1, 0, 0), (6, 3, 1020, 0), (9, 1, 0, 0)]]
def am_l134 : List (List (Nat × Nat × Nat × Nat)) := [[(0, 1, 0, 0), (1, 51, 0, 0), (52, 1, 0, 0), (53, 1, 0, 0), (54, 1, 0, 0), (55, 3, 1059, 0), (58, 1, 0, 0), (59, 1, 0, 0), (60, 1, 0, 0), (61, 1, 0, 0), (62, 3, 1060, 0), (65, 1, 0, 0), (66, 1, 0, 0), (67, 1, 0, 0), (68, 1, 0, 0), (69, 3, 1061, 0)], [(72, 1, 0, 0), (73, 1, 0, 0), (74, 1, 0, 0), (75, 1, 0, 0), (76, 3, 1062, 0), (79, 1, 0, 0), (80, 1, 0, 0), (81, 1, 0, 0), (82, 1, 0, 0), (83, 3, 1064, 0), (86, 1, 0, 0), (87, 1, 0, 0), (88, 1, 0, 0), (89, 1, 0, 0), (90, 3, 1063, 0), (93, 1, 0, 0)], [(94, 1, 0, 0), (95, 1, 0, 0), (96, 1, 0, 0), (97, 3, 1066, 0), (100, 1, 0, 0), (101, 1, 0, 0), (102, 1, 0, 0), (103, 1, 0, 0), (104, 3, 1065, 0), (107, 1, 0, 0), (108, 1, 0, 0), (109, 1, 0, 0), (110, 1, 0, 0), (111, 3, 1067, 0), (114, 1, 0, 0), (115, 1, 0, 0)], [(116, 1, 0, 0)]]
def am_l135 : List (List (Nat × Nat × Nat × Nat)) := [[(0, 1, 0, 0), (1, 1, 0, 0), (2, 3, 0, 0), (5, 1, 0, 0), (6, 3, 1060, 0), (9, 1, 0, 0), (10, 1, 0, 0), (11, 1, 0, 0), (12, 3, 0, 0), (15, 1, 0, 0), (16, 3, 1061, 0), (19, 1, 0, 0), (20, 1, 0, 0), (21, 1, 0, 0), (22, 1, 0, 0)]]
def am_l136 : List (List (Nat × Nat × Nat × Nat)) := [[(0, 1, 0, 0), (1, 3, 1069, 0), (4, 1, 0, 0), (5, 1, 0, 0), (6, 2, 0, 0), (8, 2, 0, 0), (10, 1, 0, 0), (11, 1, 0, 0), (12, 1, 0, 0), (13, 3, 0, 0), (16, 2, 0, 0), (18, 1, 0, 0), (19, 3, 0, 0), (22, 1, 0, 0), (23, 1, 0, 0)]]
def am_l137 : List (List (Nat × Nat × Nat × Nat)) := [[(0, 1, 0, 0), (1, 3, 1085, 0), (4, 3, 0, 0), (7, 1, 0, 0), (8, 3, 0, 0), (11, 1, 0, 0), (12, 2, 0, 0), (14, 1, 0, 0), (15, 3, 1063, 0), (18, 1, 0, 0), (19, 1, 0, 0), (20, 1, 0, 0), (21, 1, 0, 0), (22, 3, 1064, 0), (25, 1, 0, 0), (26, 1, 0, 0)], [(27, 1, 0, 0), (28, 1, 0, 0), (29, 2, 0, 0), (31, 3, 0, 0), (34, 1, 0, 0), (35, 3, 1073, 0), (38, 1, 0, 0), (39, 2, 0, 0), (41, 3, 0, 0), (44, 3, 1024, 0), (47, 3, 0, 0), (50, 1, 0, 0), (51, 3, 1073, 0), (54, 1, 0, 0), (55, 1, 0, 0), (56, 1, 0, 0)], [(57, 1, 0, 0), (58, 3, 0, 0), (61, 1, 0, 0), (62, 3, 1069, 0), (65, 3, 0, 0), (68, 1, 0, 0), (69, 3, 1073, 0), (72, 1, 0, 0), (73, 1, 0, 0), (74, 1, 0, 0), (75, 2, 0, 0), (77, 3, 0, 0), (80, 1, 0, 0), (81, 3, 1063, 0), (84, 1, 0, 0), (85, 1, 0, 0)], [(86, 1, 0, 0), (87, 3, 1073, 0), (90, 1, 0, 0), (91, 1, 0, 0), (92, 1, 0, 0), (93, 3, 1458, 0), (96, 1, 0, 0), (97, 1, 0, 0), (98, 3, 1064, 0), (101, 1, 0, 0), (102, 1, 0, 0), (103, 3, 1063, 0), (106, 1, 0, 0), (107, 1, 0, 0), (108, 1, 0, 0), (109, 3, 0, 0)], [(112, 1, 0, 0), (113, 3, 0, 0), (116, 1, 0, 0), (117, 1, 0, 0), (118, 3, 0, 0), (121, 1, 0, 0), (122, 2, 0, 0), (124, 3, 0, 0), (127, 1, 0, 0), (128, 3, 1074, 0), (131, 1, 0, 0), (132, 1, 0, 0), (133, 3, 1074, 0), (136, 1, 0, 0), (137, 1, 0, 0), (138, 3, 0, 0)], [(141, 2, 0, 0), (143, 3, 0, 0), (146, 1, 0, 0), (147, 3, 0, 0), (150, 1, 0, 0), (151, 1, 0, 0), (152, 1, 0, 0), (153, 3, 1075, 0), (156, 1, 0, 0), (157, 2, 0, 0), (159, 3, 0, 0), (162, 3, 1024, 0), (165, 3, 0, 0), (168, 1, 0, 0), (169, 3, 1075, 0), (172, 1, 0, 0)], [(173, 1, 0, 0), (174, 1, 0, 0), (175, 1, 0, 0), (176, 3, 0, 0), (179, 1, 0, 0), (180, 3, 1074, 0), (183, 1, 0, 0), (184, 1, 0, 0), (185, 3, 0, 0), (188, 1, 0, 0), (189, 3, 1069, 0), (192, 3, 0, 0), (195, 1, 0, 0), (196, 3, 1075, 0), (199, 1, 0, 0), (200, 1, 0, 0)], [(201, 1, 0, 0), (202, 2, 0, 0), (204, 3, 0, 0), (207, 1, 0, 0), (208, 3, 1064, 0), (211, 1, 0, 0), (212, 1, 0, 0), (213, 1, 0, 0), (214, 3, 0, 0), (217, 1, 0, 0), (218, 3, 1074, 0), (221, 1, 0, 0), (222, 1, 0, 0), (223, 3, 0, 0), (226, 1, 0, 0), (227, 3, 1063, 0)], [(230, 1, 0, 0), (231, 1, 0, 0), (232, 1, 0, 0), (233, 3, 1075, 0), (236, 1, 0, 0), (237, 1, 0, 0), (238, 1, 0, 0), (239, 3, 1458, 0), (242, 1, 0, 0), (243, 1, 0, 0), (244, 3, 1064, 0), (247, 1, 0, 0), (248, 1, 0, 0), (249, 3, 1063, 0), (252, 1, 0, 0), (253, 1, 0, 0)], [(254, 1, 0, 0), (255, 3, 0, 0), (258, 1, 0, 0), (259, 3, 0, 0), (262, 1, 0, 0), (263, 1, 0, 0), (264, 3, 0, 0), (267, 1, 0, 0), (268, 3, 1076, 0), (271, 1, 0, 0), (272, 2, 0, 0), (274, 3, 0, 0), (277, 1, 0, 0), (278, 3, 1076, 0), (281, 1, 0, 0), (282, 1, 0, 0)], [(283, 1, 0, 0), (284, 1, 0, 0), (285, 3, 0, 0), (288, 1, 0, 0), (289, 3, 1077, 0), (292, 1, 0, 0), (293, 1, 0, 0), (294, 3, 0, 0), (297, 1, 0, 0), (298, 3, 1069, 0), (301, 3, 0, 0), (304, 1, 0, 0), (305, 3, 1076, 0), (308, 1, 0, 0), (309, 1, 0, 0), (310, 1, 0, 0)], [(311, 1, 0, 0), (312, 3, 1077, 0), (315, 1, 0, 0), (316, 2, 0, 0), (318, 1, 0, 0), (319, 1, 0, 0), (320, 3, 1076, 0), (323, 1, 0, 0), (324, 1, 0, 0), (325, 1, 0, 0), (326, 1, 0, 0), (327, 3, 0, 0), (330, 1, 0, 0), (331, 3, 1063, 0), (334, 1, 0, 0), (335, 1, 0, 0)], [(336, 1, 0, 0), (337, 3, 1076, 0), (340, 1, 0, 0), (341, 1, 0, 0), (342, 1, 0, 0), (343, 3, 1458, 0), (346, 1, 0, 0), (347, 1, 0, 0), (348, 3, 1064, 0), (351, 1, 0, 0), (352, 1, 0, 0), (353, 3, 1063, 0), (356, 1, 0, 0), (357, 1, 0, 0), (358, 1, 0, 0), (359, 3, 0, 0)], [(362, 1, 0, 0), (363, 3, 0, 0), (366, 1, 0, 0), (367, 1, 0, 0), (368, 1, 0, 0), (369, 3, 1063, 0), (372, 1, 0, 0), (373, 1, 0, 0), (374, 1, 0, 0), (375, 3, 0, 0), (378, 2, 0, 0), (380, 3, 0, 0), (383, 1, 0, 0), (384, 3, 1076, 0), (387, 1, 0, 0), (388, 3, 1024, 0)], [(391, 1, 0, 0), (392, 1, 0, 0), (393, 3, 1063, 0), (396, 1, 0, 0), (397, 1, 0, 0), (398, 1, 0, 0), (399, 1, 0, 0), (400, 1, 0, 0), (401, 3, 1064, 0), (404, 1, 0, 0), (405, 1, 0, 0), (406, 3, 1085, 0), (409, 1, 0, 0)]]
def am_l138 : List (List (Nat × Nat × Nat × Nat)) := [[(0, 1, 0, 0), (1, 3, 1085, 0), (4, 3, 0, 0), (7, 1, 0, 0), (8, 3, 0, 0), (11, 1, 0, 0), (12, 2, 0, 0), (14, 1, 0, 0), (15, 2, 0, 0), (17, 3, 0, 0), (20, 1, 0, 0), (21, 3, 1065, 0), (24, 1, 0, 0), (25, 2, 0, 0), (27, 3, 0, 0), (30, 1, 0, 0)], [(31, 3, 1078, 0), (34, 1, 0, 0), (35, 1, 0, 0), (36, 3, 0, 0), (39, 1, 0, 0), (40, 3, 1065, 0), (43, 1, 0, 0), (44, 1, 0, 0), (45, 3, 0, 0), (48, 3, 0, 0), (51, 1, 0, 0), (52, 3, 1065, 0), (55, 1, 0, 0), (56, 1, 0, 0), (57, 1, 0, 0), (58, 1, 0, 0)], [(59, 3, 0, 0), (62, 1, 0, 0), (63, 3, 1065, 0), (66, 1, 0, 0), (67, 1, 0, 0), (68, 1, 0, 0), (69, 1, 0, 0), (70, 3, 1078, 0), (73, 1, 0, 0), (74, 2, 0, 0), (76, 1, 0, 0), (77, 1, 0, 0), (78, 3, 1066, 0), (81, 1, 0, 0), (82, 1, 0, 0), (83, 3, 1065, 0)], [(86, 1, 0, 0), (87, 1, 0, 0), (88, 1, 0, 0), (89, 3, 0, 0), (92, 1, 0, 0), (93, 3, 0, 0), (96, 1, 0, 0), (97, 1, 0, 0), (98, 3, 0, 0), (101, 1, 0, 0), (102, 3, 1065, 0), (105, 1, 0, 0), (106, 2, 0, 0), (108, 3, 0, 0), (111, 1, 0, 0), (112, 3, 1079, 0)], [(115, 1, 0, 0), (116, 1, 0, 0), (117, 3, 0, 0), (120, 1, 0, 0), (121, 3, 1065, 0), (124, 1, 0, 0), (125, 1, 0, 0), (126, 3, 0, 0), (129, 3, 0, 0), (132, 1, 0, 0), (133, 3, 1065, 0), (136, 1, 0, 0), (137, 1, 0, 0), (138, 1, 0, 0), (139, 1, 0, 0), (140, 3, 0, 0)], [(143, 1, 0, 0), (144, 3, 1065, 0), (147, 1, 0, 0), (148, 1, 0, 0), (149, 1, 0, 0), (150, 1, 0, 0), (151, 3, 1079, 0), (154, 1, 0, 0), (155, 2, 0, 0), (157, 1, 0, 0), (158, 1, 0, 0), (159, 3, 1066, 0), (162, 1, 0, 0), (163, 1, 0, 0), (164, 3, 1065, 0), (167, 1, 0, 0)], [(168, 1, 0, 0), (169, 3, 0, 0), (172, 1, 0, 0), (173, 3, 0, 0), (176, 1, 0, 0), (177, 1, 0, 0), (178, 1, 0, 0), (179, 1, 0, 0), (180, 3, 1066, 0), (183, 1, 0, 0), (184, 1, 0, 0), (185, 3, 1085, 0), (188, 1, 0, 0)]]
def am_l139 : List (List (Nat × Nat × Nat × Nat)) := [[(0, 1, 0, 0), (1, 3, 1085, 0), (4, 3, 0, 0), (7, 1, 0, 0), (8, 3, 0, 0), (11, 1, 0, 0), (12, 1, 0, 0), (13, 1, 0, 0), (14, 2, 0, 0), (16, 3, 0, 0), (19, 1, 0, 0), (20, 1, 0, 0), (21, 3, 0, 0), (24, 1, 0, 0), (25, 3, 1080, 0), (28, 1, 0, 0)], [(29, 1, 0, 0), (30, 3, 0, 0), (33, 1, 0, 0), (34, 3, 0, 0), (37, 1, 0, 0), (38, 3, 1085, 0), (41, 1, 0, 0), (42, 3, 1080, 0), (45, 1, 0, 0), (46, 1, 0, 0), (47, 1, 0, 0), (48, 3, 0, 0), (51, 1, 0, 0), (52, 1, 0, 0), (53, 3, 0, 0), (56, 1, 0, 0)], [(57, 3, 1081, 0), (60, 1, 0, 0), (61, 1, 0, 0), (62, 3, 0, 0), (65, 1, 0, 0), (66, 3, 0, 0), (69, 1, 0, 0), (70, 3, 1085, 0), (73, 1, 0, 0), (74, 3, 1081, 0), (77, 1, 0, 0), (78, 1, 0, 0), (79, 1, 0, 0), (80, 1, 0, 0)]]
def am_l140 : List (List (Nat × Nat × Nat × Nat)) := [[(0, 1, 0, 0), (1, 3, 0, 0), (4, 1, 0, 0), (5, 3, 0, 0), (8, 1, 0, 0), (9, 1, 0, 0)]]
def am_l141 : List (List (Nat × Nat × Nat × Nat)) := [[(0, 1, 0, 0), (1, 67, 0, 0), (68, 1, 0, 0), (69, 1, 0, 0), (70, 1, 0, 0), (71, 1, 0, 0), (72, 1, 0, 0), (73, 1, 0, 0), (74, 1, 0, 0), (75, 1, 0, 0), (76, 1, 0, 0), (77, 1, 0, 0), (78, 1, 0, 0), (79, 1, 0, 0), (80, 1, 0, 0), (81, 1, 0, 0)], [(82, 1, 0, 0), (83, 1, 0, 0), (84, 1, 0, 0), (85, 1, 0, 0), (86, 1, 0, 0), (87, 1, 0, 0), (88, 1, 0, 0), (89, 1, 0, 0), (90, 1, 0, 0), (91, 1, 0, 0), (92, 1, 0, 0), (93, 1, 0, 0), (94, 1, 0, 0), (95, 1, 0, 0), (96, 1, 0, 0), (97, 1, 0, 0)], [(98, 1, 0, 0), (99, 1, 0, 0), (100, 1, 0, 0), (101, 1, 0, 0), (102, 3, 0, 0), (105, 1, 0, 0), (106, 3, 0, 0), (109, 1, 0, 0), (110, 3, 1416, 0), (113, 1, 0, 0), (114, 1, 0, 0), (115, 1, 0, 0), (116, 3, 0, 0), (119, 1, 0, 0), (120, 3, 0, 0), (123, 1, 0, 0)], [(124, 3, 1416, 0), (127, 1, 0, 0), (128, 1, 0, 0), (129, 1, 0, 0), (130, 3, 0, 0), (133, 1, 0, 0), (134, 3, 0, 0), (137, 1, 0, 0), (138, 3, 1416, 0), (141, 1, 0, 0), (142, 1, 0, 0), (143, 1, 0, 0), (144, 3, 0, 0), (147, 1, 0, 0), (148, 3, 0, 0), (151, 1, 0, 0)], [(152, 3, 1416, 0), (155, 1, 0, 0), (156, 1, 0, 0), (157, 1, 0, 0), (158, 3, 0, 0), (161, 1, 0, 0), (162, 3, 0, 0), (165, 1, 0, 0), (166, 3, 1416, 0), (169, 1, 0, 0), (170, 1, 0, 0), (171, 1, 0, 0), (172, 3, 0, 0), (175, 1, 0, 0), (176, 3, 0, 0), (179, 1, 0, 0)], [(180, 3, 1416, 0), (183, 1, 0, 0)]]
def am_l142 : List (List (Nat × Nat × Nat × Nat)) := [[(0, 1, 0, 0), (1, 2, 0, 0), (3, 3, 0, 0), (6, 1, 0, 0), (7, 2, 0, 0), (9, 3, 0, 0), (12, 1, 0, 0), (13, 3, 0, 0), (16, 1, 0, 0), (17, 1, 0, 0), (18, 1, 0, 0), (19, 1, 0, 0), (20, 1, 0, 0), (21, 1, 0, 0), (22, 3, 1439, 0), (25, 3, 1085, 0)], [(28, 1, 0, 0), (29, 1, 0, 0)]]
def am_l143 : List (List (Nat × Nat × Nat × Nat)) := [[(0, 1, 0, 0), (1, 3, 1031, 0), (4, 1, 0, 0), (5, 1, 0, 0), (6, 1, 0, 0), (7, 3, 0, 0), (10, 1, 0, 0), (11, 3, 1082, 0), (14, 1, 0, 0), (15, 3, 1084, 0), (18, 1, 0, 0), (19, 3, 1085, 0), (22, 1, 0, 0), (23, 1, 0, 0), (24, 3, 1083, 0), (27, 1, 0, 0)], [(28, 3, 1084, 0), (31, 1, 0, 0), (32, 1, 0, 0), (33, 1, 0, 0), (34, 1, 0, 0), (35, 3, 1084, 0), (38, 1, 0, 0), (39, 1, 0, 0), (40, 3, 1084, 0), (43, 1, 0, 0), (44, 1, 0, 0), (45, 3, 1085, 0), (48, 1, 0, 0), (49, 1, 0, 0), (50, 1, 0, 0), (51, 1, 0, 0)], [(52, 3, 1032, 0), (55, 1, 0, 0), (56, 1, 0, 0), (57, 1, 0, 0), (58, 3, 1033, 0), (61, 1, 0, 0), (62, 1, 0, 0), (63, 3, 1431, 0), (66, 1, 0, 0), (67, 1, 0, 0), (68, 1, 0, 0), (69, 3, 1030, 0), (72, 1, 0, 0), (73, 1, 0, 0), (74, 1, 0, 0), (75, 3, 1085, 0)], [(78, 1, 0, 0), (79, 3, 1031, 0), (82, 1, 0, 0), (83, 1, 0, 0), (84, 1, 0, 0), (85, 3, 0, 0), (88, 1, 0, 0), (89, 3, 0, 0), (92, 1, 0, 0), (93, 3, 0, 0), (96, 1, 0, 0), (97, 3, 1416, 0), (100, 3, 0, 0), (103, 1, 0, 0), (104, 3, 1435, 0), (107, 1, 0, 0)]]
def am_l144 : List (List (Nat × Nat × Nat × Nat)) := [[(0, 1, 0, 0), (1, 1, 0, 0), (2, 3, 1084, 0), (5, 1, 0, 0), (6, 1, 0, 0), (7, 3, 1084, 0), (10, 1, 0, 0), (11, 3, 1083, 0), (14, 1, 0, 0), (15, 3, 1084, 0), (18, 1, 0, 0), (19, 1, 0, 0), (20, 1, 0, 0), (21, 1, 0, 0), (22, 3, 1030, 0), (25, 1, 0, 0)], [(26, 1, 0, 0), (27, 1, 0, 0), (28, 3, 1082, 0), (31, 1, 0, 0), (32, 3, 1084, 0), (35, 1, 0, 0), (36, 1, 0, 0), (37, 3, 1031, 0), (40, 1, 0, 0), (41, 1, 0, 0), (42, 1, 0, 0), (43, 3, 0, 0), (46, 1, 0, 0), (47, 3, 1085, 0), (50, 3, 0, 0), (53, 1, 0, 0)], [(54, 3, 0, 0), (57, 1, 0, 0), (58, 3, 1416, 0), (61, 3, 0, 0), (64, 1, 0, 0), (65, 3, 1085, 0), (68, 3, 1435, 0), (71, 1, 0, 0)]]
def am_l145 : List (List (Nat × Nat × Nat × Nat)) := [[(0, 1, 0, 0), (1, 3, 1030, 0), (4, 1, 0, 0), (5, 1, 0, 0), (6, 2, 0, 0), (8, 3, 0, 0), (11, 1, 0, 0), (12, 3, 1032, 0), (15, 1, 0, 0), (16, 1, 0, 0), (17, 1, 0, 0), (18, 3, 0, 0), (21, 1, 0, 0), (22, 3, 1062, 0), (25, 1, 0, 0), (26, 3, 1033, 0)], [(29, 1, 0, 0), (30, 1, 0, 0), (31, 1, 0, 0), (32, 3, 1031, 0), (35, 1, 0, 0), (36, 1, 0, 0), (37, 1, 0, 0), (38, 3, 0, 0), (41, 1, 0, 0), (42, 3, 1085, 0), (45, 3, 0, 0), (48, 1, 0, 0), (49, 3, 0, 0), (52, 1, 0, 0), (53, 3, 1416, 0), (56, 3, 0, 0)], [(59, 1, 0, 0), (60, 3, 1085, 0), (63, 1, 0, 0), (64, 3, 0, 0), (67, 1, 0, 0), (68, 3, 1030, 0), (71, 1, 0, 0), (72, 1, 0, 0), (73, 2, 0, 0), (75, 3, 0, 0), (78, 1, 0, 0), (79, 1, 0, 0), (80, 3, 1032, 0), (83, 1, 0, 0), (84, 1, 0, 0), (85, 1, 0, 0)], [(86, 3, 1033, 0), (89, 1, 0, 0), (90, 1, 0, 0), (91, 1, 0, 0), (92, 3, 1031, 0), (95, 1, 0, 0), (96, 1, 0, 0), (97, 1, 0, 0), (98, 3, 0, 0), (101, 1, 0, 0), (102, 3, 1085, 0), (105, 3, 0, 0), (108, 1, 0, 0), (109, 3, 0, 0), (112, 1, 0, 0), (113, 3, 1416, 0)], [(116, 3, 0, 0), (119, 1, 0, 0), (120, 3, 1085, 0), (123, 3, 0, 0), (126, 1, 0, 0), (127, 3, 0, 0), (130, 1, 0, 0), (131, 3, 1416, 0), (134, 3, 1446, 0), (137, 3, 0, 0), (140, 1, 0, 0), (141, 3, 1085, 0), (144, 3, 0, 0), (147, 1, 0, 0), (148, 1, 0, 0), (149, 3, 1032, 0)], [(152, 1, 0, 0), (153, 1, 0, 0), (154, 1, 0, 0), (155, 3, 1033, 0), (158, 1, 0, 0), (159, 1, 0, 0), (160, 1, 0, 0), (161, 3, 1030, 0), (164, 1, 0, 0), (165, 1, 0, 0), (166, 2, 0, 0), (168, 3, 0, 0), (171, 1, 0, 0), (172, 3, 0, 0), (175, 1, 0, 0), (176, 3, 1446, 0)], [(179, 1, 0, 0)]]
def am_l146 : List (List (Nat × Nat × Nat × Nat)) := [[(0, 1, 0, 0), (1, 3, 1030, 0), (4, 1, 0, 0), (5, 1, 0, 0), (6, 1, 0, 0), (7, 1, 0, 0), (8, 2, 0, 0), (10, 3, 0, 0), (13, 1, 0, 0), (14, 1, 0, 0), (15, 3, 1427, 0), (18, 1, 0, 0), (19, 1, 0, 0), (20, 2, 0, 0), (22, 3, 0, 0), (25, 1, 0, 0)], [(26, 1, 0, 0), (27, 3, 1032, 0), (30, 1, 0, 0), (31, 1, 0, 0), (32, 1, 0, 0), (33, 3, 1033, 0), (36, 1, 0, 0), (37, 1, 0, 0), (38, 3, 1431, 0), (41, 1, 0, 0), (42, 1, 0, 0), (43, 1, 0, 0), (44, 3, 1031, 0), (47, 1, 0, 0), (48, 1, 0, 0), (49, 1, 0, 0)], [(50, 3, 0, 0), (53, 1, 0, 0), (54, 3, 0, 0), (57, 1, 0, 0), (58, 3, 0, 0), (61, 1, 0, 0), (62, 3, 1416, 0), (65, 3, 0, 0), (68, 1, 0, 0), (69, 3, 1085, 0), (72, 3, 0, 0), (75, 1, 0, 0), (76, 2, 0, 0), (78, 3, 0, 0), (81, 1, 0, 0), (82, 1, 0, 0)], [(83, 3, 1442, 0), (86, 3, 0, 0), (89, 1, 0, 0), (90, 2, 0, 0), (92, 3, 0, 0), (95, 1, 0, 0), (96, 3, 1450, 0), (99, 1, 0, 0), (100, 1, 0, 0), (101, 2, 0, 0), (103, 3, 0, 0), (106, 1, 0, 0), (107, 1, 0, 0), (108, 3, 1085, 0), (111, 3, 0, 0), (114, 1, 0, 0)], [(115, 3, 0, 0), (118, 1, 0, 0), (119, 3, 1416, 0), (122, 3, 1085, 0), (125, 3, 0, 0), (128, 1, 0, 0), (129, 2, 0, 0), (131, 3, 0, 0), (134, 1, 0, 0), (135, 1, 0, 0), (136, 1, 0, 0), (137, 3, 1033, 0), (140, 1, 0, 0), (141, 1, 0, 0), (142, 1, 0, 0), (143, 3, 1034, 0)], [(146, 1, 0, 0), (147, 1, 0, 0), (148, 3, 1454, 0), (151, 3, 0, 0), (154, 1, 0, 0), (155, 2, 0, 0), (157, 3, 0, 0), (160, 1, 0, 0), (161, 1, 0, 0), (162, 1, 0, 0), (163, 3, 1033, 0), (166, 1, 0, 0), (167, 1, 0, 0), (168, 1, 0, 0), (169, 3, 1034, 0), (172, 1, 0, 0)], [(173, 1, 0, 0), (174, 3, 1462, 0), (177, 3, 0, 0), (180, 1, 0, 0), (181, 2, 0, 0), (183, 3, 0, 0), (186, 1, 0, 0), (187, 3, 1065, 0), (190, 1, 0, 0), (191, 3, 1033, 0), (194, 1, 0, 0), (195, 1, 0, 0), (196, 1, 0, 0), (197, 3, 1085, 0), (200, 3, 0, 0), (203, 1, 0, 0)], [(204, 3, 0, 0), (207, 1, 0, 0), (208, 3, 1065, 0), (211, 1, 0, 0), (212, 3, 1033, 0), (215, 1, 0, 0), (216, 1, 0, 0), (217, 1, 0, 0), (218, 1, 0, 0), (219, 3, 0, 0), (222, 1, 0, 0), (223, 1, 0, 0), (224, 1, 0, 0), (225, 3, 1033, 0), (228, 1, 0, 0), (229, 1, 0, 0)], [(230, 3, 1466, 0), (233, 1, 0, 0), (234, 1, 0, 0)]]
def am_l147 : List (List (Nat × Nat × Nat × Nat)) := [[(0, 1, 0, 0), (1, 1, 0, 0), (2, 3, 1085, 0), (5, 1, 0, 0), (6, 1, 0, 0), (7, 3, 1084, 0), (10, 1, 0, 0), (11, 3, 1035, 0), (14, 1, 0, 0), (15, 3, 1047, 0), (18, 1, 0, 0), (19, 1, 0, 0), (20, 1, 0, 0), (21, 1, 0, 0), (22, 1, 0, 0), (23, 1, 0, 0)], [(24, 1, 0, 0), (25, 1, 0, 0), (26, 3, 1071, 0), (29, 1, 0, 0), (30, 1, 0, 0), (31, 3, 0, 0), (34, 1, 0, 0), (35, 3, 0, 0), (38, 2, 0, 0), (40, 1, 0, 0), (41, 3, 1047, 0), (44, 1, 0, 0), (45, 1, 0, 0), (46, 1, 0, 0), (47, 2, 0, 0), (49, 1, 0, 0)], [(50, 3, 1031, 0), (53, 2, 0, 0), (55, 1, 0, 0), (56, 1, 0, 0), (57, 3, 0, 0), (60, 1, 0, 0), (61, 3, 1085, 0), (64, 3, 0, 0), (67, 1, 0, 0), (68, 3, 0, 0), (71, 1, 0, 0), (72, 3, 0, 0), (75, 1, 0, 0), (76, 3, 1031, 0), (79, 2, 0, 0), (81, 1, 0, 0)], [(82, 1, 0, 0), (83, 3, 0, 0), (86, 1, 0, 0), (87, 3, 1085, 0), (90, 3, 0, 0), (93, 1, 0, 0), (94, 3, 0, 0), (97, 1, 0, 0), (98, 2, 0, 0), (100, 1, 0, 0), (101, 3, 1071, 0), (104, 3, 0, 0), (107, 3, 0, 0), (110, 1, 0, 0), (111, 1, 0, 0), (112, 3, 0, 0)], [(115, 1, 0, 0), (116, 3, 1030, 0), (119, 2, 0, 0), (121, 1, 0, 0), (122, 2, 0, 0), (124, 3, 0, 0), (127, 2, 0, 0), (129, 3, 0, 0), (132, 1, 0, 0), (133, 3, 1036, 0), (136, 2, 0, 0), (138, 1, 0, 0), (139, 3, 1047, 0), (142, 1, 0, 0), (143, 1, 0, 0), (144, 3, 1033, 0)], [(147, 2, 0, 0), (149, 1, 0, 0), (150, 1, 0, 0), (151, 1, 0, 0), (152, 3, 0, 0), (155, 1, 0, 0), (156, 1, 0, 0), (157, 1, 0, 0), (158, 1, 0, 0), (159, 3, 0, 0), (162, 1, 0, 0), (163, 3, 1030, 0), (166, 2, 0, 0), (168, 1, 0, 0), (169, 2, 0, 0), (171, 3, 0, 0)], [(174, 2, 0, 0), (176, 3, 0, 0), (179, 1, 0, 0), (180, 3, 0, 0), (183, 1, 0, 0), (184, 1, 0, 0), (185, 1, 0, 0), (186, 1, 0, 0), (187, 3, 0, 0), (190, 1, 0, 0), (191, 2, 0, 0), (193, 3, 1423, 0), (196, 1, 0, 0), (197, 3, 0, 0), (200, 1, 0, 0), (201, 1, 0, 0)], [(202, 3, 0, 0), (205, 1, 0, 0), (206, 3, 1071, 0), (209, 1, 0, 0), (210, 1, 0, 0), (211, 3, 0, 0), (214, 1, 0, 0), (215, 3, 1071, 0), (218, 3, 1071, 0), (221, 3, 0, 0), (224, 1, 0, 0), (225, 1, 0, 0)]]
def am_l148 : List (List (Nat × Nat × Nat × Nat)) := [[(0, 1, 0, 0), (1, 1, 0, 0), (2, 1, 0, 0), (3, 1, 0, 0), (4, 1, 0, 0), (5, 1, 0, 0), (6, 1, 0, 0), (7, 2, 0, 0), (9, 3, 0, 0), (12, 1, 0, 0), (13, 1, 0, 0), (14, 3, 1067, 0), (17, 1, 0, 0), (18, 1, 0, 0), (19, 1, 0, 0), (20, 1, 0, 0)], [(21, 1, 0, 0), (22, 1, 0, 0), (23, 3, 0, 0), (26, 3, 0, 0), (29, 1, 0, 0), (30, 1, 0, 0), (31, 2, 0, 0), (33, 1, 0, 0), (34, 3, 1047, 0), (37, 1, 0, 0), (38, 2, 0, 0), (40, 2, 0, 0), (42, 2, 0, 0), (44, 1, 0, 0), (45, 3, 1047, 0), (48, 1, 0, 0)], [(49, 1, 0, 0), (50, 3, 1046, 0), (53, 1, 0, 0), (54, 3, 1047, 0), (57, 1, 0, 0), (58, 1, 0, 0), (59, 3, 0, 0), (62, 1, 0, 0), (63, 3, 1041, 0), (66, 2, 0, 0), (68, 1, 0, 0), (69, 1, 0, 0), (70, 1, 0, 0), (71, 1, 0, 0), (72, 1, 0, 0), (73, 3, 0, 0)], [(76, 1, 0, 0), (77, 3, 1041, 0), (80, 2, 0, 0), (82, 1, 0, 0), (83, 1, 0, 0), (84, 1, 0, 0), (85, 3, 0, 0), (88, 1, 0, 0), (89, 3, 0, 0), (92, 1, 0, 0), (93, 2, 0, 0), (95, 1, 0, 0), (96, 3, 1043, 0), (99, 2, 0, 0), (101, 1, 0, 0), (102, 3, 0, 0)], [(105, 1, 0, 0), (106, 3, 0, 0), (109, 1, 0, 0), (110, 1, 0, 0), (111, 3, 1044, 0), (114, 2, 0, 0), (116, 1, 0, 0), (117, 1, 0, 0), (118, 3, 1045, 0), (121, 2, 0, 0), (123, 1, 0, 0), (124, 3, 1431, 0), (127, 2, 0, 0), (129, 2, 0, 0), (131, 3, 0, 0), (134, 1, 0, 0)], [(135, 3, 1043, 0), (138, 2, 0, 0), (140, 1, 0, 0), (141, 3, 0, 0), (144, 2, 0, 0), (146, 3, 0, 0), (149, 1, 0, 0), (150, 3, 0, 0), (153, 1, 0, 0), (154, 1, 0, 0), (155, 3, 1043, 0), (158, 2, 0, 0), (160, 1, 0, 0), (161, 1, 0, 0), (162, 3, 0, 0), (165, 1, 0, 0)], [(166, 3, 0, 0), (169, 1, 0, 0), (170, 3, 0, 0), (173, 1, 0, 0), (174, 3, 0, 0), (177, 1, 0, 0), (178, 2, 0, 0), (180, 2, 0, 0), (182, 3, 0, 0), (185, 1, 0, 0), (186, 1, 0, 0), (187, 3, 1072, 0), (190, 1, 0, 0), (191, 1, 0, 0), (192, 3, 1072, 0), (195, 1, 0, 0)], [(196, 1, 0, 0), (197, 3, 1041, 0), (200, 2, 0, 0), (202, 1, 0, 0), (203, 1, 0, 0), (204, 1, 0, 0), (205, 1, 0, 0), (206, 1, 0, 0), (207, 3, 1042, 0), (210, 2, 0, 0), (212, 1, 0, 0), (213, 1, 0, 0), (214, 1, 0, 0), (215, 1, 0, 0), (216, 2, 0, 0), (218, 2, 0, 0)], [(220, 2, 0, 0), (222, 3, 0, 0), (225, 1, 0, 0), (226, 3, 1067, 0), (229, 2, 0, 0), (231, 1, 0, 0), (232, 3, 1041, 0), (235, 2, 0, 0), (237, 1, 0, 0), (238, 2, 0, 0), (240, 1, 0, 0), (241, 1, 0, 0), (242, 1, 0, 0), (243, 1, 0, 0), (244, 3, 0, 0), (247, 1, 0, 0)], [(248, 3, 0, 0), (251, 1, 0, 0), (252, 3, 1067, 0), (255, 2, 0, 0), (257, 1, 0, 0), (258, 1, 0, 0), (259, 3, 0, 0), (262, 3, 0, 0), (265, 3, 0, 0), (268, 3, 0, 0), (271, 1, 0, 0), (272, 2, 0, 0), (274, 2, 0, 0), (276, 2, 0, 0), (278, 3, 0, 0), (281, 1, 0, 0)], [(282, 3, 1067, 0), (285, 2, 0, 0), (287, 1, 0, 0), (288, 2, 0, 0), (290, 1, 0, 0), (291, 1, 0, 0), (292, 1, 0, 0), (293, 1, 0, 0), (294, 3, 0, 0), (297, 1, 0, 0), (298, 3, 0, 0), (301, 1, 0, 0), (302, 3, 1067, 0), (305, 2, 0, 0), (307, 1, 0, 0), (308, 1, 0, 0)], [(309, 3, 0, 0), (312, 3, 0, 0), (315, 1, 0, 0), (316, 2, 0, 0), (318, 2, 0, 0), (320, 1, 0, 0), (321, 3, 0, 0), (324, 2, 0, 0), (326, 1, 0, 0), (327, 3, 1047, 0), (330, 1, 0, 0), (331, 2, 0, 0), (333, 2, 0, 0), (335, 2, 0, 0), (337, 1, 0, 0), (338, 3, 1047, 0)], [(341, 1, 0, 0), (342, 2, 0, 0), (344, 1, 0, 0), (345, 3, 0, 0), (348, 1, 0, 0), (349, 3, 1067, 0), (352, 2, 0, 0), (354, 2, 0, 0), (356, 1, 0, 0), (357, 3, 1047, 0), (360, 1, 0, 0), (361, 1, 0, 0), (362, 1, 0, 0), (363, 1, 0, 0), (364, 1, 0, 0), (365, 1, 0, 0)], [(366, 3, 0, 0), (369, 1, 0, 0), (370, 3, 0, 0), (373, 1, 0, 0), (374, 2, 0, 0), (376, 1, 0, 0), (377, 3, 1038, 0), (380, 2, 0, 0), (382, 1, 0, 0), (383, 1, 0, 0), (384, 3, 0, 0), (387, 2, 0, 0), (389, 3, 0, 0), (392, 2, 0, 0), (394, 1, 0, 0), (395, 3, 0, 0)], [(398, 2, 0, 0), (400, 3, 0, 0), (403, 1, 0, 0), (404, 1, 0, 0), (405, 3, 1039, 0), (408, 2, 0, 0), (410, 1, 0, 0), (411, 1, 0, 0), (412, 3, 1040, 0), (415, 2, 0, 0), (417, 1, 0, 0), (418, 2, 0, 0), (420, 3, 1446, 0), (423, 1, 0, 0), (424, 3, 1038, 0), (427, 2, 0, 0)], [(429, 1, 0, 0), (430, 1, 0, 0), (431, 3, 0, 0), (434, 2, 0, 0), (436, 1, 0, 0), (437, 3, 0, 0), (440, 2, 0, 0), (442, 3, 0, 0), (445, 1, 0, 0), (446, 1, 0, 0), (447, 3, 1039, 0), (450, 2, 0, 0), (452, 1, 0, 0), (453, 1, 0, 0), (454, 3, 1040, 0), (457, 2, 0, 0)], [(459, 1, 0, 0), (460, 1, 0, 0), (461, 3, 1038, 0), (464, 2, 0, 0), (466, 1, 0, 0), (467, 1, 0, 0), (468, 3, 0, 0), (471, 1, 0, 0), (472, 3, 0, 0), (475, 1, 0, 0), (476, 3, 1446, 0), (479, 3, 0, 0), (482, 3, 0, 0), (485, 3, 0, 0), (488, 3, 0, 0), (491, 1, 0, 0)]]
def am_l149 : List (List (Nat × Nat × Nat × Nat)) := [[(0, 1, 0, 0), (1, 3, 1070, 0), (4, 3, 0, 0), (7, 1, 0, 0), (8, 1, 0, 0), (9, 1, 0, 0), (10, 1, 0, 0), (11, 3, 1069, 0), (14, 1, 0, 0), (15, 1, 0, 0), (16, 1, 0, 0), (17, 3, 1069, 0), (20, 1, 0, 0), (21, 1, 0, 0), (22, 1, 0, 0), (23, 2, 0, 0)], [(25, 3, 0, 0), (28, 1, 0, 0), (29, 3, 1059, 0), (32, 1, 0, 0), (33, 1, 0, 0), (34, 3, 1058, 0), (37, 1, 0, 0), (38, 1, 0, 0), (39, 3, 1416, 0), (42, 1, 0, 0), (43, 3, 0, 0), (46, 3, 0, 0), (49, 1, 0, 0), (50, 1, 0, 0), (51, 3, 1072, 0), (54, 1, 0, 0)], [(55, 1, 0, 0), (56, 3, 1419, 0), (59, 3, 1070, 0), (62, 1, 0, 0), (63, 3, 1070, 0), (66, 3, 0, 0), (69, 1, 0, 0), (70, 3, 1470, 0), (73, 1, 0, 0), (74, 1, 0, 0), (75, 1, 0, 0), (76, 2, 0, 0), (78, 3, 0, 0), (81, 1, 0, 0), (82, 3, 1068, 0), (85, 1, 0, 0)], [(86, 1, 0, 0), (87, 3, 1060, 0), (90, 1, 0, 0), (91, 1, 0, 0), (92, 1, 0, 0), (93, 3, 0, 0), (96, 3, 0, 0), (99, 1, 0, 0), (100, 3, 1070, 0), (103, 1, 0, 0)]]
def am_l150 : List (List (Nat × Nat × Nat × Nat)) := [[(0, 1, 0, 0), (1, 1, 0, 0), (2, 3, 0, 0), (5, 1, 0, 0), (6, 3, 1385, 0), (9, 3, 0, 0), (12, 1, 0, 0), (13, 3, 0, 0), (16, 1, 0, 0), (17, 3, 1025, 0), (20, 1, 0, 0), (21, 3, 1025, 0), (24, 3, 0, 0), (27, 1, 0, 0), (28, 3, 0, 0), (31, 1, 0, 0)], [(32, 1, 0, 0), (33, 3, 1412, 0), (36, 1, 0, 0)]]
def am_l151 : List (List (Nat × Nat × Nat × Nat)) := [[(0, 1, 0, 0), (1, 1, 0, 0), (2, 3, 0, 0), (5, 1, 0, 0), (6, 2, 0, 0), (8, 3, 0, 0), (11, 1, 0, 0), (12, 3, 0, 0), (15, 1, 0, 0), (16, 3, 1385, 0), (19, 3, 0, 0), (22, 1, 0, 0), (23, 3, 0, 0), (26, 1, 0, 0), (27, 3, 1025, 0), (30, 1, 0, 0)], [(31, 1, 0, 0), (32, 1, 0, 0), (33, 3, 1025, 0), (36, 3, 0, 0), (39, 1, 0, 0), (40, 3, 0, 0), (43, 1, 0, 0), (44, 2, 0, 0), (46, 2, 0, 0), (48, 3, 0, 0), (51, 1, 0, 0), (52, 1, 0, 0), (53, 3, 0, 0), (56, 1, 0, 0), (57, 1, 0, 0), (58, 3, 1412, 0)], [(61, 3, 0, 0), (64, 1, 0, 0), (65, 3, 0, 0), (68, 1, 0, 0), (69, 2, 0, 0), (71, 2, 0, 0), (73, 3, 0, 0), (76, 1, 0, 0), (77, 1, 0, 0), (78, 1, 0, 0), (79, 3, 0, 0), (82, 1, 0, 0), (83, 1, 0, 0), (84, 3, 0, 0), (87, 1, 0, 0), (88, 1, 0, 0)]]
def am_l152 : List (List (Nat × Nat × Nat × Nat)) := [[(0, 1, 0, 0), (1, 3, 0, 0), (4, 1, 0, 0), (5, 1, 0, 0), (6, 3, 0, 0), (9, 1, 0, 0), (10, 3, 0, 0), (13, 1, 0, 0), (14, 1, 0, 0)]]
def am_l153 : List (List (Nat × Nat × Nat × Nat)) := [[(0, 1, 0, 0), (1, 1, 0, 0), (2, 2, 0, 0), (4, 3, 1482, 0), (7, 3, 0, 0), (10, 1, 0, 0), (11, 3, 0, 0), (14, 1, 0, 0), (15, 3, 1025, 0), (18, 1, 0, 0), (19, 3, 1025, 0), (22, 3, 0, 0), (25, 1, 0, 0), (26, 3, 1058, 0), (29, 1, 0, 0), (30, 1, 0, 0)], [(31, 1, 0, 0), (32, 1, 0, 0)]]
def am_l154 : List (List (Nat × Nat × Nat × Nat)) := [[(0, 1, 0, 0), (1, 1, 0, 0), (2, 2, 0, 0), (4, 3, 1482, 0), (7, 3, 0, 0), (10, 1, 0, 0), (11, 3, 0, 0), (14, 1, 0, 0), (15, 3, 1025, 0), (18, 1, 0, 0), (19, 3, 1025, 0), (22, 3, 0, 0), (25, 1, 0, 0), (26, 3, 1068, 0), (29, 1, 0, 0), (30, 1, 0, 0)], [(31, 1, 0, 0), (32, 3, 0, 0), (35, 1, 0, 0), (36, 3, 0, 0), (39, 1, 0, 0), (40, 1, 0, 0)]]
def am_l155 : List (List (Nat × Nat × Nat × Nat)) := [[(0, 1, 0, 0), (1, 1, 0, 0), (2, 1, 0, 0), (3, 3, 1482, 0), (6, 3, 0, 0), (9, 1, 0, 0), (10, 3, 0, 0), (13, 1, 0, 0), (14, 3, 1025, 0), (17, 1, 0, 0), (18, 1, 0, 0), (19, 1, 0, 0), (20, 1, 0, 0), (21, 1, 0, 0), (22, 2, 0, 0), (24, 3, 0, 0)], [(27, 1, 0, 0), (28, 3, 1025, 0), (31, 3, 0, 0), (34, 1, 0, 0), (35, 3, 0, 0), (38, 1, 0, 0), (39, 3, 1059, 0), (42, 1, 0, 0), (43, 1, 0, 0), (44, 3, 0, 0), (47, 1, 0, 0), (48, 1, 0, 0), (49, 3, 0, 0), (52, 1, 0, 0), (53, 3, 1060, 0), (56, 1, 0, 0)], [(57, 1, 0, 0), (58, 3, 0, 0), (61, 1, 0, 0), (62, 1, 0, 0), (63, 3, 0, 0), (66, 1, 0, 0), (67, 3, 1061, 0), (70, 1, 0, 0), (71, 1, 0, 0), (72, 3, 0, 0), (75, 1, 0, 0), (76, 1, 0, 0), (77, 3, 0, 0), (80, 1, 0, 0), (81, 3, 1068, 0), (84, 1, 0, 0)], [(85, 1, 0, 0), (86, 3, 0, 0), (89, 1, 0, 0), (90, 2, 0, 0), (92, 3, 0, 0), (95, 1, 0, 0), (96, 3, 1067, 0), (99, 1, 0, 0), (100, 1, 0, 0), (101, 3, 0, 0), (104, 1, 0, 0), (105, 2, 0, 0), (107, 1, 0, 0), (108, 2, 0, 0), (110, 1, 0, 0), (111, 1, 0, 0)], [(112, 1, 0, 0), (113, 1, 0, 0), (114, 3, 0, 0), (117, 3, 0, 0), (120, 1, 0, 0), (121, 1, 0, 0)]]
def am_l156 : List (List (Nat × Nat × Nat × Nat)) := [[(0, 1, 0, 0), (1, 1, 0, 0), (2, 2, 0, 0), (4, 3, 1482, 0), (7, 3, 0, 0), (10, 1, 0, 0), (11, 3, 0, 0), (14, 1, 0, 0), (15, 3, 1025, 0), (18, 1, 0, 0), (19, 3, 1025, 0), (22, 3, 0, 0), (25, 1, 0, 0), (26, 3, 0, 0), (29, 1, 0, 0), (30, 3, 1062, 0)], [(33, 1, 0, 0), (34, 1, 0, 0), (35, 1, 0, 0)]]
def am_l157 : List (List (Nat × Nat × Nat × Nat)) := [[(0, 1, 0, 0), (1, 1, 0, 0), (2, 2, 0, 0), (4, 3, 1482, 0), (7, 3, 0, 0), (10, 1, 0, 0), (11, 3, 0, 0), (14, 1, 0, 0), (15, 1, 0, 0), (16, 3, 1482, 0), (19, 3, 0, 0), (22, 1, 0, 0), (23, 3, 0, 0), (26, 1, 0, 0), (27, 3, 1025, 0), (30, 1, 0, 0)], [(31, 3, 1025, 0), (34, 3, 0, 0), (37, 1, 0, 0), (38, 1, 0, 0), (39, 1, 0, 0), (40, 3, 0, 0), (43, 1, 0, 0), (44, 3, 1064, 0), (47, 1, 0, 0), (48, 1, 0, 0), (49, 3, 0, 0), (52, 1, 0, 0), (53, 1, 0, 0), (54, 3, 0, 0), (57, 1, 0, 0), (58, 3, 1063, 0)], [(61, 1, 0, 0), (62, 1, 0, 0), (63, 3, 0, 0), (66, 1, 0, 0), (67, 1, 0, 0), (68, 3, 0, 0), (71, 1, 0, 0), (72, 3, 1066, 0), (75, 1, 0, 0), (76, 1, 0, 0), (77, 3, 0, 0), (80, 1, 0, 0), (81, 3, 1065, 0), (84, 1, 0, 0), (85, 1, 0, 0), (86, 1, 0, 0)]]
def am_l158 : List (List (Nat × Nat × Nat × Nat)) := [[(0, 1, 0, 0), (1, 1, 0, 0), (2, 3, 1025, 0), (5, 1, 0, 0), (6, 3, 1071, 0), (9, 1, 0, 0)]]
def am_l159 : List (List (Nat × Nat × Nat × Nat)) := [[(0, 1, 0, 0), (1, 1, 0, 0), (2, 3, 1025, 0), (5, 1, 0, 0), (6, 3, 1072, 0), (9, 1, 0, 0)]]
def am_l160 : List (List (Nat × Nat × Nat × Nat)) := [[(0, 1, 0, 0), (1, 1, 0, 0), (2, 3, 1025, 0), (5, 1, 0, 0), (6, 3, 1069, 0), (9, 1, 0, 0)]]
def am_l161 : List (List (Nat × Nat × Nat × Nat)) := [[(0, 1, 0, 0), (1, 3, 1520, 0), (4, 1, 0, 0)]]
def am_l162 : List (List (Nat × Nat × Nat × Nat)) := [[(0, 1, 0, 0), (1, 1, 0, 0), (2, 3, 0, 0), (5, 1, 0, 0), (6, 3, 0, 0), (9, 1, 0, 0), (10, 1, 0, 0)]]
def am_l163 : List (List (Nat × Nat × Nat × Nat)) := [[(0, 1, 0, 0), (1, 1, 0, 0), (2, 3, 0, 0), (5, 1, 0, 0), (6, 3, 0, 0), (9, 1, 0, 0), (10, 1, 0, 0)]]
def am_l164 : List (List (Nat × Nat × Nat × Nat)) := [[(0, 1, 0, 0), (1, 1, 0, 0), (2, 1, 0, 0), (3, 3, 0, 0), (6, 1, 0, 0), (7, 3, 0, 0), (10, 1, 0, 0), (11, 1, 0, 0)]]
def am_l165 : List (List (Nat × Nat × Nat × Nat)) := [[(0, 1, 0, 0), (1, 3, 1516, 0), (4, 1, 0, 0), (5, 1, 0, 0), (6, 3, 476, 0), (9, 1, 0, 0), (10, 1, 0, 0)]]
def am_l166 : List (List (Nat × Nat × Nat × Nat)) := [[(0, 1, 0, 0), (1, 3, 486, 0), (4, 3, 0, 0), (7, 1, 0, 0), (8, 3, 1516, 0), (11, 1, 0, 0), (12, 3, 490, 0), (15, 1, 0, 0), (16, 1, 0, 0), (17, 3, 1516, 0), (20, 1, 0, 0), (21, 3, 0, 0), (24, 1, 0, 0)]]
def am_l167 : List (List (Nat × Nat × Nat × Nat)) := [[(0, 1, 0, 0), (1, 1, 0, 0), (2, 1, 0, 0), (3, 3, 568, 0), (6, 1, 0, 0)]]
def am_l168 : List (List (Nat × Nat × Nat × Nat)) := [[(0, 1, 0, 0), (1, 3, 486, 0), (4, 3, 0, 0), (7, 1, 0, 0), (8, 3, 1516, 0), (11, 1, 0, 0), (12, 1, 0, 0), (13, 1, 0, 0), (14, 3, 572, 0), (17, 3, 573, 0), (20, 3, 0, 0), (23, 1, 0, 0), (24, 3, 1516, 0), (27, 1, 0, 0), (28, 1, 0, 0), (29, 1, 0, 0)], [(30, 3, 572, 0), (33, 3, 0, 0), (36, 1, 0, 0)]]
def am_l169 : List (List (Nat × Nat × Nat × Nat)) := [[(0, 3, 480, 5), (3, 3, 0, 0), (6, 1, 0, 0), (7, 3, 1517, 0), (10, 3, 0, 0), (13, 1, 0, 0), (14, 1, 0, 0)]]
def am_l170 : List (List (Nat × Nat × Nat × Nat)) := [[(0, 3, 480, 5), (3, 3, 0, 0), (6, 1, 0, 0), (7, 3, 1517, 0), (10, 3, 0, 0), (13, 1, 0, 0), (14, 3, 0, 0), (17, 1, 0, 0), (18, 1, 0, 0)]]
def am_l171 : List (List (Nat × Nat × Nat × Nat)) := [[(0, 1, 0, 0), (1, 1, 0, 0), (2, 3, 496, 6), (5, 3, 498, 0), (8, 1, 0, 0), (9, 1, 0, 0)]]
def am_l172 : List (List (Nat × Nat × Nat × Nat)) := [[(0, 1, 0, 0), (1, 1, 0, 0), (2, 1, 0, 0), (3, 3, 496, 6), (6, 3, 603, 0), (9, 1, 0, 0), (10, 1, 0, 0)]]
def am_l173 : List (List (Nat × Nat × Nat × Nat)) := [[(0, 1, 0, 0), (1, 1, 0, 0), (2, 1, 0, 0), (3, 3, 493, 0), (6, 1, 0, 0), (7, 1, 0, 0), (8, 1, 0, 0), (9, 3, 0, 0), (12, 1, 0, 0), (13, 1, 0, 0), (14, 1, 0, 0)]]
def am_l174 : List (List (Nat × Nat × Nat × Nat)) := [[(0, 1, 0, 0), (1, 3, 0, 0), (4, 1, 0, 0), (5, 3, 0, 0), (8, 3, 0, 0), (11, 1, 0, 0), (12, 3, 0, 0), (15, 1, 0, 0), (16, 1, 0, 0)]]
def am_l175 : List (List (Nat × Nat × Nat × Nat)) := [[(0, 1, 0, 0), (1, 3, 576, 0), (4, 3, 0, 0), (7, 1, 0, 0), (8, 1, 0, 0), (9, 1, 0, 0), (10, 1, 0, 0), (11, 3, 579, 0), (14, 1, 0, 0), (15, 1, 0, 0), (16, 1, 0, 0), (17, 1, 0, 0), (18, 3, 582, 0), (21, 1, 0, 0), (22, 1, 0, 0), (23, 1, 0, 0)], [(24, 3, 0, 0), (27, 1, 0, 0), (28, 1, 0, 0), (29, 1, 0, 0), (30, 1, 0, 0), (31, 1, 0, 0), (32, 1, 0, 0), (33, 3, 585, 0), (36, 1, 0, 0)]]
def am_l176 : List (List (Nat × Nat × Nat × Nat)) := [[(0, 1, 0, 0), (1, 1, 0, 0), (2, 2, 0, 0), (4, 1, 0, 0), (5, 2, 0, 0), (7, 2, 0, 0), (9, 1, 0, 0), (10, 3, 0, 0), (13, 1, 0, 0), (14, 2, 0, 0), (16, 1, 0, 0), (17, 2, 0, 0), (19, 3, 0, 0), (22, 2, 0, 0), (24, 1, 0, 0), (25, 3, 0, 0)], [(28, 3, 0, 0), (31, 1, 0, 0), (32, 1, 0, 0)]]
def am_l177 : List (List (Nat × Nat × Nat × Nat)) := [[(0, 1, 0, 0), (1, 3, 0, 0), (4, 1, 0, 0), (5, 1, 0, 0), (6, 3, 0, 0), (9, 1, 0, 0), (10, 1, 0, 0), (11, 1, 0, 0), (12, 3, 0, 0), (15, 1, 0, 0), (16, 1, 0, 0), (17, 1, 0, 0)]]
def am_l178 : List (List (Nat × Nat × Nat × Nat)) := [[(0, 1, 0, 0), (1, 3, 0, 0), (4, 1, 0, 0), (5, 1, 0, 0), (6, 3, 0, 0), (9, 1, 0, 0), (10, 1, 0, 0), (11, 3, 0, 0), (14, 1, 0, 0), (15, 1, 0, 0), (16, 1, 0, 0), (17, 1, 0, 0), (18, 3, 0, 0), (21, 1, 0, 0), (22, 1, 0, 0), (23, 1, 0, 0)]]
def am_l179 : List (List (Nat × Nat × Nat × Nat)) := [[(0, 3, 101, 0), (3, 1, 0, 0), (4, 3, 103, 0), (7, 1, 0, 0), (8, 3, 1014, 0), (11, 1, 0, 0), (12, 3, 1016, 0), (15, 1, 0, 0), (16, 1, 0, 0), (17, 2, 0, 0), (19, 1, 0, 0), (20, 1, 0, 0), (21, 2, 0, 0), (23, 2, 0, 0), (25, 1, 0, 0), (26, 1, 0, 0)], [(27, 1, 0, 0), (28, 1, 0, 0), (29, 3, 0, 0), (32, 1, 0, 0), (33, 2, 0, 0), (35, 1, 0, 0), (36, 2, 0, 0), (38, 1, 0, 0), (39, 77, 0, 0), (116, 1, 0, 0), (117, 1, 0, 0), (118, 2, 0, 0), (120, 1, 0, 0), (121, 1, 0, 0), (122, 1, 0, 0), (123, 1, 0, 0)], [(124, 2, 0, 0), (126, 1, 0, 0), (127, 1, 0, 0), (128, 1, 0, 0), (129, 1, 0, 0), (130, 2, 0, 0), (132, 1, 0, 0), (133, 1, 0, 0), (134, 2, 0, 0), (136, 1, 0, 0), (137, 1, 0, 0), (138, 1, 0, 0), (139, 1, 0, 0), (140, 3, 1513, 0), (143, 1, 0, 0), (144, 1, 0, 0)], [(145, 1, 0, 0), (146, 3, 713, 0), (149, 2, 0, 0), (151, 1, 0, 0), (152, 1, 0, 0), (153, 2, 0, 0), (155, 1, 0, 0), (156, 1, 0, 0), (157, 1, 0, 0), (158, 1, 0, 0), (159, 2, 0, 0), (161, 1, 0, 0), (162, 1, 0, 0), (163, 1, 0, 0), (164, 1, 0, 0), (165, 2, 0, 0)], [(167, 1, 0, 0), (168, 1, 0, 0), (169, 2, 0, 0), (171, 1, 0, 0), (172, 1, 0, 0), (173, 1, 0, 0), (174, 1, 0, 0), (175, 3, 1513, 0), (178, 1, 0, 0), (179, 1, 0, 0), (180, 3, 1214, 0), (183, 2, 0, 0), (185, 1, 0, 0), (186, 3, 1210, 0), (189, 2, 0, 0), (191, 3, 0, 0)], [(194, 1, 0, 0), (195, 1, 0, 0), (196, 2, 0, 0), (198, 3, 0, 0), (201, 1, 0, 0), (202, 1, 0, 0), (203, 1, 0, 0), (204, 2, 0, 0), (206, 1, 0, 0), (207, 1, 0, 0), (208, 3, 0, 0), (211, 1, 0, 0), (212, 1, 0, 0), (213, 3, 0, 0), (216, 1, 0, 0), (217, 3, 396, 0)], [(220, 1, 0, 0), (221, 3, 1219, 0), (224, 3, 0, 0), (227, 1, 0, 0), (228, 1, 0, 0), (229, 1, 0, 0), (230, 3, 400, 0), (233, 1, 0, 0), (234, 3, 1223, 0), (237, 3, 0, 0), (240, 1, 0, 0), (241, 1, 0, 0), (242, 1, 0, 0), (243, 3, 689, 0), (246, 1, 0, 0), (247, 3, 1396, 0)], [(250, 3, 0, 0), (253, 1, 0, 0), (254, 1, 0, 0), (255, 1, 0, 0), (256, 3, 693, 0), (259, 1, 0, 0), (260, 3, 1400, 0), (263, 3, 0, 0), (266, 1, 0, 0), (267, 1, 0, 0), (268, 1, 0, 0), (269, 3, 697, 0), (272, 1, 0, 0), (273, 3, 1404, 0), (276, 3, 0, 0), (279, 1, 0, 0)], [(280, 1, 0, 0), (281, 2, 0, 0), (283, 1, 0, 0), (284, 1, 0, 0), (285, 1, 0, 0), (286, 1, 0, 0), (287, 2, 0, 0), (289, 1, 0, 0), (290, 1, 0, 0), (291, 1, 0, 0), (292, 3, 0, 0), (295, 1, 0, 0), (296, 3, 0, 0), (299, 1, 0, 0), (300, 3, 793, 0), (303, 2, 0, 0)], [(305, 1, 0, 0), (306, 1, 0, 0), (307, 2, 0, 0), (309, 1, 0, 0), (310, 1, 0, 0), (311, 1, 0, 0), (312, 1, 0, 0), (313, 2, 0, 0), (315, 1, 0, 0), (316, 1, 0, 0), (317, 1, 0, 0), (318, 3, 0, 0), (321, 1, 0, 0), (322, 3, 0, 0), (325, 1, 0, 0), (326, 3, 1478, 0)], [(329, 1, 0, 0), (330, 3, 1210, 0), (333, 2, 0, 0), (335, 3, 0, 0), (338, 1, 0, 0), (339, 1, 0, 0), (340, 3, 0, 0), (343, 1, 0, 0), (344, 1, 0, 0), (345, 2, 0, 0), (347, 1, 0, 0), (348, 1, 0, 0), (349, 1, 0, 0), (350, 1, 0, 0), (351, 3, 820, 0), (354, 2, 0, 0)], [(356, 1, 0, 0), (357, 1, 0, 0), (358, 2, 0, 0), (360, 1, 0, 0), (361, 1, 0, 0), (362, 1, 0, 0), (363, 3, 1408, 0), (366, 2, 0, 0), (368, 1, 0, 0), (369, 3, 1210, 0), (372, 2, 0, 0), (374, 3, 0, 0), (377, 1, 0, 0), (378, 1, 0, 0), (379, 2, 0, 0), (381, 3, 0, 0)], [(384, 1, 0, 0), (385, 1, 0, 0), (386, 1, 0, 0), (387, 2, 0, 0), (389, 1, 0, 0), (390, 1, 0, 0), (391, 3, 0, 0), (394, 1, 0, 0), (395, 1, 0, 0), (396, 3, 0, 0), (399, 1, 0, 0), (400, 1, 0, 0), (401, 2, 0, 0), (403, 1, 0, 0), (404, 1, 0, 0), (405, 1, 0, 0)], [(406, 1, 0, 0), (407, 2, 0, 0), (409, 1, 0, 0), (410, 1, 0, 0), (411, 1, 0, 0), (412, 1, 0, 0), (413, 3, 972, 0), (416, 2, 0, 0), (418, 1, 0, 0), (419, 1, 0, 0), (420, 2, 0, 0), (422, 1, 0, 0), (423, 1, 0, 0), (424, 1, 0, 0), (425, 1, 0, 0), (426, 2, 0, 0)], [(428, 1, 0, 0), (429, 1, 0, 0), (430, 1, 0, 0), (431, 3, 1474, 0), (434, 2, 0, 0), (436, 1, 0, 0), (437, 3, 1210, 0), (440, 2, 0, 0), (442, 3, 0, 0), (445, 1, 0, 0), (446, 1, 0, 0), (447, 2, 0, 0), (449, 3, 0, 0), (452, 1, 0, 0), (453, 1, 0, 0), (454, 1, 0, 0)], [(455, 2, 0, 0), (457, 1, 0, 0), (458, 1, 0, 0), (459, 3, 0, 0), (462, 1, 0, 0), (463, 1, 0, 0), (464, 3, 0, 0), (467, 1, 0, 0), (468, 1, 0, 0), (469, 2, 0, 0), (471, 1, 0, 0), (472, 1, 0, 0), (473, 1, 0, 0), (474, 1, 0, 0), (475, 3, 980, 0), (478, 2, 0, 0)], [(480, 1, 0, 0), (481, 1, 0, 0), (482, 2, 0, 0), (484, 1, 0, 0), (485, 1, 0, 0), (486, 1, 0, 0), (487, 3, 1485, 0), (490, 2, 0, 0), (492, 1, 0, 0), (493, 3, 1210, 0), (496, 2, 0, 0), (498, 3, 0, 0), (501, 1, 0, 0), (502, 1, 0, 0), (503, 2, 0, 0), (505, 3, 0, 0)], [(508, 1, 0, 0), (509, 1, 0, 0), (510, 1, 0, 0), (511, 2, 0, 0), (513, 3, 0, 0), (516, 1, 0, 0), (517, 3, 0, 0), (520, 1, 0, 0), (521, 1, 0, 0), (522, 3, 0, 0), (525, 1, 0, 0), (526, 1, 0, 0), (527, 3, 0, 0), (530, 1, 0, 0), (531, 1, 0, 0), (532, 2, 0, 0)], [(534, 1, 0, 0), (535, 1, 0, 0), (536, 1, 0, 0), (537, 1, 0, 0), (538, 3, 988, 0), (541, 2, 0, 0), (543, 1, 0, 0), (544, 1, 0, 0), (545, 2, 0, 0), (547, 1, 0, 0), (548, 1, 0, 0), (549, 1, 0, 0), (550, 3, 1489, 0), (553, 2, 0, 0), (555, 1, 0, 0), (556, 3, 1210, 0)], [(559, 2, 0, 0), (561, 3, 0, 0), (564, 1, 0, 0), (565, 1, 0, 0), (566, 2, 0, 0), (568, 3, 0, 0), (571, 1, 0, 0), (572, 1, 0, 0), (573, 1, 0, 0), (574, 2, 0, 0), (576, 1, 0, 0), (577, 1, 0, 0), (578, 3, 0, 0), (581, 1, 0, 0), (582, 1, 0, 0), (583, 3, 0, 0)], [(586, 1, 0, 0), (587, 1, 0, 0), (588, 2, 0, 0), (590, 1, 0, 0), (591, 1, 0, 0), (592, 1, 0, 0), (593, 1, 0, 0), (594, 3, 997, 0), (597, 2, 0, 0), (599, 1, 0, 0), (600, 1, 0, 0), (601, 2, 0, 0), (603, 1, 0, 0), (604, 1, 0, 0), (605, 1, 0, 0), (606, 3, 1493, 0)], [(609, 2, 0, 0), (611, 1, 0, 0), (612, 3, 1210, 0), (615, 2, 0, 0), (617, 3, 0, 0), (620, 1, 0, 0), (621, 1, 0, 0), (622, 2, 0, 0), (624, 3, 0, 0), (627, 1, 0, 0), (628, 1, 0, 0), (629, 1, 0, 0), (630, 2, 0, 0), (632, 1, 0, 0), (633, 1, 0, 0), (634, 3, 0, 0)], [(637, 1, 0, 0), (638, 1, 0, 0), (639, 3, 0, 0), (642, 1, 0, 0), (643, 1, 0, 0), (644, 2, 0, 0), (646, 1, 0, 0), (647, 1, 0, 0), (648, 1, 0, 0), (649, 1, 0, 0), (650, 2, 0, 0), (652, 1, 0, 0), (653, 1, 0, 0), (654, 1, 0, 0), (655, 1, 0, 0), (656, 3, 1005, 0)], [(659, 2, 0, 0), (661, 1, 0, 0), (662, 1, 0, 0), (663, 2, 0, 0), (665, 1, 0, 0), (666, 1, 0, 0), (667, 1, 0, 0), (668, 1, 0, 0), (669, 2, 0, 0), (671, 1, 0, 0), (672, 1, 0, 0), (673, 1, 0, 0), (674, 3, 1497, 0), (677, 2, 0, 0), (679, 1, 0, 0), (680, 3, 1210, 0)], [(683, 2, 0, 0), (685, 3, 0, 0), (688, 1, 0, 0), (689, 1, 0, 0), (690, 2, 0, 0), (692, 3, 0, 0), (695, 1, 0, 0), (696, 1, 0, 0), (697, 1, 0, 0), (698, 2, 0, 0), (700, 1, 0, 0), (701, 1, 0, 0), (702, 3, 0, 0), (705, 1, 0, 0), (706, 1, 0, 0), (707, 3, 0, 0)], [(710, 1, 0, 0), (711, 3, 701, 0), (714, 1, 0, 0), (715, 3, 1501, 0), (718, 3, 0, 0), (721, 1, 0, 0), (722, 1, 0, 0), (723, 1, 0, 0), (724, 3, 705, 0), (727, 1, 0, 0), (728, 3, 1505, 0), (731, 3, 0, 0), (734, 1, 0, 0), (735, 1, 0, 0), (736, 1, 0, 0), (737, 3, 709, 0)], [(740, 1, 0, 0), (741, 3, 1509, 0), (744, 1, 0, 0), (745, 3, 0, 0), (748, 1, 0, 0), (749, 1, 0, 0), (750, 3, 0, 0), (753, 3, 0, 0), (756, 1, 0, 0), (757, 1, 0, 0)]]
def am_links : List (List (List (List (Nat × Nat × Nat × Nat)))) := [[am_l0, am_l1, am_l2, am_l3, am_l4, am_l5, am_l6, am_l7, am_l8, am_l9, am_l10, am_l11, am_l12, am_l13, am_l14, am_l15], [am_l16, am_l17, am_l18, am_l19, am_l20, am_l21, am_l22, am_l23, am_l24, am_l25, am_l26, am_l27, am_l28, am_l29, am_l30, am_l31], [am_l32, am_l33, am_l34, am_l35, am_l36, am_l37, am_l38, am_l39, am_l40, am_l41, am_l42, am_l43, am_l44, am_l45, am_l46, am_l47], [am_l48, am_l49, am_l50, am_l51, am_l52, am_l53, am_l54, am_l55, am_l56, am_l57, am_l58, am_l59, am_l60, am_l61, am_l62, am_l63], [am_l64, am_l65, am_l66, am_l67, am_l68, am_l69, am_l70, am_l71, am_l72, am_l73, am_l74, am_l75, am_l76, am_l77, am_l78, am_l79], [am_l80, am_l81, am_l82, am_l83, am_l84, am_l85, am_l86, am_l87, am_l88, am_l89, am_l90, am_l91, am_l92, am_l93, am_l94, am_l95], [am_l96, am_l97, am_l98, am_l99, am_l100, am_l101, am_l102, am_l103, am_l104, am_l105, am_l106, am_l107, am_l108, am_l109, am_l110, am_l111], [am_l112, am_l113, am_l114, am_l115, am_l116, am_l117, am_l118, am_l119, am_l120, am_l121, am_l122, am_l123, am_l124, am_l125, am_l126, am_l127], [am_l128, am_l129, am_l130, am_l131, am_l132, am_l133, am_l134, am_l135, am_l136, am_l137, am_l138, am_l139, am_l140, am_l141, am_l142, am_l143], [am_l144, am_l145, am_l146, am_l147, am_l148, am_l149, am_l150, am_l151, am_l152, am_l153, am_l154, am_l155, am_l156, am_l157, am_l158, am_l159], [am_l160, am_l161, am_l162, am_l163, am_l164, am_l165, am_l166, am_l167, am_l168, am_l169, am_l170, am_l171, am_l172, am_l173, am_l174, am_l175], [am_l176, am_l177, am_l178, am_l179]]
def am_lk (m i : Nat) : Nat × Nat × Nat × Nat := ((((am_links.getD (m / 16) []).getD (m % 16) []).getD (i / 16) []).getD (i % 16) (0, 0, 0, 0))
abbrev am_pc (m i : Nat) : Nat := (am_lk m i).1
def am_bcs : List (List ByteArray) := [[cX1_init, cX1_clear, cX1_valueOf, cX1_setBit, cX1_store, cX1_setTimer, cX1_setCount, cX2_init, cX2_clear, cX2_addGo, cX2_addAction, cX3_init, cX3_startAgain, cX3_goRound, cX3_performList, cX3_perform], [cX3_performBlock, cX3_putAside, cX3_takeBack, cX3_calculate, cX3_compare, cX3_goOn, cX3_isOpen, cX3_act, cX3_actAs, cX4_counts, cX4_isBlock, cX4_isTaken, cX5_init, cX5_clear, cX5_begin, cX5_goneSince], [cX5_delayOn, cX5_delayOff, cX5_pulse, cX5_countUp, cX5_countDown, cX5_rises, cX5_falls, cX6_init, cX6_clear, cX6_add, cX6_opAt, cX7_init, cX7_readText, cX7_fail, cX7_failAt, cX7_advance], [cX7_isWord, cX7_isFigures, cX7_isLabel, cX7_readLabel, cX7_readOp, cX7_opSpelled, cX7_isFull, cX7_isAllowedByBrackets, cX7_readOperands, cX7_operandsOf, cX7_kindOfWord, cX7_readCell, cX7_readFigures, cX7_readStep, cX7_actionOfWord, cX7_readGo], [cX7_readSteps, cX7_noteNamed, cX7_findNoneMissing, cX8_init, cX8_append, cX8_byteAt, cX8_spells, cX8_numberIn, cX9_init, cX9_feed, cX9_wipe, cX9_load, cX9_fault, cX9_place, cX9_reset, cX9_input], [cX9_scan, cX9_run, cX9_output, cX9_bits, cX9_word, cX9_block, cX9_done, cX9_fired, cX9_time, cX9_at, cX9_put, cX9_isSet, cX9_withBit, cX9_fill, cX10_init, cX10_thrown], [cX10_feed, cX10_wipe, cX10_fail, cX10_next, cX10_isEnd, cX10_isLineEnd, cX10_code, cX10_isFigure, cX10_areFigures, cX10_value, cX10_small, cX10_great, cX10_byteAt, cX10_cellKind, cX10_mostOf, cX10_operand], [cX10_sign, cX10_add, cX10_isSign, cX10_mayComeNow, cX10_isMove, cX10_isJump, cX10_labelWord, cX10_names, cX10_lettered, cX10_isBlock, cX10_isAlone, cX10_actions, cX10_step, cX10_some, cX10_go, cX10_line], [cX10_begin, cX10_load, cX10_fault, cX10_place, cX10_resetAll, cX10_reset, cX10_cell, cX10_setBit, cX10_past, cX10_timer, cX10_counter, cX10_edge, cX10_truth, cX10_made, cX10_join, cX10_signed], [cX10_close, cX10_store, cX10_act, cX10_list, cX10_chart, cX10_scanOnce, cX10_scan, cX10_run, cX10_noPlace, cX10_input, cX10_output, cX10_bits, cX10_word, cX10_block, cX10_done, cX10_fired], [cX10_time, cJx29ce0_ordinal_8abf5, cJ9_max_7cf53, cJ9_min_7cf53, cJ9_min_f86c9, cJ0_length_8abf5, cJ0_charAt_5068e, cJ0_indexOf_0f7a4, cJ0_indexOf_7cf53, cJ0_coder_7d493, cJ0_isLatin1_aae02, cJ0_checkIndex_df160, cJ0_checkBoundsBeginEnd_23922, cJ1_charAt_3b067, cJ1_canEncode_9a6ad, cJ1_indexOf_4cfef], [cJ1_indexOfChar_4cfef, cJ3_checkIndex_8e157, cJ3_checkFromToIndex_8c36e, cL_law]]
def am_bc (m : Nat) : ByteArray := (am_bcs.getD (m / 16) []).getD (m % 16) code
def am_ys : List (List MethodName) := [[yX1_init, yX1_clear, yX1_valueOf, yX1_setBit, yX1_store, yX1_setTimer, yX1_setCount, yX2_init, yX2_clear, yX2_addGo, yX2_addAction, yX3_init, yX3_startAgain, yX3_goRound, yX3_performList, yX3_perform], [yX3_performBlock, yX3_putAside, yX3_takeBack, yX3_calculate, yX3_compare, yX3_goOn, yX3_isOpen, yX3_act, yX3_actAs, yX4_counts, yX4_isBlock, yX4_isTaken, yX5_init, yX5_clear, yX5_begin, yX5_goneSince], [yX5_delayOn, yX5_delayOff, yX5_pulse, yX5_countUp, yX5_countDown, yX5_rises, yX5_falls, yX6_init, yX6_clear, yX6_add, yX6_opAt, yX7_init, yX7_readText, yX7_fail, yX7_failAt, yX7_advance], [yX7_isWord, yX7_isFigures, yX7_isLabel, yX7_readLabel, yX7_readOp, yX7_opSpelled, yX7_isFull, yX7_isAllowedByBrackets, yX7_readOperands, yX7_operandsOf, yX7_kindOfWord, yX7_readCell, yX7_readFigures, yX7_readStep, yX7_actionOfWord, yX7_readGo], [yX7_readSteps, yX7_noteNamed, yX7_findNoneMissing, yX8_init, yX8_append, yX8_byteAt, yX8_spells, yX8_numberIn, yX9_init, yX9_feed, yX9_wipe, yX9_load, yX9_fault, yX9_place, yX9_reset, yX9_input], [yX9_scan, yX9_run, yX9_output, yX9_bits, yX9_word, yX9_block, yX9_done, yX9_fired, yX9_time, yX9_at, yX9_put, yX9_isSet, yX9_withBit, yX9_fill, yX10_init, yX10_thrown], [yX10_feed, yX10_wipe, yX10_fail, yX10_next, yX10_isEnd, yX10_isLineEnd, yX10_code, yX10_isFigure, yX10_areFigures, yX10_value, yX10_small, yX10_great, yX10_byteAt, yX10_cellKind, yX10_mostOf, yX10_operand], [yX10_sign, yX10_add, yX10_isSign, yX10_mayComeNow, yX10_isMove, yX10_isJump, yX10_labelWord, yX10_names, yX10_lettered, yX10_isBlock, yX10_isAlone, yX10_actions, yX10_step, yX10_some, yX10_go, yX10_line], [yX10_begin, yX10_load, yX10_fault, yX10_place, yX10_resetAll, yX10_reset, yX10_cell, yX10_setBit, yX10_past, yX10_timer, yX10_counter, yX10_edge, yX10_truth, yX10_made, yX10_join, yX10_signed], [yX10_close, yX10_store, yX10_act, yX10_list, yX10_chart, yX10_scanOnce, yX10_scan, yX10_run, yX10_noPlace, yX10_input, yX10_output, yX10_bits, yX10_word, yX10_block, yX10_done, yX10_fired], [yX10_time, yJx29ce0_ordinal_8abf5, yJ9_max_7cf53, yJ9_min_7cf53, yJ9_min_f86c9, yJ0_length_8abf5, yJ0_charAt_5068e, yJ0_indexOf_0f7a4, yJ0_indexOf_7cf53, yJ0_coder_7d493, yJ0_isLatin1_aae02, yJ0_checkIndex_df160, yJ0_checkBoundsBeginEnd_23922, yJ1_charAt_3b067, yJ1_canEncode_9a6ad, yJ1_indexOf_4cfef], [yJ1_indexOfChar_4cfef, yJ3_checkIndex_8e157, yJ3_checkFromToIndex_8c36e, yL_law]]
def am_y (m : Nat) : MethodName := (am_ys.getD (m / 16) []).getD (m % 16) yL_law
def am_rtys : List (List (Option FieldType)) := [[none, none, (some .int), none, none, none, none, none, none, none, none, none, none, none, none, none], [none, none, none, (some .int), (some .boolean), none, (some .boolean), none, none, (some .int), (some .boolean), (some .boolean), none, none, none, (some .int)], [none, none, none, none, none, (some .boolean), (some .boolean), none, none, none, (some (.object "ScanChart$Op")), none, (some .boolean), (some .boolean), (some .boolean), none], [(some .boolean), (some .boolean), (some .boolean), (some .boolean), (some (.object "ScanChart$Op")), (some (.object "ScanChart$Op")), (some .boolean), (some .boolean), (some .boolean), (some .int), (some .int), (some .boolean), (some .boolean), (some .boolean), (some .int), (some .boolean)], [(some .int), none, (some .boolean), none, (some .int), (some .int), (some .boolean), (some .long), none, (some .int), (some .int), (some .int), (some .int), (some .int), none, none], [(some .int), (some .int), (some .boolean), (some .int), (some .int), (some .int), (some .int), (some .int), (some .long), (some .int), none, (some .boolean), (some .int), none, none, (some .int)], [(some .int), (some .int), none, none, (some .boolean), (some .boolean), (some .long), (some .boolean), (some .boolean), (some .long), (some .int), (some .int), (some .int), (some .int), (some .int), none], [(some .int), none, (some .boolean), (some .boolean), (some .boolean), (some .boolean), (some .int), none, (some .int), (some .boolean), (some .boolean), none, none, (some .int), none, none], [none, (some .int), (some .int), (some .int), none, none, (some .int), none, (some .int), none, none, none, (some .int), (some .int), (some .int), (some .int)], [(some .int), none, (some .int), (some .int), none, (some .int), (some .int), (some .int), (some .boolean), none, (some .boolean), (some .int), (some .int), (some .int), (some .int), (some .int)], [(some .long), (some .int), (some .int), (some .int), (some .long), (some .int), (some .char), (some .int), (some .int), (some .byte), (some .boolean), none, none, (some .char), (some .boolean), (some .int)], [(some .int), (some .int), (some .int), (some .boolean)]]
def am_rty (m : Nat) : Option FieldType := (am_rtys.getD (m / 16) []).getD (m % 16) none
def am_len : List (List Nat) := [[24, 22, 28, 12, 19, 17, 6, 41, 11, 37, 22, 45, 22, 39, 78, 103], [118, 33, 38, 61, 47, 67, 37, 62, 32, 12, 20, 20, 39, 25, 11, 20], [43, 68, 65, 38, 37, 20, 20, 31, 11, 41, 14, 27, 104, 9, 8, 118], [17, 13, 38, 66, 88, 28, 27, 30, 78, 19, 65, 76, 39, 71, 20, 61], [40, 10, 68, 10, 39, 18, 29, 38, 21, 18, 12, 25, 4, 4, 4, 18], [28, 48, 16, 24, 17, 45, 4, 4, 4, 12, 11, 10, 16, 13, 176, 3], [53, 11, 10, 77, 9, 16, 32, 10, 28, 31, 38, 36, 11, 59, 12, 110], [86, 46, 150, 19, 78, 94, 22, 20, 23, 113, 54, 78, 53, 48, 121, 130], [80, 103, 6, 6, 133, 6, 49, 15, 15, 237, 109, 46, 6, 82, 18, 64], [40, 97, 131, 124, 272, 58, 19, 48, 9, 18, 22, 70, 19, 48, 6, 6], [6, 3, 7, 7, 8, 7, 13, 5, 19, 7, 9, 6, 7, 11, 9, 25], [19, 12, 16, 426]]
def am_ldcs : List (String × Nat × Nat) := [("ScanChart$Reader", 186, 2042), ("ScanChart$Reader", 193, 2043), ("ScanChart$Reader", 195, 2044), ("ScanChart$Reader", 227, 2045), ("ScanChart$Reader", 233, 2005), ("ScanChart$Reader", 235, 2006), ("ScanChart$Reader", 240, 2046), ("ScanChart$Reader", 242, 2047), ("ScanChart$Reader", 244, 2048), ("ScanChart", 36, 2049), ("ScanChart", 73, 2050), ("ScanChart", 81, 2051), ("ScanChart", 90, 2052), ("ScanChart", 99, 2053), ("ScanChart", 119, 2054), ("ScanChart", 121, 2055)]
/-- calls and statics across the nest: the class that names, the entry, whom -/
def am_nests : List (String × Nat × Nat) := [("ScanChart$Cells", 24, 90), ("ScanChart$Cells", 28, 93), ("ScanChart$Cells", 32, 89), ("ScanChart$Cells", 36, 92), ("ScanChart$Chart", 43, 93), ("ScanChart$Chart", 47, 90), ("ScanChart$Machine", 37, 28), ("ScanChart$Machine", 68, 90), ("ScanChart$Machine", 89, 89), ("ScanChart$Machine", 239, 91), ("ScanChart$Past", 52, 91), ("ScanChart$Past", 60, 92), ("ScanChart$Program", 11, 7), ("ScanChart$Program", 41, 93), ("ScanChart$Program", 48, 90), ("ScanChart$Reader", 11, 67), ("ScanChart$Reader", 20, 39), ("ScanChart$Reader", 42, 93), ("ScanChart$Reader", 119, 89), ("ScanChart$Reader", 126, 90), ("ScanChart$Reader", 201, 91), ("ScanChart$Text", 21, 90), ("ScanChart", 11, 43), ("ScanChart", 18, 11), ("ScanChart", 25, 39)]
def am_nestf : List (String × Nat × String × String × String) := [("ScanChart$Reader", 144, "ScanChart", "OPS", "[LScanChart$Op;"), ("ScanChart$Reader", 208, "ScanChart", "RANGES", "[I")]
/-- statics: class, name, descriptor, id or int, 1 for an int -/
def am_stats : List (String × String × String × Nat × Nat) := [("ScanChart$Op", "S", "LScanChart$Op;", 1005, 0), ("ScanChart$1", "$SwitchMap$ScanChart$Op", "[I", 4003, 0), ("ScanChart$Op", "DIV", "LScanChart$Op;", 1016, 0), ("ScanChart", "OPS", "[LScanChart$Op;", 4001, 0), ("ScanChart", "RANGES", "[I", 4002, 0), ("java/lang/String", "COMPACT_STRINGS", "Z", 4, 1), ("jdk/internal/util/Preconditions", "SIOOBE_FORMATTER", "Ljava/util/function/BiFunction;", 4500, 0)]
/-- constant fields: by kind and place -/
def am_cfn (kd a : Nat) : String × String × String := if kd = 30 then (match a with | 0 => ("ScanChart$Op", "spelling", "Ljava/lang/String;") | 1 => ("ScanChart$Op", "form", "I") | 2 => ("ScanChart$Op", "mode", "I") | _ => ("java/lang/Enum", "ordinal", "I")) else (match a with | 10 => ("java/lang/String", "value", "[B") | _ => ("java/lang/String", "coder", "B"))
def am_mws : List (List (Nat × Nat × Nat × Nat)) := [[(276, 275, 0, 84), (682, 680, 681, 84), (893, 891, 892, 84), (901, 899, 900, 84), (941, 939, 940, 84), (875, 873, 874, 84), (897, 895, 896, 84), (141, 140, 0, 82), (418, 416, 417, 82), (635, 633, 634, 82), (655, 653, 654, 82), (270, 269, 0, 83), (678, 676, 677, 83), (832, 830, 831, 83), (837, 836, 23, 83), (919, 918, 25, 83)], [(850, 849, 24, 83), (927, 926, 26, 83), (949, 948, 29, 83), (931, 930, 27, 83), (937, 936, 28, 83), (957, 956, 30, 83), (961, 960, 31, 83), (965, 964, 32, 83), (970, 969, 33, 83), (923, 921, 922, 100), (845, 843, 844, 100), (953, 951, 952, 100), (300, 299, 0, 85), (687, 685, 686, 85), (866, 865, 0, 85), (870, 869, 0, 85)], [(862, 860, 861, 85), (881, 879, 880, 85), (885, 883, 884, 85), (889, 887, 888, 85), (905, 903, 904, 85), (910, 908, 909, 85), (914, 912, 913, 85), (135, 134, 0, 81), (411, 409, 410, 81), (668, 666, 667, 81), (841, 839, 840, 81), (113, 112, 0, 79), (407, 405, 406, 79), (453, 452, 3, 79), (644, 643, 17, 79), (424, 423, 0, 79)], [(552, 551, 13, 79), (539, 538, 10, 79), (432, 431, 1, 79), (448, 447, 2, 79), (461, 460, 4, 79), (465, 464, 5, 79), (523, 522, 6, 79), (527, 526, 7, 79), (659, 658, 19, 79), (663, 662, 20, 79), (562, 561, 15, 79), (558, 557, 14, 79), (543, 542, 11, 79), (640, 639, 16, 79), (648, 647, 18, 79), (531, 530, 8, 79)], [(535, 534, 9, 79), (547, 546, 12, 79), (673, 672, 21, 79), (119, 118, 0, 80), (790, 788, 789, 80), (428, 426, 427, 80), (471, 469, 470, 80), (436, 434, 435, 80), (105, 104, 0, 78), (720, 718, 719, 78), (399, 397, 398, 78), (403, 401, 402, 78), (692, 690, 691, 78), (696, 694, 695, 78), (700, 698, 699, 78), (800, 798, 799, 78)], [(826, 824, 825, 78), (978, 976, 977, 78), (986, 984, 985, 78), (994, 992, 993, 78), (1003, 1001, 1002, 78), (1011, 1009, 1010, 78), (704, 702, 703, 78), (708, 706, 707, 78), (712, 710, 711, 78), (456, 455, 0, 78), (280, 279, 0, 78), (627, 626, 0, 78), (819, 818, 0, 78), (414, 413, 0, 78), (1018, 1017, 0, 86), (1213, 1211, 1212, 86)], [(1217, 1215, 1216, 86), (1222, 1220, 1221, 86), (1258, 1257, 42, 86), (1234, 1233, 36, 86), (1238, 1237, 37, 86), (1242, 1241, 38, 86), (1280, 1279, 46, 86), (1269, 1268, 0, 86), (1266, 1265, 44, 86), (1273, 1272, 45, 86), (1262, 1261, 43, 86), (1389, 1388, 61, 86), (1250, 1249, 40, 86), (1300, 1299, 50, 86), (1303, 1302, 0, 86), (1296, 1295, 49, 86)], [(1344, 1343, 0, 86), (1337, 1336, 56, 86), (1341, 1340, 57, 86), (1333, 1332, 55, 86), (1325, 1324, 54, 86), (1362, 1361, 58, 86), (1254, 1253, 41, 86), (1318, 1317, 53, 86), (1384, 1383, 60, 86), (1372, 1371, 59, 86), (1393, 1392, 62, 86), (1289, 1288, 48, 86), (1285, 1284, 47, 86), (1314, 1313, 52, 86), (1310, 1309, 51, 86), (1246, 1245, 39, 86)], [(1230, 1229, 35, 86), (1226, 1224, 1225, 86), (1399, 1397, 1398, 86), (1403, 1401, 1402, 86), (1023, 1022, 34, 86), (1407, 1405, 1406, 86), (1434, 1433, 67, 86), (1449, 1448, 70, 86), (1461, 1460, 73, 86), (1457, 1456, 72, 86), (1465, 1464, 74, 86), (1469, 1468, 75, 86), (1418, 1417, 0, 86), (1441, 1440, 0, 86), (1438, 1437, 68, 86), (1430, 1429, 66, 86)], [(1453, 1452, 71, 86), (1445, 1444, 69, 86), (1426, 1425, 65, 86), (1422, 1421, 64, 86), (1473, 1472, 76, 86), (1415, 1414, 63, 86), (1411, 1409, 1410, 86), (1477, 1475, 1476, 86), (1484, 1483, 0, 86), (1481, 1479, 1480, 86), (1488, 1486, 1487, 86), (1492, 1490, 1491, 86), (1496, 1494, 1495, 86), (1500, 1498, 1499, 86), (1504, 1502, 1503, 86), (1508, 1506, 1507, 86)], [(1512, 1510, 1511, 86), (858, 857, 856, 99), (581, 580, 0, 91), (584, 583, 0, 91), (443, 442, 0, 91), (475, 473, 474, 92), (485, 483, 484, 92), (567, 565, 566, 92), (571, 569, 570, 92), (479, 477, 478, 92), (489, 487, 488, 92), (495, 494, 0, 92), (602, 601, 0, 92), (492, 491, 0, 93), (578, 577, 0, 93), (575, 574, 0, 93)], [(587, 586, 0, 93), (500, 499, 0, 94), (605, 604, 0, 94), (0, 0, 0, 0)]]
def am_mw (m : Nat) : Nat × Nat × Nat × Nat := (am_mws.getD (m / 16) []).getD (m % 16) (0, 0, 0, 0)
def am_own (m : Nat) : String := (am_y m).cls
def am_lw (w : Nat) (x : Cond) : Bool := decide (lw_tbl[w]? = some x)
def am_fall (ir : Instr) : Bool := match ir with
  | .goto _ => false
  | .ireturn => false
  | .lreturn => false
  | .areturn => false
  | .return_ => false
  | .athrow => false
  | .tableswitch .. => false
  | .nop => false
  | _ => true
def am_ilen (ir : Instr) (len : Nat) : Nat := match ir with
  | .iload _ => 2
  | .lload _ => 2
  | .aload _ => 2
  | .istore _ => 2
  | .lstore _ => 2
  | .astore _ => 2
  | .bipush _ => 2
  | .ldc _ => 2
  | .newarray _ => 2
  | .sipush _ => 3
  | .ldc2_w _ => 3
  | .ldc_w _ => 3
  | .getfield _ => 3
  | .putfield _ => 3
  | .getstatic _ => 3
  | .invokevirtual _ => 3
  | .invokespecial _ => 3
  | .invokestatic _ => 3
  | .goto _ => 3
  | .ifCond _ _ => 3
  | .if_icmp _ _ => 3
  | .if_acmp _ _ => 3
  | .ifnull _ => 3
  | .ifnonnull _ => 3
  | .new _ => 3
  | .anewarray _ => 3
  | .iinc _ _ => 3
  | .tableswitch .. => len
  | _ => 1
def am_fldD (b : Nat) : vw_C := vwCl.getD (b - 1) ("", TX1, 0)
def am_kcl (c : Nat) : String := cond (Nat.beq c 30) "ScanChart$Op" (cond (Nat.beq c 31) "java/lang/String" (am_fldD c).1)
def am_npar (a n : Nat) : Bool := decide ((parseMethodDescriptor (am_y a).desc).map (fun d => d.parameters.length) = some n)
def am_vok (a b c : Nat) : Bool := decide ((am_y a).cls = am_kcl c) && Nat.ble 1 b && am_npar a (b - 1) && am_lw (am_mw a).2.1 (.instanceMethod (am_y a)) && am_lw (am_mw a).2.2.1 (.selects (am_y a).cls (am_y a) (am_y a)) && am_lw (am_mw a).2.2.2 (.initialized (am_y a).cls) && Nat.ble 1 c
def am_sok (a b : Nat) : Bool := am_npar a b && am_lw (am_mw a).2.1 (.static (am_y a)) && am_lw (am_mw a).2.2.2 (.initialized (am_y a).cls)
def am_cl (m k a w x : Nat) : Bool := match x with
  | 0 => am_lw w (.methodLink (am_own m) k (am_y a))
  | j + 1 => decide (am_nests[j]? = some (am_own m, k, a))
def am_iok (a b c : Nat) : Bool := decide ((am_y a).name = "<init>") && Nat.ble 1 b && Nat.ble 1 c && am_npar a (b - 1) && am_lw (am_mw a).2.1 (.instanceMethod (am_y a)) && am_lw (am_mw a).2.2.2 (.initialized (am_y a).cls) && Nat.beq (am_rt a) 0
def am_chx (m pc : Nat) (ir : Instr) (a b c w x : Nat) : Bool := match ir with
  | .iload_n n => Nat.beq n.val a
  | .lload_n n => Nat.beq n.val a
  | .aload_n n => Nat.beq n.val a
  | .istore_n n => Nat.beq n.val a && Nat.blt a (am_nL m)
  | .astore_n n => Nat.beq n.val a && Nat.blt a (am_nL m)
  | .lstore_n n => Nat.beq n.val a && Nat.blt (a + 1) (am_nL m)
  | .iload n => Nat.beq n a
  | .lload n => Nat.beq n a
  | .aload n => Nat.beq n a
  | .istore n => Nat.beq n a && Nat.blt a (am_nL m)
  | .astore n => Nat.beq n a && Nat.blt a (am_nL m)
  | .lstore n => Nat.beq n a && Nat.blt (a + 1) (am_nL m)
  | .iinc n v => Nat.beq n a && decide (Int32.ofInt v = am_gI b) && Nat.blt a (am_nL m)
  | .iconst n => decide (Int32.ofInt n = am_gI a)
  | .bipush n => decide ((Int8.ofInt n).toInt32 = am_gI a)
  | .sipush n => decide ((Int16.ofInt n).toInt32 = am_gI a)
  | .lconst n => decide (Int64.ofNat n.val = am_gJ a)
  | .ldc2_w k => am_lw w (.constantLong (am_own m) k (am_gJ a))
  | .ldc k => cond (Nat.beq b 1) (am_lw w (.constant (am_own m) k (am_gI a))) (decide (am_ldcs[x]? = some (am_own m, k, a)))
  | .ldc_w k => Nat.beq b 1 && am_lw w (.constant (am_own m) k (am_gI a))
  | .goto o => decide ((pc : Int) + o = (am_pc m a : Int))
  | .ifCond _ o => decide ((pc : Int) + o = (am_pc m a : Int))
  | .if_icmp _ o => decide ((pc : Int) + o = (am_pc m a : Int))
  | .if_acmp _ o => decide ((pc : Int) + o = (am_pc m a : Int))
  | .ifnull o => decide ((pc : Int) + o = (am_pc m a : Int))
  | .ifnonnull o => decide ((pc : Int) + o = (am_pc m a : Int))
  | .tableswitch d lo hi offs => decide ((pc : Int) + d = (am_pc m ((am_sw.getD a []).headD 0) : Int)) && decide (offs.toList.map (fun o => (pc : Int) + o) = (am_sw.getD a []).tail.map (fun t => (am_pc m t : Int))) && decide (lo = (am_gI b).toInt) && decide (hi = lo + offs.size - 1) && decide (0 ≤ lo) && decide (hi < 1000)
  | .getstatic k => match am_stats[x]? with
    | none => false
    | some (C, n, d, v, t) => Nat.beq v a && Nat.beq t b && (am_lw w (.fieldLink (am_own m) k C n d) || (Nat.ble 10000 w && decide (am_nestf[w - 10000]? = some (am_own m, k, C, n, d))))
  | .getfield k => cond (Nat.ble b 9) (Nat.ble 1 b && am_lw w (.fieldLink (am_own m) k (am_fldD b).1 ((am_fldD b).2.1 a).2.1 ((am_fldD b).2.1 a).2.2.1) && Nat.blt a (am_fldD b).2.2 && Nat.beq c (am_ft b a)) ((Nat.beq b 30 || Nat.beq b 31) && am_lw w (.fieldLink (am_own m) k (am_cfn b a).1 (am_cfn b a).2.1 (am_cfn b a).2.2) && Nat.beq c (cond (Nat.beq a 0 || Nat.beq a 10) 4 3) && cond (Nat.beq b 30) (Nat.ble a 3) (Nat.beq a 10 || Nat.beq a 11))
  | .putfield k => Nat.ble 1 b && Nat.ble b 9 && am_lw w (.fieldLink (am_own m) k (am_fldD b).1 ((am_fldD b).2.1 a).2.1 ((am_fldD b).2.1 a).2.2.1) && Nat.blt a (am_fldD b).2.2 && Nat.beq c (am_ft b a) && cond ((am_fldD b).2.1 a).2.2.2 (decide ((am_y m).name = "<init>") && decide (((am_fldD b).2.1 a).1 = am_own m)) true
  | .new k => Nat.ble 1 a && Nat.ble a 9 && am_lw w (.classLink (am_own m) k (am_fldD a).1) && Nat.beq b (am_fldD a).2.2
  | .newarray t => match t with
    | .int => Nat.beq a 20
    | .boolean => Nat.beq a 21
    | .long => Nat.beq a 22
    | _ => false
  | .anewarray k => Nat.beq a 23 && am_lw w (.classLink (am_own m) k "ScanChart$Op")
  | .invokevirtual k => cond (Nat.beq c 30 && Nat.beq a 161) (am_lw w (.methodLink (am_own m) k ⟨"ScanChart$Op", "ordinal", "()I"⟩) && Nat.beq b 1) (am_lw w (.methodLink (am_own m) k (am_y a)) && Nat.blt a 179 && am_vok a b (cond (Nat.beq c 97) 8 c))
  | .invokestatic k => cond (Nat.beq c 98) (Nat.beq m 179) (Nat.beq c 0 && am_cl m k a w x && Nat.blt a 179 && am_sok a b)
  | .invokespecial k => cond (Nat.beq c 99) (am_lw w (.methodLink (am_own m) k Lib.objectInit)) (am_cl m k a w x && Nat.blt a 179 && am_iok a b c)
  | _ => true
def am_chk (m i : Nat) : Bool := match am_ins m i, am_lk m i with
  | (ir, a, b, c), (pc, len, w, x) => cond (decide (ir = .nop)) true (decide (decode (am_bc m) pc = .ok (ir, len)) && Nat.beq len (am_ilen ir len) && (!am_fall ir || Nat.beq (am_pc m (i + 1)) (pc + len)) && am_chx m pc ir a b c w x)
end
section
def am_cc (m : Nat) : List (List am_Ins) := (am_code.getD (m / 16) []).getD (m % 16) []
def am_kb (m j : Nat) : Bool := (List.range 16).all fun i => am_chk m (16 * j + i)
def am_kp (m : Nat) : Prop := ∀ j, j < (am_cc m).length → am_kb m j = true
theorem am_k0 : am_kp 0 := fun j hj => (List.all_eq_true.mp (by decide +kernel : (List.range 2).all (am_kb 0) = true)) j (List.mem_range.mpr hj)
theorem am_k1 : am_kp 1 := fun j hj => (List.all_eq_true.mp (by decide +kernel : (List.range 2).all (am_kb 1) = true)) j (List.mem_range.mpr hj)
theorem am_k2 : am_kp 2 := fun j hj => (List.all_eq_true.mp (by decide +kernel : (List.range 2).all (am_kb 2) = true)) j (List.mem_range.mpr hj)
theorem am_k3 : am_kp 3 := fun j hj => (List.all_eq_true.mp (by decide +kernel : (List.range 1).all (am_kb 3) = true)) j (List.mem_range.mpr hj)
theorem am_k4 : am_kp 4 := fun j hj => (List.all_eq_true.mp (by decide +kernel : (List.range 2).all (am_kb 4) = true)) j (List.mem_range.mpr hj)
theorem am_k5 : am_kp 5 := fun j hj => (List.all_eq_true.mp (by decide +kernel : (List.range 2).all (am_kb 5) = true)) j (List.mem_range.mpr hj)
theorem am_k6 : am_kp 6 := fun j hj => (List.all_eq_true.mp (by decide +kernel : (List.range 1).all (am_kb 6) = true)) j (List.mem_range.mpr hj)
theorem am_k7 : am_kp 7 := fun j hj => (List.all_eq_true.mp (by decide +kernel : (List.range 3).all (am_kb 7) = true)) j (List.mem_range.mpr hj)
theorem am_k8 : am_kp 8 := fun j hj => (List.all_eq_true.mp (by decide +kernel : (List.range 1).all (am_kb 8) = true)) j (List.mem_range.mpr hj)
theorem am_k9 : am_kp 9 := fun j hj => (List.all_eq_true.mp (by decide +kernel : (List.range 3).all (am_kb 9) = true)) j (List.mem_range.mpr hj)
theorem am_k10 : am_kp 10 := fun j hj => (List.all_eq_true.mp (by decide +kernel : (List.range 2).all (am_kb 10) = true)) j (List.mem_range.mpr hj)
theorem am_k11 : am_kp 11 := fun j hj => (List.all_eq_true.mp (by decide +kernel : (List.range 3).all (am_kb 11) = true)) j (List.mem_range.mpr hj)
theorem am_k12 : am_kp 12 := fun j hj => (List.all_eq_true.mp (by decide +kernel : (List.range 2).all (am_kb 12) = true)) j (List.mem_range.mpr hj)
theorem am_k13 : am_kp 13 := fun j hj => (List.all_eq_true.mp (by decide +kernel : (List.range 3).all (am_kb 13) = true)) j (List.mem_range.mpr hj)
theorem am_k14_0 : ∀ j, j < 0 → am_kb 14 j = true := lt_0
theorem am_k14_4 : ∀ j, j < 4 → am_kb 14 j = true := fun j hj => (Nat.lt_or_ge j 0).elim (am_k14_0 j) fun h => (show 0 + (j - 0) = j by omega) ▸ (List.all_eq_true.mp (by decide +kernel : (List.range 4).all (fun j => am_kb 14 (0 + j)) = true)) (j - 0) (List.mem_range.mpr (by omega))
theorem am_k14_5 : ∀ j, j < 5 → am_kb 14 j = true := fun j hj => (Nat.lt_or_ge j 4).elim (am_k14_4 j) fun h => (show 4 + (j - 4) = j by omega) ▸ (List.all_eq_true.mp (by decide +kernel : (List.range 1).all (fun j => am_kb 14 (4 + j)) = true)) (j - 4) (List.mem_range.mpr (by omega))
theorem am_k14 : am_kp 14 := fun j hj => am_k14_5 j hj
theorem am_k15_0 : ∀ j, j < 0 → am_kb 15 j = true := lt_0
theorem am_k15_4 : ∀ j, j < 4 → am_kb 15 j = true := fun j hj => (Nat.lt_or_ge j 0).elim (am_k15_0 j) fun h => (show 0 + (j - 0) = j by omega) ▸ (List.all_eq_true.mp (by decide +kernel : (List.range 4).all (fun j => am_kb 15 (0 + j)) = true)) (j - 0) (List.mem_range.mpr (by omega))
theorem am_k15_7 : ∀ j, j < 7 → am_kb 15 j = true := fun j hj => (Nat.lt_or_ge j 4).elim (am_k15_4 j) fun h => (show 4 + (j - 4) = j by omega) ▸ (List.all_eq_true.mp (by decide +kernel : (List.range 3).all (fun j => am_kb 15 (4 + j)) = true)) (j - 4) (List.mem_range.mpr (by omega))
theorem am_k15 : am_kp 15 := fun j hj => am_k15_7 j hj
theorem am_k16_0 : ∀ j, j < 0 → am_kb 16 j = true := lt_0
theorem am_k16_4 : ∀ j, j < 4 → am_kb 16 j = true := fun j hj => (Nat.lt_or_ge j 0).elim (am_k16_0 j) fun h => (show 0 + (j - 0) = j by omega) ▸ (List.all_eq_true.mp (by decide +kernel : (List.range 4).all (fun j => am_kb 16 (0 + j)) = true)) (j - 0) (List.mem_range.mpr (by omega))
theorem am_k16_8 : ∀ j, j < 8 → am_kb 16 j = true := fun j hj => (Nat.lt_or_ge j 4).elim (am_k16_4 j) fun h => (show 4 + (j - 4) = j by omega) ▸ (List.all_eq_true.mp (by decide +kernel : (List.range 4).all (fun j => am_kb 16 (4 + j)) = true)) (j - 4) (List.mem_range.mpr (by omega))
theorem am_k16 : am_kp 16 := fun j hj => am_k16_8 j hj
theorem am_k17 : am_kp 17 := fun j hj => (List.all_eq_true.mp (by decide +kernel : (List.range 3).all (am_kb 17) = true)) j (List.mem_range.mpr hj)
theorem am_k18 : am_kp 18 := fun j hj => (List.all_eq_true.mp (by decide +kernel : (List.range 3).all (am_kb 18) = true)) j (List.mem_range.mpr hj)
theorem am_k19 : am_kp 19 := fun j hj => (List.all_eq_true.mp (by decide +kernel : (List.range 4).all (am_kb 19) = true)) j (List.mem_range.mpr hj)
theorem am_k20 : am_kp 20 := fun j hj => (List.all_eq_true.mp (by decide +kernel : (List.range 3).all (am_kb 20) = true)) j (List.mem_range.mpr hj)
theorem am_k21_0 : ∀ j, j < 0 → am_kb 21 j = true := lt_0
theorem am_k21_4 : ∀ j, j < 4 → am_kb 21 j = true := fun j hj => (Nat.lt_or_ge j 0).elim (am_k21_0 j) fun h => (show 0 + (j - 0) = j by omega) ▸ (List.all_eq_true.mp (by decide +kernel : (List.range 4).all (fun j => am_kb 21 (0 + j)) = true)) (j - 0) (List.mem_range.mpr (by omega))
theorem am_k21_5 : ∀ j, j < 5 → am_kb 21 j = true := fun j hj => (Nat.lt_or_ge j 4).elim (am_k21_4 j) fun h => (show 4 + (j - 4) = j by omega) ▸ (List.all_eq_true.mp (by decide +kernel : (List.range 1).all (fun j => am_kb 21 (4 + j)) = true)) (j - 4) (List.mem_range.mpr (by omega))
theorem am_k21 : am_kp 21 := fun j hj => am_k21_5 j hj
theorem am_k22 : am_kp 22 := fun j hj => (List.all_eq_true.mp (by decide +kernel : (List.range 3).all (am_kb 22) = true)) j (List.mem_range.mpr hj)
theorem am_k23 : am_kp 23 := fun j hj => (List.all_eq_true.mp (by decide +kernel : (List.range 4).all (am_kb 23) = true)) j (List.mem_range.mpr hj)
theorem am_k24 : am_kp 24 := fun j hj => (List.all_eq_true.mp (by decide +kernel : (List.range 2).all (am_kb 24) = true)) j (List.mem_range.mpr hj)
theorem am_k25 : am_kp 25 := fun j hj => (List.all_eq_true.mp (by decide +kernel : (List.range 1).all (am_kb 25) = true)) j (List.mem_range.mpr hj)
theorem am_k26 : am_kp 26 := fun j hj => (List.all_eq_true.mp (by decide +kernel : (List.range 2).all (am_kb 26) = true)) j (List.mem_range.mpr hj)
theorem am_k27 : am_kp 27 := fun j hj => (List.all_eq_true.mp (by decide +kernel : (List.range 2).all (am_kb 27) = true)) j (List.mem_range.mpr hj)
theorem am_k28 : am_kp 28 := fun j hj => (List.all_eq_true.mp (by decide +kernel : (List.range 3).all (am_kb 28) = true)) j (List.mem_range.mpr hj)
theorem am_k29 : am_kp 29 := fun j hj => (List.all_eq_true.mp (by decide +kernel : (List.range 2).all (am_kb 29) = true)) j (List.mem_range.mpr hj)
theorem am_k30 : am_kp 30 := fun j hj => (List.all_eq_true.mp (by decide +kernel : (List.range 1).all (am_kb 30) = true)) j (List.mem_range.mpr hj)
theorem am_k31 : am_kp 31 := fun j hj => (List.all_eq_true.mp (by decide +kernel : (List.range 2).all (am_kb 31) = true)) j (List.mem_range.mpr hj)
theorem am_k32 : am_kp 32 := fun j hj => (List.all_eq_true.mp (by decide +kernel : (List.range 3).all (am_kb 32) = true)) j (List.mem_range.mpr hj)
theorem am_k33_0 : ∀ j, j < 0 → am_kb 33 j = true := lt_0
theorem am_k33_4 : ∀ j, j < 4 → am_kb 33 j = true := fun j hj => (Nat.lt_or_ge j 0).elim (am_k33_0 j) fun h => (show 0 + (j - 0) = j by omega) ▸ (List.all_eq_true.mp (by decide +kernel : (List.range 4).all (fun j => am_kb 33 (0 + j)) = true)) (j - 0) (List.mem_range.mpr (by omega))
theorem am_k33_5 : ∀ j, j < 5 → am_kb 33 j = true := fun j hj => (Nat.lt_or_ge j 4).elim (am_k33_4 j) fun h => (show 4 + (j - 4) = j by omega) ▸ (List.all_eq_true.mp (by decide +kernel : (List.range 1).all (fun j => am_kb 33 (4 + j)) = true)) (j - 4) (List.mem_range.mpr (by omega))
theorem am_k33 : am_kp 33 := fun j hj => am_k33_5 j hj
theorem am_k34_0 : ∀ j, j < 0 → am_kb 34 j = true := lt_0
theorem am_k34_4 : ∀ j, j < 4 → am_kb 34 j = true := fun j hj => (Nat.lt_or_ge j 0).elim (am_k34_0 j) fun h => (show 0 + (j - 0) = j by omega) ▸ (List.all_eq_true.mp (by decide +kernel : (List.range 4).all (fun j => am_kb 34 (0 + j)) = true)) (j - 0) (List.mem_range.mpr (by omega))
theorem am_k34_5 : ∀ j, j < 5 → am_kb 34 j = true := fun j hj => (Nat.lt_or_ge j 4).elim (am_k34_4 j) fun h => (show 4 + (j - 4) = j by omega) ▸ (List.all_eq_true.mp (by decide +kernel : (List.range 1).all (fun j => am_kb 34 (4 + j)) = true)) (j - 4) (List.mem_range.mpr (by omega))
theorem am_k34 : am_kp 34 := fun j hj => am_k34_5 j hj
theorem am_k35 : am_kp 35 := fun j hj => (List.all_eq_true.mp (by decide +kernel : (List.range 3).all (am_kb 35) = true)) j (List.mem_range.mpr hj)
theorem am_k36 : am_kp 36 := fun j hj => (List.all_eq_true.mp (by decide +kernel : (List.range 3).all (am_kb 36) = true)) j (List.mem_range.mpr hj)
theorem am_k37 : am_kp 37 := fun j hj => (List.all_eq_true.mp (by decide +kernel : (List.range 2).all (am_kb 37) = true)) j (List.mem_range.mpr hj)
theorem am_k38 : am_kp 38 := fun j hj => (List.all_eq_true.mp (by decide +kernel : (List.range 2).all (am_kb 38) = true)) j (List.mem_range.mpr hj)
theorem am_k39 : am_kp 39 := fun j hj => (List.all_eq_true.mp (by decide +kernel : (List.range 2).all (am_kb 39) = true)) j (List.mem_range.mpr hj)
theorem am_k40 : am_kp 40 := fun j hj => (List.all_eq_true.mp (by decide +kernel : (List.range 1).all (am_kb 40) = true)) j (List.mem_range.mpr hj)
theorem am_k41 : am_kp 41 := fun j hj => (List.all_eq_true.mp (by decide +kernel : (List.range 3).all (am_kb 41) = true)) j (List.mem_range.mpr hj)
theorem am_k42 : am_kp 42 := fun j hj => (List.all_eq_true.mp (by decide +kernel : (List.range 1).all (am_kb 42) = true)) j (List.mem_range.mpr hj)
theorem am_k43 : am_kp 43 := fun j hj => (List.all_eq_true.mp (by decide +kernel : (List.range 2).all (am_kb 43) = true)) j (List.mem_range.mpr hj)
theorem am_k44_0 : ∀ j, j < 0 → am_kb 44 j = true := lt_0
theorem am_k44_4 : ∀ j, j < 4 → am_kb 44 j = true := fun j hj => (Nat.lt_or_ge j 0).elim (am_k44_0 j) fun h => (show 0 + (j - 0) = j by omega) ▸ (List.all_eq_true.mp (by decide +kernel : (List.range 4).all (fun j => am_kb 44 (0 + j)) = true)) (j - 0) (List.mem_range.mpr (by omega))
theorem am_k44_7 : ∀ j, j < 7 → am_kb 44 j = true := fun j hj => (Nat.lt_or_ge j 4).elim (am_k44_4 j) fun h => (show 4 + (j - 4) = j by omega) ▸ (List.all_eq_true.mp (by decide +kernel : (List.range 3).all (fun j => am_kb 44 (4 + j)) = true)) (j - 4) (List.mem_range.mpr (by omega))
theorem am_k44 : am_kp 44 := fun j hj => am_k44_7 j hj
theorem am_k45 : am_kp 45 := fun j hj => (List.all_eq_true.mp (by decide +kernel : (List.range 1).all (am_kb 45) = true)) j (List.mem_range.mpr hj)
theorem am_k46 : am_kp 46 := fun j hj => (List.all_eq_true.mp (by decide +kernel : (List.range 1).all (am_kb 46) = true)) j (List.mem_range.mpr hj)
theorem am_k47_0 : ∀ j, j < 0 → am_kb 47 j = true := lt_0
theorem am_k47_4 : ∀ j, j < 4 → am_kb 47 j = true := fun j hj => (Nat.lt_or_ge j 0).elim (am_k47_0 j) fun h => (show 0 + (j - 0) = j by omega) ▸ (List.all_eq_true.mp (by decide +kernel : (List.range 4).all (fun j => am_kb 47 (0 + j)) = true)) (j - 0) (List.mem_range.mpr (by omega))
theorem am_k47_8 : ∀ j, j < 8 → am_kb 47 j = true := fun j hj => (Nat.lt_or_ge j 4).elim (am_k47_4 j) fun h => (show 4 + (j - 4) = j by omega) ▸ (List.all_eq_true.mp (by decide +kernel : (List.range 4).all (fun j => am_kb 47 (4 + j)) = true)) (j - 4) (List.mem_range.mpr (by omega))
theorem am_k47 : am_kp 47 := fun j hj => am_k47_8 j hj
theorem am_k48 : am_kp 48 := fun j hj => (List.all_eq_true.mp (by decide +kernel : (List.range 2).all (am_kb 48) = true)) j (List.mem_range.mpr hj)
theorem am_k49 : am_kp 49 := fun j hj => (List.all_eq_true.mp (by decide +kernel : (List.range 1).all (am_kb 49) = true)) j (List.mem_range.mpr hj)
theorem am_k50 : am_kp 50 := fun j hj => (List.all_eq_true.mp (by decide +kernel : (List.range 3).all (am_kb 50) = true)) j (List.mem_range.mpr hj)
theorem am_k51_0 : ∀ j, j < 0 → am_kb 51 j = true := lt_0
theorem am_k51_4 : ∀ j, j < 4 → am_kb 51 j = true := fun j hj => (Nat.lt_or_ge j 0).elim (am_k51_0 j) fun h => (show 0 + (j - 0) = j by omega) ▸ (List.all_eq_true.mp (by decide +kernel : (List.range 4).all (fun j => am_kb 51 (0 + j)) = true)) (j - 0) (List.mem_range.mpr (by omega))
theorem am_k51_5 : ∀ j, j < 5 → am_kb 51 j = true := fun j hj => (Nat.lt_or_ge j 4).elim (am_k51_4 j) fun h => (show 4 + (j - 4) = j by omega) ▸ (List.all_eq_true.mp (by decide +kernel : (List.range 1).all (fun j => am_kb 51 (4 + j)) = true)) (j - 4) (List.mem_range.mpr (by omega))
theorem am_k51 : am_kp 51 := fun j hj => am_k51_5 j hj
theorem am_k52_0 : ∀ j, j < 0 → am_kb 52 j = true := lt_0
theorem am_k52_4 : ∀ j, j < 4 → am_kb 52 j = true := fun j hj => (Nat.lt_or_ge j 0).elim (am_k52_0 j) fun h => (show 0 + (j - 0) = j by omega) ▸ (List.all_eq_true.mp (by decide +kernel : (List.range 4).all (fun j => am_kb 52 (0 + j)) = true)) (j - 0) (List.mem_range.mpr (by omega))
theorem am_k52_6 : ∀ j, j < 6 → am_kb 52 j = true := fun j hj => (Nat.lt_or_ge j 4).elim (am_k52_4 j) fun h => (show 4 + (j - 4) = j by omega) ▸ (List.all_eq_true.mp (by decide +kernel : (List.range 2).all (fun j => am_kb 52 (4 + j)) = true)) (j - 4) (List.mem_range.mpr (by omega))
theorem am_k52 : am_kp 52 := fun j hj => am_k52_6 j hj
end
section
theorem am_k53 : am_kp 53 := fun j hj => (List.all_eq_true.mp (by decide +kernel : (List.range 2).all (am_kb 53) = true)) j (List.mem_range.mpr hj)
theorem am_k54 : am_kp 54 := fun j hj => (List.all_eq_true.mp (by decide +kernel : (List.range 2).all (am_kb 54) = true)) j (List.mem_range.mpr hj)
theorem am_k55 : am_kp 55 := fun j hj => (List.all_eq_true.mp (by decide +kernel : (List.range 2).all (am_kb 55) = true)) j (List.mem_range.mpr hj)
theorem am_k56_0 : ∀ j, j < 0 → am_kb 56 j = true := lt_0
theorem am_k56_4 : ∀ j, j < 4 → am_kb 56 j = true := fun j hj => (Nat.lt_or_ge j 0).elim (am_k56_0 j) fun h => (show 0 + (j - 0) = j by omega) ▸ (List.all_eq_true.mp (by decide +kernel : (List.range 4).all (fun j => am_kb 56 (0 + j)) = true)) (j - 0) (List.mem_range.mpr (by omega))
theorem am_k56_5 : ∀ j, j < 5 → am_kb 56 j = true := fun j hj => (Nat.lt_or_ge j 4).elim (am_k56_4 j) fun h => (show 4 + (j - 4) = j by omega) ▸ (List.all_eq_true.mp (by decide +kernel : (List.range 1).all (fun j => am_kb 56 (4 + j)) = true)) (j - 4) (List.mem_range.mpr (by omega))
theorem am_k56 : am_kp 56 := fun j hj => am_k56_5 j hj
theorem am_k57 : am_kp 57 := fun j hj => (List.all_eq_true.mp (by decide +kernel : (List.range 2).all (am_kb 57) = true)) j (List.mem_range.mpr hj)
theorem am_k58_0 : ∀ j, j < 0 → am_kb 58 j = true := lt_0
theorem am_k58_4 : ∀ j, j < 4 → am_kb 58 j = true := fun j hj => (Nat.lt_or_ge j 0).elim (am_k58_0 j) fun h => (show 0 + (j - 0) = j by omega) ▸ (List.all_eq_true.mp (by decide +kernel : (List.range 4).all (fun j => am_kb 58 (0 + j)) = true)) (j - 0) (List.mem_range.mpr (by omega))
theorem am_k58_5 : ∀ j, j < 5 → am_kb 58 j = true := fun j hj => (Nat.lt_or_ge j 4).elim (am_k58_4 j) fun h => (show 4 + (j - 4) = j by omega) ▸ (List.all_eq_true.mp (by decide +kernel : (List.range 1).all (fun j => am_kb 58 (4 + j)) = true)) (j - 4) (List.mem_range.mpr (by omega))
theorem am_k58 : am_kp 58 := fun j hj => am_k58_5 j hj
theorem am_k59_0 : ∀ j, j < 0 → am_kb 59 j = true := lt_0
theorem am_k59_4 : ∀ j, j < 4 → am_kb 59 j = true := fun j hj => (Nat.lt_or_ge j 0).elim (am_k59_0 j) fun h => (show 0 + (j - 0) = j by omega) ▸ (List.all_eq_true.mp (by decide +kernel : (List.range 4).all (fun j => am_kb 59 (0 + j)) = true)) (j - 0) (List.mem_range.mpr (by omega))
theorem am_k59_5 : ∀ j, j < 5 → am_kb 59 j = true := fun j hj => (Nat.lt_or_ge j 4).elim (am_k59_4 j) fun h => (show 4 + (j - 4) = j by omega) ▸ (List.all_eq_true.mp (by decide +kernel : (List.range 1).all (fun j => am_kb 59 (4 + j)) = true)) (j - 4) (List.mem_range.mpr (by omega))
theorem am_k59 : am_kp 59 := fun j hj => am_k59_5 j hj
theorem am_k60 : am_kp 60 := fun j hj => (List.all_eq_true.mp (by decide +kernel : (List.range 3).all (am_kb 60) = true)) j (List.mem_range.mpr hj)
theorem am_k61_0 : ∀ j, j < 0 → am_kb 61 j = true := lt_0
theorem am_k61_4 : ∀ j, j < 4 → am_kb 61 j = true := fun j hj => (Nat.lt_or_ge j 0).elim (am_k61_0 j) fun h => (show 0 + (j - 0) = j by omega) ▸ (List.all_eq_true.mp (by decide +kernel : (List.range 4).all (fun j => am_kb 61 (0 + j)) = true)) (j - 0) (List.mem_range.mpr (by omega))
theorem am_k61_5 : ∀ j, j < 5 → am_kb 61 j = true := fun j hj => (Nat.lt_or_ge j 4).elim (am_k61_4 j) fun h => (show 4 + (j - 4) = j by omega) ▸ (List.all_eq_true.mp (by decide +kernel : (List.range 1).all (fun j => am_kb 61 (4 + j)) = true)) (j - 4) (List.mem_range.mpr (by omega))
theorem am_k61 : am_kp 61 := fun j hj => am_k61_5 j hj
theorem am_k62 : am_kp 62 := fun j hj => (List.all_eq_true.mp (by decide +kernel : (List.range 2).all (am_kb 62) = true)) j (List.mem_range.mpr hj)
theorem am_k63 : am_kp 63 := fun j hj => (List.all_eq_true.mp (by decide +kernel : (List.range 4).all (am_kb 63) = true)) j (List.mem_range.mpr hj)
theorem am_k64 : am_kp 64 := fun j hj => (List.all_eq_true.mp (by decide +kernel : (List.range 3).all (am_kb 64) = true)) j (List.mem_range.mpr hj)
theorem am_k65 : am_kp 65 := fun j hj => (List.all_eq_true.mp (by decide +kernel : (List.range 1).all (am_kb 65) = true)) j (List.mem_range.mpr hj)
theorem am_k66_0 : ∀ j, j < 0 → am_kb 66 j = true := lt_0
theorem am_k66_4 : ∀ j, j < 4 → am_kb 66 j = true := fun j hj => (Nat.lt_or_ge j 0).elim (am_k66_0 j) fun h => (show 0 + (j - 0) = j by omega) ▸ (List.all_eq_true.mp (by decide +kernel : (List.range 4).all (fun j => am_kb 66 (0 + j)) = true)) (j - 0) (List.mem_range.mpr (by omega))
theorem am_k66_5 : ∀ j, j < 5 → am_kb 66 j = true := fun j hj => (Nat.lt_or_ge j 4).elim (am_k66_4 j) fun h => (show 4 + (j - 4) = j by omega) ▸ (List.all_eq_true.mp (by decide +kernel : (List.range 1).all (fun j => am_kb 66 (4 + j)) = true)) (j - 4) (List.mem_range.mpr (by omega))
theorem am_k66 : am_kp 66 := fun j hj => am_k66_5 j hj
theorem am_k67 : am_kp 67 := fun j hj => (List.all_eq_true.mp (by decide +kernel : (List.range 1).all (am_kb 67) = true)) j (List.mem_range.mpr hj)
theorem am_k68 : am_kp 68 := fun j hj => (List.all_eq_true.mp (by decide +kernel : (List.range 3).all (am_kb 68) = true)) j (List.mem_range.mpr hj)
theorem am_k69 : am_kp 69 := fun j hj => (List.all_eq_true.mp (by decide +kernel : (List.range 2).all (am_kb 69) = true)) j (List.mem_range.mpr hj)
theorem am_k70 : am_kp 70 := fun j hj => (List.all_eq_true.mp (by decide +kernel : (List.range 2).all (am_kb 70) = true)) j (List.mem_range.mpr hj)
theorem am_k71 : am_kp 71 := fun j hj => (List.all_eq_true.mp (by decide +kernel : (List.range 3).all (am_kb 71) = true)) j (List.mem_range.mpr hj)
theorem am_k72 : am_kp 72 := fun j hj => (List.all_eq_true.mp (by decide +kernel : (List.range 2).all (am_kb 72) = true)) j (List.mem_range.mpr hj)
theorem am_k73 : am_kp 73 := fun j hj => (List.all_eq_true.mp (by decide +kernel : (List.range 2).all (am_kb 73) = true)) j (List.mem_range.mpr hj)
theorem am_k74 : am_kp 74 := fun j hj => (List.all_eq_true.mp (by decide +kernel : (List.range 1).all (am_kb 74) = true)) j (List.mem_range.mpr hj)
theorem am_k75 : am_kp 75 := fun j hj => (List.all_eq_true.mp (by decide +kernel : (List.range 2).all (am_kb 75) = true)) j (List.mem_range.mpr hj)
theorem am_k76 : am_kp 76 := fun j hj => (List.all_eq_true.mp (by decide +kernel : (List.range 1).all (am_kb 76) = true)) j (List.mem_range.mpr hj)
theorem am_k77 : am_kp 77 := fun j hj => (List.all_eq_true.mp (by decide +kernel : (List.range 1).all (am_kb 77) = true)) j (List.mem_range.mpr hj)
theorem am_k78 : am_kp 78 := fun j hj => (List.all_eq_true.mp (by decide +kernel : (List.range 1).all (am_kb 78) = true)) j (List.mem_range.mpr hj)
theorem am_k79 : am_kp 79 := fun j hj => (List.all_eq_true.mp (by decide +kernel : (List.range 2).all (am_kb 79) = true)) j (List.mem_range.mpr hj)
theorem am_k80 : am_kp 80 := fun j hj => (List.all_eq_true.mp (by decide +kernel : (List.range 2).all (am_kb 80) = true)) j (List.mem_range.mpr hj)
theorem am_k81 : am_kp 81 := fun j hj => (List.all_eq_true.mp (by decide +kernel : (List.range 3).all (am_kb 81) = true)) j (List.mem_range.mpr hj)
theorem am_k82 : am_kp 82 := fun j hj => (List.all_eq_true.mp (by decide +kernel : (List.range 1).all (am_kb 82) = true)) j (List.mem_range.mpr hj)
theorem am_k83 : am_kp 83 := fun j hj => (List.all_eq_true.mp (by decide +kernel : (List.range 2).all (am_kb 83) = true)) j (List.mem_range.mpr hj)
theorem am_k84 : am_kp 84 := fun j hj => (List.all_eq_true.mp (by decide +kernel : (List.range 2).all (am_kb 84) = true)) j (List.mem_range.mpr hj)
theorem am_k85 : am_kp 85 := fun j hj => (List.all_eq_true.mp (by decide +kernel : (List.range 3).all (am_kb 85) = true)) j (List.mem_range.mpr hj)
theorem am_k86 : am_kp 86 := fun j hj => (List.all_eq_true.mp (by decide +kernel : (List.range 1).all (am_kb 86) = true)) j (List.mem_range.mpr hj)
theorem am_k87 : am_kp 87 := fun j hj => (List.all_eq_true.mp (by decide +kernel : (List.range 1).all (am_kb 87) = true)) j (List.mem_range.mpr hj)
theorem am_k88 : am_kp 88 := fun j hj => (List.all_eq_true.mp (by decide +kernel : (List.range 1).all (am_kb 88) = true)) j (List.mem_range.mpr hj)
theorem am_k89 : am_kp 89 := fun j hj => (List.all_eq_true.mp (by decide +kernel : (List.range 1).all (am_kb 89) = true)) j (List.mem_range.mpr hj)
theorem am_k90 : am_kp 90 := fun j hj => (List.all_eq_true.mp (by decide +kernel : (List.range 1).all (am_kb 90) = true)) j (List.mem_range.mpr hj)
theorem am_k91 : am_kp 91 := fun j hj => (List.all_eq_true.mp (by decide +kernel : (List.range 1).all (am_kb 91) = true)) j (List.mem_range.mpr hj)
theorem am_k92 : am_kp 92 := fun j hj => (List.all_eq_true.mp (by decide +kernel : (List.range 1).all (am_kb 92) = true)) j (List.mem_range.mpr hj)
theorem am_k93 : am_kp 93 := fun j hj => (List.all_eq_true.mp (by decide +kernel : (List.range 1).all (am_kb 93) = true)) j (List.mem_range.mpr hj)
theorem am_k94_0 : ∀ j, j < 0 → am_kb 94 j = true := lt_0
theorem am_k94_4 : ∀ j, j < 4 → am_kb 94 j = true := fun j hj => (Nat.lt_or_ge j 0).elim (am_k94_0 j) fun h => (show 0 + (j - 0) = j by omega) ▸ (List.all_eq_true.mp (by decide +kernel : (List.range 4).all (fun j => am_kb 94 (0 + j)) = true)) (j - 0) (List.mem_range.mpr (by omega))
theorem am_k94_8 : ∀ j, j < 8 → am_kb 94 j = true := fun j hj => (Nat.lt_or_ge j 4).elim (am_k94_4 j) fun h => (show 4 + (j - 4) = j by omega) ▸ (List.all_eq_true.mp (by decide +kernel : (List.range 4).all (fun j => am_kb 94 (4 + j)) = true)) (j - 4) (List.mem_range.mpr (by omega))
theorem am_k94_11 : ∀ j, j < 11 → am_kb 94 j = true := fun j hj => (Nat.lt_or_ge j 8).elim (am_k94_8 j) fun h => (show 8 + (j - 8) = j by omega) ▸ (List.all_eq_true.mp (by decide +kernel : (List.range 3).all (fun j => am_kb 94 (8 + j)) = true)) (j - 8) (List.mem_range.mpr (by omega))
theorem am_k94 : am_kp 94 := fun j hj => am_k94_11 j hj
theorem am_k95 : am_kp 95 := fun j hj => (List.all_eq_true.mp (by decide +kernel : (List.range 1).all (am_kb 95) = true)) j (List.mem_range.mpr hj)
theorem am_k96 : am_kp 96 := fun j hj => (List.all_eq_true.mp (by decide +kernel : (List.range 4).all (am_kb 96) = true)) j (List.mem_range.mpr hj)
theorem am_k97 : am_kp 97 := fun j hj => (List.all_eq_true.mp (by decide +kernel : (List.range 1).all (am_kb 97) = true)) j (List.mem_range.mpr hj)
theorem am_k98 : am_kp 98 := fun j hj => (List.all_eq_true.mp (by decide +kernel : (List.range 1).all (am_kb 98) = true)) j (List.mem_range.mpr hj)
theorem am_k99_0 : ∀ j, j < 0 → am_kb 99 j = true := lt_0
theorem am_k99_4 : ∀ j, j < 4 → am_kb 99 j = true := fun j hj => (Nat.lt_or_ge j 0).elim (am_k99_0 j) fun h => (show 0 + (j - 0) = j by omega) ▸ (List.all_eq_true.mp (by decide +kernel : (List.range 4).all (fun j => am_kb 99 (0 + j)) = true)) (j - 0) (List.mem_range.mpr (by omega))
theorem am_k99_5 : ∀ j, j < 5 → am_kb 99 j = true := fun j hj => (Nat.lt_or_ge j 4).elim (am_k99_4 j) fun h => (show 4 + (j - 4) = j by omega) ▸ (List.all_eq_true.mp (by decide +kernel : (List.range 1).all (fun j => am_kb 99 (4 + j)) = true)) (j - 4) (List.mem_range.mpr (by omega))
theorem am_k99 : am_kp 99 := fun j hj => am_k99_5 j hj
theorem am_k100 : am_kp 100 := fun j hj => (List.all_eq_true.mp (by decide +kernel : (List.range 1).all (am_kb 100) = true)) j (List.mem_range.mpr hj)
theorem am_k101 : am_kp 101 := fun j hj => (List.all_eq_true.mp (by decide +kernel : (List.range 1).all (am_kb 101) = true)) j (List.mem_range.mpr hj)
theorem am_k102 : am_kp 102 := fun j hj => (List.all_eq_true.mp (by decide +kernel : (List.range 2).all (am_kb 102) = true)) j (List.mem_range.mpr hj)
theorem am_k103 : am_kp 103 := fun j hj => (List.all_eq_true.mp (by decide +kernel : (List.range 1).all (am_kb 103) = true)) j (List.mem_range.mpr hj)
theorem am_k104 : am_kp 104 := fun j hj => (List.all_eq_true.mp (by decide +kernel : (List.range 2).all (am_kb 104) = true)) j (List.mem_range.mpr hj)
theorem am_k105 : am_kp 105 := fun j hj => (List.all_eq_true.mp (by decide +kernel : (List.range 2).all (am_kb 105) = true)) j (List.mem_range.mpr hj)
theorem am_k106 : am_kp 106 := fun j hj => (List.all_eq_true.mp (by decide +kernel : (List.range 3).all (am_kb 106) = true)) j (List.mem_range.mpr hj)
theorem am_k107 : am_kp 107 := fun j hj => (List.all_eq_true.mp (by decide +kernel : (List.range 3).all (am_kb 107) = true)) j (List.mem_range.mpr hj)
theorem am_k108 : am_kp 108 := fun j hj => (List.all_eq_true.mp (by decide +kernel : (List.range 1).all (am_kb 108) = true)) j (List.mem_range.mpr hj)
theorem am_k109 : am_kp 109 := fun j hj => (List.all_eq_true.mp (by decide +kernel : (List.range 4).all (am_kb 109) = true)) j (List.mem_range.mpr hj)
theorem am_k110 : am_kp 110 := fun j hj => (List.all_eq_true.mp (by decide +kernel : (List.range 1).all (am_kb 110) = true)) j (List.mem_range.mpr hj)
theorem am_k111_0 : ∀ j, j < 0 → am_kb 111 j = true := lt_0
theorem am_k111_4 : ∀ j, j < 4 → am_kb 111 j = true := fun j hj => (Nat.lt_or_ge j 0).elim (am_k111_0 j) fun h => (show 0 + (j - 0) = j by omega) ▸ (List.all_eq_true.mp (by decide +kernel : (List.range 4).all (fun j => am_kb 111 (0 + j)) = true)) (j - 0) (List.mem_range.mpr (by omega))
theorem am_k111_7 : ∀ j, j < 7 → am_kb 111 j = true := fun j hj => (Nat.lt_or_ge j 4).elim (am_k111_4 j) fun h => (show 4 + (j - 4) = j by omega) ▸ (List.all_eq_true.mp (by decide +kernel : (List.range 3).all (fun j => am_kb 111 (4 + j)) = true)) (j - 4) (List.mem_range.mpr (by omega))
theorem am_k111 : am_kp 111 := fun j hj => am_k111_7 j hj
theorem am_k112_0 : ∀ j, j < 0 → am_kb 112 j = true := lt_0
theorem am_k112_4 : ∀ j, j < 4 → am_kb 112 j = true := fun j hj => (Nat.lt_or_ge j 0).elim (am_k112_0 j) fun h => (show 0 + (j - 0) = j by omega) ▸ (List.all_eq_true.mp (by decide +kernel : (List.range 4).all (fun j => am_kb 112 (0 + j)) = true)) (j - 0) (List.mem_range.mpr (by omega))
theorem am_k112_6 : ∀ j, j < 6 → am_kb 112 j = true := fun j hj => (Nat.lt_or_ge j 4).elim (am_k112_4 j) fun h => (show 4 + (j - 4) = j by omega) ▸ (List.all_eq_true.mp (by decide +kernel : (List.range 2).all (fun j => am_kb 112 (4 + j)) = true)) (j - 4) (List.mem_range.mpr (by omega))
theorem am_k112 : am_kp 112 := fun j hj => am_k112_6 j hj
theorem am_k113 : am_kp 113 := fun j hj => (List.all_eq_true.mp (by decide +kernel : (List.range 3).all (am_kb 113) = true)) j (List.mem_range.mpr hj)
theorem am_k114_0 : ∀ j, j < 0 → am_kb 114 j = true := lt_0
theorem am_k114_4 : ∀ j, j < 4 → am_kb 114 j = true := fun j hj => (Nat.lt_or_ge j 0).elim (am_k114_0 j) fun h => (show 0 + (j - 0) = j by omega) ▸ (List.all_eq_true.mp (by decide +kernel : (List.range 4).all (fun j => am_kb 114 (0 + j)) = true)) (j - 0) (List.mem_range.mpr (by omega))
theorem am_k114_8 : ∀ j, j < 8 → am_kb 114 j = true := fun j hj => (Nat.lt_or_ge j 4).elim (am_k114_4 j) fun h => (show 4 + (j - 4) = j by omega) ▸ (List.all_eq_true.mp (by decide +kernel : (List.range 4).all (fun j => am_kb 114 (4 + j)) = true)) (j - 4) (List.mem_range.mpr (by omega))
theorem am_k114_10 : ∀ j, j < 10 → am_kb 114 j = true := fun j hj => (Nat.lt_or_ge j 8).elim (am_k114_8 j) fun h => (show 8 + (j - 8) = j by omega) ▸ (List.all_eq_true.mp (by decide +kernel : (List.range 2).all (fun j => am_kb 114 (8 + j)) = true)) (j - 8) (List.mem_range.mpr (by omega))
theorem am_k114 : am_kp 114 := fun j hj => am_k114_10 j hj
end
section
theorem am_k115 : am_kp 115 := fun j hj => (List.all_eq_true.mp (by decide +kernel : (List.range 2).all (am_kb 115) = true)) j (List.mem_range.mpr hj)
theorem am_k116_0 : ∀ j, j < 0 → am_kb 116 j = true := lt_0
theorem am_k116_4 : ∀ j, j < 4 → am_kb 116 j = true := fun j hj => (Nat.lt_or_ge j 0).elim (am_k116_0 j) fun h => (show 0 + (j - 0) = j by omega) ▸ (List.all_eq_true.mp (by decide +kernel : (List.range 4).all (fun j => am_kb 116 (0 + j)) = true)) (j - 0) (List.mem_range.mpr (by omega))
theorem am_k116_5 : ∀ j, j < 5 → am_kb 116 j = true := fun j hj => (Nat.lt_or_ge j 4).elim (am_k116_4 j) fun h => (show 4 + (j - 4) = j by omega) ▸ (List.all_eq_true.mp (by decide +kernel : (List.range 1).all (fun j => am_kb 116 (4 + j)) = true)) (j - 4) (List.mem_range.mpr (by omega))
theorem am_k116 : am_kp 116 := fun j hj => am_k116_5 j hj
theorem am_k117_0 : ∀ j, j < 0 → am_kb 117 j = true := lt_0
theorem am_k117_4 : ∀ j, j < 4 → am_kb 117 j = true := fun j hj => (Nat.lt_or_ge j 0).elim (am_k117_0 j) fun h => (show 0 + (j - 0) = j by omega) ▸ (List.all_eq_true.mp (by decide +kernel : (List.range 4).all (fun j => am_kb 117 (0 + j)) = true)) (j - 0) (List.mem_range.mpr (by omega))
theorem am_k117_6 : ∀ j, j < 6 → am_kb 117 j = true := fun j hj => (Nat.lt_or_ge j 4).elim (am_k117_4 j) fun h => (show 4 + (j - 4) = j by omega) ▸ (List.all_eq_true.mp (by decide +kernel : (List.range 2).all (fun j => am_kb 117 (4 + j)) = true)) (j - 4) (List.mem_range.mpr (by omega))
theorem am_k117 : am_kp 117 := fun j hj => am_k117_6 j hj
theorem am_k118 : am_kp 118 := fun j hj => (List.all_eq_true.mp (by decide +kernel : (List.range 2).all (am_kb 118) = true)) j (List.mem_range.mpr hj)
theorem am_k119 : am_kp 119 := fun j hj => (List.all_eq_true.mp (by decide +kernel : (List.range 2).all (am_kb 119) = true)) j (List.mem_range.mpr hj)
theorem am_k120 : am_kp 120 := fun j hj => (List.all_eq_true.mp (by decide +kernel : (List.range 2).all (am_kb 120) = true)) j (List.mem_range.mpr hj)
theorem am_k121_0 : ∀ j, j < 0 → am_kb 121 j = true := lt_0
theorem am_k121_4 : ∀ j, j < 4 → am_kb 121 j = true := fun j hj => (Nat.lt_or_ge j 0).elim (am_k121_0 j) fun h => (show 0 + (j - 0) = j by omega) ▸ (List.all_eq_true.mp (by decide +kernel : (List.range 4).all (fun j => am_kb 121 (0 + j)) = true)) (j - 0) (List.mem_range.mpr (by omega))
theorem am_k121_8 : ∀ j, j < 8 → am_kb 121 j = true := fun j hj => (Nat.lt_or_ge j 4).elim (am_k121_4 j) fun h => (show 4 + (j - 4) = j by omega) ▸ (List.all_eq_true.mp (by decide +kernel : (List.range 4).all (fun j => am_kb 121 (4 + j)) = true)) (j - 4) (List.mem_range.mpr (by omega))
theorem am_k121 : am_kp 121 := fun j hj => am_k121_8 j hj
theorem am_k122 : am_kp 122 := fun j hj => (List.all_eq_true.mp (by decide +kernel : (List.range 4).all (am_kb 122) = true)) j (List.mem_range.mpr hj)
theorem am_k123_0 : ∀ j, j < 0 → am_kb 123 j = true := lt_0
theorem am_k123_4 : ∀ j, j < 4 → am_kb 123 j = true := fun j hj => (Nat.lt_or_ge j 0).elim (am_k123_0 j) fun h => (show 0 + (j - 0) = j by omega) ▸ (List.all_eq_true.mp (by decide +kernel : (List.range 4).all (fun j => am_kb 123 (0 + j)) = true)) (j - 0) (List.mem_range.mpr (by omega))
theorem am_k123_5 : ∀ j, j < 5 → am_kb 123 j = true := fun j hj => (Nat.lt_or_ge j 4).elim (am_k123_4 j) fun h => (show 4 + (j - 4) = j by omega) ▸ (List.all_eq_true.mp (by decide +kernel : (List.range 1).all (fun j => am_kb 123 (4 + j)) = true)) (j - 4) (List.mem_range.mpr (by omega))
theorem am_k123 : am_kp 123 := fun j hj => am_k123_5 j hj
theorem am_k124 : am_kp 124 := fun j hj => (List.all_eq_true.mp (by decide +kernel : (List.range 4).all (am_kb 124) = true)) j (List.mem_range.mpr hj)
theorem am_k125 : am_kp 125 := fun j hj => (List.all_eq_true.mp (by decide +kernel : (List.range 3).all (am_kb 125) = true)) j (List.mem_range.mpr hj)
theorem am_k126_0 : ∀ j, j < 0 → am_kb 126 j = true := lt_0
theorem am_k126_4 : ∀ j, j < 4 → am_kb 126 j = true := fun j hj => (Nat.lt_or_ge j 0).elim (am_k126_0 j) fun h => (show 0 + (j - 0) = j by omega) ▸ (List.all_eq_true.mp (by decide +kernel : (List.range 4).all (fun j => am_kb 126 (0 + j)) = true)) (j - 0) (List.mem_range.mpr (by omega))
theorem am_k126_8 : ∀ j, j < 8 → am_kb 126 j = true := fun j hj => (Nat.lt_or_ge j 4).elim (am_k126_4 j) fun h => (show 4 + (j - 4) = j by omega) ▸ (List.all_eq_true.mp (by decide +kernel : (List.range 4).all (fun j => am_kb 126 (4 + j)) = true)) (j - 4) (List.mem_range.mpr (by omega))
theorem am_k126 : am_kp 126 := fun j hj => am_k126_8 j hj
theorem am_k127_0 : ∀ j, j < 0 → am_kb 127 j = true := lt_0
theorem am_k127_4 : ∀ j, j < 4 → am_kb 127 j = true := fun j hj => (Nat.lt_or_ge j 0).elim (am_k127_0 j) fun h => (show 0 + (j - 0) = j by omega) ▸ (List.all_eq_true.mp (by decide +kernel : (List.range 4).all (fun j => am_kb 127 (0 + j)) = true)) (j - 0) (List.mem_range.mpr (by omega))
theorem am_k127_8 : ∀ j, j < 8 → am_kb 127 j = true := fun j hj => (Nat.lt_or_ge j 4).elim (am_k127_4 j) fun h => (show 4 + (j - 4) = j by omega) ▸ (List.all_eq_true.mp (by decide +kernel : (List.range 4).all (fun j => am_kb 127 (4 + j)) = true)) (j - 4) (List.mem_range.mpr (by omega))
theorem am_k127_9 : ∀ j, j < 9 → am_kb 127 j = true := fun j hj => (Nat.lt_or_ge j 8).elim (am_k127_8 j) fun h => (show 8 + (j - 8) = j by omega) ▸ (List.all_eq_true.mp (by decide +kernel : (List.range 1).all (fun j => am_kb 127 (8 + j)) = true)) (j - 8) (List.mem_range.mpr (by omega))
theorem am_k127 : am_kp 127 := fun j hj => am_k127_9 j hj
theorem am_k128_0 : ∀ j, j < 0 → am_kb 128 j = true := lt_0
theorem am_k128_4 : ∀ j, j < 4 → am_kb 128 j = true := fun j hj => (Nat.lt_or_ge j 0).elim (am_k128_0 j) fun h => (show 0 + (j - 0) = j by omega) ▸ (List.all_eq_true.mp (by decide +kernel : (List.range 4).all (fun j => am_kb 128 (0 + j)) = true)) (j - 0) (List.mem_range.mpr (by omega))
theorem am_k128_5 : ∀ j, j < 5 → am_kb 128 j = true := fun j hj => (Nat.lt_or_ge j 4).elim (am_k128_4 j) fun h => (show 4 + (j - 4) = j by omega) ▸ (List.all_eq_true.mp (by decide +kernel : (List.range 1).all (fun j => am_kb 128 (4 + j)) = true)) (j - 4) (List.mem_range.mpr (by omega))
theorem am_k128 : am_kp 128 := fun j hj => am_k128_5 j hj
theorem am_k129_0 : ∀ j, j < 0 → am_kb 129 j = true := lt_0
theorem am_k129_4 : ∀ j, j < 4 → am_kb 129 j = true := fun j hj => (Nat.lt_or_ge j 0).elim (am_k129_0 j) fun h => (show 0 + (j - 0) = j by omega) ▸ (List.all_eq_true.mp (by decide +kernel : (List.range 4).all (fun j => am_kb 129 (0 + j)) = true)) (j - 0) (List.mem_range.mpr (by omega))
theorem am_k129_7 : ∀ j, j < 7 → am_kb 129 j = true := fun j hj => (Nat.lt_or_ge j 4).elim (am_k129_4 j) fun h => (show 4 + (j - 4) = j by omega) ▸ (List.all_eq_true.mp (by decide +kernel : (List.range 3).all (fun j => am_kb 129 (4 + j)) = true)) (j - 4) (List.mem_range.mpr (by omega))
theorem am_k129 : am_kp 129 := fun j hj => am_k129_7 j hj
theorem am_k130 : am_kp 130 := fun j hj => (List.all_eq_true.mp (by decide +kernel : (List.range 1).all (am_kb 130) = true)) j (List.mem_range.mpr hj)
theorem am_k131 : am_kp 131 := fun j hj => (List.all_eq_true.mp (by decide +kernel : (List.range 1).all (am_kb 131) = true)) j (List.mem_range.mpr hj)
theorem am_k132_0 : ∀ j, j < 0 → am_kb 132 j = true := lt_0
theorem am_k132_4 : ∀ j, j < 4 → am_kb 132 j = true := fun j hj => (Nat.lt_or_ge j 0).elim (am_k132_0 j) fun h => (show 0 + (j - 0) = j by omega) ▸ (List.all_eq_true.mp (by decide +kernel : (List.range 4).all (fun j => am_kb 132 (0 + j)) = true)) (j - 0) (List.mem_range.mpr (by omega))
theorem am_k132_8 : ∀ j, j < 8 → am_kb 132 j = true := fun j hj => (Nat.lt_or_ge j 4).elim (am_k132_4 j) fun h => (show 4 + (j - 4) = j by omega) ▸ (List.all_eq_true.mp (by decide +kernel : (List.range 4).all (fun j => am_kb 132 (4 + j)) = true)) (j - 4) (List.mem_range.mpr (by omega))
theorem am_k132_9 : ∀ j, j < 9 → am_kb 132 j = true := fun j hj => (Nat.lt_or_ge j 8).elim (am_k132_8 j) fun h => (show 8 + (j - 8) = j by omega) ▸ (List.all_eq_true.mp (by decide +kernel : (List.range 1).all (fun j => am_kb 132 (8 + j)) = true)) (j - 8) (List.mem_range.mpr (by omega))
theorem am_k132 : am_kp 132 := fun j hj => am_k132_9 j hj
theorem am_k133 : am_kp 133 := fun j hj => (List.all_eq_true.mp (by decide +kernel : (List.range 1).all (am_kb 133) = true)) j (List.mem_range.mpr hj)
theorem am_k134 : am_kp 134 := fun j hj => (List.all_eq_true.mp (by decide +kernel : (List.range 4).all (am_kb 134) = true)) j (List.mem_range.mpr hj)
theorem am_k135 : am_kp 135 := fun j hj => (List.all_eq_true.mp (by decide +kernel : (List.range 1).all (am_kb 135) = true)) j (List.mem_range.mpr hj)
theorem am_k136 : am_kp 136 := fun j hj => (List.all_eq_true.mp (by decide +kernel : (List.range 1).all (am_kb 136) = true)) j (List.mem_range.mpr hj)
theorem am_k137_0 : ∀ j, j < 0 → am_kb 137 j = true := lt_0
theorem am_k137_4 : ∀ j, j < 4 → am_kb 137 j = true := fun j hj => (Nat.lt_or_ge j 0).elim (am_k137_0 j) fun h => (show 0 + (j - 0) = j by omega) ▸ (List.all_eq_true.mp (by decide +kernel : (List.range 4).all (fun j => am_kb 137 (0 + j)) = true)) (j - 0) (List.mem_range.mpr (by omega))
theorem am_k137_8 : ∀ j, j < 8 → am_kb 137 j = true := fun j hj => (Nat.lt_or_ge j 4).elim (am_k137_4 j) fun h => (show 4 + (j - 4) = j by omega) ▸ (List.all_eq_true.mp (by decide +kernel : (List.range 4).all (fun j => am_kb 137 (4 + j)) = true)) (j - 4) (List.mem_range.mpr (by omega))
theorem am_k137_12 : ∀ j, j < 12 → am_kb 137 j = true := fun j hj => (Nat.lt_or_ge j 8).elim (am_k137_8 j) fun h => (show 8 + (j - 8) = j by omega) ▸ (List.all_eq_true.mp (by decide +kernel : (List.range 4).all (fun j => am_kb 137 (8 + j)) = true)) (j - 8) (List.mem_range.mpr (by omega))
theorem am_k137_15 : ∀ j, j < 15 → am_kb 137 j = true := fun j hj => (Nat.lt_or_ge j 12).elim (am_k137_12 j) fun h => (show 12 + (j - 12) = j by omega) ▸ (List.all_eq_true.mp (by decide +kernel : (List.range 3).all (fun j => am_kb 137 (12 + j)) = true)) (j - 12) (List.mem_range.mpr (by omega))
theorem am_k137 : am_kp 137 := fun j hj => am_k137_15 j hj
theorem am_k138_0 : ∀ j, j < 0 → am_kb 138 j = true := lt_0
theorem am_k138_4 : ∀ j, j < 4 → am_kb 138 j = true := fun j hj => (Nat.lt_or_ge j 0).elim (am_k138_0 j) fun h => (show 0 + (j - 0) = j by omega) ▸ (List.all_eq_true.mp (by decide +kernel : (List.range 4).all (fun j => am_kb 138 (0 + j)) = true)) (j - 0) (List.mem_range.mpr (by omega))
theorem am_k138_7 : ∀ j, j < 7 → am_kb 138 j = true := fun j hj => (Nat.lt_or_ge j 4).elim (am_k138_4 j) fun h => (show 4 + (j - 4) = j by omega) ▸ (List.all_eq_true.mp (by decide +kernel : (List.range 3).all (fun j => am_kb 138 (4 + j)) = true)) (j - 4) (List.mem_range.mpr (by omega))
theorem am_k138 : am_kp 138 := fun j hj => am_k138_7 j hj
theorem am_k139 : am_kp 139 := fun j hj => (List.all_eq_true.mp (by decide +kernel : (List.range 3).all (am_kb 139) = true)) j (List.mem_range.mpr hj)
theorem am_k140 : am_kp 140 := fun j hj => (List.all_eq_true.mp (by decide +kernel : (List.range 1).all (am_kb 140) = true)) j (List.mem_range.mpr hj)
theorem am_k141_0 : ∀ j, j < 0 → am_kb 141 j = true := lt_0
theorem am_k141_4 : ∀ j, j < 4 → am_kb 141 j = true := fun j hj => (Nat.lt_or_ge j 0).elim (am_k141_0 j) fun h => (show 0 + (j - 0) = j by omega) ▸ (List.all_eq_true.mp (by decide +kernel : (List.range 4).all (fun j => am_kb 141 (0 + j)) = true)) (j - 0) (List.mem_range.mpr (by omega))
theorem am_k141_6 : ∀ j, j < 6 → am_kb 141 j = true := fun j hj => (Nat.lt_or_ge j 4).elim (am_k141_4 j) fun h => (show 4 + (j - 4) = j by omega) ▸ (List.all_eq_true.mp (by decide +kernel : (List.range 2).all (fun j => am_kb 141 (4 + j)) = true)) (j - 4) (List.mem_range.mpr (by omega))
theorem am_k141 : am_kp 141 := fun j hj => am_k141_6 j hj
theorem am_k142 : am_kp 142 := fun j hj => (List.all_eq_true.mp (by decide +kernel : (List.range 2).all (am_kb 142) = true)) j (List.mem_range.mpr hj)
theorem am_k143 : am_kp 143 := fun j hj => (List.all_eq_true.mp (by decide +kernel : (List.range 4).all (am_kb 143) = true)) j (List.mem_range.mpr hj)
theorem am_k144 : am_kp 144 := fun j hj => (List.all_eq_true.mp (by decide +kernel : (List.range 3).all (am_kb 144) = true)) j (List.mem_range.mpr hj)
theorem am_k145_0 : ∀ j, j < 0 → am_kb 145 j = true := lt_0
theorem am_k145_4 : ∀ j, j < 4 → am_kb 145 j = true := fun j hj => (Nat.lt_or_ge j 0).elim (am_k145_0 j) fun h => (show 0 + (j - 0) = j by omega) ▸ (List.all_eq_true.mp (by decide +kernel : (List.range 4).all (fun j => am_kb 145 (0 + j)) = true)) (j - 0) (List.mem_range.mpr (by omega))
theorem am_k145_7 : ∀ j, j < 7 → am_kb 145 j = true := fun j hj => (Nat.lt_or_ge j 4).elim (am_k145_4 j) fun h => (show 4 + (j - 4) = j by omega) ▸ (List.all_eq_true.mp (by decide +kernel : (List.range 3).all (fun j => am_kb 145 (4 + j)) = true)) (j - 4) (List.mem_range.mpr (by omega))
theorem am_k145 : am_kp 145 := fun j hj => am_k145_7 j hj
theorem am_k146_0 : ∀ j, j < 0 → am_kb 146 j = true := lt_0
theorem am_k146_4 : ∀ j, j < 4 → am_kb 146 j = true := fun j hj => (Nat.lt_or_ge j 0).elim (am_k146_0 j) fun h => (show 0 + (j - 0) = j by omega) ▸ (List.all_eq_true.mp (by decide +kernel : (List.range 4).all (fun j => am_kb 146 (0 + j)) = true)) (j - 0) (List.mem_range.mpr (by omega))
theorem am_k146_8 : ∀ j, j < 8 → am_kb 146 j = true := fun j hj => (Nat.lt_or_ge j 4).elim (am_k146_4 j) fun h => (show 4 + (j - 4) = j by omega) ▸ (List.all_eq_true.mp (by decide +kernel : (List.range 4).all (fun j => am_kb 146 (4 + j)) = true)) (j - 4) (List.mem_range.mpr (by omega))
theorem am_k146_9 : ∀ j, j < 9 → am_kb 146 j = true := fun j hj => (Nat.lt_or_ge j 8).elim (am_k146_8 j) fun h => (show 8 + (j - 8) = j by omega) ▸ (List.all_eq_true.mp (by decide +kernel : (List.range 1).all (fun j => am_kb 146 (8 + j)) = true)) (j - 8) (List.mem_range.mpr (by omega))
theorem am_k146 : am_kp 146 := fun j hj => am_k146_9 j hj
end
section
theorem am_k147_0 : ∀ j, j < 0 → am_kb 147 j = true := lt_0
theorem am_k147_4 : ∀ j, j < 4 → am_kb 147 j = true := fun j hj => (Nat.lt_or_ge j 0).elim (am_k147_0 j) fun h => (show 0 + (j - 0) = j by omega) ▸ (List.all_eq_true.mp (by decide +kernel : (List.range 4).all (fun j => am_kb 147 (0 + j)) = true)) (j - 0) (List.mem_range.mpr (by omega))
theorem am_k147_8 : ∀ j, j < 8 → am_kb 147 j = true := fun j hj => (Nat.lt_or_ge j 4).elim (am_k147_4 j) fun h => (show 4 + (j - 4) = j by omega) ▸ (List.all_eq_true.mp (by decide +kernel : (List.range 4).all (fun j => am_kb 147 (4 + j)) = true)) (j - 4) (List.mem_range.mpr (by omega))
theorem am_k147 : am_kp 147 := fun j hj => am_k147_8 j hj
theorem am_k148_0 : ∀ j, j < 0 → am_kb 148 j = true := lt_0
theorem am_k148_4 : ∀ j, j < 4 → am_kb 148 j = true := fun j hj => (Nat.lt_or_ge j 0).elim (am_k148_0 j) fun h => (show 0 + (j - 0) = j by omega) ▸ (List.all_eq_true.mp (by decide +kernel : (List.range 4).all (fun j => am_kb 148 (0 + j)) = true)) (j - 0) (List.mem_range.mpr (by omega))
theorem am_k148_8 : ∀ j, j < 8 → am_kb 148 j = true := fun j hj => (Nat.lt_or_ge j 4).elim (am_k148_4 j) fun h => (show 4 + (j - 4) = j by omega) ▸ (List.all_eq_true.mp (by decide +kernel : (List.range 4).all (fun j => am_kb 148 (4 + j)) = true)) (j - 4) (List.mem_range.mpr (by omega))
theorem am_k148_12 : ∀ j, j < 12 → am_kb 148 j = true := fun j hj => (Nat.lt_or_ge j 8).elim (am_k148_8 j) fun h => (show 8 + (j - 8) = j by omega) ▸ (List.all_eq_true.mp (by decide +kernel : (List.range 4).all (fun j => am_kb 148 (8 + j)) = true)) (j - 8) (List.mem_range.mpr (by omega))
theorem am_k148_16 : ∀ j, j < 16 → am_kb 148 j = true := fun j hj => (Nat.lt_or_ge j 12).elim (am_k148_12 j) fun h => (show 12 + (j - 12) = j by omega) ▸ (List.all_eq_true.mp (by decide +kernel : (List.range 4).all (fun j => am_kb 148 (12 + j)) = true)) (j - 12) (List.mem_range.mpr (by omega))
theorem am_k148_17 : ∀ j, j < 17 → am_kb 148 j = true := fun j hj => (Nat.lt_or_ge j 16).elim (am_k148_16 j) fun h => (show 16 + (j - 16) = j by omega) ▸ (List.all_eq_true.mp (by decide +kernel : (List.range 1).all (fun j => am_kb 148 (16 + j)) = true)) (j - 16) (List.mem_range.mpr (by omega))
theorem am_k148 : am_kp 148 := fun j hj => am_k148_17 j hj
theorem am_k149 : am_kp 149 := fun j hj => (List.all_eq_true.mp (by decide +kernel : (List.range 4).all (am_kb 149) = true)) j (List.mem_range.mpr hj)
theorem am_k150 : am_kp 150 := fun j hj => (List.all_eq_true.mp (by decide +kernel : (List.range 2).all (am_kb 150) = true)) j (List.mem_range.mpr hj)
theorem am_k151 : am_kp 151 := fun j hj => (List.all_eq_true.mp (by decide +kernel : (List.range 3).all (am_kb 151) = true)) j (List.mem_range.mpr hj)
theorem am_k152 : am_kp 152 := fun j hj => (List.all_eq_true.mp (by decide +kernel : (List.range 1).all (am_kb 152) = true)) j (List.mem_range.mpr hj)
theorem am_k153 : am_kp 153 := fun j hj => (List.all_eq_true.mp (by decide +kernel : (List.range 2).all (am_kb 153) = true)) j (List.mem_range.mpr hj)
theorem am_k154 : am_kp 154 := fun j hj => (List.all_eq_true.mp (by decide +kernel : (List.range 2).all (am_kb 154) = true)) j (List.mem_range.mpr hj)
theorem am_k155_0 : ∀ j, j < 0 → am_kb 155 j = true := lt_0
theorem am_k155_4 : ∀ j, j < 4 → am_kb 155 j = true := fun j hj => (Nat.lt_or_ge j 0).elim (am_k155_0 j) fun h => (show 0 + (j - 0) = j by omega) ▸ (List.all_eq_true.mp (by decide +kernel : (List.range 4).all (fun j => am_kb 155 (0 + j)) = true)) (j - 0) (List.mem_range.mpr (by omega))
theorem am_k155_5 : ∀ j, j < 5 → am_kb 155 j = true := fun j hj => (Nat.lt_or_ge j 4).elim (am_k155_4 j) fun h => (show 4 + (j - 4) = j by omega) ▸ (List.all_eq_true.mp (by decide +kernel : (List.range 1).all (fun j => am_kb 155 (4 + j)) = true)) (j - 4) (List.mem_range.mpr (by omega))
theorem am_k155 : am_kp 155 := fun j hj => am_k155_5 j hj
theorem am_k156 : am_kp 156 := fun j hj => (List.all_eq_true.mp (by decide +kernel : (List.range 2).all (am_kb 156) = true)) j (List.mem_range.mpr hj)
theorem am_k157 : am_kp 157 := fun j hj => (List.all_eq_true.mp (by decide +kernel : (List.range 3).all (am_kb 157) = true)) j (List.mem_range.mpr hj)
theorem am_k158 : am_kp 158 := fun j hj => (List.all_eq_true.mp (by decide +kernel : (List.range 1).all (am_kb 158) = true)) j (List.mem_range.mpr hj)
theorem am_k159 : am_kp 159 := fun j hj => (List.all_eq_true.mp (by decide +kernel : (List.range 1).all (am_kb 159) = true)) j (List.mem_range.mpr hj)
theorem am_k160 : am_kp 160 := fun j hj => (List.all_eq_true.mp (by decide +kernel : (List.range 1).all (am_kb 160) = true)) j (List.mem_range.mpr hj)
theorem am_k161 : am_kp 161 := fun j hj => (List.all_eq_true.mp (by decide +kernel : (List.range 1).all (am_kb 161) = true)) j (List.mem_range.mpr hj)
theorem am_k162 : am_kp 162 := fun j hj => (List.all_eq_true.mp (by decide +kernel : (List.range 1).all (am_kb 162) = true)) j (List.mem_range.mpr hj)
theorem am_k163 : am_kp 163 := fun j hj => (List.all_eq_true.mp (by decide +kernel : (List.range 1).all (am_kb 163) = true)) j (List.mem_range.mpr hj)
theorem am_k164 : am_kp 164 := fun j hj => (List.all_eq_true.mp (by decide +kernel : (List.range 1).all (am_kb 164) = true)) j (List.mem_range.mpr hj)
theorem am_k165 : am_kp 165 := fun j hj => (List.all_eq_true.mp (by decide +kernel : (List.range 1).all (am_kb 165) = true)) j (List.mem_range.mpr hj)
theorem am_k166 : am_kp 166 := fun j hj => (List.all_eq_true.mp (by decide +kernel : (List.range 1).all (am_kb 166) = true)) j (List.mem_range.mpr hj)
theorem am_k167 : am_kp 167 := fun j hj => (List.all_eq_true.mp (by decide +kernel : (List.range 1).all (am_kb 167) = true)) j (List.mem_range.mpr hj)
theorem am_k168 : am_kp 168 := fun j hj => (List.all_eq_true.mp (by decide +kernel : (List.range 2).all (am_kb 168) = true)) j (List.mem_range.mpr hj)
theorem am_k169 : am_kp 169 := fun j hj => (List.all_eq_true.mp (by decide +kernel : (List.range 1).all (am_kb 169) = true)) j (List.mem_range.mpr hj)
theorem am_k170 : am_kp 170 := fun j hj => (List.all_eq_true.mp (by decide +kernel : (List.range 1).all (am_kb 170) = true)) j (List.mem_range.mpr hj)
theorem am_k171 : am_kp 171 := fun j hj => (List.all_eq_true.mp (by decide +kernel : (List.range 1).all (am_kb 171) = true)) j (List.mem_range.mpr hj)
theorem am_k172 : am_kp 172 := fun j hj => (List.all_eq_true.mp (by decide +kernel : (List.range 1).all (am_kb 172) = true)) j (List.mem_range.mpr hj)
theorem am_k173 : am_kp 173 := fun j hj => (List.all_eq_true.mp (by decide +kernel : (List.range 1).all (am_kb 173) = true)) j (List.mem_range.mpr hj)
theorem am_k174 : am_kp 174 := fun j hj => (List.all_eq_true.mp (by decide +kernel : (List.range 1).all (am_kb 174) = true)) j (List.mem_range.mpr hj)
theorem am_k175 : am_kp 175 := fun j hj => (List.all_eq_true.mp (by decide +kernel : (List.range 2).all (am_kb 175) = true)) j (List.mem_range.mpr hj)
theorem am_k176 : am_kp 176 := fun j hj => (List.all_eq_true.mp (by decide +kernel : (List.range 2).all (am_kb 176) = true)) j (List.mem_range.mpr hj)
theorem am_k177 : am_kp 177 := fun j hj => (List.all_eq_true.mp (by decide +kernel : (List.range 1).all (am_kb 177) = true)) j (List.mem_range.mpr hj)
theorem am_k178 : am_kp 178 := fun j hj => (List.all_eq_true.mp (by decide +kernel : (List.range 1).all (am_kb 178) = true)) j (List.mem_range.mpr hj)
theorem am_k179_0 : ∀ j, j < 0 → am_kb 179 j = true := lt_0
theorem am_k179_4 : ∀ j, j < 4 → am_kb 179 j = true := fun j hj => (Nat.lt_or_ge j 0).elim (am_k179_0 j) fun h => (show 0 + (j - 0) = j by omega) ▸ (List.all_eq_true.mp (by decide +kernel : (List.range 4).all (fun j => am_kb 179 (0 + j)) = true)) (j - 0) (List.mem_range.mpr (by omega))
theorem am_k179_8 : ∀ j, j < 8 → am_kb 179 j = true := fun j hj => (Nat.lt_or_ge j 4).elim (am_k179_4 j) fun h => (show 4 + (j - 4) = j by omega) ▸ (List.all_eq_true.mp (by decide +kernel : (List.range 4).all (fun j => am_kb 179 (4 + j)) = true)) (j - 4) (List.mem_range.mpr (by omega))
theorem am_k179_12 : ∀ j, j < 12 → am_kb 179 j = true := fun j hj => (Nat.lt_or_ge j 8).elim (am_k179_8 j) fun h => (show 8 + (j - 8) = j by omega) ▸ (List.all_eq_true.mp (by decide +kernel : (List.range 4).all (fun j => am_kb 179 (8 + j)) = true)) (j - 8) (List.mem_range.mpr (by omega))
theorem am_k179_16 : ∀ j, j < 16 → am_kb 179 j = true := fun j hj => (Nat.lt_or_ge j 12).elim (am_k179_12 j) fun h => (show 12 + (j - 12) = j by omega) ▸ (List.all_eq_true.mp (by decide +kernel : (List.range 4).all (fun j => am_kb 179 (12 + j)) = true)) (j - 12) (List.mem_range.mpr (by omega))
theorem am_k179_20 : ∀ j, j < 20 → am_kb 179 j = true := fun j hj => (Nat.lt_or_ge j 16).elim (am_k179_16 j) fun h => (show 16 + (j - 16) = j by omega) ▸ (List.all_eq_true.mp (by decide +kernel : (List.range 4).all (fun j => am_kb 179 (16 + j)) = true)) (j - 16) (List.mem_range.mpr (by omega))
theorem am_k179_24 : ∀ j, j < 24 → am_kb 179 j = true := fun j hj => (Nat.lt_or_ge j 20).elim (am_k179_20 j) fun h => (show 20 + (j - 20) = j by omega) ▸ (List.all_eq_true.mp (by decide +kernel : (List.range 4).all (fun j => am_kb 179 (20 + j)) = true)) (j - 20) (List.mem_range.mpr (by omega))
theorem am_k179_27 : ∀ j, j < 27 → am_kb 179 j = true := fun j hj => (Nat.lt_or_ge j 24).elim (am_k179_24 j) fun h => (show 24 + (j - 24) = j by omega) ▸ (List.all_eq_true.mp (by decide +kernel : (List.range 3).all (fun j => am_kb 179 (24 + j)) = true)) (j - 24) (List.mem_range.mpr (by omega))
theorem am_k179 : am_kp 179 := fun j hj => am_k179_27 j hj
theorem am_t0 : ∀ a, a < 0 → am_kp a := lt_0
theorem am_t1 : ∀ a, a < 1 → am_kp a := lt_s am_t0 am_k0
theorem am_t2 : ∀ a, a < 2 → am_kp a := lt_s am_t1 am_k1
theorem am_t3 : ∀ a, a < 3 → am_kp a := lt_s am_t2 am_k2
theorem am_t4 : ∀ a, a < 4 → am_kp a := lt_s am_t3 am_k3
theorem am_t5 : ∀ a, a < 5 → am_kp a := lt_s am_t4 am_k4
theorem am_t6 : ∀ a, a < 6 → am_kp a := lt_s am_t5 am_k5
theorem am_t7 : ∀ a, a < 7 → am_kp a := lt_s am_t6 am_k6
theorem am_t8 : ∀ a, a < 8 → am_kp a := lt_s am_t7 am_k7
theorem am_t9 : ∀ a, a < 9 → am_kp a := lt_s am_t8 am_k8
theorem am_t10 : ∀ a, a < 10 → am_kp a := lt_s am_t9 am_k9
theorem am_t11 : ∀ a, a < 11 → am_kp a := lt_s am_t10 am_k10
theorem am_t12 : ∀ a, a < 12 → am_kp a := lt_s am_t11 am_k11
theorem am_t13 : ∀ a, a < 13 → am_kp a := lt_s am_t12 am_k12
theorem am_t14 : ∀ a, a < 14 → am_kp a := lt_s am_t13 am_k13
theorem am_t15 : ∀ a, a < 15 → am_kp a := lt_s am_t14 am_k14
theorem am_t16 : ∀ a, a < 16 → am_kp a := lt_s am_t15 am_k15
theorem am_t17 : ∀ a, a < 17 → am_kp a := lt_s am_t16 am_k16
theorem am_t18 : ∀ a, a < 18 → am_kp a := lt_s am_t17 am_k17
theorem am_t19 : ∀ a, a < 19 → am_kp a := lt_s am_t18 am_k18
theorem am_t20 : ∀ a, a < 20 → am_kp a := lt_s am_t19 am_k19
theorem am_t21 : ∀ a, a < 21 → am_kp a := lt_s am_t20 am_k20
theorem am_t22 : ∀ a, a < 22 → am_kp a := lt_s am_t21 am_k21
theorem am_t23 : ∀ a, a < 23 → am_kp a := lt_s am_t22 am_k22
theorem am_t24 : ∀ a, a < 24 → am_kp a := lt_s am_t23 am_k23
theorem am_t25 : ∀ a, a < 25 → am_kp a := lt_s am_t24 am_k24
theorem am_t26 : ∀ a, a < 26 → am_kp a := lt_s am_t25 am_k25
theorem am_t27 : ∀ a, a < 27 → am_kp a := lt_s am_t26 am_k26
theorem am_t28 : ∀ a, a < 28 → am_kp a := lt_s am_t27 am_k27
theorem am_t29 : ∀ a, a < 29 → am_kp a := lt_s am_t28 am_k28
theorem am_t30 : ∀ a, a < 30 → am_kp a := lt_s am_t29 am_k29
theorem am_t31 : ∀ a, a < 31 → am_kp a := lt_s am_t30 am_k30
theorem am_t32 : ∀ a, a < 32 → am_kp a := lt_s am_t31 am_k31
theorem am_t33 : ∀ a, a < 33 → am_kp a := lt_s am_t32 am_k32
theorem am_t34 : ∀ a, a < 34 → am_kp a := lt_s am_t33 am_k33
theorem am_t35 : ∀ a, a < 35 → am_kp a := lt_s am_t34 am_k34
theorem am_t36 : ∀ a, a < 36 → am_kp a := lt_s am_t35 am_k35
theorem am_t37 : ∀ a, a < 37 → am_kp a := lt_s am_t36 am_k36
theorem am_t38 : ∀ a, a < 38 → am_kp a := lt_s am_t37 am_k37
theorem am_t39 : ∀ a, a < 39 → am_kp a := lt_s am_t38 am_k38
theorem am_t40 : ∀ a, a < 40 → am_kp a := lt_s am_t39 am_k39
theorem am_t41 : ∀ a, a < 41 → am_kp a := lt_s am_t40 am_k40
theorem am_t42 : ∀ a, a < 42 → am_kp a := lt_s am_t41 am_k41
theorem am_t43 : ∀ a, a < 43 → am_kp a := lt_s am_t42 am_k42
theorem am_t44 : ∀ a, a < 44 → am_kp a := lt_s am_t43 am_k43
theorem am_t45 : ∀ a, a < 45 → am_kp a := lt_s am_t44 am_k44
theorem am_t46 : ∀ a, a < 46 → am_kp a := lt_s am_t45 am_k45
theorem am_t47 : ∀ a, a < 47 → am_kp a := lt_s am_t46 am_k46
theorem am_t48 : ∀ a, a < 48 → am_kp a := lt_s am_t47 am_k47
theorem am_t49 : ∀ a, a < 49 → am_kp a := lt_s am_t48 am_k48
theorem am_t50 : ∀ a, a < 50 → am_kp a := lt_s am_t49 am_k49
theorem am_t51 : ∀ a, a < 51 → am_kp a := lt_s am_t50 am_k50
theorem am_t52 : ∀ a, a < 52 → am_kp a := lt_s am_t51 am_k51
theorem am_t53 : ∀ a, a < 53 → am_kp a := lt_s am_t52 am_k52
theorem am_t54 : ∀ a, a < 54 → am_kp a := lt_s am_t53 am_k53
theorem am_t55 : ∀ a, a < 55 → am_kp a := lt_s am_t54 am_k54
theorem am_t56 : ∀ a, a < 56 → am_kp a := lt_s am_t55 am_k55
theorem am_t57 : ∀ a, a < 57 → am_kp a := lt_s am_t56 am_k56
theorem am_t58 : ∀ a, a < 58 → am_kp a := lt_s am_t57 am_k57
theorem am_t59 : ∀ a, a < 59 → am_kp a := lt_s am_t58 am_k58
theorem am_t60 : ∀ a, a < 60 → am_kp a := lt_s am_t59 am_k59
theorem am_t61 : ∀ a, a < 61 → am_kp a := lt_s am_t60 am_k60
theorem am_t62 : ∀ a, a < 62 → am_kp a := lt_s am_t61 am_k61
theorem am_t63 : ∀ a, a < 63 → am_kp a := lt_s am_t62 am_k62
theorem am_t64 : ∀ a, a < 64 → am_kp a := lt_s am_t63 am_k63
theorem am_t65 : ∀ a, a < 65 → am_kp a := lt_s am_t64 am_k64
theorem am_t66 : ∀ a, a < 66 → am_kp a := lt_s am_t65 am_k65
theorem am_t67 : ∀ a, a < 67 → am_kp a := lt_s am_t66 am_k66
theorem am_t68 : ∀ a, a < 68 → am_kp a := lt_s am_t67 am_k67
theorem am_t69 : ∀ a, a < 69 → am_kp a := lt_s am_t68 am_k68
theorem am_t70 : ∀ a, a < 70 → am_kp a := lt_s am_t69 am_k69
theorem am_t71 : ∀ a, a < 71 → am_kp a := lt_s am_t70 am_k70
theorem am_t72 : ∀ a, a < 72 → am_kp a := lt_s am_t71 am_k71
theorem am_t73 : ∀ a, a < 73 → am_kp a := lt_s am_t72 am_k72
theorem am_t74 : ∀ a, a < 74 → am_kp a := lt_s am_t73 am_k73
theorem am_t75 : ∀ a, a < 75 → am_kp a := lt_s am_t74 am_k74
theorem am_t76 : ∀ a, a < 76 → am_kp a := lt_s am_t75 am_k75
theorem am_t77 : ∀ a, a < 77 → am_kp a := lt_s am_t76 am_k76
theorem am_t78 : ∀ a, a < 78 → am_kp a := lt_s am_t77 am_k77
theorem am_t79 : ∀ a, a < 79 → am_kp a := lt_s am_t78 am_k78
theorem am_t80 : ∀ a, a < 80 → am_kp a := lt_s am_t79 am_k79
theorem am_t81 : ∀ a, a < 81 → am_kp a := lt_s am_t80 am_k80
theorem am_t82 : ∀ a, a < 82 → am_kp a := lt_s am_t81 am_k81
theorem am_t83 : ∀ a, a < 83 → am_kp a := lt_s am_t82 am_k82
theorem am_t84 : ∀ a, a < 84 → am_kp a := lt_s am_t83 am_k83
theorem am_t85 : ∀ a, a < 85 → am_kp a := lt_s am_t84 am_k84
theorem am_t86 : ∀ a, a < 86 → am_kp a := lt_s am_t85 am_k85
theorem am_t87 : ∀ a, a < 87 → am_kp a := lt_s am_t86 am_k86
theorem am_t88 : ∀ a, a < 88 → am_kp a := lt_s am_t87 am_k87
theorem am_t89 : ∀ a, a < 89 → am_kp a := lt_s am_t88 am_k88
theorem am_t90 : ∀ a, a < 90 → am_kp a := lt_s am_t89 am_k89
theorem am_t91 : ∀ a, a < 91 → am_kp a := lt_s am_t90 am_k90
theorem am_t92 : ∀ a, a < 92 → am_kp a := lt_s am_t91 am_k91
theorem am_t93 : ∀ a, a < 93 → am_kp a := lt_s am_t92 am_k92
theorem am_t94 : ∀ a, a < 94 → am_kp a := lt_s am_t93 am_k93
theorem am_t95 : ∀ a, a < 95 → am_kp a := lt_s am_t94 am_k94
theorem am_t96 : ∀ a, a < 96 → am_kp a := lt_s am_t95 am_k95
theorem am_t97 : ∀ a, a < 97 → am_kp a := lt_s am_t96 am_k96
theorem am_t98 : ∀ a, a < 98 → am_kp a := lt_s am_t97 am_k97
theorem am_t99 : ∀ a, a < 99 → am_kp a := lt_s am_t98 am_k98
theorem am_t100 : ∀ a, a < 100 → am_kp a := lt_s am_t99 am_k99
theorem am_t101 : ∀ a, a < 101 → am_kp a := lt_s am_t100 am_k100
theorem am_t102 : ∀ a, a < 102 → am_kp a := lt_s am_t101 am_k101
theorem am_t103 : ∀ a, a < 103 → am_kp a := lt_s am_t102 am_k102
theorem am_t104 : ∀ a, a < 104 → am_kp a := lt_s am_t103 am_k103
theorem am_t105 : ∀ a, a < 105 → am_kp a := lt_s am_t104 am_k104
theorem am_t106 : ∀ a, a < 106 → am_kp a := lt_s am_t105 am_k105
theorem am_t107 : ∀ a, a < 107 → am_kp a := lt_s am_t106 am_k106
theorem am_t108 : ∀ a, a < 108 → am_kp a := lt_s am_t107 am_k107
theorem am_t109 : ∀ a, a < 109 → am_kp a := lt_s am_t108 am_k108
theorem am_t110 : ∀ a, a < 110 → am_kp a := lt_s am_t109 am_k109
theorem am_t111 : ∀ a, a < 111 → am_kp a := lt_s am_t110 am_k110
theorem am_t112 : ∀ a, a < 112 → am_kp a := lt_s am_t111 am_k111
theorem am_t113 : ∀ a, a < 113 → am_kp a := lt_s am_t112 am_k112
theorem am_t114 : ∀ a, a < 114 → am_kp a := lt_s am_t113 am_k113
theorem am_t115 : ∀ a, a < 115 → am_kp a := lt_s am_t114 am_k114
theorem am_t116 : ∀ a, a < 116 → am_kp a := lt_s am_t115 am_k115
theorem am_t117 : ∀ a, a < 117 → am_kp a := lt_s am_t116 am_k116
theorem am_t118 : ∀ a, a < 118 → am_kp a := lt_s am_t117 am_k117
theorem am_t119 : ∀ a, a < 119 → am_kp a := lt_s am_t118 am_k118
theorem am_t120 : ∀ a, a < 120 → am_kp a := lt_s am_t119 am_k119
theorem am_t121 : ∀ a, a < 121 → am_kp a := lt_s am_t120 am_k120
theorem am_t122 : ∀ a, a < 122 → am_kp a := lt_s am_t121 am_k121
theorem am_t123 : ∀ a, a < 123 → am_kp a := lt_s am_t122 am_k122
theorem am_t124 : ∀ a, a < 124 → am_kp a := lt_s am_t123 am_k123
theorem am_t125 : ∀ a, a < 125 → am_kp a := lt_s am_t124 am_k124
theorem am_t126 : ∀ a, a < 126 → am_kp a := lt_s am_t125 am_k125
theorem am_t127 : ∀ a, a < 127 → am_kp a := lt_s am_t126 am_k126
theorem am_t128 : ∀ a, a < 128 → am_kp a := lt_s am_t127 am_k127
theorem am_t129 : ∀ a, a < 129 → am_kp a := lt_s am_t128 am_k128
theorem am_t130 : ∀ a, a < 130 → am_kp a := lt_s am_t129 am_k129
theorem am_t131 : ∀ a, a < 131 → am_kp a := lt_s am_t130 am_k130
theorem am_t132 : ∀ a, a < 132 → am_kp a := lt_s am_t131 am_k131
theorem am_t133 : ∀ a, a < 133 → am_kp a := lt_s am_t132 am_k132
theorem am_t134 : ∀ a, a < 134 → am_kp a := lt_s am_t133 am_k133
theorem am_t135 : ∀ a, a < 135 → am_kp a := lt_s am_t134 am_k134
theorem am_t136 : ∀ a, a < 136 → am_kp a := lt_s am_t135 am_k135
theorem am_t137 : ∀ a, a < 137 → am_kp a := lt_s am_t136 am_k136
theorem am_t138 : ∀ a, a < 138 → am_kp a := lt_s am_t137 am_k137
theorem am_t139 : ∀ a, a < 139 → am_kp a := lt_s am_t138 am_k138
theorem am_t140 : ∀ a, a < 140 → am_kp a := lt_s am_t139 am_k139
theorem am_t141 : ∀ a, a < 141 → am_kp a := lt_s am_t140 am_k140
theorem am_t142 : ∀ a, a < 142 → am_kp a := lt_s am_t141 am_k141
theorem am_t143 : ∀ a, a < 143 → am_kp a := lt_s am_t142 am_k142
theorem am_t144 : ∀ a, a < 144 → am_kp a := lt_s am_t143 am_k143
theorem am_t145 : ∀ a, a < 145 → am_kp a := lt_s am_t144 am_k144
theorem am_t146 : ∀ a, a < 146 → am_kp a := lt_s am_t145 am_k145
theorem am_t147 : ∀ a, a < 147 → am_kp a := lt_s am_t146 am_k146
theorem am_t148 : ∀ a, a < 148 → am_kp a := lt_s am_t147 am_k147
theorem am_t149 : ∀ a, a < 149 → am_kp a := lt_s am_t148 am_k148
theorem am_t150 : ∀ a, a < 150 → am_kp a := lt_s am_t149 am_k149
theorem am_t151 : ∀ a, a < 151 → am_kp a := lt_s am_t150 am_k150
theorem am_t152 : ∀ a, a < 152 → am_kp a := lt_s am_t151 am_k151
theorem am_t153 : ∀ a, a < 153 → am_kp a := lt_s am_t152 am_k152
theorem am_t154 : ∀ a, a < 154 → am_kp a := lt_s am_t153 am_k153
theorem am_t155 : ∀ a, a < 155 → am_kp a := lt_s am_t154 am_k154
theorem am_t156 : ∀ a, a < 156 → am_kp a := lt_s am_t155 am_k155
theorem am_t157 : ∀ a, a < 157 → am_kp a := lt_s am_t156 am_k156
theorem am_t158 : ∀ a, a < 158 → am_kp a := lt_s am_t157 am_k157
theorem am_t159 : ∀ a, a < 159 → am_kp a := lt_s am_t158 am_k158
theorem am_t160 : ∀ a, a < 160 → am_kp a := lt_s am_t159 am_k159
theorem am_t161 : ∀ a, a < 161 → am_kp a := lt_s am_t160 am_k160
theorem am_t162 : ∀ a, a < 162 → am_kp a := lt_s am_t161 am_k161
theorem am_t163 : ∀ a, a < 163 → am_kp a := lt_s am_t162 am_k162
theorem am_t164 : ∀ a, a < 164 → am_kp a := lt_s am_t163 am_k163
theorem am_t165 : ∀ a, a < 165 → am_kp a := lt_s am_t164 am_k164
theorem am_t166 : ∀ a, a < 166 → am_kp a := lt_s am_t165 am_k165
theorem am_t167 : ∀ a, a < 167 → am_kp a := lt_s am_t166 am_k166
theorem am_t168 : ∀ a, a < 168 → am_kp a := lt_s am_t167 am_k167
theorem am_t169 : ∀ a, a < 169 → am_kp a := lt_s am_t168 am_k168
theorem am_t170 : ∀ a, a < 170 → am_kp a := lt_s am_t169 am_k169
theorem am_t171 : ∀ a, a < 171 → am_kp a := lt_s am_t170 am_k170
theorem am_t172 : ∀ a, a < 172 → am_kp a := lt_s am_t171 am_k171
theorem am_t173 : ∀ a, a < 173 → am_kp a := lt_s am_t172 am_k172
theorem am_t174 : ∀ a, a < 174 → am_kp a := lt_s am_t173 am_k173
theorem am_t175 : ∀ a, a < 175 → am_kp a := lt_s am_t174 am_k174
theorem am_t176 : ∀ a, a < 176 → am_kp a := lt_s am_t175 am_k175
theorem am_t177 : ∀ a, a < 177 → am_kp a := lt_s am_t176 am_k176
theorem am_t178 : ∀ a, a < 178 → am_kp a := lt_s am_t177 am_k177
theorem am_t179 : ∀ a, a < 179 → am_kp a := lt_s am_t178 am_k178
theorem am_t180 : ∀ a, a < 180 → am_kp a := lt_s am_t179 am_k179
theorem am_k_all : ∀ m, m < 180 → am_kp m := am_t180
end
section
/-! CLASS FACTS by kind, and what an invocation stands on. -/
def am_good : List Cond := lw_tbl.filter goodWord
theorem am_good_in {w : Cond} (h : w ∈ lw_tbl) (g : goodWord w = true) : w ∈ am_good := List.mem_filter.mpr ⟨h, g⟩
theorem am_lw_in {i : Nat} {x : Cond} (h : am_lw i x = true) (g : goodWord x = true) : x ∈ am_good := am_good_in (List.mem_of_getElem? (of_decide_eq_true h)) g
theorem am_good_word {w : Cond} (h : w ∈ am_good) : (w.onTables && w.keeps) = true ∨ ∃ ty, w = .arrayClass ty := good_of_word (List.mem_filter.mp h).2
theorem am_gi1 : GoodIn lw_tbl wsX10 := goodIn_p _ [] rfl (by decide +kernel)
theorem am_gi2 : GoodIn lw_tbl wsX20 := goodIn_p _ [] rfl (by decide +kernel)
theorem am_gi3 : GoodIn lw_tbl wsX30 := goodIn_p _ [] rfl (by decide +kernel)
theorem am_gi4 : GoodIn lw_tbl wsX50 := goodIn_p _ [] rfl (by decide +kernel)
theorem am_gi5 : GoodIn lw_tbl wsX60 := goodIn_p _ [] rfl (by decide +kernel)
theorem am_gi6 : GoodIn lw_tbl wsX70 := goodIn_p _ [] rfl (by decide +kernel)
theorem am_gi7 : GoodIn lw_tbl wsX80 := goodIn_p _ [] rfl (by decide +kernel)
theorem am_gi8 : GoodIn lw_tbl wsX90 := goodIn_p _ [] rfl (by decide +kernel)
theorem am_gi9 : GoodIn lw_tbl wsX100 := goodIn_p _ [] rfl (by decide +kernel)
theorem am_gi_lay {C : String} {T : u_T} {N : Nat} (h : GoodIn lw_tbl (u_ws C T N)) : ∀ w ∈ u_ws C T N, w ∈ am_good := fun w hw => am_good_in (h w hw).1 (by
  obtain ⟨k, -, rfl⟩ := List.mem_map.mp hw
  unfold u_lay
  split <;> rfl)
theorem am_cases9 {P : Nat → Prop} (h1 : P 1) (h2 : P 2) (h3 : P 3) (h4 : P 4) (h5 : P 5) (h6 : P 6) (h7 : P 7) (h8 : P 8) (h9 : P 9) {b : Nat} (a : 1 ≤ b) (z : b ≤ 9) : P b := by
  rcases (show b = 1 ∨ b = 2 ∨ b = 3 ∨ b = 4 ∨ b = 5 ∨ b = 6 ∨ b = 7 ∨ b = 8 ∨ b = 9 by omega) with rfl | rfl | rfl | rfl | rfl | rfl | rfl | rfl | rfl <;> assumption
theorem am_cl_at {b : Nat} (a : 1 ≤ b) (z : b ≤ 9) : vwCl[b - 1]? = some ((am_fldD b).1, (am_fldD b).2.1, (am_fldD b).2.2) := am_cases9 (P := fun b => vwCl[b - 1]? = some ((am_fldD b).1, (am_fldD b).2.1, (am_fldD b).2.2)) rfl rfl rfl rfl rfl rfl rfl rfl rfl a z
theorem am_cl_in {b : Nat} (a : 1 ≤ b) (z : b ≤ 9) : ∀ w ∈ u_ws (am_fldD b).1 (am_fldD b).2.1 (am_fldD b).2.2, w ∈ am_good := am_cases9 (P := fun b => ∀ w ∈ u_ws (am_fldD b).1 (am_fldD b).2.1 (am_fldD b).2.2, w ∈ am_good) (am_gi_lay am_gi1) (am_gi_lay am_gi2) (am_gi_lay am_gi3) (am_gi_lay am_gi4) (am_gi_lay am_gi5) (am_gi_lay am_gi6) (am_gi_lay am_gi7) (am_gi_lay am_gi8) (am_gi_lay am_gi9) a z
def am_tyD (b : Nat) : Nat → FieldType := match b with
  | 1 => tyX1
  | 2 => tyX2
  | 3 => tyX3
  | 4 => tyX5
  | 5 => tyX6
  | 6 => tyX7
  | 7 => tyX8
  | 8 => tyX9
  | _ => tyX10
theorem am_ty_ok {b : Nat} (a : 1 ≤ b) (z : b ≤ 9) : ∀ k, k < (am_fldD b).2.2 → parseFieldDescriptor ((am_fldD b).2.1 k).2.2.1 = some (am_tyD b k) := am_cases9 (P := fun b => ∀ k, k < (am_fldD b).2.2 → parseFieldDescriptor ((am_fldD b).2.1 k).2.2.1 = some (am_tyD b k)) tyX1_ok tyX2_ok tyX3_ok tyX5_ok tyX6_ok tyX7_ok tyX8_ok tyX9_ok tyX10_ok a z
theorem am_nm_ok {b : Nat} (a : 1 ≤ b) (z : b ≤ 9) : ∀ i, i < (am_fldD b).2.2 → ∀ j, j < (am_fldD b).2.2 → i ≠ j → ((am_fldD b).2.1 i).2.1 ≠ ((am_fldD b).2.1 j).2.1 := am_cases9 (P := fun b => ∀ i, i < (am_fldD b).2.2 → ∀ j, j < (am_fldD b).2.2 → i ≠ j → ((am_fldD b).2.1 i).2.1 ≠ ((am_fldD b).2.1 j).2.1) nmX1 nmX2 nmX3 nmX5 nmX6 nmX7 nmX8 nmX9 nmX10 a z
def am_tk (t : FieldType) : Nat := match t with
  | .int => 0
  | .boolean => 5
  | .long => 1
  | .object _ => 2
  | .array _ => 2
  | _ => 9
theorem am_tk_ok {b : Nat} (a : 1 ≤ b) (z : b ≤ 9) : ∀ k, k < (am_fldD b).2.2 → am_tk (am_tyD b k) = am_ft b k := am_cases9 (P := fun b => ∀ k, k < (am_fldD b).2.2 → am_tk (am_tyD b k) = am_ft b k) (by decide +kernel) (by decide +kernel) (by decide +kernel) (by decide +kernel) (by decide +kernel) (by decide +kernel) (by decide +kernel) (by decide +kernel) (by decide +kernel) a z
theorem am_own_ok {b : Nat} (a : 1 ≤ b) (z : b ≤ 9) : ∀ k, k < (am_fldD b).2.2 → ((am_fldD b).2.1 k).1 = (am_fldD b).1 := am_cases9 (P := fun b => ∀ k, k < (am_fldD b).2.2 → ((am_fldD b).2.1 k).1 = (am_fldD b).1) (by decide +kernel) (by decide +kernel) (by decide +kernel) (by decide +kernel) (by decide +kernel) (by decide +kernel) (by decide +kernel) (by decide +kernel) (by decide +kernel) a z
theorem am_inst_ok {b : Nat} (a : 1 ≤ b) (z : b ≤ 9) : Cond.instantiable (am_fldD b).1 (am_fldD b).2.2 ∈ am_good := am_cases9 (P := fun b => Cond.instantiable (am_fldD b).1 (am_fldD b).2.2 ∈ am_good) (am_good_in (List.mem_of_getElem? (i := 273) (by decide +kernel)) rfl) (am_good_in (List.mem_of_getElem? (i := 138) (by decide +kernel)) rfl) (am_good_in (List.mem_of_getElem? (i := 267) (by decide +kernel)) rfl) (am_good_in (List.mem_of_getElem? (i := 297) (by decide +kernel)) rfl) (am_good_in (List.mem_of_getElem? (i := 132) (by decide +kernel)) rfl) (am_good_in (List.mem_of_getElem? (i := 110) (by decide +kernel)) rfl) (am_good_in (List.mem_of_getElem? (i := 116) (by decide +kernel)) rfl) (am_good_in (List.mem_of_getElem? (i := 102) (by decide +kernel)) rfl) (am_good_in (List.mem_of_getElem? (i := 1015) (by decide +kernel)) rfl) a z
theorem am_init_ok {b : Nat} (a : 1 ≤ b) (z : b ≤ 9) : Cond.initialized (am_fldD b).1 ∈ am_good := am_cases9 (P := fun b => Cond.initialized (am_fldD b).1 ∈ am_good) (am_good_in (List.mem_of_getElem? (i := 84) (by decide +kernel)) rfl) (am_good_in (List.mem_of_getElem? (i := 82) (by decide +kernel)) rfl) (am_good_in (List.mem_of_getElem? (i := 83) (by decide +kernel)) rfl) (am_good_in (List.mem_of_getElem? (i := 85) (by decide +kernel)) rfl) (am_good_in (List.mem_of_getElem? (i := 81) (by decide +kernel)) rfl) (am_good_in (List.mem_of_getElem? (i := 79) (by decide +kernel)) rfl) (am_good_in (List.mem_of_getElem? (i := 80) (by decide +kernel)) rfl) (am_good_in (List.mem_of_getElem? (i := 78) (by decide +kernel)) rfl) (am_good_in (List.mem_of_getElem? (i := 86) (by decide +kernel)) rfl) a z
theorem am_arr_ok : Cond.arrayClass .int ∈ am_good ∧ Cond.arrayClass .boolean ∈ am_good ∧ Cond.arrayClass .long ∈ am_good := ⟨am_good_in (List.mem_of_getElem? (i := 130) (by decide +kernel)) rfl, am_good_in (List.mem_of_getElem? (i := 1209) (by decide +kernel)) rfl, am_good_in (List.mem_of_getElem? (i := 336) (by decide +kernel)) rfl⟩
theorem am_objInit_ok : Cond.instanceMethod Lib.objectInit ∈ am_good ∧ Cond.code Lib.objectInit ⟨#[0xb1]⟩ 1 none ∈ am_good := ⟨am_good_in (List.mem_of_getElem? (i := 107) (by decide +kernel)) rfl, am_good_in (List.mem_of_getElem? (i := 108) (by decide +kernel)) rfl⟩
theorem am_cw0 : Cond.code (am_y 0) (am_bc 0) (am_nL 0) (am_rty 0) ∈ am_good := am_good_in (List.mem_of_getElem? (i := 276) (by decide +kernel)) rfl
theorem am_cw1 : Cond.code (am_y 1) (am_bc 1) (am_nL 1) (am_rty 1) ∈ am_good := am_good_in (List.mem_of_getElem? (i := 682) (by decide +kernel)) rfl
theorem am_cw2 : Cond.code (am_y 2) (am_bc 2) (am_nL 2) (am_rty 2) ∈ am_good := am_good_in (List.mem_of_getElem? (i := 893) (by decide +kernel)) rfl
theorem am_cw3 : Cond.code (am_y 3) (am_bc 3) (am_nL 3) (am_rty 3) ∈ am_good := am_good_in (List.mem_of_getElem? (i := 901) (by decide +kernel)) rfl
theorem am_cw4 : Cond.code (am_y 4) (am_bc 4) (am_nL 4) (am_rty 4) ∈ am_good := am_good_in (List.mem_of_getElem? (i := 941) (by decide +kernel)) rfl
theorem am_cw5 : Cond.code (am_y 5) (am_bc 5) (am_nL 5) (am_rty 5) ∈ am_good := am_good_in (List.mem_of_getElem? (i := 875) (by decide +kernel)) rfl
theorem am_cw6 : Cond.code (am_y 6) (am_bc 6) (am_nL 6) (am_rty 6) ∈ am_good := am_good_in (List.mem_of_getElem? (i := 897) (by decide +kernel)) rfl
theorem am_cw7 : Cond.code (am_y 7) (am_bc 7) (am_nL 7) (am_rty 7) ∈ am_good := am_good_in (List.mem_of_getElem? (i := 141) (by decide +kernel)) rfl
theorem am_cw8 : Cond.code (am_y 8) (am_bc 8) (am_nL 8) (am_rty 8) ∈ am_good := am_good_in (List.mem_of_getElem? (i := 418) (by decide +kernel)) rfl
theorem am_cw9 : Cond.code (am_y 9) (am_bc 9) (am_nL 9) (am_rty 9) ∈ am_good := am_good_in (List.mem_of_getElem? (i := 635) (by decide +kernel)) rfl
theorem am_cw10 : Cond.code (am_y 10) (am_bc 10) (am_nL 10) (am_rty 10) ∈ am_good := am_good_in (List.mem_of_getElem? (i := 655) (by decide +kernel)) rfl
theorem am_cw11 : Cond.code (am_y 11) (am_bc 11) (am_nL 11) (am_rty 11) ∈ am_good := am_good_in (List.mem_of_getElem? (i := 270) (by decide +kernel)) rfl
theorem am_cw12 : Cond.code (am_y 12) (am_bc 12) (am_nL 12) (am_rty 12) ∈ am_good := am_good_in (List.mem_of_getElem? (i := 678) (by decide +kernel)) rfl
theorem am_cw13 : Cond.code (am_y 13) (am_bc 13) (am_nL 13) (am_rty 13) ∈ am_good := am_good_in (List.mem_of_getElem? (i := 832) (by decide +kernel)) rfl
theorem am_cw14 : Cond.code (am_y 14) (am_bc 14) (am_nL 14) (am_rty 14) ∈ am_good := am_good_in (List.mem_of_getElem? (i := 837) (by decide +kernel)) rfl
theorem am_cw15 : Cond.code (am_y 15) (am_bc 15) (am_nL 15) (am_rty 15) ∈ am_good := am_good_in (List.mem_of_getElem? (i := 919) (by decide +kernel)) rfl
theorem am_cw16 : Cond.code (am_y 16) (am_bc 16) (am_nL 16) (am_rty 16) ∈ am_good := am_good_in (List.mem_of_getElem? (i := 850) (by decide +kernel)) rfl
theorem am_cw17 : Cond.code (am_y 17) (am_bc 17) (am_nL 17) (am_rty 17) ∈ am_good := am_good_in (List.mem_of_getElem? (i := 927) (by decide +kernel)) rfl
theorem am_cw18 : Cond.code (am_y 18) (am_bc 18) (am_nL 18) (am_rty 18) ∈ am_good := am_good_in (List.mem_of_getElem? (i := 949) (by decide +kernel)) rfl
theorem am_cw19 : Cond.code (am_y 19) (am_bc 19) (am_nL 19) (am_rty 19) ∈ am_good := am_good_in (List.mem_of_getElem? (i := 931) (by decide +kernel)) rfl
theorem am_cw20 : Cond.code (am_y 20) (am_bc 20) (am_nL 20) (am_rty 20) ∈ am_good := am_good_in (List.mem_of_getElem? (i := 937) (by decide +kernel)) rfl
theorem am_cw21 : Cond.code (am_y 21) (am_bc 21) (am_nL 21) (am_rty 21) ∈ am_good := am_good_in (List.mem_of_getElem? (i := 957) (by decide +kernel)) rfl
theorem am_cw22 : Cond.code (am_y 22) (am_bc 22) (am_nL 22) (am_rty 22) ∈ am_good := am_good_in (List.mem_of_getElem? (i := 961) (by decide +kernel)) rfl
theorem am_cw23 : Cond.code (am_y 23) (am_bc 23) (am_nL 23) (am_rty 23) ∈ am_good := am_good_in (List.mem_of_getElem? (i := 965) (by decide +kernel)) rfl
theorem am_cw24 : Cond.code (am_y 24) (am_bc 24) (am_nL 24) (am_rty 24) ∈ am_good := am_good_in (List.mem_of_getElem? (i := 970) (by decide +kernel)) rfl
theorem am_cw25 : Cond.code (am_y 25) (am_bc 25) (am_nL 25) (am_rty 25) ∈ am_good := am_good_in (List.mem_of_getElem? (i := 923) (by decide +kernel)) rfl
theorem am_cw26 : Cond.code (am_y 26) (am_bc 26) (am_nL 26) (am_rty 26) ∈ am_good := am_good_in (List.mem_of_getElem? (i := 845) (by decide +kernel)) rfl
theorem am_cw27 : Cond.code (am_y 27) (am_bc 27) (am_nL 27) (am_rty 27) ∈ am_good := am_good_in (List.mem_of_getElem? (i := 953) (by decide +kernel)) rfl
theorem am_cw28 : Cond.code (am_y 28) (am_bc 28) (am_nL 28) (am_rty 28) ∈ am_good := am_good_in (List.mem_of_getElem? (i := 300) (by decide +kernel)) rfl
theorem am_cw29 : Cond.code (am_y 29) (am_bc 29) (am_nL 29) (am_rty 29) ∈ am_good := am_good_in (List.mem_of_getElem? (i := 687) (by decide +kernel)) rfl
theorem am_cw30 : Cond.code (am_y 30) (am_bc 30) (am_nL 30) (am_rty 30) ∈ am_good := am_good_in (List.mem_of_getElem? (i := 866) (by decide +kernel)) rfl
theorem am_cw31 : Cond.code (am_y 31) (am_bc 31) (am_nL 31) (am_rty 31) ∈ am_good := am_good_in (List.mem_of_getElem? (i := 870) (by decide +kernel)) rfl
theorem am_cw32 : Cond.code (am_y 32) (am_bc 32) (am_nL 32) (am_rty 32) ∈ am_good := am_good_in (List.mem_of_getElem? (i := 862) (by decide +kernel)) rfl
theorem am_cw33 : Cond.code (am_y 33) (am_bc 33) (am_nL 33) (am_rty 33) ∈ am_good := am_good_in (List.mem_of_getElem? (i := 881) (by decide +kernel)) rfl
theorem am_cw34 : Cond.code (am_y 34) (am_bc 34) (am_nL 34) (am_rty 34) ∈ am_good := am_good_in (List.mem_of_getElem? (i := 885) (by decide +kernel)) rfl
theorem am_cw35 : Cond.code (am_y 35) (am_bc 35) (am_nL 35) (am_rty 35) ∈ am_good := am_good_in (List.mem_of_getElem? (i := 889) (by decide +kernel)) rfl
theorem am_cw36 : Cond.code (am_y 36) (am_bc 36) (am_nL 36) (am_rty 36) ∈ am_good := am_good_in (List.mem_of_getElem? (i := 905) (by decide +kernel)) rfl
theorem am_cw37 : Cond.code (am_y 37) (am_bc 37) (am_nL 37) (am_rty 37) ∈ am_good := am_good_in (List.mem_of_getElem? (i := 910) (by decide +kernel)) rfl
theorem am_cw38 : Cond.code (am_y 38) (am_bc 38) (am_nL 38) (am_rty 38) ∈ am_good := am_good_in (List.mem_of_getElem? (i := 914) (by decide +kernel)) rfl
theorem am_cw39 : Cond.code (am_y 39) (am_bc 39) (am_nL 39) (am_rty 39) ∈ am_good := am_good_in (List.mem_of_getElem? (i := 135) (by decide +kernel)) rfl
theorem am_cw40 : Cond.code (am_y 40) (am_bc 40) (am_nL 40) (am_rty 40) ∈ am_good := am_good_in (List.mem_of_getElem? (i := 411) (by decide +kernel)) rfl
theorem am_cw41 : Cond.code (am_y 41) (am_bc 41) (am_nL 41) (am_rty 41) ∈ am_good := am_good_in (List.mem_of_getElem? (i := 668) (by decide +kernel)) rfl
theorem am_cw42 : Cond.code (am_y 42) (am_bc 42) (am_nL 42) (am_rty 42) ∈ am_good := am_good_in (List.mem_of_getElem? (i := 841) (by decide +kernel)) rfl
theorem am_cw43 : Cond.code (am_y 43) (am_bc 43) (am_nL 43) (am_rty 43) ∈ am_good := am_good_in (List.mem_of_getElem? (i := 113) (by decide +kernel)) rfl
theorem am_cw44 : Cond.code (am_y 44) (am_bc 44) (am_nL 44) (am_rty 44) ∈ am_good := am_good_in (List.mem_of_getElem? (i := 407) (by decide +kernel)) rfl
theorem am_cw45 : Cond.code (am_y 45) (am_bc 45) (am_nL 45) (am_rty 45) ∈ am_good := am_good_in (List.mem_of_getElem? (i := 453) (by decide +kernel)) rfl
theorem am_cw46 : Cond.code (am_y 46) (am_bc 46) (am_nL 46) (am_rty 46) ∈ am_good := am_good_in (List.mem_of_getElem? (i := 644) (by decide +kernel)) rfl
theorem am_cw47 : Cond.code (am_y 47) (am_bc 47) (am_nL 47) (am_rty 47) ∈ am_good := am_good_in (List.mem_of_getElem? (i := 424) (by decide +kernel)) rfl
theorem am_cw48 : Cond.code (am_y 48) (am_bc 48) (am_nL 48) (am_rty 48) ∈ am_good := am_good_in (List.mem_of_getElem? (i := 552) (by decide +kernel)) rfl
theorem am_cw49 : Cond.code (am_y 49) (am_bc 49) (am_nL 49) (am_rty 49) ∈ am_good := am_good_in (List.mem_of_getElem? (i := 539) (by decide +kernel)) rfl
theorem am_cw50 : Cond.code (am_y 50) (am_bc 50) (am_nL 50) (am_rty 50) ∈ am_good := am_good_in (List.mem_of_getElem? (i := 432) (by decide +kernel)) rfl
theorem am_cw51 : Cond.code (am_y 51) (am_bc 51) (am_nL 51) (am_rty 51) ∈ am_good := am_good_in (List.mem_of_getElem? (i := 448) (by decide +kernel)) rfl
theorem am_cw52 : Cond.code (am_y 52) (am_bc 52) (am_nL 52) (am_rty 52) ∈ am_good := am_good_in (List.mem_of_getElem? (i := 461) (by decide +kernel)) rfl
theorem am_cw53 : Cond.code (am_y 53) (am_bc 53) (am_nL 53) (am_rty 53) ∈ am_good := am_good_in (List.mem_of_getElem? (i := 465) (by decide +kernel)) rfl
theorem am_cw54 : Cond.code (am_y 54) (am_bc 54) (am_nL 54) (am_rty 54) ∈ am_good := am_good_in (List.mem_of_getElem? (i := 523) (by decide +kernel)) rfl
theorem am_cw55 : Cond.code (am_y 55) (am_bc 55) (am_nL 55) (am_rty 55) ∈ am_good := am_good_in (List.mem_of_getElem? (i := 527) (by decide +kernel)) rfl
theorem am_cw56 : Cond.code (am_y 56) (am_bc 56) (am_nL 56) (am_rty 56) ∈ am_good := am_good_in (List.mem_of_getElem? (i := 659) (by decide +kernel)) rfl
theorem am_cw57 : Cond.code (am_y 57) (am_bc 57) (am_nL 57) (am_rty 57) ∈ am_good := am_good_in (List.mem_of_getElem? (i := 663) (by decide +kernel)) rfl
theorem am_cw58 : Cond.code (am_y 58) (am_bc 58) (am_nL 58) (am_rty 58) ∈ am_good := am_good_in (List.mem_of_getElem? (i := 562) (by decide +kernel)) rfl
theorem am_cw59 : Cond.code (am_y 59) (am_bc 59) (am_nL 59) (am_rty 59) ∈ am_good := am_good_in (List.mem_of_getElem? (i := 558) (by decide +kernel)) rfl
theorem am_cw60 : Cond.code (am_y 60) (am_bc 60) (am_nL 60) (am_rty 60) ∈ am_good := am_good_in (List.mem_of_getElem? (i := 543) (by decide +kernel)) rfl
theorem am_cw61 : Cond.code (am_y 61) (am_bc 61) (am_nL 61) (am_rty 61) ∈ am_good := am_good_in (List.mem_of_getElem? (i := 640) (by decide +kernel)) rfl
theorem am_cw62 : Cond.code (am_y 62) (am_bc 62) (am_nL 62) (am_rty 62) ∈ am_good := am_good_in (List.mem_of_getElem? (i := 648) (by decide +kernel)) rfl
theorem am_cw63 : Cond.code (am_y 63) (am_bc 63) (am_nL 63) (am_rty 63) ∈ am_good := am_good_in (List.mem_of_getElem? (i := 531) (by decide +kernel)) rfl
theorem am_cw64 : Cond.code (am_y 64) (am_bc 64) (am_nL 64) (am_rty 64) ∈ am_good := am_good_in (List.mem_of_getElem? (i := 535) (by decide +kernel)) rfl
theorem am_cw65 : Cond.code (am_y 65) (am_bc 65) (am_nL 65) (am_rty 65) ∈ am_good := am_good_in (List.mem_of_getElem? (i := 547) (by decide +kernel)) rfl
theorem am_cw66 : Cond.code (am_y 66) (am_bc 66) (am_nL 66) (am_rty 66) ∈ am_good := am_good_in (List.mem_of_getElem? (i := 673) (by decide +kernel)) rfl
theorem am_cw67 : Cond.code (am_y 67) (am_bc 67) (am_nL 67) (am_rty 67) ∈ am_good := am_good_in (List.mem_of_getElem? (i := 119) (by decide +kernel)) rfl
theorem am_cw68 : Cond.code (am_y 68) (am_bc 68) (am_nL 68) (am_rty 68) ∈ am_good := am_good_in (List.mem_of_getElem? (i := 790) (by decide +kernel)) rfl
theorem am_cw69 : Cond.code (am_y 69) (am_bc 69) (am_nL 69) (am_rty 69) ∈ am_good := am_good_in (List.mem_of_getElem? (i := 428) (by decide +kernel)) rfl
theorem am_cw70 : Cond.code (am_y 70) (am_bc 70) (am_nL 70) (am_rty 70) ∈ am_good := am_good_in (List.mem_of_getElem? (i := 471) (by decide +kernel)) rfl
theorem am_cw71 : Cond.code (am_y 71) (am_bc 71) (am_nL 71) (am_rty 71) ∈ am_good := am_good_in (List.mem_of_getElem? (i := 436) (by decide +kernel)) rfl
theorem am_cw72 : Cond.code (am_y 72) (am_bc 72) (am_nL 72) (am_rty 72) ∈ am_good := am_good_in (List.mem_of_getElem? (i := 105) (by decide +kernel)) rfl
theorem am_cw73 : Cond.code (am_y 73) (am_bc 73) (am_nL 73) (am_rty 73) ∈ am_good := am_good_in (List.mem_of_getElem? (i := 720) (by decide +kernel)) rfl
theorem am_cw74 : Cond.code (am_y 74) (am_bc 74) (am_nL 74) (am_rty 74) ∈ am_good := am_good_in (List.mem_of_getElem? (i := 399) (by decide +kernel)) rfl
theorem am_cw75 : Cond.code (am_y 75) (am_bc 75) (am_nL 75) (am_rty 75) ∈ am_good := am_good_in (List.mem_of_getElem? (i := 403) (by decide +kernel)) rfl
theorem am_cw76 : Cond.code (am_y 76) (am_bc 76) (am_nL 76) (am_rty 76) ∈ am_good := am_good_in (List.mem_of_getElem? (i := 692) (by decide +kernel)) rfl
theorem am_cw77 : Cond.code (am_y 77) (am_bc 77) (am_nL 77) (am_rty 77) ∈ am_good := am_good_in (List.mem_of_getElem? (i := 696) (by decide +kernel)) rfl
theorem am_cw78 : Cond.code (am_y 78) (am_bc 78) (am_nL 78) (am_rty 78) ∈ am_good := am_good_in (List.mem_of_getElem? (i := 700) (by decide +kernel)) rfl
theorem am_cw79 : Cond.code (am_y 79) (am_bc 79) (am_nL 79) (am_rty 79) ∈ am_good := am_good_in (List.mem_of_getElem? (i := 800) (by decide +kernel)) rfl
theorem am_cw80 : Cond.code (am_y 80) (am_bc 80) (am_nL 80) (am_rty 80) ∈ am_good := am_good_in (List.mem_of_getElem? (i := 826) (by decide +kernel)) rfl
theorem am_cw81 : Cond.code (am_y 81) (am_bc 81) (am_nL 81) (am_rty 81) ∈ am_good := am_good_in (List.mem_of_getElem? (i := 978) (by decide +kernel)) rfl
theorem am_cw82 : Cond.code (am_y 82) (am_bc 82) (am_nL 82) (am_rty 82) ∈ am_good := am_good_in (List.mem_of_getElem? (i := 986) (by decide +kernel)) rfl
theorem am_cw83 : Cond.code (am_y 83) (am_bc 83) (am_nL 83) (am_rty 83) ∈ am_good := am_good_in (List.mem_of_getElem? (i := 994) (by decide +kernel)) rfl
theorem am_cw84 : Cond.code (am_y 84) (am_bc 84) (am_nL 84) (am_rty 84) ∈ am_good := am_good_in (List.mem_of_getElem? (i := 1003) (by decide +kernel)) rfl
theorem am_cw85 : Cond.code (am_y 85) (am_bc 85) (am_nL 85) (am_rty 85) ∈ am_good := am_good_in (List.mem_of_getElem? (i := 1011) (by decide +kernel)) rfl
theorem am_cw86 : Cond.code (am_y 86) (am_bc 86) (am_nL 86) (am_rty 86) ∈ am_good := am_good_in (List.mem_of_getElem? (i := 704) (by decide +kernel)) rfl
theorem am_cw87 : Cond.code (am_y 87) (am_bc 87) (am_nL 87) (am_rty 87) ∈ am_good := am_good_in (List.mem_of_getElem? (i := 708) (by decide +kernel)) rfl
theorem am_cw88 : Cond.code (am_y 88) (am_bc 88) (am_nL 88) (am_rty 88) ∈ am_good := am_good_in (List.mem_of_getElem? (i := 712) (by decide +kernel)) rfl
theorem am_cw89 : Cond.code (am_y 89) (am_bc 89) (am_nL 89) (am_rty 89) ∈ am_good := am_good_in (List.mem_of_getElem? (i := 456) (by decide +kernel)) rfl
end
section
theorem am_cw90 : Cond.code (am_y 90) (am_bc 90) (am_nL 90) (am_rty 90) ∈ am_good := am_good_in (List.mem_of_getElem? (i := 280) (by decide +kernel)) rfl
theorem am_cw91 : Cond.code (am_y 91) (am_bc 91) (am_nL 91) (am_rty 91) ∈ am_good := am_good_in (List.mem_of_getElem? (i := 627) (by decide +kernel)) rfl
theorem am_cw92 : Cond.code (am_y 92) (am_bc 92) (am_nL 92) (am_rty 92) ∈ am_good := am_good_in (List.mem_of_getElem? (i := 819) (by decide +kernel)) rfl
theorem am_cw93 : Cond.code (am_y 93) (am_bc 93) (am_nL 93) (am_rty 93) ∈ am_good := am_good_in (List.mem_of_getElem? (i := 414) (by decide +kernel)) rfl
theorem am_cw94 : Cond.code (am_y 94) (am_bc 94) (am_nL 94) (am_rty 94) ∈ am_good := am_good_in (List.mem_of_getElem? (i := 1018) (by decide +kernel)) rfl
theorem am_cw95 : Cond.code (am_y 95) (am_bc 95) (am_nL 95) (am_rty 95) ∈ am_good := am_good_in (List.mem_of_getElem? (i := 1213) (by decide +kernel)) rfl
theorem am_cw96 : Cond.code (am_y 96) (am_bc 96) (am_nL 96) (am_rty 96) ∈ am_good := am_good_in (List.mem_of_getElem? (i := 1217) (by decide +kernel)) rfl
theorem am_cw97 : Cond.code (am_y 97) (am_bc 97) (am_nL 97) (am_rty 97) ∈ am_good := am_good_in (List.mem_of_getElem? (i := 1222) (by decide +kernel)) rfl
theorem am_cw98 : Cond.code (am_y 98) (am_bc 98) (am_nL 98) (am_rty 98) ∈ am_good := am_good_in (List.mem_of_getElem? (i := 1258) (by decide +kernel)) rfl
theorem am_cw99 : Cond.code (am_y 99) (am_bc 99) (am_nL 99) (am_rty 99) ∈ am_good := am_good_in (List.mem_of_getElem? (i := 1234) (by decide +kernel)) rfl
theorem am_cw100 : Cond.code (am_y 100) (am_bc 100) (am_nL 100) (am_rty 100) ∈ am_good := am_good_in (List.mem_of_getElem? (i := 1238) (by decide +kernel)) rfl
theorem am_cw101 : Cond.code (am_y 101) (am_bc 101) (am_nL 101) (am_rty 101) ∈ am_good := am_good_in (List.mem_of_getElem? (i := 1242) (by decide +kernel)) rfl
theorem am_cw102 : Cond.code (am_y 102) (am_bc 102) (am_nL 102) (am_rty 102) ∈ am_good := am_good_in (List.mem_of_getElem? (i := 1280) (by decide +kernel)) rfl
theorem am_cw103 : Cond.code (am_y 103) (am_bc 103) (am_nL 103) (am_rty 103) ∈ am_good := am_good_in (List.mem_of_getElem? (i := 1269) (by decide +kernel)) rfl
theorem am_cw104 : Cond.code (am_y 104) (am_bc 104) (am_nL 104) (am_rty 104) ∈ am_good := am_good_in (List.mem_of_getElem? (i := 1266) (by decide +kernel)) rfl
theorem am_cw105 : Cond.code (am_y 105) (am_bc 105) (am_nL 105) (am_rty 105) ∈ am_good := am_good_in (List.mem_of_getElem? (i := 1273) (by decide +kernel)) rfl
theorem am_cw106 : Cond.code (am_y 106) (am_bc 106) (am_nL 106) (am_rty 106) ∈ am_good := am_good_in (List.mem_of_getElem? (i := 1262) (by decide +kernel)) rfl
theorem am_cw107 : Cond.code (am_y 107) (am_bc 107) (am_nL 107) (am_rty 107) ∈ am_good := am_good_in (List.mem_of_getElem? (i := 1389) (by decide +kernel)) rfl
theorem am_cw108 : Cond.code (am_y 108) (am_bc 108) (am_nL 108) (am_rty 108) ∈ am_good := am_good_in (List.mem_of_getElem? (i := 1250) (by decide +kernel)) rfl
theorem am_cw109 : Cond.code (am_y 109) (am_bc 109) (am_nL 109) (am_rty 109) ∈ am_good := am_good_in (List.mem_of_getElem? (i := 1300) (by decide +kernel)) rfl
theorem am_cw110 : Cond.code (am_y 110) (am_bc 110) (am_nL 110) (am_rty 110) ∈ am_good := am_good_in (List.mem_of_getElem? (i := 1303) (by decide +kernel)) rfl
theorem am_cw111 : Cond.code (am_y 111) (am_bc 111) (am_nL 111) (am_rty 111) ∈ am_good := am_good_in (List.mem_of_getElem? (i := 1296) (by decide +kernel)) rfl
theorem am_cw112 : Cond.code (am_y 112) (am_bc 112) (am_nL 112) (am_rty 112) ∈ am_good := am_good_in (List.mem_of_getElem? (i := 1344) (by decide +kernel)) rfl
theorem am_cw113 : Cond.code (am_y 113) (am_bc 113) (am_nL 113) (am_rty 113) ∈ am_good := am_good_in (List.mem_of_getElem? (i := 1337) (by decide +kernel)) rfl
theorem am_cw114 : Cond.code (am_y 114) (am_bc 114) (am_nL 114) (am_rty 114) ∈ am_good := am_good_in (List.mem_of_getElem? (i := 1341) (by decide +kernel)) rfl
theorem am_cw115 : Cond.code (am_y 115) (am_bc 115) (am_nL 115) (am_rty 115) ∈ am_good := am_good_in (List.mem_of_getElem? (i := 1333) (by decide +kernel)) rfl
theorem am_cw116 : Cond.code (am_y 116) (am_bc 116) (am_nL 116) (am_rty 116) ∈ am_good := am_good_in (List.mem_of_getElem? (i := 1325) (by decide +kernel)) rfl
theorem am_cw117 : Cond.code (am_y 117) (am_bc 117) (am_nL 117) (am_rty 117) ∈ am_good := am_good_in (List.mem_of_getElem? (i := 1362) (by decide +kernel)) rfl
theorem am_cw118 : Cond.code (am_y 118) (am_bc 118) (am_nL 118) (am_rty 118) ∈ am_good := am_good_in (List.mem_of_getElem? (i := 1254) (by decide +kernel)) rfl
theorem am_cw119 : Cond.code (am_y 119) (am_bc 119) (am_nL 119) (am_rty 119) ∈ am_good := am_good_in (List.mem_of_getElem? (i := 1318) (by decide +kernel)) rfl
theorem am_cw120 : Cond.code (am_y 120) (am_bc 120) (am_nL 120) (am_rty 120) ∈ am_good := am_good_in (List.mem_of_getElem? (i := 1384) (by decide +kernel)) rfl
theorem am_cw121 : Cond.code (am_y 121) (am_bc 121) (am_nL 121) (am_rty 121) ∈ am_good := am_good_in (List.mem_of_getElem? (i := 1372) (by decide +kernel)) rfl
theorem am_cw122 : Cond.code (am_y 122) (am_bc 122) (am_nL 122) (am_rty 122) ∈ am_good := am_good_in (List.mem_of_getElem? (i := 1393) (by decide +kernel)) rfl
theorem am_cw123 : Cond.code (am_y 123) (am_bc 123) (am_nL 123) (am_rty 123) ∈ am_good := am_good_in (List.mem_of_getElem? (i := 1289) (by decide +kernel)) rfl
theorem am_cw124 : Cond.code (am_y 124) (am_bc 124) (am_nL 124) (am_rty 124) ∈ am_good := am_good_in (List.mem_of_getElem? (i := 1285) (by decide +kernel)) rfl
theorem am_cw125 : Cond.code (am_y 125) (am_bc 125) (am_nL 125) (am_rty 125) ∈ am_good := am_good_in (List.mem_of_getElem? (i := 1314) (by decide +kernel)) rfl
theorem am_cw126 : Cond.code (am_y 126) (am_bc 126) (am_nL 126) (am_rty 126) ∈ am_good := am_good_in (List.mem_of_getElem? (i := 1310) (by decide +kernel)) rfl
theorem am_cw127 : Cond.code (am_y 127) (am_bc 127) (am_nL 127) (am_rty 127) ∈ am_good := am_good_in (List.mem_of_getElem? (i := 1246) (by decide +kernel)) rfl
theorem am_cw128 : Cond.code (am_y 128) (am_bc 128) (am_nL 128) (am_rty 128) ∈ am_good := am_good_in (List.mem_of_getElem? (i := 1230) (by decide +kernel)) rfl
theorem am_cw129 : Cond.code (am_y 129) (am_bc 129) (am_nL 129) (am_rty 129) ∈ am_good := am_good_in (List.mem_of_getElem? (i := 1226) (by decide +kernel)) rfl
theorem am_cw130 : Cond.code (am_y 130) (am_bc 130) (am_nL 130) (am_rty 130) ∈ am_good := am_good_in (List.mem_of_getElem? (i := 1399) (by decide +kernel)) rfl
theorem am_cw131 : Cond.code (am_y 131) (am_bc 131) (am_nL 131) (am_rty 131) ∈ am_good := am_good_in (List.mem_of_getElem? (i := 1403) (by decide +kernel)) rfl
theorem am_cw132 : Cond.code (am_y 132) (am_bc 132) (am_nL 132) (am_rty 132) ∈ am_good := am_good_in (List.mem_of_getElem? (i := 1023) (by decide +kernel)) rfl
theorem am_cw133 : Cond.code (am_y 133) (am_bc 133) (am_nL 133) (am_rty 133) ∈ am_good := am_good_in (List.mem_of_getElem? (i := 1407) (by decide +kernel)) rfl
theorem am_cw134 : Cond.code (am_y 134) (am_bc 134) (am_nL 134) (am_rty 134) ∈ am_good := am_good_in (List.mem_of_getElem? (i := 1434) (by decide +kernel)) rfl
theorem am_cw135 : Cond.code (am_y 135) (am_bc 135) (am_nL 135) (am_rty 135) ∈ am_good := am_good_in (List.mem_of_getElem? (i := 1449) (by decide +kernel)) rfl
theorem am_cw136 : Cond.code (am_y 136) (am_bc 136) (am_nL 136) (am_rty 136) ∈ am_good := am_good_in (List.mem_of_getElem? (i := 1461) (by decide +kernel)) rfl
theorem am_cw137 : Cond.code (am_y 137) (am_bc 137) (am_nL 137) (am_rty 137) ∈ am_good := am_good_in (List.mem_of_getElem? (i := 1457) (by decide +kernel)) rfl
theorem am_cw138 : Cond.code (am_y 138) (am_bc 138) (am_nL 138) (am_rty 138) ∈ am_good := am_good_in (List.mem_of_getElem? (i := 1465) (by decide +kernel)) rfl
theorem am_cw139 : Cond.code (am_y 139) (am_bc 139) (am_nL 139) (am_rty 139) ∈ am_good := am_good_in (List.mem_of_getElem? (i := 1469) (by decide +kernel)) rfl
theorem am_cw140 : Cond.code (am_y 140) (am_bc 140) (am_nL 140) (am_rty 140) ∈ am_good := am_good_in (List.mem_of_getElem? (i := 1418) (by decide +kernel)) rfl
theorem am_cw141 : Cond.code (am_y 141) (am_bc 141) (am_nL 141) (am_rty 141) ∈ am_good := am_good_in (List.mem_of_getElem? (i := 1441) (by decide +kernel)) rfl
theorem am_cw142 : Cond.code (am_y 142) (am_bc 142) (am_nL 142) (am_rty 142) ∈ am_good := am_good_in (List.mem_of_getElem? (i := 1438) (by decide +kernel)) rfl
theorem am_cw143 : Cond.code (am_y 143) (am_bc 143) (am_nL 143) (am_rty 143) ∈ am_good := am_good_in (List.mem_of_getElem? (i := 1430) (by decide +kernel)) rfl
theorem am_cw144 : Cond.code (am_y 144) (am_bc 144) (am_nL 144) (am_rty 144) ∈ am_good := am_good_in (List.mem_of_getElem? (i := 1453) (by decide +kernel)) rfl
theorem am_cw145 : Cond.code (am_y 145) (am_bc 145) (am_nL 145) (am_rty 145) ∈ am_good := am_good_in (List.mem_of_getElem? (i := 1445) (by decide +kernel)) rfl
theorem am_cw146 : Cond.code (am_y 146) (am_bc 146) (am_nL 146) (am_rty 146) ∈ am_good := am_good_in (List.mem_of_getElem? (i := 1426) (by decide +kernel)) rfl
theorem am_cw147 : Cond.code (am_y 147) (am_bc 147) (am_nL 147) (am_rty 147) ∈ am_good := am_good_in (List.mem_of_getElem? (i := 1422) (by decide +kernel)) rfl
theorem am_cw148 : Cond.code (am_y 148) (am_bc 148) (am_nL 148) (am_rty 148) ∈ am_good := am_good_in (List.mem_of_getElem? (i := 1473) (by decide +kernel)) rfl
theorem am_cw149 : Cond.code (am_y 149) (am_bc 149) (am_nL 149) (am_rty 149) ∈ am_good := am_good_in (List.mem_of_getElem? (i := 1415) (by decide +kernel)) rfl
theorem am_cw150 : Cond.code (am_y 150) (am_bc 150) (am_nL 150) (am_rty 150) ∈ am_good := am_good_in (List.mem_of_getElem? (i := 1411) (by decide +kernel)) rfl
theorem am_cw151 : Cond.code (am_y 151) (am_bc 151) (am_nL 151) (am_rty 151) ∈ am_good := am_good_in (List.mem_of_getElem? (i := 1477) (by decide +kernel)) rfl
theorem am_cw152 : Cond.code (am_y 152) (am_bc 152) (am_nL 152) (am_rty 152) ∈ am_good := am_good_in (List.mem_of_getElem? (i := 1484) (by decide +kernel)) rfl
theorem am_cw153 : Cond.code (am_y 153) (am_bc 153) (am_nL 153) (am_rty 153) ∈ am_good := am_good_in (List.mem_of_getElem? (i := 1481) (by decide +kernel)) rfl
theorem am_cw154 : Cond.code (am_y 154) (am_bc 154) (am_nL 154) (am_rty 154) ∈ am_good := am_good_in (List.mem_of_getElem? (i := 1488) (by decide +kernel)) rfl
theorem am_cw155 : Cond.code (am_y 155) (am_bc 155) (am_nL 155) (am_rty 155) ∈ am_good := am_good_in (List.mem_of_getElem? (i := 1492) (by decide +kernel)) rfl
theorem am_cw156 : Cond.code (am_y 156) (am_bc 156) (am_nL 156) (am_rty 156) ∈ am_good := am_good_in (List.mem_of_getElem? (i := 1496) (by decide +kernel)) rfl
theorem am_cw157 : Cond.code (am_y 157) (am_bc 157) (am_nL 157) (am_rty 157) ∈ am_good := am_good_in (List.mem_of_getElem? (i := 1500) (by decide +kernel)) rfl
theorem am_cw158 : Cond.code (am_y 158) (am_bc 158) (am_nL 158) (am_rty 158) ∈ am_good := am_good_in (List.mem_of_getElem? (i := 1504) (by decide +kernel)) rfl
theorem am_cw159 : Cond.code (am_y 159) (am_bc 159) (am_nL 159) (am_rty 159) ∈ am_good := am_good_in (List.mem_of_getElem? (i := 1508) (by decide +kernel)) rfl
theorem am_cw160 : Cond.code (am_y 160) (am_bc 160) (am_nL 160) (am_rty 160) ∈ am_good := am_good_in (List.mem_of_getElem? (i := 1512) (by decide +kernel)) rfl
theorem am_cw161 : Cond.code (am_y 161) (am_bc 161) (am_nL 161) (am_rty 161) ∈ am_good := am_good_in (List.mem_of_getElem? (i := 858) (by decide +kernel)) rfl
theorem am_cw162 : Cond.code (am_y 162) (am_bc 162) (am_nL 162) (am_rty 162) ∈ am_good := am_good_in (List.mem_of_getElem? (i := 581) (by decide +kernel)) rfl
theorem am_cw163 : Cond.code (am_y 163) (am_bc 163) (am_nL 163) (am_rty 163) ∈ am_good := am_good_in (List.mem_of_getElem? (i := 584) (by decide +kernel)) rfl
theorem am_cw164 : Cond.code (am_y 164) (am_bc 164) (am_nL 164) (am_rty 164) ∈ am_good := am_good_in (List.mem_of_getElem? (i := 443) (by decide +kernel)) rfl
theorem am_cw165 : Cond.code (am_y 165) (am_bc 165) (am_nL 165) (am_rty 165) ∈ am_good := am_good_in (List.mem_of_getElem? (i := 475) (by decide +kernel)) rfl
theorem am_cw166 : Cond.code (am_y 166) (am_bc 166) (am_nL 166) (am_rty 166) ∈ am_good := am_good_in (List.mem_of_getElem? (i := 485) (by decide +kernel)) rfl
theorem am_cw167 : Cond.code (am_y 167) (am_bc 167) (am_nL 167) (am_rty 167) ∈ am_good := am_good_in (List.mem_of_getElem? (i := 567) (by decide +kernel)) rfl
theorem am_cw168 : Cond.code (am_y 168) (am_bc 168) (am_nL 168) (am_rty 168) ∈ am_good := am_good_in (List.mem_of_getElem? (i := 571) (by decide +kernel)) rfl
theorem am_cw169 : Cond.code (am_y 169) (am_bc 169) (am_nL 169) (am_rty 169) ∈ am_good := am_good_in (List.mem_of_getElem? (i := 479) (by decide +kernel)) rfl
theorem am_cw170 : Cond.code (am_y 170) (am_bc 170) (am_nL 170) (am_rty 170) ∈ am_good := am_good_in (List.mem_of_getElem? (i := 489) (by decide +kernel)) rfl
theorem am_cw171 : Cond.code (am_y 171) (am_bc 171) (am_nL 171) (am_rty 171) ∈ am_good := am_good_in (List.mem_of_getElem? (i := 495) (by decide +kernel)) rfl
theorem am_cw172 : Cond.code (am_y 172) (am_bc 172) (am_nL 172) (am_rty 172) ∈ am_good := am_good_in (List.mem_of_getElem? (i := 602) (by decide +kernel)) rfl
theorem am_cw173 : Cond.code (am_y 173) (am_bc 173) (am_nL 173) (am_rty 173) ∈ am_good := am_good_in (List.mem_of_getElem? (i := 492) (by decide +kernel)) rfl
theorem am_cw174 : Cond.code (am_y 174) (am_bc 174) (am_nL 174) (am_rty 174) ∈ am_good := am_good_in (List.mem_of_getElem? (i := 578) (by decide +kernel)) rfl
theorem am_cw175 : Cond.code (am_y 175) (am_bc 175) (am_nL 175) (am_rty 175) ∈ am_good := am_good_in (List.mem_of_getElem? (i := 575) (by decide +kernel)) rfl
theorem am_cw176 : Cond.code (am_y 176) (am_bc 176) (am_nL 176) (am_rty 176) ∈ am_good := am_good_in (List.mem_of_getElem? (i := 587) (by decide +kernel)) rfl
theorem am_cw177 : Cond.code (am_y 177) (am_bc 177) (am_nL 177) (am_rty 177) ∈ am_good := am_good_in (List.mem_of_getElem? (i := 500) (by decide +kernel)) rfl
theorem am_cw178 : Cond.code (am_y 178) (am_bc 178) (am_nL 178) (am_rty 178) ∈ am_good := am_good_in (List.mem_of_getElem? (i := 605) (by decide +kernel)) rfl
theorem am_cv0 : ∀ a, a < 0 → Cond.code (am_y a) (am_bc a) (am_nL a) (am_rty a) ∈ am_good := lt_0
theorem am_cv1 : ∀ a, a < 1 → Cond.code (am_y a) (am_bc a) (am_nL a) (am_rty a) ∈ am_good := lt_s am_cv0 am_cw0
theorem am_cv2 : ∀ a, a < 2 → Cond.code (am_y a) (am_bc a) (am_nL a) (am_rty a) ∈ am_good := lt_s am_cv1 am_cw1
theorem am_cv3 : ∀ a, a < 3 → Cond.code (am_y a) (am_bc a) (am_nL a) (am_rty a) ∈ am_good := lt_s am_cv2 am_cw2
theorem am_cv4 : ∀ a, a < 4 → Cond.code (am_y a) (am_bc a) (am_nL a) (am_rty a) ∈ am_good := lt_s am_cv3 am_cw3
theorem am_cv5 : ∀ a, a < 5 → Cond.code (am_y a) (am_bc a) (am_nL a) (am_rty a) ∈ am_good := lt_s am_cv4 am_cw4
theorem am_cv6 : ∀ a, a < 6 → Cond.code (am_y a) (am_bc a) (am_nL a) (am_rty a) ∈ am_good := lt_s am_cv5 am_cw5
theorem am_cv7 : ∀ a, a < 7 → Cond.code (am_y a) (am_bc a) (am_nL a) (am_rty a) ∈ am_good := lt_s am_cv6 am_cw6
theorem am_cv8 : ∀ a, a < 8 → Cond.code (am_y a) (am_bc a) (am_nL a) (am_rty a) ∈ am_good := lt_s am_cv7 am_cw7
theorem am_cv9 : ∀ a, a < 9 → Cond.code (am_y a) (am_bc a) (am_nL a) (am_rty a) ∈ am_good := lt_s am_cv8 am_cw8
theorem am_cv10 : ∀ a, a < 10 → Cond.code (am_y a) (am_bc a) (am_nL a) (am_rty a) ∈ am_good := lt_s am_cv9 am_cw9
theorem am_cv11 : ∀ a, a < 11 → Cond.code (am_y a) (am_bc a) (am_nL a) (am_rty a) ∈ am_good := lt_s am_cv10 am_cw10
theorem am_cv12 : ∀ a, a < 12 → Cond.code (am_y a) (am_bc a) (am_nL a) (am_rty a) ∈ am_good := lt_s am_cv11 am_cw11
theorem am_cv13 : ∀ a, a < 13 → Cond.code (am_y a) (am_bc a) (am_nL a) (am_rty a) ∈ am_good := lt_s am_cv12 am_cw12
theorem am_cv14 : ∀ a, a < 14 → Cond.code (am_y a) (am_bc a) (am_nL a) (am_rty a) ∈ am_good := lt_s am_cv13 am_cw13
theorem am_cv15 : ∀ a, a < 15 → Cond.code (am_y a) (am_bc a) (am_nL a) (am_rty a) ∈ am_good := lt_s am_cv14 am_cw14
theorem am_cv16 : ∀ a, a < 16 → Cond.code (am_y a) (am_bc a) (am_nL a) (am_rty a) ∈ am_good := lt_s am_cv15 am_cw15
theorem am_cv17 : ∀ a, a < 17 → Cond.code (am_y a) (am_bc a) (am_nL a) (am_rty a) ∈ am_good := lt_s am_cv16 am_cw16
theorem am_cv18 : ∀ a, a < 18 → Cond.code (am_y a) (am_bc a) (am_nL a) (am_rty a) ∈ am_good := lt_s am_cv17 am_cw17
theorem am_cv19 : ∀ a, a < 19 → Cond.code (am_y a) (am_bc a) (am_nL a) (am_rty a) ∈ am_good := lt_s am_cv18 am_cw18
theorem am_cv20 : ∀ a, a < 20 → Cond.code (am_y a) (am_bc a) (am_nL a) (am_rty a) ∈ am_good := lt_s am_cv19 am_cw19
theorem am_cv21 : ∀ a, a < 21 → Cond.code (am_y a) (am_bc a) (am_nL a) (am_rty a) ∈ am_good := lt_s am_cv20 am_cw20
theorem am_cv22 : ∀ a, a < 22 → Cond.code (am_y a) (am_bc a) (am_nL a) (am_rty a) ∈ am_good := lt_s am_cv21 am_cw21
theorem am_cv23 : ∀ a, a < 23 → Cond.code (am_y a) (am_bc a) (am_nL a) (am_rty a) ∈ am_good := lt_s am_cv22 am_cw22
theorem am_cv24 : ∀ a, a < 24 → Cond.code (am_y a) (am_bc a) (am_nL a) (am_rty a) ∈ am_good := lt_s am_cv23 am_cw23
theorem am_cv25 : ∀ a, a < 25 → Cond.code (am_y a) (am_bc a) (am_nL a) (am_rty a) ∈ am_good := lt_s am_cv24 am_cw24
theorem am_cv26 : ∀ a, a < 26 → Cond.code (am_y a) (am_bc a) (am_nL a) (am_rty a) ∈ am_good := lt_s am_cv25 am_cw25
theorem am_cv27 : ∀ a, a < 27 → Cond.code (am_y a) (am_bc a) (am_nL a) (am_rty a) ∈ am_good := lt_s am_cv26 am_cw26
theorem am_cv28 : ∀ a, a < 28 → Cond.code (am_y a) (am_bc a) (am_nL a) (am_rty a) ∈ am_good := lt_s am_cv27 am_cw27
theorem am_cv29 : ∀ a, a < 29 → Cond.code (am_y a) (am_bc a) (am_nL a) (am_rty a) ∈ am_good := lt_s am_cv28 am_cw28
theorem am_cv30 : ∀ a, a < 30 → Cond.code (am_y a) (am_bc a) (am_nL a) (am_rty a) ∈ am_good := lt_s am_cv29 am_cw29
theorem am_cv31 : ∀ a, a < 31 → Cond.code (am_y a) (am_bc a) (am_nL a) (am_rty a) ∈ am_good := lt_s am_cv30 am_cw30
theorem am_cv32 : ∀ a, a < 32 → Cond.code (am_y a) (am_bc a) (am_nL a) (am_rty a) ∈ am_good := lt_s am_cv31 am_cw31
theorem am_cv33 : ∀ a, a < 33 → Cond.code (am_y a) (am_bc a) (am_nL a) (am_rty a) ∈ am_good := lt_s am_cv32 am_cw32
theorem am_cv34 : ∀ a, a < 34 → Cond.code (am_y a) (am_bc a) (am_nL a) (am_rty a) ∈ am_good := lt_s am_cv33 am_cw33
theorem am_cv35 : ∀ a, a < 35 → Cond.code (am_y a) (am_bc a) (am_nL a) (am_rty a) ∈ am_good := lt_s am_cv34 am_cw34
theorem am_cv36 : ∀ a, a < 36 → Cond.code (am_y a) (am_bc a) (am_nL a) (am_rty a) ∈ am_good := lt_s am_cv35 am_cw35
theorem am_cv37 : ∀ a, a < 37 → Cond.code (am_y a) (am_bc a) (am_nL a) (am_rty a) ∈ am_good := lt_s am_cv36 am_cw36
theorem am_cv38 : ∀ a, a < 38 → Cond.code (am_y a) (am_bc a) (am_nL a) (am_rty a) ∈ am_good := lt_s am_cv37 am_cw37
theorem am_cv39 : ∀ a, a < 39 → Cond.code (am_y a) (am_bc a) (am_nL a) (am_rty a) ∈ am_good := lt_s am_cv38 am_cw38
theorem am_cv40 : ∀ a, a < 40 → Cond.code (am_y a) (am_bc a) (am_nL a) (am_rty a) ∈ am_good := lt_s am_cv39 am_cw39
theorem am_cv41 : ∀ a, a < 41 → Cond.code (am_y a) (am_bc a) (am_nL a) (am_rty a) ∈ am_good := lt_s am_cv40 am_cw40
theorem am_cv42 : ∀ a, a < 42 → Cond.code (am_y a) (am_bc a) (am_nL a) (am_rty a) ∈ am_good := lt_s am_cv41 am_cw41
theorem am_cv43 : ∀ a, a < 43 → Cond.code (am_y a) (am_bc a) (am_nL a) (am_rty a) ∈ am_good := lt_s am_cv42 am_cw42
theorem am_cv44 : ∀ a, a < 44 → Cond.code (am_y a) (am_bc a) (am_nL a) (am_rty a) ∈ am_good := lt_s am_cv43 am_cw43
theorem am_cv45 : ∀ a, a < 45 → Cond.code (am_y a) (am_bc a) (am_nL a) (am_rty a) ∈ am_good := lt_s am_cv44 am_cw44
theorem am_cv46 : ∀ a, a < 46 → Cond.code (am_y a) (am_bc a) (am_nL a) (am_rty a) ∈ am_good := lt_s am_cv45 am_cw45
theorem am_cv47 : ∀ a, a < 47 → Cond.code (am_y a) (am_bc a) (am_nL a) (am_rty a) ∈ am_good := lt_s am_cv46 am_cw46
theorem am_cv48 : ∀ a, a < 48 → Cond.code (am_y a) (am_bc a) (am_nL a) (am_rty a) ∈ am_good := lt_s am_cv47 am_cw47
theorem am_cv49 : ∀ a, a < 49 → Cond.code (am_y a) (am_bc a) (am_nL a) (am_rty a) ∈ am_good := lt_s am_cv48 am_cw48
theorem am_cv50 : ∀ a, a < 50 → Cond.code (am_y a) (am_bc a) (am_nL a) (am_rty a) ∈ am_good := lt_s am_cv49 am_cw49
theorem am_cv51 : ∀ a, a < 51 → Cond.code (am_y a) (am_bc a) (am_nL a) (am_rty a) ∈ am_good := lt_s am_cv50 am_cw50
theorem am_cv52 : ∀ a, a < 52 → Cond.code (am_y a) (am_bc a) (am_nL a) (am_rty a) ∈ am_good := lt_s am_cv51 am_cw51
theorem am_cv53 : ∀ a, a < 53 → Cond.code (am_y a) (am_bc a) (am_nL a) (am_rty a) ∈ am_good := lt_s am_cv52 am_cw52
theorem am_cv54 : ∀ a, a < 54 → Cond.code (am_y a) (am_bc a) (am_nL a) (am_rty a) ∈ am_good := lt_s am_cv53 am_cw53
theorem am_cv55 : ∀ a, a < 55 → Cond.code (am_y a) (am_bc a) (am_nL a) (am_rty a) ∈ am_good := lt_s am_cv54 am_cw54
theorem am_cv56 : ∀ a, a < 56 → Cond.code (am_y a) (am_bc a) (am_nL a) (am_rty a) ∈ am_good := lt_s am_cv55 am_cw55
theorem am_cv57 : ∀ a, a < 57 → Cond.code (am_y a) (am_bc a) (am_nL a) (am_rty a) ∈ am_good := lt_s am_cv56 am_cw56
theorem am_cv58 : ∀ a, a < 58 → Cond.code (am_y a) (am_bc a) (am_nL a) (am_rty a) ∈ am_good := lt_s am_cv57 am_cw57
theorem am_cv59 : ∀ a, a < 59 → Cond.code (am_y a) (am_bc a) (am_nL a) (am_rty a) ∈ am_good := lt_s am_cv58 am_cw58
theorem am_cv60 : ∀ a, a < 60 → Cond.code (am_y a) (am_bc a) (am_nL a) (am_rty a) ∈ am_good := lt_s am_cv59 am_cw59
theorem am_cv61 : ∀ a, a < 61 → Cond.code (am_y a) (am_bc a) (am_nL a) (am_rty a) ∈ am_good := lt_s am_cv60 am_cw60
theorem am_cv62 : ∀ a, a < 62 → Cond.code (am_y a) (am_bc a) (am_nL a) (am_rty a) ∈ am_good := lt_s am_cv61 am_cw61
theorem am_cv63 : ∀ a, a < 63 → Cond.code (am_y a) (am_bc a) (am_nL a) (am_rty a) ∈ am_good := lt_s am_cv62 am_cw62
theorem am_cv64 : ∀ a, a < 64 → Cond.code (am_y a) (am_bc a) (am_nL a) (am_rty a) ∈ am_good := lt_s am_cv63 am_cw63
theorem am_cv65 : ∀ a, a < 65 → Cond.code (am_y a) (am_bc a) (am_nL a) (am_rty a) ∈ am_good := lt_s am_cv64 am_cw64
theorem am_cv66 : ∀ a, a < 66 → Cond.code (am_y a) (am_bc a) (am_nL a) (am_rty a) ∈ am_good := lt_s am_cv65 am_cw65
theorem am_cv67 : ∀ a, a < 67 → Cond.code (am_y a) (am_bc a) (am_nL a) (am_rty a) ∈ am_good := lt_s am_cv66 am_cw66
theorem am_cv68 : ∀ a, a < 68 → Cond.code (am_y a) (am_bc a) (am_nL a) (am_rty a) ∈ am_good := lt_s am_cv67 am_cw67
theorem am_cv69 : ∀ a, a < 69 → Cond.code (am_y a) (am_bc a) (am_nL a) (am_rty a) ∈ am_good := lt_s am_cv68 am_cw68
theorem am_cv70 : ∀ a, a < 70 → Cond.code (am_y a) (am_bc a) (am_nL a) (am_rty a) ∈ am_good := lt_s am_cv69 am_cw69
theorem am_cv71 : ∀ a, a < 71 → Cond.code (am_y a) (am_bc a) (am_nL a) (am_rty a) ∈ am_good := lt_s am_cv70 am_cw70
theorem am_cv72 : ∀ a, a < 72 → Cond.code (am_y a) (am_bc a) (am_nL a) (am_rty a) ∈ am_good := lt_s am_cv71 am_cw71
theorem am_cv73 : ∀ a, a < 73 → Cond.code (am_y a) (am_bc a) (am_nL a) (am_rty a) ∈ am_good := lt_s am_cv72 am_cw72
theorem am_cv74 : ∀ a, a < 74 → Cond.code (am_y a) (am_bc a) (am_nL a) (am_rty a) ∈ am_good := lt_s am_cv73 am_cw73
theorem am_cv75 : ∀ a, a < 75 → Cond.code (am_y a) (am_bc a) (am_nL a) (am_rty a) ∈ am_good := lt_s am_cv74 am_cw74
theorem am_cv76 : ∀ a, a < 76 → Cond.code (am_y a) (am_bc a) (am_nL a) (am_rty a) ∈ am_good := lt_s am_cv75 am_cw75
theorem am_cv77 : ∀ a, a < 77 → Cond.code (am_y a) (am_bc a) (am_nL a) (am_rty a) ∈ am_good := lt_s am_cv76 am_cw76
theorem am_cv78 : ∀ a, a < 78 → Cond.code (am_y a) (am_bc a) (am_nL a) (am_rty a) ∈ am_good := lt_s am_cv77 am_cw77
theorem am_cv79 : ∀ a, a < 79 → Cond.code (am_y a) (am_bc a) (am_nL a) (am_rty a) ∈ am_good := lt_s am_cv78 am_cw78
theorem am_cv80 : ∀ a, a < 80 → Cond.code (am_y a) (am_bc a) (am_nL a) (am_rty a) ∈ am_good := lt_s am_cv79 am_cw79
theorem am_cv81 : ∀ a, a < 81 → Cond.code (am_y a) (am_bc a) (am_nL a) (am_rty a) ∈ am_good := lt_s am_cv80 am_cw80
theorem am_cv82 : ∀ a, a < 82 → Cond.code (am_y a) (am_bc a) (am_nL a) (am_rty a) ∈ am_good := lt_s am_cv81 am_cw81
theorem am_cv83 : ∀ a, a < 83 → Cond.code (am_y a) (am_bc a) (am_nL a) (am_rty a) ∈ am_good := lt_s am_cv82 am_cw82
theorem am_cv84 : ∀ a, a < 84 → Cond.code (am_y a) (am_bc a) (am_nL a) (am_rty a) ∈ am_good := lt_s am_cv83 am_cw83
theorem am_cv85 : ∀ a, a < 85 → Cond.code (am_y a) (am_bc a) (am_nL a) (am_rty a) ∈ am_good := lt_s am_cv84 am_cw84
theorem am_cv86 : ∀ a, a < 86 → Cond.code (am_y a) (am_bc a) (am_nL a) (am_rty a) ∈ am_good := lt_s am_cv85 am_cw85
theorem am_cv87 : ∀ a, a < 87 → Cond.code (am_y a) (am_bc a) (am_nL a) (am_rty a) ∈ am_good := lt_s am_cv86 am_cw86
theorem am_cv88 : ∀ a, a < 88 → Cond.code (am_y a) (am_bc a) (am_nL a) (am_rty a) ∈ am_good := lt_s am_cv87 am_cw87
theorem am_cv89 : ∀ a, a < 89 → Cond.code (am_y a) (am_bc a) (am_nL a) (am_rty a) ∈ am_good := lt_s am_cv88 am_cw88
theorem am_cv90 : ∀ a, a < 90 → Cond.code (am_y a) (am_bc a) (am_nL a) (am_rty a) ∈ am_good := lt_s am_cv89 am_cw89
theorem am_cv91 : ∀ a, a < 91 → Cond.code (am_y a) (am_bc a) (am_nL a) (am_rty a) ∈ am_good := lt_s am_cv90 am_cw90
theorem am_cv92 : ∀ a, a < 92 → Cond.code (am_y a) (am_bc a) (am_nL a) (am_rty a) ∈ am_good := lt_s am_cv91 am_cw91
theorem am_cv93 : ∀ a, a < 93 → Cond.code (am_y a) (am_bc a) (am_nL a) (am_rty a) ∈ am_good := lt_s am_cv92 am_cw92
theorem am_cv94 : ∀ a, a < 94 → Cond.code (am_y a) (am_bc a) (am_nL a) (am_rty a) ∈ am_good := lt_s am_cv93 am_cw93
theorem am_cv95 : ∀ a, a < 95 → Cond.code (am_y a) (am_bc a) (am_nL a) (am_rty a) ∈ am_good := lt_s am_cv94 am_cw94
theorem am_cv96 : ∀ a, a < 96 → Cond.code (am_y a) (am_bc a) (am_nL a) (am_rty a) ∈ am_good := lt_s am_cv95 am_cw95
theorem am_cv97 : ∀ a, a < 97 → Cond.code (am_y a) (am_bc a) (am_nL a) (am_rty a) ∈ am_good := lt_s am_cv96 am_cw96
theorem am_cv98 : ∀ a, a < 98 → Cond.code (am_y a) (am_bc a) (am_nL a) (am_rty a) ∈ am_good := lt_s am_cv97 am_cw97
theorem am_cv99 : ∀ a, a < 99 → Cond.code (am_y a) (am_bc a) (am_nL a) (am_rty a) ∈ am_good := lt_s am_cv98 am_cw98
theorem am_cv100 : ∀ a, a < 100 → Cond.code (am_y a) (am_bc a) (am_nL a) (am_rty a) ∈ am_good := lt_s am_cv99 am_cw99
theorem am_cv101 : ∀ a, a < 101 → Cond.code (am_y a) (am_bc a) (am_nL a) (am_rty a) ∈ am_good := lt_s am_cv100 am_cw100
theorem am_cv102 : ∀ a, a < 102 → Cond.code (am_y a) (am_bc a) (am_nL a) (am_rty a) ∈ am_good := lt_s am_cv101 am_cw101
theorem am_cv103 : ∀ a, a < 103 → Cond.code (am_y a) (am_bc a) (am_nL a) (am_rty a) ∈ am_good := lt_s am_cv102 am_cw102
theorem am_cv104 : ∀ a, a < 104 → Cond.code (am_y a) (am_bc a) (am_nL a) (am_rty a) ∈ am_good := lt_s am_cv103 am_cw103
theorem am_cv105 : ∀ a, a < 105 → Cond.code (am_y a) (am_bc a) (am_nL a) (am_rty a) ∈ am_good := lt_s am_cv104 am_cw104
theorem am_cv106 : ∀ a, a < 106 → Cond.code (am_y a) (am_bc a) (am_nL a) (am_rty a) ∈ am_good := lt_s am_cv105 am_cw105
theorem am_cv107 : ∀ a, a < 107 → Cond.code (am_y a) (am_bc a) (am_nL a) (am_rty a) ∈ am_good := lt_s am_cv106 am_cw106
theorem am_cv108 : ∀ a, a < 108 → Cond.code (am_y a) (am_bc a) (am_nL a) (am_rty a) ∈ am_good := lt_s am_cv107 am_cw107
theorem am_cv109 : ∀ a, a < 109 → Cond.code (am_y a) (am_bc a) (am_nL a) (am_rty a) ∈ am_good := lt_s am_cv108 am_cw108
theorem am_cv110 : ∀ a, a < 110 → Cond.code (am_y a) (am_bc a) (am_nL a) (am_rty a) ∈ am_good := lt_s am_cv109 am_cw109
theorem am_cv111 : ∀ a, a < 111 → Cond.code (am_y a) (am_bc a) (am_nL a) (am_rty a) ∈ am_good := lt_s am_cv110 am_cw110
theorem am_cv112 : ∀ a, a < 112 → Cond.code (am_y a) (am_bc a) (am_nL a) (am_rty a) ∈ am_good := lt_s am_cv111 am_cw111
theorem am_cv113 : ∀ a, a < 113 → Cond.code (am_y a) (am_bc a) (am_nL a) (am_rty a) ∈ am_good := lt_s am_cv112 am_cw112
theorem am_cv114 : ∀ a, a < 114 → Cond.code (am_y a) (am_bc a) (am_nL a) (am_rty a) ∈ am_good := lt_s am_cv113 am_cw113
theorem am_cv115 : ∀ a, a < 115 → Cond.code (am_y a) (am_bc a) (am_nL a) (am_rty a) ∈ am_good := lt_s am_cv114 am_cw114
theorem am_cv116 : ∀ a, a < 116 → Cond.code (am_y a) (am_bc a) (am_nL a) (am_rty a) ∈ am_good := lt_s am_cv115 am_cw115
theorem am_cv117 : ∀ a, a < 117 → Cond.code (am_y a) (am_bc a) (am_nL a) (am_rty a) ∈ am_good := lt_s am_cv116 am_cw116
theorem am_cv118 : ∀ a, a < 118 → Cond.code (am_y a) (am_bc a) (am_nL a) (am_rty a) ∈ am_good := lt_s am_cv117 am_cw117
theorem am_cv119 : ∀ a, a < 119 → Cond.code (am_y a) (am_bc a) (am_nL a) (am_rty a) ∈ am_good := lt_s am_cv118 am_cw118
theorem am_cv120 : ∀ a, a < 120 → Cond.code (am_y a) (am_bc a) (am_nL a) (am_rty a) ∈ am_good := lt_s am_cv119 am_cw119
theorem am_cv121 : ∀ a, a < 121 → Cond.code (am_y a) (am_bc a) (am_nL a) (am_rty a) ∈ am_good := lt_s am_cv120 am_cw120
theorem am_cv122 : ∀ a, a < 122 → Cond.code (am_y a) (am_bc a) (am_nL a) (am_rty a) ∈ am_good := lt_s am_cv121 am_cw121
theorem am_cv123 : ∀ a, a < 123 → Cond.code (am_y a) (am_bc a) (am_nL a) (am_rty a) ∈ am_good := lt_s am_cv122 am_cw122
theorem am_cv124 : ∀ a, a < 124 → Cond.code (am_y a) (am_bc a) (am_nL a) (am_rty a) ∈ am_good := lt_s am_cv123 am_cw123
theorem am_cv125 : ∀ a, a < 125 → Cond.code (am_y a) (am_bc a) (am_nL a) (am_rty a) ∈ am_good := lt_s am_cv124 am_cw124
theorem am_cv126 : ∀ a, a < 126 → Cond.code (am_y a) (am_bc a) (am_nL a) (am_rty a) ∈ am_good := lt_s am_cv125 am_cw125
theorem am_cv127 : ∀ a, a < 127 → Cond.code (am_y a) (am_bc a) (am_nL a) (am_rty a) ∈ am_good := lt_s am_cv126 am_cw126
theorem am_cv128 : ∀ a, a < 128 → Cond.code (am_y a) (am_bc a) (am_nL a) (am_rty a) ∈ am_good := lt_s am_cv127 am_cw127
theorem am_cv129 : ∀ a, a < 129 → Cond.code (am_y a) (am_bc a) (am_nL a) (am_rty a) ∈ am_good := lt_s am_cv128 am_cw128
theorem am_cv130 : ∀ a, a < 130 → Cond.code (am_y a) (am_bc a) (am_nL a) (am_rty a) ∈ am_good := lt_s am_cv129 am_cw129
theorem am_cv131 : ∀ a, a < 131 → Cond.code (am_y a) (am_bc a) (am_nL a) (am_rty a) ∈ am_good := lt_s am_cv130 am_cw130
theorem am_cv132 : ∀ a, a < 132 → Cond.code (am_y a) (am_bc a) (am_nL a) (am_rty a) ∈ am_good := lt_s am_cv131 am_cw131
theorem am_cv133 : ∀ a, a < 133 → Cond.code (am_y a) (am_bc a) (am_nL a) (am_rty a) ∈ am_good := lt_s am_cv132 am_cw132
theorem am_cv134 : ∀ a, a < 134 → Cond.code (am_y a) (am_bc a) (am_nL a) (am_rty a) ∈ am_good := lt_s am_cv133 am_cw133
theorem am_cv135 : ∀ a, a < 135 → Cond.code (am_y a) (am_bc a) (am_nL a) (am_rty a) ∈ am_good := lt_s am_cv134 am_cw134
theorem am_cv136 : ∀ a, a < 136 → Cond.code (am_y a) (am_bc a) (am_nL a) (am_rty a) ∈ am_good := lt_s am_cv135 am_cw135
theorem am_cv137 : ∀ a, a < 137 → Cond.code (am_y a) (am_bc a) (am_nL a) (am_rty a) ∈ am_good := lt_s am_cv136 am_cw136
theorem am_cv138 : ∀ a, a < 138 → Cond.code (am_y a) (am_bc a) (am_nL a) (am_rty a) ∈ am_good := lt_s am_cv137 am_cw137
theorem am_cv139 : ∀ a, a < 139 → Cond.code (am_y a) (am_bc a) (am_nL a) (am_rty a) ∈ am_good := lt_s am_cv138 am_cw138
theorem am_cv140 : ∀ a, a < 140 → Cond.code (am_y a) (am_bc a) (am_nL a) (am_rty a) ∈ am_good := lt_s am_cv139 am_cw139
theorem am_cv141 : ∀ a, a < 141 → Cond.code (am_y a) (am_bc a) (am_nL a) (am_rty a) ∈ am_good := lt_s am_cv140 am_cw140
theorem am_cv142 : ∀ a, a < 142 → Cond.code (am_y a) (am_bc a) (am_nL a) (am_rty a) ∈ am_good := lt_s am_cv141 am_cw141
theorem am_cv143 : ∀ a, a < 143 → Cond.code (am_y a) (am_bc a) (am_nL a) (am_rty a) ∈ am_good := lt_s am_cv142 am_cw142
theorem am_cv144 : ∀ a, a < 144 → Cond.code (am_y a) (am_bc a) (am_nL a) (am_rty a) ∈ am_good := lt_s am_cv143 am_cw143
theorem am_cv145 : ∀ a, a < 145 → Cond.code (am_y a) (am_bc a) (am_nL a) (am_rty a) ∈ am_good := lt_s am_cv144 am_cw144
theorem am_cv146 : ∀ a, a < 146 → Cond.code (am_y a) (am_bc a) (am_nL a) (am_rty a) ∈ am_good := lt_s am_cv145 am_cw145
theorem am_cv147 : ∀ a, a < 147 → Cond.code (am_y a) (am_bc a) (am_nL a) (am_rty a) ∈ am_good := lt_s am_cv146 am_cw146
theorem am_cv148 : ∀ a, a < 148 → Cond.code (am_y a) (am_bc a) (am_nL a) (am_rty a) ∈ am_good := lt_s am_cv147 am_cw147
theorem am_cv149 : ∀ a, a < 149 → Cond.code (am_y a) (am_bc a) (am_nL a) (am_rty a) ∈ am_good := lt_s am_cv148 am_cw148
theorem am_cv150 : ∀ a, a < 150 → Cond.code (am_y a) (am_bc a) (am_nL a) (am_rty a) ∈ am_good := lt_s am_cv149 am_cw149
theorem am_cv151 : ∀ a, a < 151 → Cond.code (am_y a) (am_bc a) (am_nL a) (am_rty a) ∈ am_good := lt_s am_cv150 am_cw150
theorem am_cv152 : ∀ a, a < 152 → Cond.code (am_y a) (am_bc a) (am_nL a) (am_rty a) ∈ am_good := lt_s am_cv151 am_cw151
theorem am_cv153 : ∀ a, a < 153 → Cond.code (am_y a) (am_bc a) (am_nL a) (am_rty a) ∈ am_good := lt_s am_cv152 am_cw152
theorem am_cv154 : ∀ a, a < 154 → Cond.code (am_y a) (am_bc a) (am_nL a) (am_rty a) ∈ am_good := lt_s am_cv153 am_cw153
theorem am_cv155 : ∀ a, a < 155 → Cond.code (am_y a) (am_bc a) (am_nL a) (am_rty a) ∈ am_good := lt_s am_cv154 am_cw154
theorem am_cv156 : ∀ a, a < 156 → Cond.code (am_y a) (am_bc a) (am_nL a) (am_rty a) ∈ am_good := lt_s am_cv155 am_cw155
theorem am_cv157 : ∀ a, a < 157 → Cond.code (am_y a) (am_bc a) (am_nL a) (am_rty a) ∈ am_good := lt_s am_cv156 am_cw156
theorem am_cv158 : ∀ a, a < 158 → Cond.code (am_y a) (am_bc a) (am_nL a) (am_rty a) ∈ am_good := lt_s am_cv157 am_cw157
theorem am_cv159 : ∀ a, a < 159 → Cond.code (am_y a) (am_bc a) (am_nL a) (am_rty a) ∈ am_good := lt_s am_cv158 am_cw158
theorem am_cv160 : ∀ a, a < 160 → Cond.code (am_y a) (am_bc a) (am_nL a) (am_rty a) ∈ am_good := lt_s am_cv159 am_cw159
theorem am_cv161 : ∀ a, a < 161 → Cond.code (am_y a) (am_bc a) (am_nL a) (am_rty a) ∈ am_good := lt_s am_cv160 am_cw160
theorem am_cv162 : ∀ a, a < 162 → Cond.code (am_y a) (am_bc a) (am_nL a) (am_rty a) ∈ am_good := lt_s am_cv161 am_cw161
theorem am_cv163 : ∀ a, a < 163 → Cond.code (am_y a) (am_bc a) (am_nL a) (am_rty a) ∈ am_good := lt_s am_cv162 am_cw162
theorem am_cv164 : ∀ a, a < 164 → Cond.code (am_y a) (am_bc a) (am_nL a) (am_rty a) ∈ am_good := lt_s am_cv163 am_cw163
theorem am_cv165 : ∀ a, a < 165 → Cond.code (am_y a) (am_bc a) (am_nL a) (am_rty a) ∈ am_good := lt_s am_cv164 am_cw164
theorem am_cv166 : ∀ a, a < 166 → Cond.code (am_y a) (am_bc a) (am_nL a) (am_rty a) ∈ am_good := lt_s am_cv165 am_cw165
theorem am_cv167 : ∀ a, a < 167 → Cond.code (am_y a) (am_bc a) (am_nL a) (am_rty a) ∈ am_good := lt_s am_cv166 am_cw166
theorem am_cv168 : ∀ a, a < 168 → Cond.code (am_y a) (am_bc a) (am_nL a) (am_rty a) ∈ am_good := lt_s am_cv167 am_cw167
theorem am_cv169 : ∀ a, a < 169 → Cond.code (am_y a) (am_bc a) (am_nL a) (am_rty a) ∈ am_good := lt_s am_cv168 am_cw168
theorem am_cv170 : ∀ a, a < 170 → Cond.code (am_y a) (am_bc a) (am_nL a) (am_rty a) ∈ am_good := lt_s am_cv169 am_cw169
theorem am_cv171 : ∀ a, a < 171 → Cond.code (am_y a) (am_bc a) (am_nL a) (am_rty a) ∈ am_good := lt_s am_cv170 am_cw170
theorem am_cv172 : ∀ a, a < 172 → Cond.code (am_y a) (am_bc a) (am_nL a) (am_rty a) ∈ am_good := lt_s am_cv171 am_cw171
theorem am_cv173 : ∀ a, a < 173 → Cond.code (am_y a) (am_bc a) (am_nL a) (am_rty a) ∈ am_good := lt_s am_cv172 am_cw172
theorem am_cv174 : ∀ a, a < 174 → Cond.code (am_y a) (am_bc a) (am_nL a) (am_rty a) ∈ am_good := lt_s am_cv173 am_cw173
theorem am_cv175 : ∀ a, a < 175 → Cond.code (am_y a) (am_bc a) (am_nL a) (am_rty a) ∈ am_good := lt_s am_cv174 am_cw174
theorem am_cv176 : ∀ a, a < 176 → Cond.code (am_y a) (am_bc a) (am_nL a) (am_rty a) ∈ am_good := lt_s am_cv175 am_cw175
theorem am_cv177 : ∀ a, a < 177 → Cond.code (am_y a) (am_bc a) (am_nL a) (am_rty a) ∈ am_good := lt_s am_cv176 am_cw176
theorem am_cv178 : ∀ a, a < 178 → Cond.code (am_y a) (am_bc a) (am_nL a) (am_rty a) ∈ am_good := lt_s am_cv177 am_cw177
theorem am_cv179 : ∀ a, a < 179 → Cond.code (am_y a) (am_bc a) (am_nL a) (am_rty a) ∈ am_good := lt_s am_cv178 am_cw178
theorem am_code_ok : ∀ a, a < 179 → Cond.code (am_y a) (am_bc a) (am_nL a) (am_rty a) ∈ am_good := am_cv179
def am_frs : List (List (Nat × Nat)) := [[(1, 22), (1, 22), (1, 21), (1, 22), (2, 45), (1, 22), (1, 22), (1, 20), (1, 22), (1, 22), (1, 22), (2, 42), (2, 42), (6, 137), (5, 113), (4, 88)], [(3, 77), (1, 22), (3, 67), (2, 43), (1, 20), (3, 67), (2, 43), (3, 70), (2, 45), (0, 0), (0, 0), (0, 0), (1, 20), (0, 0), (0, 0), (1, 23)], [(2, 49), (2, 49), (2, 49), (2, 45), (2, 45), (1, 22), (1, 22), (2, 40), (2, 42), (1, 22), (0, 0), (3, 60), (8, 180), (0, 0), (0, 0), (1, 21)], [(5, 109), (0, 0), (2, 49), (2, 49), (6, 135), (5, 109), (0, 0), (0, 0), (7, 154), (0, 0), (5, 109), (6, 130), (2, 49), (7, 154), (6, 130), (7, 154)], [(3, 73), (1, 22), (1, 22), (1, 20), (1, 22), (0, 0), (4, 85), (1, 23), (4, 80), (2, 46), (0, 0), (9, 203), (0, 0), (0, 0), (3, 62), (1, 22)], [(7, 160), (7, 160), (1, 21), (1, 21), (2, 43), (2, 43), (0, 0), (0, 0), (0, 0), (0, 0), (0, 0), (0, 0), (0, 0), (0, 0), (1, 21), (0, 0)], [(0, 0), (0, 0), (0, 0), (0, 0), (0, 0), (0, 0), (0, 0), (0, 0), (1, 20), (0, 0), (2, 44), (2, 44), (0, 0), (1, 21), (0, 0), (3, 67)], [(0, 0), (0, 0), (4, 93), (1, 22), (4, 93), (4, 88), (3, 67), (0, 0), (3, 67), (4, 89), (2, 42), (4, 93), (5, 118), (3, 67), (4, 93), (6, 139)], [(0, 0), (7, 162), (0, 0), (0, 0), (0, 0), (1, 21), (0, 0), (0, 0), (0, 0), (1, 25), (0, 0), (0, 0), (0, 0), (1, 20), (2, 42), (3, 65)], [(3, 65), (1, 23), (4, 87), (5, 110), (1, 23), (6, 135), (7, 157), (7, 157), (0, 0), (1, 21), (1, 21), (1, 21), (1, 21), (1, 21), (0, 0), (0, 0)], [(0, 0), (0, 0), (0, 0), (0, 0), (0, 0), (1, 20), (3, 64), (3, 70), (2, 48), (0, 0), (0, 0), (1, 22), (1, 23), (2, 43), (0, 0), (1, 25)], [(0, 0), (0, 0), (0, 0), (10, 224)]]
def am_fr (m : Nat) : Nat := ((am_frs.getD (m / 16) []).getD (m % 16) (0, 0)).1
def am_lo (m : Nat) : Nat := ((am_frs.getD (m / 16) []).getD (m % 16) (0, 0)).2
def am_rk1 (m i : Nat) : Bool := match am_ins m i with
  | (ir, a, _, c) => match ir with
    | .invokevirtual _ => cond (Nat.beq c 98) true (Nat.ble (am_fr a + 1) (am_fr m) && Nat.ble (8 + (am_nL a + 11) + am_lo a) (am_lo m))
    | .invokestatic _ => cond (Nat.beq c 98) true (Nat.ble (am_fr a + 1) (am_fr m) && Nat.ble (8 + (am_nL a + 11) + am_lo a) (am_lo m))
    | .invokespecial _ => cond (Nat.beq c 99) (Nat.ble 1 (am_fr m) && Nat.ble 20 (am_lo m)) (Nat.ble (am_fr a + 1) (am_fr m) && Nat.ble (8 + (am_nL a + 11) + am_lo a) (am_lo m))
    | _ => true
def am_rkp (m : Nat) : Bool := (List.range (16 * (am_cc m).length)).all (am_rk1 m)
theorem am_rk_all : (List.range 180).all am_rkp = true := by decide +kernel
end
section
/-! THE ABSTRACT MACHINE: one world of numbered cells; ints, longs, op references by (cell, place); a method's run is a function. -/
abbrev am_D : Type := (Nat → Nat → Int32) × (Nat → Nat → Int64) × (Nat → Nat → Nat)
abbrev am_Z : Type := (Nat → Nat → Nat) × (Nat → Nat × Nat) × Nat
abbrev am_H : Type := am_D × am_Z × (Nat × Nat)
abbrev am_R : Type := Option (Value × am_H)
abbrev am_K : Type := Nat → Nat → List Value → List Value → am_H → am_R
def am_up {α : Type} (f : Nat → Nat → α) (q k : Nat) (v : α) : Nat → Nat → α := fun a b => cond (Nat.beq a q && Nat.beq b k) v (f a b)
def am_clr {α : Type} (f : Nat → Nat → α) (q : Nat) (v : α) : Nat → Nat → α := fun a b => cond (Nat.beq a q) v (f a b)
abbrev am_S (h : am_H) (q : Nat) : Nat × Nat := h.2.1.2.1 q
def am_sI (h : am_H) (q k : Nat) (v : Int32) : am_H := ((am_up h.1.1 q k v, h.1.2.1, h.1.2.2), h.2)
def am_sJ (h : am_H) (q k : Nat) (v : Int64) : am_H := ((h.1.1, am_up h.1.2.1 q k v, h.1.2.2), h.2)
def am_sT (h : am_H) (q k : Nat) (v : Nat) : am_H := ((h.1.1, h.1.2.1, am_up h.1.2.2 q k v), h.2)
def am_sR (h : am_H) (q k : Nat) (v : Nat) : am_H := (h.1, (am_up h.2.1.1 q k v, h.2.1.2), h.2.2)
def am_swap (h : am_H) : am_H := ((fun a => h.1.1 (am_sig a), fun a => h.1.2.1 (am_sig a), fun a => h.1.2.2 (am_sig a)), (fun a b => am_sig (h.2.1.1 (am_sig a) b), fun a => h.2.1.2.1 (am_sig a), h.2.1.2.2), h.2.2)
def am_ren (v : Value) : Value := match v with
  | .ref q => .ref (am_sig q)
  | v => v
def am_new (h : am_H) (kd len : Nat) : am_H := ((am_clr h.1.1 (h.2.1.2.2 + 1) 0, am_clr h.1.2.1 (h.2.1.2.2 + 1) 0, am_clr h.1.2.2 (h.2.1.2.2 + 1) 0), (am_clr h.2.1.1 (h.2.1.2.2 + 1) 0, fun q => cond (Nat.beq q (h.2.1.2.2 + 1)) (kd, len) (h.2.1.2.1 q), h.2.1.2.2 + 1), (h.2.2.1 + 1, h.2.2.2 + len))
def am_vI (v : Value) (f : Int32 → am_R) : am_R := match v with
  | .int x => f x
  | _ => none
def am_vJ (v : Value) (f : Int64 → am_R) : am_R := match v with
  | .long x => f x
  | _ => none
def am_vR (v : Value) (f : Nat → am_R) : am_R := match v with
  | .ref x => f x
  | _ => none
def am_i1 (st : List Value) (f : Int32 → List Value → am_R) : am_R := match st with
  | .int x :: r => f x r
  | _ => none
def am_j1 (st : List Value) (f : Int64 → List Value → am_R) : am_R := match st with
  | .long x :: r => f x r
  | _ => none
def am_r1 (st : List Value) (f : Nat → List Value → am_R) : am_R := match st with
  | .ref x :: r => f x r
  | _ => none
def am_i2 (st : List Value) (f : Int32 → Int32 → List Value → am_R) : am_R := match st with
  | .int y :: .int x :: r => f x y r
  | _ => none
def am_j2 (st : List Value) (f : Int64 → Int64 → List Value → am_R) : am_R := match st with
  | .long y :: .long x :: r => f x y r
  | _ => none
def am_ji (st : List Value) (f : Int64 → Int32 → List Value → am_R) : am_R := match st with
  | .int y :: .long x :: r => f x y r
  | _ => none
def am_r2 (st : List Value) (f : Nat → Nat → List Value → am_R) : am_R := match st with
  | .ref y :: .ref x :: r => f x y r
  | _ => none
def am_ir (st : List Value) (f : Int32 → Nat → List Value → am_R) : am_R := match st with
  | .int j :: .ref q :: r => f j q r
  | _ => none
def am_iir (st : List Value) (f : Int32 → Int32 → Nat → List Value → am_R) : am_R := match st with
  | .int x :: .int j :: .ref q :: r => f x j q r
  | _ => none
def am_jir (st : List Value) (f : Int64 → Int32 → Nat → List Value → am_R) : am_R := match st with
  | .long x :: .int j :: .ref q :: r => f x j q r
  | _ => none
def am_rir (st : List Value) (f : Nat → Int32 → Nat → List Value → am_R) : am_R := match st with
  | .ref x :: .int j :: .ref q :: r => f x j q r
  | _ => none
def am_vr (st : List Value) (f : Value → Nat → List Value → am_R) : am_R := match st with
  | v :: .ref q :: r => f v q r
  | _ => none
def am_v1 (st : List Value) (f : Value → List Value → am_R) : am_R := match st with
  | .int x :: r => f (.int x) r
  | .ref x :: r => f (.ref x) r
  | _ => none
def am_o1 (st : List Value) (f : Value → am_R) : am_R := match st with
  | [v] => f v
  | _ => none
def am_o0 (st : List Value) (f : am_R) : am_R := match st with
  | [] => f
  | _ => none
/-- a store to local i: what was a long in front is lost -/
def am_kl (v : Value) : Value := match v with
  | .int x => .int x
  | .ref x => .ref x
  | _ => .null
def am_st1 : List Value → Nat → Value → List Value
  | [], _, _ => []
  | _ :: r, 0, v => v :: r
  | x :: r, 1, v => am_kl x :: am_st1 r 0 v
  | x :: r, n + 2, v => x :: am_st1 r (n + 1) v
def am_st2 (ls : List Value) (i : Nat) (v : Value) : List Value := ((am_st1 ls i .null).set i v).set (i + 1) .null
def am_exp : List Value → List Value
  | [] => []
  | .long x :: r => .long x :: .null :: am_exp r
  | v :: r => v :: am_exp r
def am_ent (as : List Value) (n : Nat) : List Value := am_exp as ++ List.replicate (n - (am_exp as).length) .null
def am_bit (x : Int32) : Bool := decide (x = 0) || decide (x = 1)
def am_br (cnd : ClassFile.Cond) (x y : Int32) (t f : am_R) : am_R := match cnd with
  | .eq => if x = y then t else f
  | .ne => if x = y then f else t
  | .lt => if x < y then t else f
  | .ge => if y ≤ x then t else f
  | .gt => if y < x then t else f
  | .le => if x ≤ y then t else f
def am_abr (cnd : ClassFile.ACond) (x y : Nat) (t f : am_R) : am_R := match cnd with
  | .eq => if x = y then t else f
  | .ne => if x = y then f else t
def am_sel (k : Nat → am_R) (x : Int32) (d : Nat) : Int32 → List Nat → am_R
  | _, [] => k d
  | lo, t :: ts => if x = lo then k t else am_sel k x d (lo + 1) ts
def am_inb (j : Int32) (n : Nat) (r : am_R) : am_R := if j < 0 then none else if n ≤ j.toNatClampNeg then none else r
/-- the refused calls: what the law's catch answers -/
def am_thr (a : Nat) (as : List Value) (t1 t2 ok : am_R) : am_R := match a, as with
  | 0, [_, .int n, _, _] => if n < 1 then t1 else if 8 < n then t1 else ok
  | 1, [_, .int i, _] => if i < 0 then t1 else if 32 ≤ i then t1 else ok
  | 2, [_, .int t, _] => if t < 0 then t1 else if 1000000 < t then t1 else ok
  | 3, [_, .int n, .int t, _] => if n < 0 then t1 else if 100 < n then t1 else if t < 0 then t1 else if 1000000 < t then t1 else ok
  | 4, [_, .int i, _] => if i < 0 then t1 else if 32 ≤ i then t1 else ok
  | 5, [_, .int i, _] => if i < 0 then t1 else if 4 < i then t1 else ok
  | 6, [_, .int i, _] => if i < 0 then t1 else if 32 ≤ i then t1 else ok
  | 7, [_, .int i, .int w, _] => if i < 0 then t1 else if 8 ≤ i then t1 else if w < 0 then t2 else if 3 < w then t2 else ok
  | _, _ => none
def am_bump (h : am_H) : am_H := (h.1, h.2.1, (h.2.2.1 + 2, h.2.2.2 + 16))
def am_win (a : Nat) (as : List Value) : List Value := match a with
  | 1 => as
  | _ => as.dropLast
def am_out (a : Nat) (as : List Value) (v : Value) (h : am_H) (k : am_H → am_R) : am_R := match a with
  | 1 => k h
  | 4 => match as.getLast? with
    | some (.ref o) => cond (Nat.beq (am_S h o).1 22) (am_inb 0 (am_S h o).2 (am_vI v fun x => if x = 0 then k (am_sJ h o 0 0) else k (am_sJ h o 0 1))) none
    | _ => none
  | _ => match as.getLast? with
    | some (.ref o) => cond (Nat.beq (am_S h o).1 22) (am_inb 0 (am_S h o).2 (am_vI v fun x => k (am_sJ h o 0 x.toInt64))) none
    | _ => none
def am_recv (c : Nat) (as : List Value) (h : am_H) (k : am_R) : am_R := match c, as with
  | 0, _ => k
  | c + 1, .ref q :: _ => cond (Nat.beq (am_S h q).1 (c + 1)) k none
  | _, _ => none
def am_back (t : Nat) (v : Value) (r : List Value) (k : List Value → am_R) : am_R := match t with
  | 0 => k r
  | 2 => am_vJ v fun x => k (.long x :: r)
  | 3 => am_vR v fun x => k (.ref x :: r)
  | _ => am_vI v fun x => k (.int x :: r)
def am_run (K : am_K) (a : Nat) (as : List Value) (h : am_H) (k : Value × am_H → am_R) : am_R :=
  cond (Nat.ble (am_exp as).length (am_nL a)) ((K a 0 (am_ent as (am_nL a)) [] h).bind k) none
def am_call (K : am_K) (m i : Nat) (ls st : List Value) (h : am_H) (a b c : Nat) : am_R :=
  cond (Nat.ble b st.length && Nat.ble (st.drop b).length 4) (
    cond (Nat.beq c 99) (cond (Nat.beq b 1) (am_r1 st fun q r => cond (Nat.ble 1 (am_S h q).1 && Nat.ble (am_S h q).1 9) (K m (i + 1) ls r h) none) none) (
    cond (Nat.beq c 98) (am_thr a (st.take b).reverse (K m (i + 1) ls (.int 1 :: st.drop b) (am_bump h)) (K m (i + 1) ls (.int 2 :: st.drop b) (am_bump h)) (am_run K (am_wm a) (am_win a (st.take b).reverse) h fun rh => am_out a (st.take b).reverse rh.1 rh.2 fun h' => K m (i + 1) ls (.int 0 :: st.drop b) h')) (
    cond (Nat.beq c 97) (am_recv 8 (st.take b).reverse h (am_run K a (st.take b).reverse h fun rh => am_vI rh.1 fun x => cond (Nat.beq (rh.2.2.1.1 1 2) 34) (K m (i + 1) ls (.int x :: st.drop b) rh.2) (K m (i + 1) (ls.map am_ren) (.int x :: (st.drop b).map am_ren) (am_swap rh.2)))) (
    am_recv c (st.take b).reverse h (am_run K a (st.take b).reverse h fun rh => am_back (am_rt a) rh.1 (st.drop b) fun r => K m (i + 1) ls r rh.2))))) none
def am_fin (m : Nat) (v : Value) (h : am_H) : am_R := match am_rt m, v with
  | 1, .int x => some (.int x, h)
  | 2, .long x => some (.long x, h)
  | 3, .ref x => some (.ref x, h)
  | 4, .int x => cond (am_bit x) (some (.int x, h)) none
  | 5, .int x => if x < 0 then none else if 65535 < x then none else some (.int x, h)
  | 6, .int x => if x = 0 then some (.int x, h) else none
  | _, _ => none
def am_step (K : am_K) (m i : Nat) (ls st : List Value) (h : am_H) : am_R :=
  match am_ins m i with
  | (ir, a, b, c) => match ir with
    | .iload_n _ => am_vI (ls.getD a .null) fun x => K m (i + 1) ls (.int x :: st) h
    | .iload _ => am_vI (ls.getD a .null) fun x => K m (i + 1) ls (.int x :: st) h
    | .lload_n _ => am_vJ (ls.getD a .null) fun x => K m (i + 1) ls (.long x :: st) h
    | .lload _ => am_vJ (ls.getD a .null) fun x => K m (i + 1) ls (.long x :: st) h
    | .aload_n _ => am_vR (ls.getD a .null) fun x => K m (i + 1) ls (.ref x :: st) h
    | .aload _ => am_vR (ls.getD a .null) fun x => K m (i + 1) ls (.ref x :: st) h
    | .istore_n _ => am_i1 st fun x r => K m (i + 1) (am_st1 ls a (.int x)) r h
    | .istore _ => am_i1 st fun x r => K m (i + 1) (am_st1 ls a (.int x)) r h
    | .astore_n _ => am_r1 st fun x r => K m (i + 1) (am_st1 ls a (.ref x)) r h
    | .astore _ => am_r1 st fun x r => K m (i + 1) (am_st1 ls a (.ref x)) r h
    | .lstore_n _ => am_j1 st fun x r => K m (i + 1) (am_st2 ls a (.long x)) r h
    | .lstore _ => am_j1 st fun x r => K m (i + 1) (am_st2 ls a (.long x)) r h
    | .iinc _ _ => am_vI (ls.getD a .null) fun x => K m (i + 1) (am_st1 ls a (.int (x + am_gI b))) st h
    | .iconst _ => K m (i + 1) ls (.int (am_gI a) :: st) h
    | .bipush _ => K m (i + 1) ls (.int (am_gI a) :: st) h
    | .sipush _ => K m (i + 1) ls (.int (am_gI a) :: st) h
    | .lconst _ => K m (i + 1) ls (.long (am_gJ a) :: st) h
    | .ldc2_w _ => K m (i + 1) ls (.long (am_gJ a) :: st) h
    | .ldc _ => cond (Nat.beq b 1) (K m (i + 1) ls (.int (am_gI a) :: st) h) (K m (i + 1) ls (.ref a :: st) h)
    | .ldc_w _ => cond (Nat.beq b 1) (K m (i + 1) ls (.int (am_gI a) :: st) h) (K m (i + 1) ls (.ref a :: st) h)
    | .aconst_null => K m (i + 1) ls (.ref 0 :: st) h
    | .getstatic _ => cond (Nat.beq b 1) (K m (i + 1) ls (.int (am_gI a) :: st) h) (K m (i + 1) ls (.ref a :: st) h)
    | .iadd => am_i2 st fun x y r => K m (i + 1) ls (.int (x + y) :: r) h
    | .isub => am_i2 st fun x y r => K m (i + 1) ls (.int (x - y) :: r) h
    | .imul => am_i2 st fun x y r => K m (i + 1) ls (.int (x * y) :: r) h
    | .iand => am_i2 st fun x y r => K m (i + 1) ls (.int (x &&& y) :: r) h
    | .ior => am_i2 st fun x y r => K m (i + 1) ls (.int (x ||| y) :: r) h
    | .ixor => am_i2 st fun x y r => K m (i + 1) ls (.int (x ^^^ y) :: r) h
    | .ishl => am_i2 st fun x y r => K m (i + 1) ls (.int (x <<< (y &&& 31)) :: r) h
    | .ishr => am_i2 st fun x y r => K m (i + 1) ls (.int (x >>> (y &&& 31)) :: r) h
    | .iushr => am_i2 st fun x y r => K m (i + 1) ls (.int (x.toUInt32 >>> (y.toUInt32 &&& Int32.toUInt32 31)).toInt32 :: r) h
    | .idiv => am_i2 st fun x y r => if y = 0 then none else K m (i + 1) ls (.int (x / y) :: r) h
    | .irem => am_i2 st fun x y r => if y = 0 then none else K m (i + 1) ls (.int (x - x / y * y) :: r) h
    | .ladd => am_j2 st fun x y r => K m (i + 1) ls (.long (x + y) :: r) h
    | .lsub => am_j2 st fun x y r => K m (i + 1) ls (.long (x - y) :: r) h
    | .lmul => am_j2 st fun x y r => K m (i + 1) ls (.long (x * y) :: r) h
    | .land => am_j2 st fun x y r => K m (i + 1) ls (.long (x &&& y) :: r) h
    | .lor => am_j2 st fun x y r => K m (i + 1) ls (.long (x ||| y) :: r) h
    | .lshl => am_ji st fun x y r => K m (i + 1) ls (.long (x <<< (y.toInt64 &&& 63)) :: r) h
    | .lshr => am_ji st fun x y r => K m (i + 1) ls (.long (x >>> (y.toInt64 &&& 63)) :: r) h
    | .lushr => am_ji st fun x y r => K m (i + 1) ls (.long (x.toUInt64 >>> (y.toInt64.toUInt64 &&& Int64.toUInt64 63)).toInt64 :: r) h
    | .lneg => am_j1 st fun x r => K m (i + 1) ls (.long (-x) :: r) h
    | .lcmp => am_j2 st fun x y r => K m (i + 1) ls (.int (lg_cmp x y) :: r) h
    | .i2l => am_i1 st fun x r => K m (i + 1) ls (.long x.toInt64 :: r) h
    | .l2i => am_j1 st fun x r => K m (i + 1) ls (.int x.toInt32 :: r) h
    | .i2b => am_i1 st fun x r => K m (i + 1) ls (.int x.toInt8.toInt32 :: r) h
    | .i2c => am_i1 st fun x r => K m (i + 1) ls (.int (x.toUInt32 % 65536).toInt32 :: r) h
    | .goto _ => K m a ls st h
    | .ifCond cnd _ => am_i1 st fun x r => am_br cnd x 0 (K m a ls r h) (K m (i + 1) ls r h)
    | .if_icmp cnd _ => am_i2 st fun x y r => am_br cnd x y (K m a ls r h) (K m (i + 1) ls r h)
    | .if_acmp cnd _ => am_r2 st fun x y r => cond ((Nat.beq (am_S h x).1 30 || Nat.beq x 0) && (Nat.beq (am_S h y).1 30 || Nat.beq y 0)) (am_abr cnd x y (K m a ls r h) (K m (i + 1) ls r h)) none
    | .ifnull _ => am_r1 st fun x r => cond (Nat.beq (am_S h x).1 30 || Nat.beq x 0) (if x = 0 then K m a ls r h else K m (i + 1) ls r h) none
    | .ifnonnull _ => am_r1 st fun x r => cond (Nat.beq (am_S h x).1 30 || Nat.beq x 0) (if x = 0 then K m (i + 1) ls r h else K m a ls r h) none
    | .tableswitch .. => am_i1 st fun x r => am_sel (fun t => K m t ls r h) x ((am_sw.getD a []).headD 0) (am_gI b) (am_sw.getD a []).tail
    | .getfield _ => am_r1 st fun q r => cond (Nat.beq (am_S h q).1 b) (
      cond (Nat.beq c 0) (K m (i + 1) ls (.int (h.1.1 q a) :: r) h) (
      cond (Nat.beq c 1) (K m (i + 1) ls (.long (h.1.2.1 q a) :: r) h) (
      cond (Nat.beq c 2) (K m (i + 1) ls (.ref (h.2.1.1 q a) :: r) h) (
      cond (Nat.beq c 3) (K m (i + 1) ls (.int (am_cI q a) :: r) h) (
      cond (Nat.beq c 4) (K m (i + 1) ls (.ref (am_cR q a) :: r) h) (
      cond (Nat.beq c 5) (K m (i + 1) ls (.int (h.1.1 q a) :: r) h) none)))))) none
    | .putfield _ => am_vr st fun v q r => cond (Nat.beq (am_S h q).1 b) (
      cond (Nat.beq c 0) (am_vI v fun x => K m (i + 1) ls r (am_sI h q a x)) (
      cond (Nat.beq c 1) (am_vJ v fun x => K m (i + 1) ls r (am_sJ h q a x)) (
      cond (Nat.beq c 2) (am_vR v fun x => K m (i + 1) ls r (am_sR h q a x)) (
      cond (Nat.beq c 5) (am_vI v fun x => cond (am_bit x) (K m (i + 1) ls r (am_sI h q a x)) none) none)))) none
    | .arraylength => am_r1 st fun q r => cond (Nat.ble 20 (am_S h q).1 && Nat.ble (am_S h q).1 27) (K m (i + 1) ls (.int (nI (am_S h q).2) :: r) h) none
    | .iaload => am_ir st fun j q r => cond (Nat.beq (am_S h q).1 20 || Nat.beq (am_S h q).1 24) (am_inb j (am_S h q).2 (K m (i + 1) ls (.int (h.1.1 q j.toNatClampNeg) :: r) h)) (
        cond (Nat.beq (am_S h q).1 26) (am_inb j (am_S h q).2 (K m (i + 1) ls (.int (am_cI q j.toNatClampNeg) :: r) h)) none)
    | .baload => am_ir st fun j q r => cond (Nat.beq (am_S h q).1 21) (am_inb j (am_S h q).2 (K m (i + 1) ls (.int (h.1.1 q j.toNatClampNeg) :: r) h)) (
        cond (Nat.beq (am_S h q).1 27) (am_inb j (am_S h q).2 (K m (i + 1) ls (.int (am_cI q j.toNatClampNeg) :: r) h)) none)
    | .laload => am_ir st fun j q r => cond (Nat.beq (am_S h q).1 22) (am_inb j (am_S h q).2 (K m (i + 1) ls (.long (h.1.2.1 q j.toNatClampNeg) :: r) h)) none
    | .aaload => am_ir st fun j q r => cond (Nat.beq (am_S h q).1 23) (am_inb j (am_S h q).2 (K m (i + 1) ls (.ref (h.1.2.2 q j.toNatClampNeg) :: r) h)) (
        cond (Nat.beq (am_S h q).1 25) (am_inb j (am_S h q).2 (K m (i + 1) ls (.ref (am_cR q j.toNatClampNeg) :: r) h)) none)
    | .iastore => am_iir st fun x j q r => cond (Nat.beq (am_S h q).1 20) (am_inb j (am_S h q).2 (K m (i + 1) ls r (am_sI h q j.toNatClampNeg x))) none
    | .bastore => am_iir st fun x j q r => cond (Nat.beq (am_S h q).1 21) (am_inb j (am_S h q).2 (cond (am_bit x) (K m (i + 1) ls r (am_sI h q j.toNatClampNeg x)) none)) none
    | .lastore => am_jir st fun x j q r => cond (Nat.beq (am_S h q).1 22) (am_inb j (am_S h q).2 (K m (i + 1) ls r (am_sJ h q j.toNatClampNeg x))) none
    | .aastore => am_rir st fun x j q r => cond (Nat.beq (am_S h q).1 23) (am_inb j (am_S h q).2 (cond (Nat.beq (am_S h x).1 30) (K m (i + 1) ls r (am_sT h q j.toNatClampNeg x)) none)) none
    | .new _ => cond (Nat.ble (h.2.1.2.2 + 1) 1000) (K m (i + 1) ls (.ref (h.2.1.2.2 + 1) :: st) (am_new h a b)) none
    | .newarray _ => am_i1 st fun x r => if x < 0 then none else if 65536 < x.toNatClampNeg then none else cond (Nat.ble (h.2.1.2.2 + 1) 1000) (K m (i + 1) ls (.ref (h.2.1.2.2 + 1) :: r) (am_new h a x.toNatClampNeg)) none
    | .anewarray _ => am_i1 st fun x r => if x < 0 then none else if 65536 < x.toNatClampNeg then none else cond (Nat.ble (h.2.1.2.2 + 1) 1000) (K m (i + 1) ls (.ref (h.2.1.2.2 + 1) :: r) (am_new h a x.toNatClampNeg)) none
    | .dup => am_v1 st fun v r => K m (i + 1) ls (v :: v :: r) h
    | .dup2 => am_ir st fun y x r => K m (i + 1) ls (.int y :: .ref x :: .int y :: .ref x :: r) h
    | .pop => am_v1 st fun _ r => K m (i + 1) ls r h
    | .invokevirtual _ => am_call K m i ls st h a b c
    | .invokespecial _ => am_call K m i ls st h a b c
    | .invokestatic _ => am_call K m i ls st h a b c
    | .ireturn => am_o1 st fun v => am_vI v fun _ => am_fin m v h
    | .lreturn => am_o1 st fun v => am_vJ v fun _ => am_fin m v h
    | .areturn => am_o1 st fun v => am_vR v fun _ => am_fin m v h
    | .return_ => am_o0 st (cond (Nat.beq (am_rt m) 0) (some (.null, h)) none)
    | _ => none
def am_ex : Nat → am_K
  | 0 => fun _ _ _ _ _ => none
  | n + 1 => am_step (am_ex n)
end
section
/-! WHAT A STEP ASKS OF ITS CONTINUATION: finitely many answers; so the machine without fuel satisfies the step's equation. -/
abbrev am_A : Type := (Nat × Nat × List Value × List Value × am_H) × (Value × am_H)
def am_ok (K : am_K) (P : List am_A) : Prop := ∀ p ∈ P, K p.1.1 p.1.2.1 p.1.2.2.1 p.1.2.2.2.1 p.1.2.2.2.2 = some p.2
def am_U (K : am_K) (F : am_K → am_R) : Prop := ∀ r, F K = some r → ∃ P, am_ok K P ∧ ∀ K', am_ok K' P → F K' = some r
theorem am_ok_nil {K : am_K} : am_ok K [] := fun _ h => absurd h List.not_mem_nil
theorem am_ok_app {K : am_K} {P Q : List am_A} : am_ok K (P ++ Q) ↔ am_ok K P ∧ am_ok K Q :=
  ⟨fun h => ⟨fun p q => h p (List.mem_append_left _ q), fun p q => h p (List.mem_append_right _ q)⟩, fun h p q => (List.mem_append.mp q).elim (h.1 p) (h.2 p)⟩
theorem am_Uc {K : am_K} (x : am_R) : am_U K (fun _ => x) := fun _ h => ⟨[], am_ok_nil, fun _ _ => h⟩
theorem am_Ut {K : am_K} (m i : Nat) (ls st : List Value) (h : am_H) : am_U K (fun K => K m i ls st h) := fun r hr => ⟨[((m, i, ls, st, h), r)], fun p hp => by rw [List.mem_singleton.mp hp]; exact hr, fun _ h => h _ List.mem_cons_self⟩
theorem am_Ui {K : am_K} {c : Prop} [Decidable c] {F G : am_K → am_R} (hF : am_U K F) (hG : am_U K G) : am_U K (fun K => if c then F K else G K) := by
  by_cases h : c
  · simp only [h, if_true]; exact hF
  · simp only [h, if_false]; exact hG
theorem am_Ub {K : am_K} {c : Bool} {F G : am_K → am_R} (hF : am_U K F) (hG : am_U K G) : am_U K (fun K => cond c (F K) (G K)) := by
  cases c
  · exact hG
  · exact hF
theorem am_Ubind {K : am_K} {F : am_K → am_R} {G : am_K → Value × am_H → am_R} (hF : am_U K F) (hG : ∀ x, am_U K (fun K => G K x)) : am_U K (fun K => (F K).bind (G K)) := by
  intro r hr
  have hr' : (F K).bind (G K) = some r := hr
  obtain ⟨x, h1, h2⟩ := Option.bind_eq_some_iff.mp hr'
  obtain ⟨P, p1, p2⟩ := hF x h1
  obtain ⟨Q, q1, q2⟩ := hG x r h2
  refine ⟨P ++ Q, am_ok_app.mpr ⟨p1, q1⟩, fun K' h => ?_⟩
  have h' := am_ok_app.mp h
  exact Option.bind_eq_some_iff.mpr ⟨x, p2 K' h'.1, q2 K' h'.2⟩
theorem am_UvI {K : am_K} {v : Value} {f : am_K → Int32 → am_R} (h : ∀ x, am_U K (fun K => f K x)) : am_U K (fun K => am_vI v (f K)) := by
  cases v <;> first | exact h _ | exact am_Uc _
theorem am_UvJ {K : am_K} {v : Value} {f : am_K → Int64 → am_R} (h : ∀ x, am_U K (fun K => f K x)) : am_U K (fun K => am_vJ v (f K)) := by
  cases v <;> first | exact h _ | exact am_Uc _
theorem am_UvR {K : am_K} {v : Value} {f : am_K → Nat → am_R} (h : ∀ x, am_U K (fun K => f K x)) : am_U K (fun K => am_vR v (f K)) := by
  cases v <;> first | exact h _ | exact am_Uc _
theorem am_Ui1 {K : am_K} {st : List Value} {f : am_K → Int32 → List Value → am_R} (h : ∀ x r, am_U K (fun K => f K x r)) : am_U K (fun K => am_i1 st (f K)) := by
  rcases st with _ | ⟨v, r⟩
  · exact am_Uc _
  · cases v <;> first | exact h _ _ | exact am_Uc _
theorem am_Uj1 {K : am_K} {st : List Value} {f : am_K → Int64 → List Value → am_R} (h : ∀ x r, am_U K (fun K => f K x r)) : am_U K (fun K => am_j1 st (f K)) := by
  rcases st with _ | ⟨v, r⟩
  · exact am_Uc _
  · cases v <;> first | exact h _ _ | exact am_Uc _
theorem am_Ur1 {K : am_K} {st : List Value} {f : am_K → Nat → List Value → am_R} (h : ∀ x r, am_U K (fun K => f K x r)) : am_U K (fun K => am_r1 st (f K)) := by
  rcases st with _ | ⟨v, r⟩
  · exact am_Uc _
  · cases v <;> first | exact h _ _ | exact am_Uc _
theorem am_Uc1 {K : am_K} {st : List Value} {f : am_K → Value → List Value → am_R} (h : ∀ x r, am_U K (fun K => f K x r)) : am_U K (fun K => am_v1 st (f K)) := by
  rcases st with _ | ⟨v, r⟩
  · exact am_Uc _
  · cases v <;> first | exact h _ _ | exact am_Uc _
theorem am_Ui2 {K : am_K} {st : List Value} {f : am_K → Int32 → Int32 → List Value → am_R} (h : ∀ x y r, am_U K (fun K => f K x y r)) : am_U K (fun K => am_i2 st (f K)) := by
  rcases st with _ | ⟨v, _ | ⟨w, r⟩⟩
  · exact am_Uc _
  · cases v <;> exact am_Uc _
  · cases v <;> first | exact am_Uc _ | (cases w <;> first | exact h _ _ _ | exact am_Uc _)
theorem am_Uj2 {K : am_K} {st : List Value} {f : am_K → Int64 → Int64 → List Value → am_R} (h : ∀ x y r, am_U K (fun K => f K x y r)) : am_U K (fun K => am_j2 st (f K)) := by
  rcases st with _ | ⟨v, _ | ⟨w, r⟩⟩
  · exact am_Uc _
  · cases v <;> exact am_Uc _
  · cases v <;> first | exact am_Uc _ | (cases w <;> first | exact h _ _ _ | exact am_Uc _)
theorem am_Uji {K : am_K} {st : List Value} {f : am_K → Int64 → Int32 → List Value → am_R} (h : ∀ x y r, am_U K (fun K => f K x y r)) : am_U K (fun K => am_ji st (f K)) := by
  rcases st with _ | ⟨v, _ | ⟨w, r⟩⟩
  · exact am_Uc _
  · cases v <;> exact am_Uc _
  · cases v <;> first | exact am_Uc _ | (cases w <;> first | exact h _ _ _ | exact am_Uc _)
theorem am_Ur2 {K : am_K} {st : List Value} {f : am_K → Nat → Nat → List Value → am_R} (h : ∀ x y r, am_U K (fun K => f K x y r)) : am_U K (fun K => am_r2 st (f K)) := by
  rcases st with _ | ⟨v, _ | ⟨w, r⟩⟩
  · exact am_Uc _
  · cases v <;> exact am_Uc _
  · cases v <;> first | exact am_Uc _ | (cases w <;> first | exact h _ _ _ | exact am_Uc _)
theorem am_Uir {K : am_K} {st : List Value} {f : am_K → Int32 → Nat → List Value → am_R} (h : ∀ x y r, am_U K (fun K => f K x y r)) : am_U K (fun K => am_ir st (f K)) := by
  rcases st with _ | ⟨v, _ | ⟨w, r⟩⟩
  · exact am_Uc _
  · cases v <;> exact am_Uc _
  · cases v <;> first | exact am_Uc _ | (cases w <;> first | exact h _ _ _ | exact am_Uc _)
theorem am_Uvr {K : am_K} {st : List Value} {f : am_K → Value → Nat → List Value → am_R} (h : ∀ x y r, am_U K (fun K => f K x y r)) : am_U K (fun K => am_vr st (f K)) := by
  rcases st with _ | ⟨v, _ | ⟨w, r⟩⟩
  · exact am_Uc _
  · exact am_Uc _
  · cases w <;> first | exact h _ _ _ | exact am_Uc _
theorem am_Uiir {K : am_K} {st : List Value} {f : am_K → Int32 → Int32 → Nat → List Value → am_R} (h : ∀ x y z r, am_U K (fun K => f K x y z r)) : am_U K (fun K => am_iir st (f K)) := by
  rcases st with _ | ⟨v, _ | ⟨w, _ | ⟨u, r⟩⟩⟩
  · exact am_Uc _
  · cases v <;> exact am_Uc _
  · cases v <;> first | exact am_Uc _ | (cases w <;> exact am_Uc _)
  · cases v <;> first | exact am_Uc _ | (cases w <;> first | exact am_Uc _ | (cases u <;> first | exact h _ _ _ _ | exact am_Uc _))
theorem am_Ujir {K : am_K} {st : List Value} {f : am_K → Int64 → Int32 → Nat → List Value → am_R} (h : ∀ x y z r, am_U K (fun K => f K x y z r)) : am_U K (fun K => am_jir st (f K)) := by
  rcases st with _ | ⟨v, _ | ⟨w, _ | ⟨u, r⟩⟩⟩
  · exact am_Uc _
  · cases v <;> exact am_Uc _
  · cases v <;> first | exact am_Uc _ | (cases w <;> exact am_Uc _)
  · cases v <;> first | exact am_Uc _ | (cases w <;> first | exact am_Uc _ | (cases u <;> first | exact h _ _ _ _ | exact am_Uc _))
theorem am_Urir {K : am_K} {st : List Value} {f : am_K → Nat → Int32 → Nat → List Value → am_R} (h : ∀ x y z r, am_U K (fun K => f K x y z r)) : am_U K (fun K => am_rir st (f K)) := by
  rcases st with _ | ⟨v, _ | ⟨w, _ | ⟨u, r⟩⟩⟩
  · exact am_Uc _
  · cases v <;> exact am_Uc _
  · cases v <;> first | exact am_Uc _ | (cases w <;> exact am_Uc _)
  · cases v <;> first | exact am_Uc _ | (cases w <;> first | exact am_Uc _ | (cases u <;> first | exact h _ _ _ _ | exact am_Uc _))
theorem am_br_or (cnd : ClassFile.Cond) (x y : Int32) : (∀ t f, am_br cnd x y t f = t) ∨ (∀ t f, am_br cnd x y t f = f) := by
  cases cnd <;> simp only [am_br]
  · by_cases h : x = y
    · exact Or.inl fun t f => if_pos h
    · exact Or.inr fun t f => if_neg h
  · by_cases h : x = y
    · exact Or.inr fun t f => if_pos h
    · exact Or.inl fun t f => if_neg h
  · by_cases h : x < y
    · exact Or.inl fun t f => if_pos h
    · exact Or.inr fun t f => if_neg h
  · by_cases h : y ≤ x
    · exact Or.inl fun t f => if_pos h
    · exact Or.inr fun t f => if_neg h
  · by_cases h : y < x
    · exact Or.inl fun t f => if_pos h
    · exact Or.inr fun t f => if_neg h
  · by_cases h : x ≤ y
    · exact Or.inl fun t f => if_pos h
    · exact Or.inr fun t f => if_neg h
theorem am_Ubr {K : am_K} {cnd : ClassFile.Cond} {x y : Int32} {F G : am_K → am_R} (hF : am_U K F) (hG : am_U K G) : am_U K (fun K => am_br cnd x y (F K) (G K)) := by
  rcases am_br_or cnd x y with h | h
  · simp only [h]; exact hF
  · simp only [h]; exact hG
theorem am_Uabr {K : am_K} {cnd : ClassFile.ACond} {x y : Nat} {F G : am_K → am_R} (hF : am_U K F) (hG : am_U K G) : am_U K (fun K => am_abr cnd x y (F K) (G K)) := by
  cases cnd
  · exact am_Ui hF hG
  · exact am_Ui hG hF
theorem am_Usel {K : am_K} {k : am_K → Nat → am_R} (h : ∀ t, am_U K (fun K => k K t)) (x : Int32) (d : Nat) : ∀ (ts : List Nat) (lo : Int32), am_U K (fun K => am_sel (k K) x d lo ts)
  | [], lo => h d
  | t :: ts, lo => am_Ui (h t) (am_Usel h x d ts (lo + 1))
theorem am_Uinb {K : am_K} {j : Int32} {n : Nat} {F : am_K → am_R} (hF : am_U K F) : am_U K (fun K => am_inb j n (F K)) := am_Ui (am_Uc _) (am_Ui (am_Uc _) hF)
theorem am_Urecv {K : am_K} {c : Nat} {as : List Value} {h : am_H} {F : am_K → am_R} (hF : am_U K F) : am_U K (fun K => am_recv c as h (F K)) := by
  rcases c with _ | c
  · exact hF
  · rcases as with _ | ⟨v, r⟩
    · exact am_Uc _
    · cases v <;> first | exact am_Ub hF (am_Uc _) | exact am_Uc _
theorem am_Uback {K : am_K} {t : Nat} {v : Value} {r : List Value} {k : am_K → List Value → am_R} (h : ∀ x, am_U K (fun K => k K x)) : am_U K (fun K => am_back t v r (k K)) := by
  rcases t with _ | _ | _ | _ | t
  · exact h _
  · exact am_UvI fun _ => h _
  · exact am_UvJ fun _ => h _
  · exact am_UvR fun _ => h _
  · exact am_UvI fun _ => h _
theorem am_thr_or (a : Nat) (as : List Value) : (∀ t1 t2 ok, am_thr a as t1 t2 ok = none) ∨ (∀ t1 t2 ok, am_thr a as t1 t2 ok = t1) ∨ (∀ t1 t2 ok, am_thr a as t1 t2 ok = t2) ∨ (∀ t1 t2 ok, am_thr a as t1 t2 ok = ok) := by
  unfold am_thr
  split <;> (repeat' split) <;> simp
theorem am_Uthr {K : am_K} {a : Nat} {as : List Value} {F G J : am_K → am_R} (hF : am_U K F) (hG : am_U K G) (hJ : am_U K J) : am_U K (fun K => am_thr a as (F K) (G K) (J K)) := by
  rcases am_thr_or a as with h | h | h | h
  · simp only [h]; exact am_Uc _
  · simp only [h]; exact hF
  · simp only [h]; exact hG
  · simp only [h]; exact hJ
theorem am_Uout {K : am_K} {a : Nat} {as : List Value} {v : Value} {h : am_H} {k : am_K → am_H → am_R} (hk : ∀ x, am_U K (fun K => k K x)) : am_U K (fun K => am_out a as v h (k K)) := by
  unfold am_out
  split
  · exact hk _
  · split
    · exact am_Ub (am_Uinb (am_UvI fun _ => am_Ui (hk _) (hk _))) (am_Uc _)
    · exact am_Uc _
  · split
    · exact am_Ub (am_Uinb (am_UvI fun _ => hk _)) (am_Uc _)
    · exact am_Uc _
theorem am_Urun {K : am_K} {a : Nat} {as : List Value} {h : am_H} {k : am_K → Value × am_H → am_R} (hk : ∀ x, am_U K (fun K => k K x)) : am_U K (fun K => am_run K a as h (k K)) := am_Ub (am_Ubind (am_Ut _ _ _ _ _) hk) (am_Uc _)
theorem am_Ucall {K : am_K} (m i : Nat) (ls st : List Value) (h : am_H) (a b c : Nat) : am_U K (fun K => am_call K m i ls st h a b c) := by
  unfold am_call
  exact am_Ub (am_Ub (am_Ub (am_Ur1 fun _ _ => am_Ub (am_Ut _ _ _ _ _) (am_Uc _)) (am_Uc _)) (am_Ub (am_Uthr (am_Ut _ _ _ _ _) (am_Ut _ _ _ _ _) (am_Urun fun _ => am_Uout fun _ => am_Ut _ _ _ _ _)) (am_Ub (am_Urecv (am_Urun fun _ => am_UvI fun _ => am_Ub (am_Ut _ _ _ _ _) (am_Ut _ _ _ _ _))) (am_Urecv (am_Urun fun _ => am_Uback fun _ => am_Ut _ _ _ _ _))))) (am_Uc _)
theorem am_Uo1 {K : am_K} {st : List Value} {f : am_K → Value → am_R} (h : ∀ x, am_U K (fun K => f K x)) : am_U K (fun K => am_o1 st (f K)) := by
  rcases st with _ | ⟨v, _ | ⟨w, r⟩⟩
  · exact am_Uc _
  · exact h _
  · exact am_Uc _
set_option maxHeartbeats 4000000 in
theorem am_Ustep {K : am_K} (m i : Nat) (ls st : List Value) (h : am_H) : am_U K (fun K => am_step K m i ls st h) := by
  unfold am_step
  rcases am_ins m i with ⟨ir, a, b, c⟩
  cases ir <;> dsimp only <;> first
    | exact am_Uc _
    | exact am_Ut _ _ _ _ _
    | exact am_Ucall _ _ _ _ _ _ _ _
    | exact am_UvI fun _ => am_Ut _ _ _ _ _
    | exact am_UvJ fun _ => am_Ut _ _ _ _ _
    | exact am_UvR fun _ => am_Ut _ _ _ _ _
    | exact am_Ui1 fun _ _ => am_Ut _ _ _ _ _
    | exact am_Uj1 fun _ _ => am_Ut _ _ _ _ _
    | exact am_Ur1 fun _ _ => am_Ut _ _ _ _ _
    | exact am_Uc1 fun _ _ => am_Ut _ _ _ _ _
    | exact am_Ui2 fun _ _ _ => am_Ut _ _ _ _ _
    | exact am_Ui2 fun _ _ _ => am_Ui (am_Uc _) (am_Ut _ _ _ _ _)
    | exact am_Uj2 fun _ _ _ => am_Ut _ _ _ _ _
    | exact am_Uji fun _ _ _ => am_Ut _ _ _ _ _
    | exact am_Uir fun _ _ _ => am_Ut _ _ _ _ _
    | exact am_Ub (am_Ut _ _ _ _ _) (am_Ut _ _ _ _ _)
    | exact am_Ui1 fun _ _ => am_Ubr (am_Ut _ _ _ _ _) (am_Ut _ _ _ _ _)
    | exact am_Ui2 fun _ _ _ => am_Ubr (am_Ut _ _ _ _ _) (am_Ut _ _ _ _ _)
    | exact am_Ur2 fun _ _ _ => am_Ub (am_Uabr (am_Ut _ _ _ _ _) (am_Ut _ _ _ _ _)) (am_Uc _)
    | exact am_Ur1 fun _ _ => am_Ub (am_Ui (am_Ut _ _ _ _ _) (am_Ut _ _ _ _ _)) (am_Uc _)
    | exact am_Ui1 fun _ _ => am_Usel (fun _ => am_Ut _ _ _ _ _) _ _ _ _
    | exact am_Ur1 fun _ _ => am_Ub (am_Ub (am_Ut _ _ _ _ _) (am_Ub (am_Ut _ _ _ _ _) (am_Ub (am_Ut _ _ _ _ _) (am_Ub (am_Ut _ _ _ _ _) (am_Ub (am_Ut _ _ _ _ _) (am_Ub (am_Ut _ _ _ _ _) (am_Uc _))))))) (am_Uc _)
    | exact am_Uvr fun _ _ _ => am_Ub (am_Ub (am_UvI fun _ => am_Ut _ _ _ _ _) (am_Ub (am_UvJ fun _ => am_Ut _ _ _ _ _) (am_Ub (am_UvR fun _ => am_Ut _ _ _ _ _) (am_Ub (am_UvI fun _ => am_Ub (am_Ut _ _ _ _ _) (am_Uc _)) (am_Uc _))))) (am_Uc _)
    | exact am_Ur1 fun _ _ => am_Ub (am_Ut _ _ _ _ _) (am_Uc _)
    | exact am_Uir fun _ _ _ => am_Ub (am_Uinb (am_Ut _ _ _ _ _)) (am_Uc _)
    | exact am_Uir fun _ _ _ => am_Ub (am_Uinb (am_Ut _ _ _ _ _)) (am_Ub (am_Uinb (am_Ut _ _ _ _ _)) (am_Uc _))
    | exact am_Uiir fun _ _ _ _ => am_Ub (am_Uinb (am_Ut _ _ _ _ _)) (am_Uc _)
    | exact am_Uiir fun _ _ _ _ => am_Ub (am_Uinb (am_Ub (am_Ut _ _ _ _ _) (am_Uc _))) (am_Uc _)
    | exact am_Ujir fun _ _ _ _ => am_Ub (am_Uinb (am_Ut _ _ _ _ _)) (am_Uc _)
    | exact am_Urir fun _ _ _ _ => am_Ub (am_Uinb (am_Ub (am_Ut _ _ _ _ _) (am_Uc _))) (am_Uc _)
    | exact am_Ub (am_Ut _ _ _ _ _) (am_Uc _)
    | exact am_Ui1 fun _ _ => am_Ui (am_Uc _) (am_Ui (am_Uc _) (am_Ub (am_Ut _ _ _ _ _) (am_Uc _)))
theorem am_mono {K K' : am_K} (hK : ∀ m i ls st h r, K m i ls st h = some r → K' m i ls st h = some r) {m i : Nat} {ls st : List Value} {h : am_H} {r : Value × am_H} (e : am_step K m i ls st h = some r) : am_step K' m i ls st h = some r := by
  obtain ⟨P, p1, p2⟩ := am_Ustep (K := K) m i ls st h r e
  exact p2 K' fun p hp => hK _ _ _ _ _ _ (p1 p hp)
theorem am_ex_succ : ∀ (n m i : Nat) (ls st : List Value) (h : am_H) (r : Value × am_H), am_ex n m i ls st h = some r → am_ex (n + 1) m i ls st h = some r
  | 0, _, _, _, _, _, _, e => by cases e
  | n + 1, _, _, _, _, _, _, e => am_mono (am_ex_succ n) e
theorem am_ex_le {n k : Nat} (hk : n ≤ k) {m i : Nat} {ls st : List Value} {h : am_H} {r : Value × am_H} (e : am_ex n m i ls st h = some r) : am_ex k m i ls st h = some r := by
  induction hk with
  | refl => exact e
  | step _ ih => exact am_ex_succ _ _ _ _ _ _ _ ih
/-- the machine without fuel -/
noncomputable def am_E : am_K := fun m i ls st h => Classical.epsilon fun r : am_R => (∃ n, r = am_ex n m i ls st h ∧ r ≠ none) ∨ ((∀ n, am_ex n m i ls st h = none) ∧ r = none)
theorem am_E_spec (m i : Nat) (ls st : List Value) (h : am_H) : (∃ n, am_E m i ls st h = am_ex n m i ls st h ∧ am_E m i ls st h ≠ none) ∨ ((∀ n, am_ex n m i ls st h = none) ∧ am_E m i ls st h = none) := by
  have := Classical.epsilon_spec (p := fun r : am_R => (∃ n, r = am_ex n m i ls st h ∧ r ≠ none) ∨ ((∀ n, am_ex n m i ls st h = none) ∧ r = none)) (by
    by_cases q : ∀ n, am_ex n m i ls st h = none
    · exact ⟨none, Or.inr ⟨q, rfl⟩⟩
    · obtain ⟨n, hn⟩ := Classical.not_forall.mp q
      exact ⟨_, Or.inl ⟨n, rfl, hn⟩⟩)
  exact this
theorem am_E_iff {m i : Nat} {ls st : List Value} {h : am_H} {r : Value × am_H} : am_E m i ls st h = some r ↔ ∃ n, am_ex n m i ls st h = some r := by
  constructor
  · intro e
    rcases am_E_spec m i ls st h with ⟨n, e1, -⟩ | ⟨-, e1⟩
    · exact ⟨n, by rw [← e1]; exact e⟩
    · rw [e] at e1; cases e1
  · rintro ⟨n, e⟩
    rcases am_E_spec m i ls st h with ⟨k, e1, e2⟩ | ⟨e1, -⟩
    · cases hr : am_E m i ls st h with
      | none => exact absurd hr e2
      | some r' =>
        rw [hr] at e1
        have h1 := am_ex_le (Nat.le_max_left n k) e
        have h2 := am_ex_le (Nat.le_max_right n k) e1.symm
        rw [h1] at h2
        exact h2.symm
    · rw [e1 n] at e; cases e
theorem am_E_ok {P : List am_A} (hP : am_ok am_E P) : ∃ n, am_ok (am_ex n) P := by
  induction P with
  | nil => exact ⟨0, am_ok_nil⟩
  | cons p P ih =>
    obtain ⟨n, hn⟩ := ih fun q hq => hP q (List.mem_cons_of_mem _ hq)
    obtain ⟨k, hk⟩ := am_E_iff.mp (hP p List.mem_cons_self)
    refine ⟨max n k, fun q hq => ?_⟩
    rcases List.mem_cons.mp hq with rfl | hq
    · exact am_ex_le (Nat.le_max_right _ _) hk
    · exact am_ex_le (Nat.le_max_left _ _) (hn q hq)
/-- THE EQUATION -/
theorem am_E_eq (m i : Nat) (ls st : List Value) (h : am_H) : am_E m i ls st h = am_step am_E m i ls st h := by
  cases hr : am_step am_E m i ls st h with
  | some r =>
    obtain ⟨P, p1, p2⟩ := am_Ustep m i ls st h r hr
    obtain ⟨n, hn⟩ := am_E_ok p1
    exact am_E_iff.mpr ⟨n + 1, p2 _ hn⟩
  | none =>
    cases he : am_E m i ls st h with
    | none => rfl
    | some r =>
      obtain ⟨n, hn⟩ := am_E_iff.mp he
      cases n with
      | zero => cases hn
      | succ n =>
        have := am_mono (K' := am_E) (fun m i ls st h r e => am_E_iff.mpr ⟨n, e⟩) hn
        rw [hr] at this; cases this
def am_steps : Nat → am_K → am_K
  | 0, K => K
  | n + 1, K => am_step (am_steps n K)
theorem am_E_n (n : Nat) : am_E = am_steps n am_E := by
  induction n with
  | zero => rfl
  | succ n ih =>
    funext m i ls st h
    rw [am_E_eq]
    show am_step am_E m i ls st h = am_step (am_steps n am_E) m i ls st h
    rw [← ih]
end
section
/-! WHAT THE ABSTRACT WORLD MEANS on the machine's heap. -/
def am_cv (ad : Nat → Option Nat) (v : Value) : Value := match v with
  | .ref q => va_rf (ad q)
  | v => v
theorem am_rf_cat (r : Option Nat) : (va_rf r).category = 1 := by cases r <;> rfl
theorem am_cv_cat (ad : Nat → Option Nat) (v : Value) : (am_cv ad v).category = v.category := by
  cases v <;> first | rfl | exact am_rf_cat _
/-- the locals -/
def am_Lr (ad : Nat → Option Nat) (nL : Nat) (ls : List Value) (Ls : Array Slot) : Prop := Ls.size = nL ∧ lv_wf Ls ∧ ∀ (i : Nat) (v : Value), ls[i]? = some v → v ≠ .null → Ls[i]? = some (.val (am_cv ad v))
def am_one (ad : Nat → Option Nat) (i : Nat) (v : Value) : List (Nat × Value) := match v with
  | .null => []
  | v => [(i, am_cv ad v)]
theorem am_one_mem {ad : Nat → Option Nat} {i : Nat} {v : Value} {q : Nat × Value} : q ∈ am_one ad i v ↔ v ≠ .null ∧ q = (i, am_cv ad v) := by
  cases v <;> simp [am_one]
def am_ll (ad : Nat → Option Nat) : Nat → List Value → List (Nat × Value)
  | _, [] => []
  | i, v :: r => am_one ad i v ++ am_ll ad (i + 1) r
theorem am_ll_mem {ad : Nat → Option Nat} {q : Nat × Value} : ∀ {ls : List Value} {k : Nat}, q ∈ am_ll ad k ls ↔ ∃ i v, ls[i]? = some v ∧ v ≠ .null ∧ q = (k + i, am_cv ad v)
  | [], k => by simp [am_ll]
  | w :: ls, k => by
    rw [am_ll, List.mem_append, am_one_mem, am_ll_mem]
    constructor
    · rintro (⟨h1, h2⟩ | ⟨i, v, h1, h2, h3⟩)
      · exact ⟨0, w, rfl, h1, h2⟩
      · exact ⟨i + 1, v, h1, h2, by rw [h3]; congr 1; omega⟩
    · rintro ⟨i, v, h1, h2, h3⟩
      rcases i with _ | i
      · simp at h1
        subst h1
        exact Or.inl ⟨h2, h3⟩
      · exact Or.inr ⟨i, v, by simpa using h1, h2, by rw [h3]; congr 1; omega⟩
theorem am_Lr.has {ad : Nat → Option Nat} {nL : Nat} {ls : List Value} {Ls : Array Slot} (h : am_Lr ad nL ls Ls) : lv_has Ls nL (am_ll ad 0 ls) := by
  refine ⟨h.1, h.2.1, fun q hq => ?_⟩
  obtain ⟨i, v, h1, h2, h3⟩ := am_ll_mem.mp hq
  subst h3
  simpa using h.2.2 i v h1 h2
theorem am_Lr.at {ad : Nat → Option Nat} {nL : Nat} {ls : List Value} {Ls : Array Slot} (h : am_Lr ad nL ls Ls) {i : Nat} {v : Value} (hv : ls.getD i .null = v) (hn : v ≠ .null) : Ls[i]? = some (.val (am_cv ad v)) := by
  refine h.2.2 i v ?_ hn
  rw [List.getD_eq_getElem?_getD] at hv
  cases h1 : ls[i]? with
  | none => rw [h1] at hv; exact absurd hv.symm hn
  | some w => rw [h1] at hv; exact congrArg some hv
theorem am_kl_eq {v w : Value} (h : am_kl v = w) (hw : w ≠ .null) : v = w ∧ w.category = 1 := by
  cases v <;> first | exact ⟨h, by rw [← h]; rfl⟩ | exact absurd h.symm hw
theorem am_st1_get : ∀ (ls : List Value) (i : Nat) (v : Value) (j : Nat) (w : Value), (am_st1 ls i v)[j]? = some w → w ≠ .null → (j = i ∧ w = v) ∨ (j ≠ i ∧ ls[j]? = some w ∧ ¬ (j + 1 = i ∧ w.category = 2))
  | [], i, v, j, w, h, _ => by simp [am_st1] at h
  | x :: r, 0, v, j, w, h, hw => by
    rcases j with _ | j
    · simp [am_st1] at h
      exact Or.inl ⟨rfl, h.symm⟩
    · simp [am_st1] at h
      exact Or.inr ⟨by omega, by simpa using h, by omega⟩
  | x :: r, 1, v, j, w, h, hw => by
    rcases j with _ | j
    · simp [am_st1] at h
      obtain ⟨h1, h2⟩ := am_kl_eq h hw
      exact Or.inr ⟨by omega, by simpa using h1, by omega⟩
    · have h' : (am_st1 r 0 v)[j]? = some w := by simpa [am_st1] using h
      rcases am_st1_get r 0 v j w h' hw with ⟨h1, h2⟩ | ⟨h1, h2, h3⟩
      · exact Or.inl ⟨by omega, h2⟩
      · exact Or.inr ⟨by omega, by simpa using h2, by omega⟩
  | x :: r, n + 2, v, j, w, h, hw => by
    rcases j with _ | j
    · simp [am_st1] at h
      exact Or.inr ⟨by omega, by simpa using h, by omega⟩
    · have h' : (am_st1 r (n + 1) v)[j]? = some w := by simpa [am_st1] using h
      rcases am_st1_get r (n + 1) v j w h' hw with ⟨h1, h2⟩ | ⟨h1, h2, h3⟩
      · exact Or.inl ⟨by omega, h2⟩
      · exact Or.inr ⟨by omega, by simpa using h2, by omega⟩
theorem am_st1_len : ∀ (ls : List Value) (i : Nat) (v : Value), (am_st1 ls i v).length = ls.length
  | [], _, _ => rfl
  | _ :: _, 0, _ => rfl
  | _ :: r, 1, v => congrArg (· + 1) (am_st1_len r 0 v)
  | _ :: r, n + 2, v => congrArg (· + 1) (am_st1_len r (n + 1) v)
theorem am_st2_get {ls : List Value} {i : Nat} {v : Value} {j : Nat} {w : Value} (h : (am_st2 ls i v)[j]? = some w) (hw : w ≠ .null) : (j = i ∧ w = v) ∨ (j ≠ i ∧ j ≠ i + 1 ∧ ls[j]? = some w ∧ ¬ (j + 1 = i ∧ w.category = 2)) := by
  unfold am_st2 at h
  rw [List.getElem?_set] at h
  by_cases h1 : i + 1 = j
  · rw [if_pos h1] at h
    split at h
    · cases h; exact absurd rfl hw
    · cases h
  · rw [if_neg h1, List.getElem?_set] at h
    by_cases h2 : i = j
    · rw [if_pos h2] at h
      split at h
      · cases h; exact Or.inl ⟨h2.symm, rfl⟩
      · cases h
    · rw [if_neg h2] at h
      rcases am_st1_get ls i .null j w h hw with ⟨h3, h4⟩ | ⟨h3, h4, h5⟩
      · exact absurd h3.symm h2
      · exact Or.inr ⟨h3, fun e => h1 e.symm, h4, h5⟩
theorem am_Lr.st1 {ad : Nat → Option Nat} {nL : Nat} {ls : List Value} {Ls : Array Slot} {i : Nat} {v : Value} (h : lv_has Ls nL ((i, am_cv ad v) :: (am_ll ad 0 ls).filter (fun q => !(q.1 == i) && !(q.1 + 1 == i && q.2.category == 2)))) : am_Lr ad nL (am_st1 ls i v) Ls := by
  refine ⟨h.1, h.2.1, fun j w hj hw => ?_⟩
  rcases am_st1_get ls i v j w hj hw with ⟨h1, h2⟩ | ⟨h1, h2, h3⟩
  · subst h1; subst h2
    exact h.2.2 _ List.mem_cons_self
  · refine h.2.2 (j, am_cv ad w) (List.mem_cons_of_mem _ (List.mem_filter.mpr ⟨am_ll_mem.mpr ⟨j, w, h2, hw, by simp⟩, ?_⟩))
    rw [am_cv_cat]
    simp only [Bool.and_eq_true, Bool.not_eq_true', beq_eq_false_iff_ne, Bool.and_eq_false_iff, ne_eq]
    exact ⟨h1, by by_cases q : j + 1 = i
                  · exact Or.inr fun z => h3 ⟨q, z⟩
                  · exact Or.inl q⟩
theorem am_Lr.st2 {ad : Nat → Option Nat} {nL : Nat} {ls : List Value} {Ls : Array Slot} {i : Nat} {v : Value} (h : lv_has Ls nL ((i, am_cv ad v) :: (am_ll ad 0 ls).filter (fun q => !(q.1 == i) && (!(q.1 == i + 1) && !(q.1 + 1 == i && q.2.category == 2))))) : am_Lr ad nL (am_st2 ls i v) Ls := by
  refine ⟨h.1, h.2.1, fun j w hj hw => ?_⟩
  rcases am_st2_get hj hw with ⟨h1, h2⟩ | ⟨h1, h0, h2, h3⟩
  · subst h1; subst h2
    exact h.2.2 _ List.mem_cons_self
  · refine h.2.2 (j, am_cv ad w) (List.mem_cons_of_mem _ (List.mem_filter.mpr ⟨am_ll_mem.mpr ⟨j, w, h2, hw, by simp⟩, ?_⟩))
    rw [am_cv_cat]
    simp only [Bool.and_eq_true, Bool.not_eq_true', beq_eq_false_iff_ne, Bool.and_eq_false_iff, ne_eq]
    exact ⟨h1, h0, by by_cases q : j + 1 = i
                      · exact Or.inr fun z => h3 ⟨q, z⟩
                      · exact Or.inl q⟩
theorem am_exp_len (ad : Nat → Option Nat) : ∀ as : List Value, (∀ v ∈ as, v.category = 2 → ∃ x, v = .long x) → (lg_sl (as.map (am_cv ad))).length = (am_exp as).length
  | [], _ => rfl
  | v :: as, hv => by
    have ih := am_exp_len ad as fun w hw => hv w (List.mem_cons_of_mem _ hw)
    have e : lg_sl ((v :: as).map (am_cv ad)) = (if (am_cv ad v).category = 2 then [.val (am_cv ad v), .second] else [.val (am_cv ad v)]) ++ lg_sl (as.map (am_cv ad)) := by simp [lg_sl]
    rw [e, am_cv_cat]
    cases v with
    | long x => simp [am_exp, Value.category, ih]
    | double x => obtain ⟨y, hy⟩ := hv _ List.mem_cons_self rfl; cases hy
    | _ => simp [am_exp, Value.category, ih]
theorem am_exp_args (ad : Nat → Option Nat) : ∀ (as : List Value) (k i : Nat) (v : Value), (∀ v ∈ as, v.category = 2 → ∃ x, v = .long x) → (am_exp as)[i]? = some v → v ≠ .null → (k + i, am_cv ad v) ∈ lv_args k (as.map (am_cv ad))
  | [], _, _, _, _, h, _ => by simp [am_exp] at h
  | w :: as, k, i, v, hv, h, hn => by
    have hv' : ∀ v ∈ as, v.category = 2 → ∃ x, v = .long x := fun z hz => hv z (List.mem_cons_of_mem _ hz)
    have e : lv_args k ((w :: as).map (am_cv ad)) = (k, am_cv ad w) :: lv_args (if w.category = 2 then k + 2 else k + 1) (as.map (am_cv ad)) := by
      rw [List.map_cons, lv_args, am_cv_cat]
    rw [e]
    cases w with
    | long x =>
      rcases i with _ | _ | i
      · simp [am_exp] at h
        subst h
        exact List.mem_cons_self
      · simp [am_exp] at h
        exact absurd h.symm hn
      · have h' : (am_exp as)[i]? = some v := by simpa [am_exp] using h
        have := am_exp_args ad as (k + 2) i v hv' h' hn
        rw [show k + (i + 1 + 1) = k + 2 + i by omega]
        exact List.mem_cons_of_mem _ this
    | double x => obtain ⟨y, hy⟩ := hv _ List.mem_cons_self rfl; cases hy
    | _ =>
      rcases i with _ | i
      · simp [am_exp] at h
        subst h
        exact List.mem_cons_self
      · have h' : (am_exp as)[i]? = some v := by simpa [am_exp] using h
        have := am_exp_args ad as (k + 1) i v hv' h' hn
        rw [show k + (i + 1) = k + 1 + i by omega]
        exact List.mem_cons_of_mem _ this
theorem am_Lr.entry {ad : Nat → Option Nat} {as : List Value} {n : Nat} (hv : ∀ v ∈ as, v.category = 2 → ∃ x, v = .long x) (h : (am_exp as).length ≤ n) : am_Lr ad n (am_ent as n) ((lg_sl (as.map (am_cv ad)) ++ List.replicate (n - (lg_sl (as.map (am_cv ad))).length) Slot.unset).toArray) := by
  have hl := lv_entry (as.map (am_cv ad)) (n := n) (by rw [am_exp_len ad as hv]; exact h)
  refine ⟨hl.1, hl.2.1, fun i v hi hn => ?_⟩
  unfold am_ent at hi
  by_cases q : i < (am_exp as).length
  · rw [List.getElem?_append_left q] at hi
    have := am_exp_args ad as 0 i v hv hi hn
    rw [Nat.zero_add] at this
    exact hl.2.2 _ this
  · rw [List.getElem?_append_right (by omega)] at hi
    have := List.eq_of_mem_replicate (List.mem_of_getElem? hi)
    exact absurd this hn
/-- the cells -/
def am_fields (ad : Nat → Option Nat) (h : am_H) (q kd n : Nat) : List Value := (List.range n).map fun j => cond (Nat.beq (am_ft kd j) 1) (.long (h.1.2.1 q j)) (cond (Nat.beq (am_ft kd j) 2) (va_rf (ad (h.2.1.1 q j))) (.int (h.1.1 q j)))
def am_ce (cA : Nat → ClassId) (ad : Nat → Option Nat) (h : am_H) (q : Nat) : va_E :=
  cond (Nat.beq (am_S h q).1 20) (.inl (cA 0, (am_S h q).2, .inl (h.1.1 q))) (
  cond (Nat.beq (am_S h q).1 21) (.inl (cA 1, (am_S h q).2, .inl (h.1.1 q))) (
  cond (Nat.beq (am_S h q).1 22) (.inl (cA 2, (am_S h q).2, .inr (.inl (h.1.2.1 q)))) (
  cond (Nat.beq (am_S h q).1 23) (.inl (cA 3, (am_S h q).2, .inr (.inr (.inr (.inr (fun j => ad (h.1.2.2 q j))))))) (
  .inr ((am_S h q).1 - 1, am_fields ad h q (am_S h q).1 (am_S h q).2)))))
def am_ws (cA : Nat → ClassId) (ad : Nat → Option Nat) (h : am_H) : va_W := (List.range h.2.1.2.2).map fun j => ((ad (j + 1)).getD 0, am_ce cA ad h (j + 1))
abbrev am_tys (cA : Nat → ClassId) : List (ClassId × FieldType) := [(cA 0, .int), (cA 1, .boolean), (cA 2, .long), (cA 3, .object "ScanChart$Op")]
theorem am_ws_get {cA : Nat → ClassId} {ad : Nat → Option Nat} {h : am_H} {q : Nat} (h1 : 1 ≤ q) (h2 : q ≤ h.2.1.2.2) : (am_ws cA ad h)[q - 1]? = some ((ad q).getD 0, am_ce cA ad h q) := by
  simp only [am_ws, List.getElem?_map]
  rw [List.getElem?_range (by omega)]
  simp only [Option.map_some]
  rw [show q - 1 + 1 = q by omega]
theorem am_ws_len {cA : Nat → ClassId} {ad : Nat → Option Nat} {h : am_H} : (am_ws cA ad h).length = h.2.1.2.2 := by simp [am_ws]
theorem am_ce_congr {cA : Nat → ClassId} {ad ad' : Nat → Option Nat} {h h' : am_H} {q : Nat} (hS : am_S h' q = am_S h q) (hI : h'.1.1 q = h.1.1 q) (hJ : h'.1.2.1 q = h.1.2.1 q) (hT : ∀ j, ad' (h'.1.2.2 q j) = ad (h.1.2.2 q j)) (hR : ∀ j, ad' (h'.2.1.1 q j) = ad (h.2.1.1 q j)) : am_ce cA ad' h' q = am_ce cA ad h q := by
  unfold am_ce am_fields
  rw [hS, hI, hJ]
  simp only [hT, hR]
theorem am_ws_set {cA : Nat → ClassId} {ad : Nat → Option Nat} {h h' : am_H} {q : Nat} (h1 : 1 ≤ q) (hn : h'.2.1.2.2 = h.2.1.2.2) (ho : ∀ z, z ≠ q → am_ce cA ad h' z = am_ce cA ad h z) : am_ws cA ad h' = (am_ws cA ad h).set (q - 1) ((ad q).getD 0, am_ce cA ad h' q) := by
  apply List.ext_getElem?
  intro j
  by_cases hj : j < h.2.1.2.2
  · have e := am_ws_get (cA := cA) (ad := ad) (h := h') (q := j + 1) (by omega) (by omega)
    have e0 := am_ws_get (cA := cA) (ad := ad) (h := h) (q := j + 1) (by omega) (by omega)
    rw [Nat.add_sub_cancel] at e e0
    rw [e, List.getElem?_set]
    by_cases hq : q - 1 = j
    · rw [if_pos hq, if_pos (by rw [am_ws_len]; omega), show j + 1 = q by omega]
    · rw [if_neg hq, e0, ho (j + 1) (by omega)]
  · rw [List.getElem?_eq_none (by rw [am_ws_len]; omega), List.getElem?_eq_none (by rw [List.length_set, am_ws_len]; omega)]
def am_okk (z : Nat × Nat) : Prop := (1 ≤ z.1 ∧ z.1 ≤ 9 ∧ z.2 = (am_fldD z.1).2.2) ∨ z.1 = 20 ∨ z.1 = 21 ∨ z.1 = 22 ∨ z.1 = 23
def am_gd (L : Nat) (xs : Nat → Int32) (adc ad : Nat → Option Nat) (h : am_H) : Prop :=
  (∀ q, 1 ≤ q → q ≤ h.2.1.2.2 → ∃ a, ad q = some a) ∧ ad 0 = none ∧ h.2.1.2.2 ≤ 1000 ∧ (∀ q, 1 ≤ q → q ≤ h.2.1.2.2 → am_okk (am_S h q)) ∧ (∀ q, q = 0 ∨ h.2.1.2.2 < q → am_S h q = am_S0 L q) ∧
  (∀ q j, (am_S h q).1 = 23 → h.1.2.2 q j = 0 ∨ (am_S h (h.1.2.2 q j)).1 = 30) ∧ h.1.1 4600 = xs ∧ (∀ q, 1000 < q → ad q = adc q) ∧ ∀ q j, h.2.1.1 q j ≤ h.2.1.2.2 ∨ 1000 < h.2.1.1 q j
theorem am_S0_kind (L q : Nat) : (am_S0 L q).1 = 0 ∨ 24 ≤ (am_S0 L q).1 ∧ (am_S0 L q).1 ≤ 31 ∧ 1000 < q := by
  unfold am_S0
  by_cases h : q ≤ 1000
  · rw [Nat.ble_eq_true_of_le h]; exact Or.inl rfl
  · have h' : Nat.ble q 1000 = false := by cases e : Nat.ble q 1000 with
      | false => rfl
      | true => exact absurd (Nat.le_of_ble_eq_true e) h
    rw [h']
    simp only [cond_false]
    cases Nat.ble q 1041 <;> cases Nat.ble q 2000 <;> cases Nat.ble q 2055 <;> cases Nat.ble q 3000 <;> cases Nat.ble q 3055 <;> cases Nat.ble q 4000 <;> cases Nat.beq q 4001 <;> cases Nat.beq q 4600 <;> cases Nat.ble q 4003 <;> first | exact Or.inl rfl | exact Or.inr ⟨Nat.le_of_ble_eq_true rfl, Nat.le_of_ble_eq_true rfl, Nat.lt_of_not_le h⟩
theorem am_live {L : Nat} {xs : Nat → Int32} {adc ad : Nat → Option Nat} {h : am_H} (g : am_gd L xs adc ad h) {q : Nat} (hq : 1 ≤ (am_S h q).1) (hk : (am_S h q).1 < 24) : 1 ≤ q ∧ q ≤ h.2.1.2.2 := by
  by_cases z : q = 0 ∨ h.2.1.2.2 < q
  · have e := g.2.2.2.2.1 q z
    rw [e] at hq hk
    rcases am_S0_kind L q with w | w <;> omega
  · omega
theorem am_dead {L : Nat} {xs : Nat → Int32} {adc ad : Nat → Option Nat} {h : am_H} (g : am_gd L xs adc ad h) {q : Nat} (hq : 24 ≤ (am_S h q).1) : am_S h q = am_S0 L q ∧ 1000 < q := by
  by_cases z : q = 0 ∨ h.2.1.2.2 < q
  · have e := g.2.2.2.2.1 q z
    refine ⟨e, ?_⟩
    rw [e] at hq
    rcases am_S0_kind L q with w | w <;> omega
  · have := g.2.2.2.1 q (by omega) (by omega)
    rcases this with w | w | w | w | w <;> omega
/-- what stands from the start and nobody writes -/
def am_Cst (L : Nat) (xs : Nat → Int32) (adc : Nat → Option Nat) (A : Nat → Prop) (U : State) (H : Heap) : Prop :=
  (∀ q, (am_S0 L q).1 = 30 → 1000 < am_cR q 0 ∧ ∃ a, adc q = some a ∧ va_O "ScanChart$Op" a A U H ∧ ∀ k, k ≤ 3 → va_OF (am_cfn 30 k).1 (am_cfn 30 k).2.1 (am_cfn 30 k).2.2 (cond (Nat.beq k 0) (va_rf (adc (am_cR q k))) (.int (am_cI q k))) a A U H) ∧
  (∀ q q', (am_S0 L q).1 = 30 → (am_S0 L q').1 = 30 → adc q = adc q' → q = q') ∧
  (∀ q, (am_S0 L q).1 = 31 → 1000 < am_cR q 10 ∧ ∃ a, adc q = some a ∧ va_O "java/lang/String" a A U H ∧ va_OF (am_cfn 31 10).1 (am_cfn 31 10).2.1 (am_cfn 31 10).2.2 (va_rf (adc (am_cR q 10))) a A U H ∧ va_OF (am_cfn 31 11).1 (am_cfn 31 11).2.1 (am_cfn 31 11).2.2 (.int (am_cI q 11)) a A U H) ∧
  (∀ q, (am_S0 L q).1 = 27 → ∃ a, adc q = some a ∧ va_T .byte a (am_S0 L q).2 (fun j => .int (am_cI q j)) A U H) ∧
  (∀ q, (am_S0 L q).1 = 26 → ∃ a, adc q = some a ∧ va_T .int a (am_S0 L q).2 (fun j => .int (am_cI q j)) A U H) ∧
  (∀ q, (am_S0 L q).1 = 25 → (∀ j, 1000 < am_cR q j) ∧ ∃ a, adc q = some a ∧ va_T (.object "ScanChart$Op") a (am_S0 L q).2 (fun j => va_rf (adc (am_cR q j))) A U H) ∧
  (∃ b, adc 4600 = some b ∧ va_X b L xs U H ∧ b < H.size ∧ ¬ A b) ∧
  (∀ t ∈ am_stats, 1000 < t.2.2.2.1 + cond (Nat.beq t.2.2.2.2 1) 1001 0 ∧ va_Z t.1 t.2.1 t.2.2.1 (cond (Nat.beq t.2.2.2.2 1) (.int (am_gI t.2.2.2.1)) (va_rf (adc t.2.2.2.1))) A U H) ∧
  (∀ t ∈ am_ldcs, 1000 < t.2.2 ∧ ∃ a tx, adc t.2.2 = some a ∧ vk_R t.1 t.2.1 tx a U) ∧
  (∀ t ∈ am_nests, va_Nw (.methodLinkNest t.1 t.2.1 (am_y t.2.2) "ScanChart") U) ∧
  (∀ t ∈ am_nestf, va_Nw (.fieldLinkNest t.1 t.2.1 t.2.2.1 t.2.2.2.1 t.2.2.2.2 "ScanChart") U) ∧
  va_AO "ScanChart$Op" U
theorem am_Cst.move {L : Nat} {xs : Nat → Int32} {adc : Nat → Option Nat} {A B : Nat → Prop} {s U : State} {H0 H1 : Heap} (C : am_Cst L xs adc A s H0) (hW : s.WarmedH U.vm) (hk : ∀ a : Nat, a < H0.size → ¬ A a → H1[a]? = H0[a]?) (hz : H0.size ≤ H1.size) (hB : ∀ q, q < H0.size → B q → A q) : am_Cst L xs adc B U H1 := by
  obtain ⟨c1, c2, c3, c4, c5, c6, c7, c8, c9, c10, c11, c12⟩ := C
  have hvm := hW.alike
  have hA : ∀ {P : (Nat → Prop) → Prop}, P A → P A := fun h => h
  have kO : ∀ {E : String} {a : Nat}, va_O E a A s H0 → va_O E a B U H1 := fun h => by
    have h1 := (h.moved hvm).kept hk
    obtain ⟨cell, q1, q2, q3, q4⟩ := h
    obtain ⟨cell1, p1, p2, p3, -⟩ := h1
    exact ⟨cell1, p1, p2, p3, fun z => q4 (hB _ (Array.getElem?_eq_some_iff.mp q1).1 z)⟩
  have kF : ∀ {o n d : String} {v : Value} {a : Nat}, va_OF o n d v a A s H0 → va_OF o n d v a B U H1 := fun h => by
    have h1 := (h.moved hvm).kept hk
    obtain ⟨cf, kf, fi, f, cell, q0, q1, q2, q3, q4, q5⟩ := h
    obtain ⟨cf1, kf1, fi1, f1, cell1, p0, p1, p2, p3, p4, -⟩ := h1
    exact ⟨cf1, kf1, fi1, f1, cell1, p0, p1, p2, p3, p4, fun z => q5 (hB _ (Array.getElem?_eq_some_iff.mp q2).1 z)⟩
  have kT : ∀ {ty : FieldType} {a N : Nat} {f : Nat → Value}, va_T ty a N f A s H0 → va_T ty a N f B U H1 := fun h => by
    have h1 := (h.moved hvm).kept hk
    obtain ⟨cell, q1, q2, q3, q4, q5, q6, q7⟩ := h
    obtain ⟨cell1, p1, p2, p3, p4, p5, p6, -⟩ := h1
    exact ⟨cell1, p1, p2, p3, p4, p5, p6, fun z => q7 (hB _ (Array.getElem?_eq_some_iff.mp q1).1 z)⟩
  have kZ : ∀ {C n d : String} {v : Value}, va_Z C n d v A s H0 → va_Z C n d v B U H1 := fun h => by
    have h1 := (h.moved hvm).kept hk
    obtain ⟨cf, kf, fi, f, a, cell, q0, q1, q2, q3, q4, q5, q6, q7⟩ := id h
    obtain ⟨cf', kf', fi', f', a', cell', p0, p1, p2, p3, p4, p5, p6, p7⟩ := id h1
    refine ⟨cf', kf', fi', f', a', cell', p0, p1, p2, p3, p4, p5, p6, fun z => p7 ?_⟩
    refine hB _ ?_ z
    by_cases hl : a' < H0.size
    · exact hl
    · exfalso
      have h2 := (h.moved hvm)
      obtain ⟨cf2, kf2, fi2, f2, a2, cell2, r0, r1, r2, r3, r4, -⟩ := h2
      rw [p0] at r0
      cases r0
      rw [p3] at r3
      cases r3
      exact hl (Array.getElem?_eq_some_iff.mp r4).1
  refine ⟨fun q hq => ?_, c2, fun q hq => ?_, fun q hq => ?_, fun q hq => ?_, fun q hq => ?_, ?_, fun t ht => ⟨(c8 t ht).1, kZ (c8 t ht).2⟩, fun t ht => ?_, fun t ht => va_Nw.warmM hW (c10 t ht), fun t ht => va_Nw.warmF hW (c11 t ht), c12.moved hvm⟩
  · obtain ⟨h0, a, h1, h2, h3⟩ := c1 q hq
    exact ⟨h0, a, h1, kO h2, fun k hk => kF (h3 k hk)⟩
  · obtain ⟨h0, a, h1, h2, h3, h4⟩ := c3 q hq
    exact ⟨h0, a, h1, kO h2, kF h3, kF h4⟩
  · obtain ⟨a, h1, h2⟩ := c4 q hq
    exact ⟨a, h1, kT h2⟩
  · obtain ⟨a, h1, h2⟩ := c5 q hq
    exact ⟨a, h1, kT h2⟩
  · obtain ⟨h0, a, h1, h2⟩ := c6 q hq
    exact ⟨h0, a, h1, kT h2⟩
  · obtain ⟨b, h1, h2, h3, h4⟩ := c7
    exact ⟨b, h1, (h2.kept (hk b h3 h4)).moved hvm, Nat.lt_of_lt_of_le h3 hz, fun z => h4 (hB b h3 z)⟩
  · obtain ⟨h0, a, tx, h1, h2⟩ := c9 t ht
    exact ⟨h0, a, tx, h1, h2.warm hW⟩
end
section
/-! what a step that comes to an answer says of its stack; the counters only grow -/
theorem am_vI_inv {v : Value} {f : Int32 → am_R} {z : Value × am_H} (e : am_vI v f = some z) : ∃ x, v = .int x ∧ f x = some z := by
  cases v <;> first | exact ⟨_, rfl, e⟩ | cases e
theorem am_vJ_inv {v : Value} {f : Int64 → am_R} {z : Value × am_H} (e : am_vJ v f = some z) : ∃ x, v = .long x ∧ f x = some z := by
  cases v <;> first | exact ⟨_, rfl, e⟩ | cases e
theorem am_vR_inv {v : Value} {f : Nat → am_R} {z : Value × am_H} (e : am_vR v f = some z) : ∃ x, v = .ref x ∧ f x = some z := by
  cases v <;> first | exact ⟨_, rfl, e⟩ | cases e
theorem am_i1_inv {st : List Value} {f : Int32 → List Value → am_R} {z : Value × am_H} (e : am_i1 st f = some z) : ∃ x r, st = .int x :: r ∧ f x r = some z := by
  rcases st with _ | ⟨v, r⟩
  · cases e
  · cases v <;> first | exact ⟨_, _, rfl, e⟩ | cases e
theorem am_j1_inv {st : List Value} {f : Int64 → List Value → am_R} {z : Value × am_H} (e : am_j1 st f = some z) : ∃ x r, st = .long x :: r ∧ f x r = some z := by
  rcases st with _ | ⟨v, r⟩
  · cases e
  · cases v <;> first | exact ⟨_, _, rfl, e⟩ | cases e
theorem am_r1_inv {st : List Value} {f : Nat → List Value → am_R} {z : Value × am_H} (e : am_r1 st f = some z) : ∃ x r, st = .ref x :: r ∧ f x r = some z := by
  rcases st with _ | ⟨v, r⟩
  · cases e
  · cases v <;> first | exact ⟨_, _, rfl, e⟩ | cases e
theorem am_v1_inv {st : List Value} {f : Value → List Value → am_R} {z : Value × am_H} (e : am_v1 st f = some z) : ∃ x r, st = x :: r ∧ x.category = 1 ∧ f x r = some z := by
  rcases st with _ | ⟨v, r⟩
  · cases e
  · cases v <;> first | exact ⟨_, _, rfl, rfl, e⟩ | cases e
theorem am_i2_inv {st : List Value} {f : Int32 → Int32 → List Value → am_R} {z : Value × am_H} (e : am_i2 st f = some z) : ∃ x y r, st = .int y :: .int x :: r ∧ f x y r = some z := by
  rcases st with _ | ⟨v, _ | ⟨w, r⟩⟩
  · cases e
  · cases v <;> cases e
  · cases v <;> first | (cases e; done) | (cases w <;> first | exact ⟨_, _, _, rfl, e⟩ | cases e)
theorem am_j2_inv {st : List Value} {f : Int64 → Int64 → List Value → am_R} {z : Value × am_H} (e : am_j2 st f = some z) : ∃ x y r, st = .long y :: .long x :: r ∧ f x y r = some z := by
  rcases st with _ | ⟨v, _ | ⟨w, r⟩⟩
  · cases e
  · cases v <;> cases e
  · cases v <;> first | (cases e; done) | (cases w <;> first | exact ⟨_, _, _, rfl, e⟩ | cases e)
theorem am_ji_inv {st : List Value} {f : Int64 → Int32 → List Value → am_R} {z : Value × am_H} (e : am_ji st f = some z) : ∃ x y r, st = .int y :: .long x :: r ∧ f x y r = some z := by
  rcases st with _ | ⟨v, _ | ⟨w, r⟩⟩
  · cases e
  · cases v <;> cases e
  · cases v <;> first | (cases e; done) | (cases w <;> first | exact ⟨_, _, _, rfl, e⟩ | cases e)
theorem am_r2_inv {st : List Value} {f : Nat → Nat → List Value → am_R} {z : Value × am_H} (e : am_r2 st f = some z) : ∃ x y r, st = .ref y :: .ref x :: r ∧ f x y r = some z := by
  rcases st with _ | ⟨v, _ | ⟨w, r⟩⟩
  · cases e
  · cases v <;> cases e
  · cases v <;> first | (cases e; done) | (cases w <;> first | exact ⟨_, _, _, rfl, e⟩ | cases e)
theorem am_ir_inv {st : List Value} {f : Int32 → Nat → List Value → am_R} {z : Value × am_H} (e : am_ir st f = some z) : ∃ j q r, st = .int j :: .ref q :: r ∧ f j q r = some z := by
  rcases st with _ | ⟨v, _ | ⟨w, r⟩⟩
  · cases e
  · cases v <;> cases e
  · cases v <;> first | (cases e; done) | (cases w <;> first | exact ⟨_, _, _, rfl, e⟩ | cases e)
theorem am_vr_inv {st : List Value} {f : Value → Nat → List Value → am_R} {z : Value × am_H} (e : am_vr st f = some z) : ∃ v q r, st = v :: .ref q :: r ∧ f v q r = some z := by
  rcases st with _ | ⟨v, _ | ⟨w, r⟩⟩
  · cases e
  · cases e
  · cases w <;> first | exact ⟨_, _, _, rfl, e⟩ | cases e
theorem am_iir_inv {st : List Value} {f : Int32 → Int32 → Nat → List Value → am_R} {z : Value × am_H} (e : am_iir st f = some z) : ∃ x j q r, st = .int x :: .int j :: .ref q :: r ∧ f x j q r = some z := by
  rcases st with _ | ⟨v, _ | ⟨w, _ | ⟨u, r⟩⟩⟩
  · cases e
  · cases v <;> cases e
  · cases v <;> first | (cases e; done) | (cases w <;> cases e)
  · cases v <;> first | (cases e; done) | (cases w <;> first | (cases e; done) | (cases u <;> first | exact ⟨_, _, _, _, rfl, e⟩ | cases e))
theorem am_jir_inv {st : List Value} {f : Int64 → Int32 → Nat → List Value → am_R} {z : Value × am_H} (e : am_jir st f = some z) : ∃ x j q r, st = .long x :: .int j :: .ref q :: r ∧ f x j q r = some z := by
  rcases st with _ | ⟨v, _ | ⟨w, _ | ⟨u, r⟩⟩⟩
  · cases e
  · cases v <;> cases e
  · cases v <;> first | (cases e; done) | (cases w <;> cases e)
  · cases v <;> first | (cases e; done) | (cases w <;> first | (cases e; done) | (cases u <;> first | exact ⟨_, _, _, _, rfl, e⟩ | cases e))
theorem am_rir_inv {st : List Value} {f : Nat → Int32 → Nat → List Value → am_R} {z : Value × am_H} (e : am_rir st f = some z) : ∃ x j q r, st = .ref x :: .int j :: .ref q :: r ∧ f x j q r = some z := by
  rcases st with _ | ⟨v, _ | ⟨w, _ | ⟨u, r⟩⟩⟩
  · cases e
  · cases v <;> cases e
  · cases v <;> first | (cases e; done) | (cases w <;> cases e)
  · cases v <;> first | (cases e; done) | (cases w <;> first | (cases e; done) | (cases u <;> first | exact ⟨_, _, _, _, rfl, e⟩ | cases e))
theorem am_o1_inv {st : List Value} {f : Value → am_R} {z : Value × am_H} (e : am_o1 st f = some z) : ∃ v, st = [v] ∧ f v = some z := by
  rcases st with _ | ⟨v, _ | ⟨w, r⟩⟩
  · cases e
  · exact ⟨v, rfl, e⟩
  · cases e
theorem am_o0_inv {st : List Value} {f : am_R} {z : Value × am_H} (e : am_o0 st f = some z) : st = [] ∧ f = some z := by
  rcases st with _ | ⟨v, r⟩
  · exact ⟨rfl, e⟩
  · cases e
theorem am_cond_inv {b : Bool} {f : am_R} {z : Value × am_H} (e : cond b f none = some z) : b = true ∧ f = some z := by
  cases b
  · cases e
  · exact ⟨rfl, e⟩
theorem am_inb_inv {j : Int32} {n : Nat} {f : am_R} {z : Value × am_H} (e : am_inb j n f = some z) : vp_in j n ∧ f = some z := by
  unfold am_inb at e
  by_cases h1 : j < 0
  · rw [if_pos h1] at e; cases e
  · rw [if_neg h1] at e
    by_cases h2 : n ≤ j.toNatClampNeg
    · rw [if_pos h2] at e; cases e
    · rw [if_neg h2] at e
      exact ⟨fun h => h.elim h1 h2, e⟩
theorem am_ite_inv {c : Prop} [Decidable c] {f : am_R} {z : Value × am_H} (e : (if c then none else f) = some z) : ¬ c ∧ f = some z := by
  by_cases h : c
  · rw [if_pos h] at e; cases e
  · rw [if_neg h] at e; exact ⟨h, e⟩
theorem am_recv_inv {c : Nat} {as : List Value} {h : am_H} {f : am_R} {z : Value × am_H} (e : am_recv c as h f = some z) : f = some z ∧ (c = 0 ∨ ∃ q r, as = .ref q :: r ∧ (am_S h q).1 = c) := by
  rcases c with _ | c
  · exact ⟨e, Or.inl rfl⟩
  · rcases as with _ | ⟨v, r⟩
    · cases e
    · cases v <;> first | (cases e; done) | (obtain ⟨h1, h2⟩ := am_cond_inv e; exact ⟨h2, Or.inr ⟨_, _, rfl, Nat.eq_of_beq_eq_true h1⟩⟩)
def am_M (h : am_H) (F : am_R) : Prop := ∀ r h', F = some (r, h') → h.2.2.1 ≤ h'.2.2.1 ∧ h.2.2.2 ≤ h'.2.2.2 ∧ h.2.1.2.2 ≤ h'.2.1.2.2
theorem am_Mn {h : am_H} : am_M h none := fun _ _ e => by cases e
theorem am_Ms {h : am_H} {v : Value} : am_M h (some (v, h)) := fun _ _ e => by cases e; exact ⟨Nat.le_refl _, Nat.le_refl _, Nat.le_refl _⟩
theorem am_Mle {h h1 : am_H} {F : am_R} (k : am_M h1 F) (a : h.2.2.1 ≤ h1.2.2.1) (b : h.2.2.2 ≤ h1.2.2.2) (d : h.2.1.2.2 ≤ h1.2.1.2.2) : am_M h F := fun r h' e => by
  obtain ⟨x, y, z⟩ := k r h' e
  exact ⟨Nat.le_trans a x, Nat.le_trans b y, Nat.le_trans d z⟩
theorem am_Mite {h : am_H} {c : Prop} [Decidable c] {F G : am_R} (a : am_M h F) (b : am_M h G) : am_M h (if c then F else G) := by
  by_cases q : c
  · rw [if_pos q]; exact a
  · rw [if_neg q]; exact b
theorem am_Mb {h : am_H} {c : Bool} {F G : am_R} (a : am_M h F) (b : am_M h G) : am_M h (cond c F G) := by
  cases c
  · exact b
  · exact a
theorem am_Mbind {h : am_H} {F : am_R} {G : Value × am_H → am_R} (a : am_M h F) (b : ∀ x, am_M x.2 (G x)) : am_M h (F.bind G) := fun r h' e => by
  obtain ⟨x, h1, h2⟩ := Option.bind_eq_some_iff.mp e
  obtain ⟨p, q, z⟩ := a x.1 x.2 h1
  obtain ⟨p', q', z'⟩ := b x r h' h2
  exact ⟨Nat.le_trans p p', Nat.le_trans q q', Nat.le_trans z z'⟩
theorem am_Minb {h : am_H} {j : Int32} {n : Nat} {F : am_R} (a : am_M h F) : am_M h (am_inb j n F) := fun r h' e => a r h' (am_inb_inv e).2
theorem am_Mbr {h : am_H} {cnd : ClassFile.Cond} {x y : Int32} {F G : am_R} (a : am_M h F) (b : am_M h G) : am_M h (am_br cnd x y F G) := by
  rcases am_br_or cnd x y with q | q <;> rw [q]
  · exact a
  · exact b
theorem am_Mabr {h : am_H} {cnd : ClassFile.ACond} {x y : Nat} {F G : am_R} (a : am_M h F) (b : am_M h G) : am_M h (am_abr cnd x y F G) := by
  cases cnd
  · exact am_Mite a b
  · exact am_Mite b a
theorem am_Msel {h : am_H} {k : Nat → am_R} (a : ∀ t, am_M h (k t)) (x : Int32) (d : Nat) : ∀ (ts : List Nat) (lo : Int32), am_M h (am_sel k x d lo ts)
  | [], _ => a d
  | t :: ts, lo => am_Mite (a t) (am_Msel a x d ts (lo + 1))
theorem am_Mthr {h : am_H} {a : Nat} {as : List Value} {F G J : am_R} (hF : am_M h F) (hG : am_M h G) (hJ : am_M h J) : am_M h (am_thr a as F G J) := by
  rcases am_thr_or a as with q | q | q | q <;> rw [q]
  · exact am_Mn
  · exact hF
  · exact hG
  · exact hJ
theorem am_Mout {h : am_H} {a : Nat} {as : List Value} {v : Value} {k : am_H → am_R} (hk : ∀ x, am_M x (k x)) : am_M h (am_out a as v h k) := by
  have hJ : ∀ o q (x : Int64), am_M h (k (am_sJ h o q x)) := fun o q x => am_Mle (hk _) (Nat.le_refl _) (Nat.le_refl _) (Nat.le_refl _)
  unfold am_out
  split
  · exact hk _
  · split
    · refine am_Mb (am_Minb ?_) am_Mn
      intro r h' e
      obtain ⟨x, -, e⟩ := am_vI_inv e
      exact am_Mite (hJ _ _ _) (hJ _ _ _) r h' e
    · exact am_Mn
  · split
    · refine am_Mb (am_Minb ?_) am_Mn
      intro r h' e
      obtain ⟨x, -, e⟩ := am_vI_inv e
      exact hJ _ _ _ r h' e
    · exact am_Mn
theorem am_Mback {h : am_H} {t : Nat} {v : Value} {r : List Value} {k : List Value → am_R} (hk : ∀ x, am_M h (k x)) : am_M h (am_back t v r k) := by
  rcases t with _ | _ | _ | _ | t
  · exact hk _
  · intro z h' e; obtain ⟨x, -, e⟩ := am_vI_inv e; exact hk _ z h' e
  · intro z h' e; obtain ⟨x, -, e⟩ := am_vJ_inv e; exact hk _ z h' e
  · intro z h' e; obtain ⟨x, -, e⟩ := am_vR_inv e; exact hk _ z h' e
  · intro z h' e; obtain ⟨x, -, e⟩ := am_vI_inv e; exact hk _ z h' e
theorem am_fin_inv {m : Nat} {v : Value} {h : am_H} {z : Value × am_H} (e : am_fin m v h = some z) : z = (v, h) ∧ am_rt m ≠ 0 := by
  unfold am_fin at e
  split at e
  · rename_i h1; exact ⟨(Option.some.inj e).symm, by omega⟩
  · rename_i h1; exact ⟨(Option.some.inj e).symm, by omega⟩
  · rename_i h1; exact ⟨(Option.some.inj e).symm, by omega⟩
  · rename_i h1; obtain ⟨-, e⟩ := am_cond_inv e; exact ⟨(Option.some.inj e).symm, by omega⟩
  · rename_i h1; obtain ⟨-, e⟩ := am_ite_inv e; obtain ⟨-, e⟩ := am_ite_inv e; exact ⟨(Option.some.inj e).symm, by omega⟩
  · rename_i h1; split at e
    · exact ⟨(Option.some.inj e).symm, by omega⟩
    · cases e
  · cases e
theorem am_Mfin {m : Nat} {v : Value} {h : am_H} : am_M h (am_fin m v h) := fun r h' e => by
  obtain ⟨q, -⟩ := am_fin_inv e
  cases q
  exact ⟨Nat.le_refl _, Nat.le_refl _, Nat.le_refl _⟩
theorem am_run_inv {K : am_K} {a : Nat} {as : List Value} {h : am_H} {k : Value × am_H → am_R} {z : Value × am_H} (e : am_run K a as h k = some z) : (am_exp as).length ≤ am_nL a ∧ ∃ x, K a 0 (am_ent as (am_nL a)) [] h = some x ∧ k x = some z := by
  obtain ⟨h1, e⟩ := am_cond_inv e
  obtain ⟨x, h2, h3⟩ := Option.bind_eq_some_iff.mp e
  exact ⟨Nat.le_of_ble_eq_true h1, x, h2, h3⟩
theorem am_Mrun {K : am_K} (hK : ∀ m i ls st h, am_M h (K m i ls st h)) {a : Nat} {as : List Value} {h : am_H} {k : Value × am_H → am_R} (hk : ∀ x, am_M x.2 (k x)) : am_M h (am_run K a as h k) := am_Mb (am_Mbind (hK _ _ _ _ _) hk) am_Mn
theorem am_Mcall {K : am_K} (hK : ∀ m i ls st h, am_M h (K m i ls st h)) (m i : Nat) (ls st : List Value) (h : am_H) (a b c : Nat) : am_M h (am_call K m i ls st h a b c) := by
  unfold am_call
  refine am_Mb (am_Mb ?_ (am_Mb ?_ (am_Mb ?_ ?_))) am_Mn
  · intro r h' e
    obtain ⟨-, e⟩ := am_cond_inv e
    obtain ⟨x, t, -, e⟩ := am_r1_inv e
    exact am_Mb (hK _ _ _ _ _) am_Mn r h' e
  · refine am_Mthr ?_ ?_ ?_
    · exact am_Mle (hK _ _ _ _ _) (Nat.le_add_right _ _) (Nat.le_add_right _ _) (Nat.le_refl _)
    · exact am_Mle (hK _ _ _ _ _) (Nat.le_add_right _ _) (Nat.le_add_right _ _) (Nat.le_refl _)
    · exact am_Mrun hK fun x => am_Mout fun y => hK _ _ _ _ _
  · intro r h' e
    obtain ⟨e, -⟩ := am_recv_inv e
    refine am_Mrun hK (fun x => ?_) r h' e
    intro r h' e
    obtain ⟨y, -, e⟩ := am_vI_inv e
    have hw : am_M x.2 (K m (i + 1) (ls.map am_ren) (.int y :: (st.drop b).map am_ren) (am_swap x.2)) := am_Mle (hK _ _ _ _ (am_swap x.2)) (Nat.le_refl _) (Nat.le_refl _) (Nat.le_refl _)
    exact am_Mb (hK _ _ _ _ _) hw r h' e
  · intro r h' e
    obtain ⟨e, -⟩ := am_recv_inv e
    exact am_Mrun hK (fun x => am_Mback fun y => hK _ _ _ _ _) r h' e
theorem am_Mnew {h : am_H} {kd len : Nat} {F : am_R} (k : am_M (am_new h kd len) F) : am_M h F := am_Mle k (Nat.le_add_right _ _) (Nat.le_add_right _ _) (Nat.le_add_right _ _)
set_option maxHeartbeats 4000000 in
theorem am_Mstep {K : am_K} (hK : ∀ m i ls st h, am_M h (K m i ls st h)) (m i : Nat) (ls st : List Value) (h : am_H) : am_M h (am_step K m i ls st h) := by
  unfold am_step
  rcases am_ins m i with ⟨ir, a, b, c⟩
  have hSI : ∀ m i ls st q k v, am_M h (K m i ls st (am_sI h q k v)) := fun m i ls st q k v => am_Mle (hK m i ls st _) (Nat.le_refl _) (Nat.le_refl _) (Nat.le_refl _)
  have hSJ : ∀ m i ls st q k v, am_M h (K m i ls st (am_sJ h q k v)) := fun m i ls st q k v => am_Mle (hK m i ls st _) (Nat.le_refl _) (Nat.le_refl _) (Nat.le_refl _)
  have hST : ∀ m i ls st q k v, am_M h (K m i ls st (am_sT h q k v)) := fun m i ls st q k v => am_Mle (hK m i ls st _) (Nat.le_refl _) (Nat.le_refl _) (Nat.le_refl _)
  have hR : ∀ m i ls st q k v, am_M h (K m i ls st (am_sR h q k v)) := fun m i ls st q k v => am_Mle (hK m i ls st _) (Nat.le_refl _) (Nat.le_refl _) (Nat.le_refl _)
  cases ir <;> dsimp only <;> first
    | exact am_Mn
    | exact hK _ _ _ _ _
    | exact am_Mcall hK _ _ _ _ _ _ _ _
    | exact am_Mb (hK _ _ _ _ _) (hK _ _ _ _ _)
    | exact am_Mb (am_Mnew (hK _ _ _ _ _)) am_Mn
    | (intro r h' e; obtain ⟨x, -, e⟩ := am_vI_inv e; exact hK _ _ _ _ _ _ _ e)
    | (intro r h' e; obtain ⟨x, -, e⟩ := am_vJ_inv e; exact hK _ _ _ _ _ _ _ e)
    | (intro r h' e; obtain ⟨x, -, e⟩ := am_vR_inv e; exact hK _ _ _ _ _ _ _ e)
    | (intro r h' e; obtain ⟨x, t, -, e⟩ := am_i1_inv e; exact hK _ _ _ _ _ _ _ e)
    | (intro r h' e; obtain ⟨x, t, -, e⟩ := am_j1_inv e; exact hK _ _ _ _ _ _ _ e)
    | (intro r h' e; obtain ⟨x, t, -, e⟩ := am_r1_inv e; exact hK _ _ _ _ _ _ _ e)
    | (intro r h' e; obtain ⟨x, t, -, -, e⟩ := am_v1_inv e; exact hK _ _ _ _ _ _ _ e)
    | (intro r h' e; obtain ⟨x, y, t, -, e⟩ := am_i2_inv e; exact hK _ _ _ _ _ _ _ e)
    | (intro r h' e; obtain ⟨x, y, t, -, e⟩ := am_i2_inv e; exact am_Mite am_Mn (hK _ _ _ _ _) _ _ e)
    | (intro r h' e; obtain ⟨x, y, t, -, e⟩ := am_j2_inv e; exact hK _ _ _ _ _ _ _ e)
    | (intro r h' e; obtain ⟨x, y, t, -, e⟩ := am_ji_inv e; exact hK _ _ _ _ _ _ _ e)
    | (intro r h' e; obtain ⟨x, y, t, -, e⟩ := am_ir_inv e; exact hK _ _ _ _ _ _ _ e)
    | (intro r h' e; obtain ⟨x, t, -, e⟩ := am_i1_inv e; exact am_Mbr (hK _ _ _ _ _) (hK _ _ _ _ _) _ _ e)
    | (intro r h' e; obtain ⟨x, y, t, -, e⟩ := am_i2_inv e; exact am_Mbr (hK _ _ _ _ _) (hK _ _ _ _ _) _ _ e)
    | (intro r h' e; obtain ⟨x, y, t, -, e⟩ := am_r2_inv e; exact am_Mb (am_Mabr (hK _ _ _ _ _) (hK _ _ _ _ _)) am_Mn _ _ e)
    | (intro r h' e; obtain ⟨x, t, -, e⟩ := am_r1_inv e; exact am_Mb (am_Mite (hK _ _ _ _ _) (hK _ _ _ _ _)) am_Mn _ _ e)
    | (intro r h' e; obtain ⟨x, t, -, e⟩ := am_i1_inv e; exact am_Msel (fun t => hK _ _ _ _ _) _ _ _ _ _ _ e)
    | (intro r h' e; obtain ⟨x, t, -, e⟩ := am_r1_inv e; exact am_Mb (am_Mb (hK _ _ _ _ _) (am_Mb (hK _ _ _ _ _) (am_Mb (hK _ _ _ _ _) (am_Mb (hK _ _ _ _ _) (am_Mb (hK _ _ _ _ _) (am_Mb (hK _ _ _ _ _) am_Mn)))))) am_Mn _ _ e)
    | (intro r h' e; obtain ⟨x, t, -, e⟩ := am_r1_inv e; exact am_Mb (hK _ _ _ _ _) am_Mn _ _ e)
    | (intro r h' e; obtain ⟨x, y, t, -, e⟩ := am_ir_inv e; exact am_Mb (am_Minb (hK _ _ _ _ _)) am_Mn _ _ e)
    | (intro r h' e; obtain ⟨x, y, t, -, e⟩ := am_ir_inv e; exact am_Mb (am_Minb (hK _ _ _ _ _)) (am_Mb (am_Minb (hK _ _ _ _ _)) am_Mn) _ _ e)
    | (intro r h' e; obtain ⟨x, j, y, t, -, e⟩ := am_iir_inv e; exact am_Mb (am_Minb (hSI _ _ _ _ _ _ _)) am_Mn _ _ e)
    | (intro r h' e; obtain ⟨x, j, y, t, -, e⟩ := am_iir_inv e; exact am_Mb (am_Minb (am_Mb (hSI _ _ _ _ _ _ _) am_Mn)) am_Mn _ _ e)
    | (intro r h' e; obtain ⟨x, j, y, t, -, e⟩ := am_jir_inv e; exact am_Mb (am_Minb (hSJ _ _ _ _ _ _ _)) am_Mn _ _ e)
    | (intro r h' e; obtain ⟨x, j, y, t, -, e⟩ := am_rir_inv e; exact am_Mb (am_Minb (am_Mb (hST _ _ _ _ _ _ _) am_Mn)) am_Mn _ _ e)
    | (intro r h' e; obtain ⟨x, t, -, e⟩ := am_i1_inv e; exact am_Mite am_Mn (am_Mite am_Mn (am_Mb (am_Mnew (hK _ _ _ _ _)) am_Mn)) _ _ e)
    | (intro r h' e; obtain ⟨v, -, e⟩ := am_o1_inv e; obtain ⟨x, -, e⟩ := am_vI_inv e; exact am_Mfin _ _ e)
    | (intro r h' e; obtain ⟨v, -, e⟩ := am_o1_inv e; obtain ⟨x, -, e⟩ := am_vJ_inv e; exact am_Mfin _ _ e)
    | (intro r h' e; obtain ⟨v, -, e⟩ := am_o1_inv e; obtain ⟨x, -, e⟩ := am_vR_inv e; exact am_Mfin _ _ e)
    | (intro r h' e; obtain ⟨-, e⟩ := am_o0_inv e; exact am_Mb am_Ms am_Mn _ _ e)
    | (intro r h' e
       obtain ⟨v, q, t, -, e⟩ := am_vr_inv e
       refine am_Mb (am_Mb ?_ (am_Mb ?_ (am_Mb ?_ (am_Mb ?_ am_Mn)))) am_Mn _ _ e
       · intro r h' e; obtain ⟨x, -, e⟩ := am_vI_inv e; exact hSI _ _ _ _ _ _ _ _ _ e
       · intro r h' e; obtain ⟨x, -, e⟩ := am_vJ_inv e; exact hSJ _ _ _ _ _ _ _ _ _ e
       · intro r h' e; obtain ⟨x, -, e⟩ := am_vR_inv e; exact hR _ _ _ _ _ _ _ _ _ e
       · intro r h' e; obtain ⟨x, -, e⟩ := am_vI_inv e; exact am_Mb (hSI _ _ _ _ _ _ _) am_Mn _ _ e)
theorem am_Mex : ∀ (n m i : Nat) (ls st : List Value) (h : am_H), am_M h (am_ex n m i ls st h)
  | 0, _, _, _, _, _ => am_Mn
  | n + 1, m, i, ls, st, h => am_Mstep (am_Mex n) m i ls st h
end
section
/-! AN INVOCATION of a method of the tables: what its walk stands on, what a callee's contract is. -/
def am_vd (n : Nat) (v : Value) : Prop := match v with
  | .ref q => q ≤ n ∨ 1000 < q
  | .int _ => True
  | .long _ => True
  | .null => True
  | _ => False
def am_vs (n : Nat) (l : List Value) : Prop := ∀ v ∈ l, am_vd n v
theorem am_vs.tl {n : Nat} {v : Value} {l : List Value} (h : am_vs n (v :: l)) : am_vs n l := fun w hw => h w (List.mem_cons_of_mem _ hw)
theorem am_vs.hd {n : Nat} {v : Value} {l : List Value} (h : am_vs n (v :: l)) : am_vd n v := h v List.mem_cons_self
theorem am_vs.cons {n : Nat} {v : Value} {l : List Value} (a : am_vd n v) (h : am_vs n l) : am_vs n (v :: l) := fun w hw => (List.mem_cons.mp hw).elim (fun e => e ▸ a) (h w)
theorem am_vs.nil {n : Nat} : am_vs n [] := fun _ h => absurd h List.not_mem_nil
theorem am_vd.le {n k : Nat} (hk : n ≤ k) {v : Value} (h : am_vd n v) : am_vd k v := by
  cases v <;> first | exact h | exact h.elim (fun z => Or.inl (Nat.le_trans z hk)) Or.inr
theorem am_vs.le {n k : Nat} (hk : n ≤ k) {l : List Value} (h : am_vs n l) : am_vs k l := fun v hv => (h v hv).le hk
theorem am_vs.at {n i : Nat} {ls : List Value} (h : am_vs n ls) {v : Value} (hv : ls.getD i .null = v) : am_vd n v := by
  rw [List.getD_eq_getElem?_getD] at hv
  cases h1 : ls[i]? with
  | none => rw [h1] at hv; rw [← hv]; exact trivial
  | some w => rw [h1] at hv; rw [← hv]; exact h w (List.mem_of_getElem? h1)
theorem am_kl_ok {n : Nat} {v : Value} (h : am_vd n v) : am_vd n (am_kl v) := by cases v <;> first | exact h | exact trivial
theorem am_vs.st1 {n : Nat} {v : Value} : ∀ {ls : List Value} {i : Nat}, am_vs n ls → am_vd n v → am_vs n (am_st1 ls i v)
  | [], _, _, _ => am_vs.nil
  | _ :: _, 0, h, hv => am_vs.cons hv h.tl
  | _ :: r, 1, h, hv => am_vs.cons (am_kl_ok h.hd) (am_vs.st1 (ls := r) (i := 0) h.tl hv)
  | _ :: r, k + 2, h, hv => am_vs.cons h.hd (am_vs.st1 (ls := r) (i := k + 1) h.tl hv)
theorem am_vs.set {n : Nat} {v : Value} {ls : List Value} {i : Nat} (h : am_vs n ls) (hv : am_vd n v) : am_vs n (ls.set i v) := fun w hw => (List.mem_or_eq_of_mem_set hw).elim (h w) (fun e => e ▸ hv)
theorem am_vs.st2 {n : Nat} {v : Value} {ls : List Value} {i : Nat} (h : am_vs n ls) (hv : am_vd n v) : am_vs n (am_st2 ls i v) := ((h.st1 (v := .null) trivial).set hv).set (v := .null) trivial
theorem am_vs.exp {n : Nat} : ∀ {as : List Value}, am_vs n as → am_vs n (am_exp as)
  | [], _ => am_vs.nil
  | v :: as, h => by
    have ih := am_vs.exp (as := as) h.tl
    have hv := h.hd
    cases v <;> first | exact am_vs.cons hv ih | exact am_vs.cons hv (am_vs.cons trivial ih)
theorem am_vs.ent {n k : Nat} {as : List Value} (h : am_vs n as) : am_vs n (am_ent as k) := fun v hv => (List.mem_append.mp hv).elim (h.exp v) (fun h => by rw [List.eq_of_mem_replicate h]; exact trivial)
theorem am_vs.long {n : Nat} {as : List Value} (h : am_vs n as) : ∀ v ∈ as, v.category = 2 → ∃ x, v = .long x := fun v hv hc => by
  have := h v hv
  cases v <;> first | exact ⟨_, rfl⟩ | exact this.elim | cases hc
theorem am_cv_eq {n : Nat} {ad ad' : Nat → Option Nat} (h1 : ∀ q, q ≤ n → ad' q = ad q) (h2 : ∀ q, 1000 < q → ad' q = ad q) {v : Value} (h : am_vd n v) : am_cv ad' v = am_cv ad v := by
  cases v <;> first | rfl | exact congrArg va_rf (h.elim (h1 _) (h2 _))
theorem am_cvs_eq {n : Nat} {ad ad' : Nat → Option Nat} (h1 : ∀ q, q ≤ n → ad' q = ad q) (h2 : ∀ q, 1000 < q → ad' q = ad q) {l : List Value} (h : am_vs n l) : l.map (am_cv ad') = l.map (am_cv ad) := List.map_congr_left fun v hv => am_cv_eq h1 h2 (h v hv)
theorem am_Lr.ad {n nL : Nat} {ad ad' : Nat → Option Nat} {ls : List Value} {Ls : Array Slot} (h : am_Lr ad nL ls Ls) (h1 : ∀ q, q ≤ n → ad' q = ad q) (h2 : ∀ q, 1000 < q → ad' q = ad q) (hv : am_vs n ls) : am_Lr ad' nL ls Ls :=
  ⟨h.1, h.2.1, fun i v a b => by rw [am_cv_eq h1 h2 (hv v (List.mem_of_getElem? a))]; exact h.2.2 i v a b⟩
def am_Ctx (p : Program) (s : State) (m : MethodId) (args : Array Value) (meth : Method) (c : Code) (k : Nat) : Prop :=
  p.tables.exec = Jvm.exec ∧ c.code = am_bc k ∧ c.maxLocals = am_nL k ∧ s.vm.findClass (am_own k) = some m.cls ∧ (∀ w ∈ am_good, w.before args s = true) ∧ ((am_y k).name = "<init>" → meth.name = "<init>")
def am_Fx (G : va_G) (cA : Nat → ClassId) (L : Nat) (xs : Nat → Int32) (adc : Nat → Option Nat) (A : Nat → Prop) (s : State) : Prop := va_K G vwCl (am_tys cA) s ∧ am_Cst L xs adc A s s.heap ∧ ∀ q, s.heap.size ≤ q → A q
def am_Wd (G : va_G) (cA : Nat → ClassId) (L : Nat) (xs : Nat → Int32) (adc : Nat → Option Nat) (A : Nat → Prop) (s : State) (ad : Nat → Option Nat) (h : am_H) (H : Heap) (locs : List Loc) : Prop := va_P G vwCl (am_ws cA ad h) H ∧ va_D A (am_ws cA ad h) ∧ va_S A s.heap H locs ∧ am_gd L xs adc ad h
def am_ri (t : Nat) : Instr := match t with
  | 0 => .return_
  | 2 => .lreturn
  | 3 => .areturn
  | _ => .ireturn
def am_rs (t : Nat) (v : Value) : List Value := match t with
  | 0 => []
  | _ => [v]
def am_rv (t : Nat) (v : Value) : Option Value := match t with
  | 0 => none
  | _ => some v
/-- words of a method: its code, and all that are good -/
def am_wsm (k : Nat) : List Cond := Cond.code (am_y k) (am_bc k) (am_nL k) (am_rty k) :: am_good
def am_rm (k : Nat) (h h1 : am_H) : Room := { frames := am_fr k, cells := h1.2.2.1 - h.2.2.1, slots := h1.2.2.2 - h.2.2.2, locals := am_lo k }
def am_Pc (G : va_G) (cA : Nat → ClassId) (L : Nat) (xs : Nat → Int32) (adc ad : Nat → Option Nat) (h : am_H) (sz : Nat) (as : List Value) : Array Value → State → Prop :=
  va_Pc (as.map (am_cv ad)) (fun U => U.heap.size = sz ∧ va_P G vwCl (am_ws cA ad h) U.heap ∧ va_K G vwCl (am_tys cA) U ∧ va_D (fun _ => True) (am_ws cA ad h) ∧ am_Cst L xs adc (va_A (am_ws cA ad h) sz) U U.heap)
def am_Qc (G : va_G) (cA : Nat → ClassId) (L : Nat) (xs : Nat → Int32) (adc ad : Nat → Option Nat) (h h1 : am_H) (sz k : Nat) (r : Value) : Array Value → State → Outcome → State → Prop := fun _ st oc t =>
  (∃ ad' : Nat → Option Nat, oc = .returned (am_rv (am_rt k) (am_cv ad' r)) ∧ va_P G vwCl (am_ws cA ad' h1) t.heap ∧ va_D (va_A (am_ws cA ad h) sz) (am_ws cA ad' h1) ∧ am_gd L xs adc ad' h1 ∧ (∀ q, q ≤ h.2.1.2.2 → ad' q = ad q) ∧ am_vd h1.2.1.2.2 r) ∧ va_F (va_A (am_ws cA ad h) sz) st t
theorem am_Pc_blind {G : va_G} {cA : Nat → ClassId} {L : Nat} {xs : Nat → Int32} {adc ad : Nat → Option Nat} {h : am_H} {sz : Nat} {as : List Value} : FrameBlind (am_Pc G cA L xs adc ad h sz as) := fun a U g mk ⟨ha, hsz, hP, hK, hD, hC⟩ =>
  ⟨ha, hsz, hP, va_K.moved (u := U) (U := U.calling g mk a) (Vm.Alike.refl U.vm) hK, hD, am_Cst.move (U := U.calling g mk a) hC (State.WarmedH.refl U) (fun _ _ _ => rfl) (Nat.le_refl _) (fun _ _ h => h)⟩
/-- the contract of every method that comes to an answer within n steps -/
def am_Met (l : Launch) (n : Nat) : Prop := ∀ (k : Nat) (as : List Value) (h h1 : am_H) (r : Value), k < 179 → am_ex n k 0 (am_ent as (am_nL k)) [] h = some (r, h1) → (am_exp as).length ≤ am_nL k → am_vs h.2.1.2.2 as →
  ∀ (G : va_G) (cA : Nat → ClassId) (L : Nat) (xs : Nat → Int32) (adc ad : Nat → Option Nat) (sz : Nat), am_gd L xs adc ad h →
    Met l (am_y k) (am_wsm k) (am_rm k h h1) (am_Pc G cA L xs adc ad h sz as) (am_Qc G cA L xs adc ad h h1 sz k r) (h1.2.2.1 - h.2.2.1) (h1.2.2.2 - h.2.2.2) (va_A (am_ws cA ad h) sz)
theorem am_wsm_good {k : Nat} (hk : k < 179) : GoodIn am_good (am_wsm k) := fun w hw => by
  rcases List.mem_cons.mp hw with rfl | h
  · exact ⟨am_code_ok k hk, am_good_word (am_code_ok k hk)⟩
  · exact ⟨h, am_good_word h⟩
theorem am_ck {k : Nat} (hk : k < 180) (i : Nat) : am_chk k i = true := by
  by_cases h : i / 16 < (am_cc k).length
  · have := List.all_eq_true.mp (am_k_all k hk (i / 16) h) (i % 16) (List.mem_range.mpr (Nat.mod_lt _ (by decide)))
    rw [show 16 * (i / 16) + i % 16 = i from Nat.div_add_mod i 16] at this
    exact this
  · have e : am_ins k i = (.nop, 0, 0, 0) := by
      show (((am_cc k).getD (i / 16) []).getD (i % 16) (.nop, 0, 0, 0)) = _
      rw [show (am_cc k).getD (i / 16) [] = [] by rw [List.getD_eq_getElem?_getD, List.getElem?_eq_none (by omega)]; rfl]
      rfl
    unfold am_chk
    rw [e]
    rfl
theorem am_rk {k : Nat} (hk : k < 180) (i : Nat) : am_rk1 k i = true := by
  by_cases h : i < 16 * (am_cc k).length
  · exact List.all_eq_true.mp (List.all_eq_true.mp am_rk_all k (List.mem_range.mpr hk)) i (List.mem_range.mpr h)
  · have e : am_ins k i = (.nop, 0, 0, 0) := by
      show (((am_cc k).getD (i / 16) []).getD (i % 16) (.nop, 0, 0, 0)) = _
      rw [show (am_cc k).getD (i / 16) [] = [] by rw [List.getD_eq_getElem?_getD, List.getElem?_eq_none (by omega)]; rfl]
      rfl
    unfold am_rk1
    rw [e]
section AMS
variable {p : Program} {l : Launch} {e : Env} {R : Room} {s : State} {m : MethodId} {args : Array Value} {below : List Frame} {meth : Method} {c : Code} {Q : State → Prop}
/-- the walk from every place, with n steps left, to the answer rf -/
def am_G (p : Program) (l : Launch) (e : Env) (R : Room) (s : State) (m : MethodId) (args : Array Value) (below : List Frame) (meth : Method) (c : Code) (Q : State → Prop) (G : va_G) (cA : Nat → ClassId) (L : Nat) (xs : Nat → Int32) (adc : Nat → Option Nat) (A : Nat → Prop) (k : Nat) (E : (Nat → Option Nat) → Prop) (n0 c0 s0 : Nat) (rf : Value) (hf : am_H) (n : Nat) : Prop :=
  ∀ (i : Nat) (ls st : List Value) (h : am_H) (ad : Nat → Option Nat) (H : Heap) (locs : List Loc) (Ls : Array Slot), am_ex n k i ls st h = some (rf, hf) → am_Wd G cA L xs adc A s ad h H locs → am_Lr ad (am_nL k) ls Ls → am_vs h.2.1.2.2 ls → am_vs h.2.1.2.2 st → E ad → n0 ≤ h.2.1.2.2 → c0 ≤ h.2.2.1 → s0 ≤ h.2.2.2 →
    W p l e R s m args below meth c H locs (h.2.2.1 - c0) (h.2.2.2 - s0) Q (F0 m (am_pc k i) Ls (st.map (am_cv ad)))
def am_Hend (p : Program) (l : Launch) (e : Env) (R : Room) (s : State) (m : MethodId) (args : Array Value) (below : List Frame) (meth : Method) (c : Code) (Q : State → Prop) (G : va_G) (cA : Nat → ClassId) (L : Nat) (xs : Nat → Int32) (adc : Nat → Option Nat) (A : Nat → Prop) (k : Nat) (E : (Nat → Option Nat) → Prop) (c0 s0 : Nat) (rf : Value) (hf : am_H) : Prop :=
  ∀ (ad : Nat → Option Nat) (H : Heap) (locs : List Loc) (Ls : Array Slot) (pcr : Nat), E ad → am_Wd G cA L xs adc A s ad hf H locs → am_vd hf.2.1.2.2 rf → (am_rt k ≠ 0 → am_fin k rf hf = some (rf, hf)) → decode (am_bc k) pcr = .ok (am_ri (am_rt k), 1) →
    W p l e R s m args below meth c H locs (hf.2.2.1 - c0) (hf.2.2.2 - s0) Q (F0 m pcr Ls (am_rs (am_rt k) (am_cv ad rf)))
/-- behind a call -/
theorem am_after {G : va_G} {cA : Nat → ClassId} {L : Nat} {xs : Nat → Int32} {adc ad : Nat → Option Nat} {A : Nat → Prop} {h h1 : am_H} {H : Heap} {locs : List Loc} {cells slots mc ms pc sz a : Nat} {ls : Array Slot} {st0 rest : List Value} {r : Value} {av : Array Value}
    (hr : va_Run p l e R s m args below meth c H locs cells slots mc ms (F0 m pc ls st0) rest (am_Qc G cA L xs adc ad h h1 sz a r av) (va_A (am_ws cA ad h) sz)) (hA : ∀ q, va_A (am_ws cA ad h) sz q → A q) (hS : va_S A s.heap H locs)
    (kk : ∀ (ad' : Nat → Option Nat) (H1 : Heap) (locs1 : List Loc), am_Wd G cA L xs adc A s ad' h1 H1 locs1 → (∀ q, q ≤ h.2.1.2.2 → ad' q = ad q) → am_vd h1.2.1.2.2 r → W p l e R s m args below meth c H1 locs1 (cells + mc) (slots + ms) Q (F0 m (pc + 3) ls ((am_rv (am_rt a) (am_cv ad' r)).toList ++ rest))) :
    W p l e R s m args below meth c H locs cells slots Q (F0 m pc ls st0) := by
  intro T hT X
  obtain ⟨v, st₀, t, T', Lc, h0, X', hL, e1, e2, ⟨⟨ad', hv, hP, hD, hg, had, hrv⟩, hz, hk⟩, st⟩ := hr T hT X
  cases hv
  rw [h0] at hz hk
  obtain ⟨t2, a1, b1⟩ := kk ad' T'.heap (locs ++ Lc) ⟨by rw [e1]; exact hP, hD.weaken (fun _ _ _ z => hA _ z), ⟨Nat.le_trans hS.1 (by rw [e1]; exact hz), fun q h1 h2 => by rw [e1, hk q (Nat.lt_of_lt_of_le h1 hS.1) (fun z => h2 (hA q z))]; exact hS.2.1 q h1 h2, fun q hq => by
      rcases List.mem_append.mp hq with h | h
      · exact hS.2.2 q h
      · exact hA _ (hL q h)⟩, hg⟩ had hrv T' rfl X'
  exact ⟨t2, st t2 a1, b1⟩
end AMS
end
section
/-! ROWS OF CELLS for the soundness of a step. -/
theorem am_nbeq {a b : Nat} (h : a ≠ b) : Nat.beq a b = false := by
  cases e : Nat.beq a b with
  | false => rfl
  | true => exact absurd (Nat.eq_of_beq_eq_true e) h
theorem am_up_eq {α : Type} (f : Nat → Nat → α) (q k : Nat) (v : α) (a b : Nat) : am_up f q k v a b = if a = q ∧ b = k then v else f a b := by
  unfold am_up
  by_cases h1 : a = q
  · by_cases h2 : b = k
    · rw [if_pos ⟨h1, h2⟩, h1, h2, Nat.beq_refl, Nat.beq_refl]; rfl
    · rw [if_neg (fun z => h2 z.2), show Nat.beq b k = false from am_nbeq h2]; simp
  · rw [if_neg (fun z => h1 z.1), show Nat.beq a q = false from am_nbeq h1]; rfl
theorem am_up_row {α : Type} (f : Nat → Nat → α) {q k : Nat} (v : α) {a : Nat} (h : a ≠ q) : am_up f q k v a = f a := by
  funext b
  rw [am_up_eq, if_neg (fun z => h z.1)]
theorem am_clr_eq {α : Type} (f : Nat → Nat → α) (q : Nat) (v : α) (a b : Nat) : am_clr f q v a b = if a = q then v else f a b := by
  unfold am_clr
  by_cases h1 : a = q
  · rw [if_pos h1, h1, Nat.beq_refl]; rfl
  · rw [if_neg h1, show Nat.beq a q = false from am_nbeq h1]; rfl
theorem am_clr_row {α : Type} (f : Nat → Nat → α) {q : Nat} (v : α) {a : Nat} (h : a ≠ q) : am_clr f q v a = f a := by
  funext b
  rw [am_clr_eq, if_neg h]
def am_fv (ad : Nat → Option Nat) (h : am_H) (q kd j : Nat) : Value := cond (Nat.beq (am_ft kd j) 1) (.long (h.1.2.1 q j)) (cond (Nat.beq (am_ft kd j) 2) (va_rf (ad (h.2.1.1 q j))) (.int (h.1.1 q j)))
theorem am_fields_get {ad : Nat → Option Nat} {h : am_H} {q kd n j : Nat} (hj : j < n) : (am_fields ad h q kd n)[j]? = some (am_fv ad h q kd j) := by
  unfold am_fields am_fv
  rw [List.getElem?_map, List.getElem?_range hj]
  rfl
theorem am_fields_len {ad : Nat → Option Nat} {h : am_H} {q kd n : Nat} : (am_fields ad h q kd n).length = n := by simp [am_fields]
theorem am_fields_set {ad : Nat → Option Nat} {h h' : am_H} {q kd n k : Nat} {v : Value} (hv : am_fv ad h' q kd k = v) (ho : ∀ j, j ≠ k → am_fv ad h' q kd j = am_fv ad h q kd j) : am_fields ad h' q kd n = (am_fields ad h q kd n).set k v := by
  apply List.ext_getElem?
  intro j
  by_cases hj : j < n
  · rw [am_fields_get hj, List.getElem?_set]
    by_cases hk : k = j
    · subst hk
      rw [if_pos rfl, if_pos (by rw [am_fields_len]; exact hj), hv]
    · rw [if_neg hk, am_fields_get hj, ho j (fun z => hk z.symm)]
  · rw [List.getElem?_eq_none (by rw [am_fields_len]; omega), List.getElem?_eq_none (by rw [List.length_set, am_fields_len]; omega)]
theorem am_ce_obj {cA : Nat → ClassId} {ad : Nat → Option Nat} {h : am_H} {q b : Nat} (hb : (am_S h q).1 = b) (hl : b ≤ 9) : am_ce cA ad h q = .inr (b - 1, am_fields ad h q b (am_S h q).2) := by
  unfold am_ce
  rw [hb, show Nat.beq b 20 = false from am_nbeq (by omega), show Nat.beq b 21 = false from am_nbeq (by omega), show Nat.beq b 22 = false from am_nbeq (by omega), show Nat.beq b 23 = false from am_nbeq (by omega)]
  rfl
theorem am_ce_20 {cA : Nat → ClassId} {ad : Nat → Option Nat} {h : am_H} {q : Nat} (hb : (am_S h q).1 = 20) : am_ce cA ad h q = .inl (cA 0, (am_S h q).2, .inl (h.1.1 q)) := by
  unfold am_ce; rw [hb]; rfl
theorem am_ce_21 {cA : Nat → ClassId} {ad : Nat → Option Nat} {h : am_H} {q : Nat} (hb : (am_S h q).1 = 21) : am_ce cA ad h q = .inl (cA 1, (am_S h q).2, .inl (h.1.1 q)) := by
  unfold am_ce; rw [hb]; rfl
theorem am_ce_22 {cA : Nat → ClassId} {ad : Nat → Option Nat} {h : am_H} {q : Nat} (hb : (am_S h q).1 = 22) : am_ce cA ad h q = .inl (cA 2, (am_S h q).2, .inr (.inl (h.1.2.1 q))) := by
  unfold am_ce; rw [hb]; rfl
theorem am_ce_23 {cA : Nat → ClassId} {ad : Nat → Option Nat} {h : am_H} {q : Nat} (hb : (am_S h q).1 = 23) : am_ce cA ad h q = .inl (cA 3, (am_S h q).2, .inr (.inr (.inr (.inr (fun j => ad (h.1.2.2 q j)))))) := by
  unfold am_ce; rw [hb]; rfl
theorem am_at {L : Nat} {xs : Nat → Int32} {adc ad : Nat → Option Nat} {h : am_H} {cA : Nat → ClassId} (g : am_gd L xs adc ad h) {q : Nat} (hq : 1 ≤ (am_S h q).1) (hk : (am_S h q).1 < 24) : ∃ a, ad q = some a ∧ 1 ≤ q ∧ q ≤ h.2.1.2.2 ∧ (am_ws cA ad h)[q - 1]? = some (a, am_ce cA ad h q) := by
  obtain ⟨h1, h2⟩ := am_live g hq hk
  obtain ⟨a, ha⟩ := g.1 q h1 h2
  refine ⟨a, ha, h1, h2, ?_⟩
  rw [am_ws_get h1 h2, ha]
  rfl
/-- one cell's row changed -/
theorem am_ws_upd {cA : Nat → ClassId} {ad : Nat → Option Nat} {h h' : am_H} {q a : Nat} (h1 : 1 ≤ q) (ha : ad q = some a) (hz : h'.2.1.2 = h.2.1.2) (hI : ∀ z, z ≠ q → h'.1.1 z = h.1.1 z) (hJ : ∀ z, z ≠ q → h'.1.2.1 z = h.1.2.1 z) (hT : ∀ z, z ≠ q → h'.1.2.2 z = h.1.2.2 z) (hR : ∀ z, z ≠ q → h'.2.1.1 z = h.2.1.1 z) : am_ws cA ad h' = (am_ws cA ad h).set (q - 1) (a, am_ce cA ad h' q) := by
  rw [am_ws_set (h := h) h1 (by rw [hz]) (fun z n => am_ce_congr (by unfold am_S; rw [hz]) (hI z n) (hJ z n) (fun j => by rw [hT z n]) (fun j => by rw [hR z n])), ha]
  rfl
theorem am_gd_sI {L : Nat} {xs : Nat → Int32} {adc ad : Nat → Option Nat} {h : am_H} (g : am_gd L xs adc ad h) {q k : Nat} {v : Int32} (hq : q ≤ 1000) : am_gd L xs adc ad (am_sI h q k v) := by
  obtain ⟨g1, g2, g3, g4, g5, g6, g7, g8, g9⟩ := g
  exact ⟨g1, g2, g3, g4, g5, g6, (am_up_row h.1.1 v (show (4600 : Nat) ≠ q by omega)).trans g7, g8, g9⟩
theorem am_gd_sJ {L : Nat} {xs : Nat → Int32} {adc ad : Nat → Option Nat} {h : am_H} (g : am_gd L xs adc ad h) {q k : Nat} {v : Int64} : am_gd L xs adc ad (am_sJ h q k v) := g
theorem am_gd_sT {L : Nat} {xs : Nat → Int32} {adc ad : Nat → Option Nat} {h : am_H} (g : am_gd L xs adc ad h) {q k : Nat} {v : Nat} (hv : (am_S h v).1 = 30) : am_gd L xs adc ad (am_sT h q k v) := by
  obtain ⟨g1, g2, g3, g4, g5, g6, g7, g8, g9⟩ := g
  refine ⟨g1, g2, g3, g4, g5, fun z j hz => ?_, g7, g8, g9⟩
  show am_up h.1.2.2 q k v z j = 0 ∨ (am_S h (am_up h.1.2.2 q k v z j)).1 = 30
  rw [am_up_eq]
  by_cases c : z = q ∧ j = k
  · rw [if_pos c]; exact Or.inr hv
  · rw [if_neg c]; exact g6 z j hz
theorem am_gd_sR {L : Nat} {xs : Nat → Int32} {adc ad : Nat → Option Nat} {h : am_H} (g : am_gd L xs adc ad h) {q k : Nat} {v : Nat} (hv : v ≤ h.2.1.2.2 ∨ 1000 < v) : am_gd L xs adc ad (am_sR h q k v) := by
  obtain ⟨g1, g2, g3, g4, g5, g6, g7, g8, g9⟩ := g
  refine ⟨g1, g2, g3, g4, g5, g6, g7, g8, fun z j => ?_⟩
  show am_up h.2.1.1 q k v z j ≤ h.2.1.2.2 ∨ 1000 < am_up h.2.1.1 q k v z j
  rw [am_up_eq]
  by_cases c : z = q ∧ j = k
  · rw [if_pos c]; exact hv
  · rw [if_neg c]; exact g9 z j
/-- a new cell -/
def am_adN (ad : Nat → Option Nat) (n a : Nat) : Nat → Option Nat := fun z => if z = n then some a else ad z
theorem am_adN_ne {ad : Nat → Option Nat} {n a z : Nat} (h : z ≠ n) : am_adN ad n a z = ad z := if_neg h
theorem am_adN_eq {ad : Nat → Option Nat} {n a : Nat} : am_adN ad n a n = some a := if_pos rfl
theorem am_S_new_ne {h : am_H} {kd len q : Nat} (z : q ≠ h.2.1.2.2 + 1) : am_S (am_new h kd len) q = am_S h q := by
  show cond (Nat.beq q (h.2.1.2.2 + 1)) (kd, len) (h.2.1.2.1 q) = _
  rw [show Nat.beq q (h.2.1.2.2 + 1) = false from am_nbeq z]
  rfl
theorem am_S_new_eq {h : am_H} {kd len : Nat} : am_S (am_new h kd len) (h.2.1.2.2 + 1) = (kd, len) := by
  show cond (Nat.beq (h.2.1.2.2 + 1) (h.2.1.2.2 + 1)) (kd, len) (h.2.1.2.1 _) = _
  rw [Nat.beq_refl]
  rfl
theorem am_gd_new {L : Nat} {xs : Nat → Int32} {adc ad : Nat → Option Nat} {h : am_H} (g : am_gd L xs adc ad h) {kd len a : Nat} (hk : am_okk (kd, len)) (hn : h.2.1.2.2 + 1 ≤ 1000) : am_gd L xs adc (am_adN ad (h.2.1.2.2 + 1) a) (am_new h kd len) := by
  obtain ⟨g1, g2, g3, g4, g5, g6, g7, g8, g9⟩ := g
  have hkl : kd ≤ 23 := by rcases hk with z | z | z | z | z <;> simp at z <;> omega
  refine ⟨fun q h1 h2 => ?_, by rw [am_adN_ne (by omega)]; exact g2, hn, fun q h1 h2 => ?_, fun q hq => ?_, fun q j hq => ?_, ?_, fun q hq => ?_, fun q j => ?_⟩
  · by_cases z : q = h.2.1.2.2 + 1
    · subst z; exact ⟨a, am_adN_eq⟩
    · rw [am_adN_ne z]
      exact g1 q h1 (by have h3 : q ≤ h.2.1.2.2 + 1 := h2; omega)
  · by_cases z : q = h.2.1.2.2 + 1
    · subst z; rw [am_S_new_eq]; exact hk
    · rw [am_S_new_ne z]
      exact g4 q h1 (by have h3 : q ≤ h.2.1.2.2 + 1 := h2; omega)
  · have h3 : q = 0 ∨ h.2.1.2.2 + 1 < q := hq
    rw [am_S_new_ne (by omega)]
    exact g5 q (by omega)
  · show am_clr h.1.2.2 (h.2.1.2.2 + 1) 0 q j = 0 ∨ (am_S (am_new h kd len) (am_clr h.1.2.2 (h.2.1.2.2 + 1) 0 q j)).1 = 30
    rw [am_clr_eq]
    by_cases z : q = h.2.1.2.2 + 1
    · rw [if_pos z]; exact Or.inl rfl
    · rw [if_neg z]
      rw [am_S_new_ne z] at hq
      rcases g6 q j hq with w | w
      · exact Or.inl w
      · refine Or.inr ?_
        rw [am_S_new_ne (fun y => ?_)]
        · exact w
        · rw [y, g5 _ (Or.inr (by omega))] at w
          rcases am_S0_kind L (h.2.1.2.2 + 1) with v | v <;> omega
  · exact (am_clr_row h.1.1 0 (show (4600 : Nat) ≠ h.2.1.2.2 + 1 by omega)).trans g7
  · rw [am_adN_ne (by omega)]; exact g8 q hq
  · show am_clr h.2.1.1 (h.2.1.2.2 + 1) 0 q j ≤ h.2.1.2.2 + 1 ∨ 1000 < am_clr h.2.1.1 (h.2.1.2.2 + 1) 0 q j
    rw [am_clr_eq]
    by_cases z : q = h.2.1.2.2 + 1
    · rw [if_pos z]; exact Or.inl (Nat.zero_le _)
    · rw [if_neg z]
      exact (g9 q j).elim (fun w => Or.inl (by omega)) Or.inr
theorem am_ws_new {L : Nat} {xs : Nat → Int32} {adc ad : Nat → Option Nat} {h : am_H} {cA : Nat → ClassId} (g : am_gd L xs adc ad h) {kd len a : Nat} (hn : h.2.1.2.2 + 1 ≤ 1000) : am_ws cA (am_adN ad (h.2.1.2.2 + 1) a) (am_new h kd len) = am_ws cA ad h ++ [(a, am_ce cA (am_adN ad (h.2.1.2.2 + 1) a) (am_new h kd len) (h.2.1.2.2 + 1))] := by
  have hv : ∀ {z : Nat}, (z ≤ h.2.1.2.2 ∨ 1000 < z) → am_adN ad (h.2.1.2.2 + 1) a z = ad z := fun hz => am_adN_ne (by omega)
  have hT : ∀ q j, q ≠ h.2.1.2.2 + 1 → (am_S h q).1 = 23 → am_adN ad (h.2.1.2.2 + 1) a (h.1.2.2 q j) = ad (h.1.2.2 q j) := fun q j hq hk => by
    rcases g.2.2.2.2.2.1 q j hk with w | w
    · rw [w]; exact am_adN_ne (by omega)
    · exact hv (Or.inr (am_dead g (by omega)).2)
  apply List.ext_getElem?
  intro j
  by_cases hj : j < h.2.1.2.2
  · have e := am_ws_get (cA := cA) (ad := am_adN ad (h.2.1.2.2 + 1) a) (h := am_new h kd len) (q := j + 1) (by omega) (by show j + 1 ≤ h.2.1.2.2 + 1; omega)
    have e0 := am_ws_get (cA := cA) (ad := ad) (h := h) (q := j + 1) (by omega) (by omega)
    rw [Nat.add_sub_cancel] at e e0
    rw [e, List.getElem?_append_left (by rw [am_ws_len]; exact hj), e0, am_adN_ne (by omega)]
    congr 2
    have hz : j + 1 ≠ h.2.1.2.2 + 1 := by omega
    unfold am_ce
    rw [am_S_new_ne hz]
    rw [show (am_new h kd len).1.1 (j + 1) = h.1.1 (j + 1) from am_clr_row _ _ hz, show (am_new h kd len).1.2.1 (j + 1) = h.1.2.1 (j + 1) from am_clr_row _ _ hz, show (am_new h kd len).1.2.2 (j + 1) = h.1.2.2 (j + 1) from am_clr_row _ _ hz]
    have hF : am_fields (am_adN ad (h.2.1.2.2 + 1) a) (am_new h kd len) (j + 1) (am_S h (j + 1)).1 (am_S h (j + 1)).2 = am_fields ad h (j + 1) (am_S h (j + 1)).1 (am_S h (j + 1)).2 := by
      unfold am_fields
      apply List.map_congr_left
      intro x _
      rw [show (am_new h kd len).1.1 (j + 1) = h.1.1 (j + 1) from am_clr_row _ _ hz, show (am_new h kd len).1.2.1 (j + 1) = h.1.2.1 (j + 1) from am_clr_row _ _ hz, show (am_new h kd len).2.1.1 (j + 1) = h.2.1.1 (j + 1) from am_clr_row _ _ hz, hv (g.2.2.2.2.2.2.2.2 _ _)]
    rw [hF]
    by_cases h23 : (am_S h (j + 1)).1 = 23
    · rw [show (fun i => am_adN ad (h.2.1.2.2 + 1) a (h.1.2.2 (j + 1) i)) = fun i => ad (h.1.2.2 (j + 1) i) from funext fun i => hT _ i hz h23]
    · rw [show Nat.beq (am_S h (j + 1)).1 23 = false from am_nbeq h23]
      rfl
  · by_cases hj2 : j = h.2.1.2.2
    · subst hj2
      have e := am_ws_get (cA := cA) (ad := am_adN ad (h.2.1.2.2 + 1) a) (h := am_new h kd len) (q := h.2.1.2.2 + 1) (by omega) (Nat.le_refl _)
      rw [Nat.add_sub_cancel] at e
      rw [e, List.getElem?_append_right (by rw [am_ws_len]; exact Nat.le_refl _), am_ws_len, Nat.sub_self, am_adN_eq]
      rfl
    · rw [List.getElem?_eq_none (by rw [am_ws_len]; show h.2.1.2.2 + 1 ≤ j; omega), List.getElem?_eq_none (by rw [List.length_append, am_ws_len]; show h.2.1.2.2 + 1 ≤ j; omega)]
section AMR
variable {p : Program} {l : Launch} {e : Env} {R : Room} {s : State} {m : MethodId} {args : Array Value} {below : List Frame} {meth : Method} {c : Code} {H : Heap} {locs : List Loc} {cells slots : Nat} {Q : State → Prop}
variable {cc : ByteArray} {pc : Nat} {ls : Array Slot} {rest : List Value}
theorem am_aload_n (hexec : p.tables.exec = Jvm.exec) (hb : c.code = cc) {k : Fin 4} {i : Nat} {r : Option Nat} (hdg : decode cc pc = .ok (.aload_n k, 1)) (hi : (k : Nat) = i) (hl : ls[i]? = some (.val (va_rf r)))
    (kk : W p l e R s m args below meth c H locs cells slots Q (F0 m (pc + 1) ls (va_rf r :: rest))) : W p l e R s m args below meth c H locs cells slots Q (F0 m pc ls rest) := by
  cases r
  · exact lv_aload_nN hexec hb hdg hi hl kk
  · exact lv_aload_n hexec hb hdg hi hl kk
theorem am_aload (hexec : p.tables.exec = Jvm.exec) (hb : c.code = cc) {i : Nat} {r : Option Nat} (hdg : decode cc pc = .ok (.aload i, 2)) (hl : ls[i]? = some (.val (va_rf r)))
    (kk : W p l e R s m args below meth c H locs cells slots Q (F0 m (pc + 2) ls (va_rf r :: rest))) : W p l e R s m args below meth c H locs cells slots Q (F0 m pc ls rest) := by
  cases r
  · exact lv_aloadN hexec hb hdg hl kk
  · exact lv_aload hexec hb hdg hl kk
theorem am_astore_n (hexec : p.tables.exec = Jvm.exec) (hb : c.code = cc) {k : Fin 4} {i nL : Nat} {r : Option Nat} {lv : List (Nat × Value)} (hdg : decode cc pc = .ok (.astore_n k, 1)) (hi : (k : Nat) = i) (h : lv_has ls nL lv) (hn : i < nL)
    (kk : ∀ ls' : Array Slot, lv_has ls' nL ((i, va_rf r) :: lv.filter (fun q => !(q.1 == i) && !(q.1 + 1 == i && q.2.category == 2))) → W p l e R s m args below meth c H locs cells slots Q (F0 m (pc + 1) ls' rest)) : W p l e R s m args below meth c H locs cells slots Q (F0 m pc ls (va_rf r :: rest)) := by
  cases r
  · exact lv_astore_nN hexec hb hdg hi h hn rfl kk
  · exact lv_astore_n hexec hb hdg hi h hn rfl kk
theorem am_astore (hexec : p.tables.exec = Jvm.exec) (hb : c.code = cc) {i nL : Nat} {r : Option Nat} {lv : List (Nat × Value)} (hdg : decode cc pc = .ok (.astore i, 2)) (h : lv_has ls nL lv) (hn : i < nL)
    (kk : ∀ ls' : Array Slot, lv_has ls' nL ((i, va_rf r) :: lv.filter (fun q => !(q.1 == i) && !(q.1 + 1 == i && q.2.category == 2))) → W p l e R s m args below meth c H locs cells slots Q (F0 m (pc + 2) ls' rest)) : W p l e R s m args below meth c H locs cells slots Q (F0 m pc ls (va_rf r :: rest)) := by
  cases r
  · exact lv_astoreN hexec hb hdg h hn rfl kk
  · exact lv_astore hexec hb hdg h hn rfl kk
/-- a branch on a comparison with 0, and of two ints -/
theorem am_ifc (hexec : p.tables.exec = Jvm.exec) (hb : c.code = cc) {cnd : ClassFile.Cond} {x : Int32} {off : Int} {tgt : Nat} {F1 F2 : am_R} {z : Value × am_H} (hdg : decode cc pc = .ok (.ifCond cnd off, 3)) (ht : (pc : Int) + off = (tgt : Int)) (he : am_br cnd x 0 F1 F2 = some z)
    (kt : F1 = some z → W p l e R s m args below meth c H locs cells slots Q (F0 m tgt ls rest)) (kf : F2 = some z → W p l e R s m args below meth c H locs cells slots Q (F0 m (pc + 3) ls rest)) : W p l e R s m args below meth c H locs cells slots Q (F0 m pc ls (.int x :: rest)) := by
  cases cnd <;> simp only [am_br] at he
  · exact lv_if_eq hexec hb hdg ht (fun q => kt (by rwa [if_pos q] at he)) (fun q => kf (by rwa [if_neg q] at he))
  · exact lv_if_ne hexec hb hdg ht (fun q => kt (by rwa [if_neg q] at he)) (fun q => kf (by rwa [if_pos q] at he))
  · exact lv_if_lt hexec hb hdg ht (fun q => kt (by rwa [if_pos q] at he)) (fun q => kf (by rwa [if_neg q] at he))
  · exact lv_if_ge hexec hb hdg ht (fun q => kt (by rwa [if_pos q] at he)) (fun q => kf (by rwa [if_neg q] at he))
  · exact lv_if_gt hexec hb hdg ht (fun q => kt (by rwa [if_pos q] at he)) (fun q => kf (by rwa [if_neg q] at he))
  · exact lv_if_le hexec hb hdg ht (fun q => kt (by rwa [if_pos q] at he)) (fun q => kf (by rwa [if_neg q] at he))
theorem am_ifi (hexec : p.tables.exec = Jvm.exec) (hb : c.code = cc) {cnd : ClassFile.Cond} {x y : Int32} {off : Int} {tgt : Nat} {F1 F2 : am_R} {z : Value × am_H} (hdg : decode cc pc = .ok (.if_icmp cnd off, 3)) (ht : (pc : Int) + off = (tgt : Int)) (he : am_br cnd x y F1 F2 = some z)
    (kt : F1 = some z → W p l e R s m args below meth c H locs cells slots Q (F0 m tgt ls rest)) (kf : F2 = some z → W p l e R s m args below meth c H locs cells slots Q (F0 m (pc + 3) ls rest)) : W p l e R s m args below meth c H locs cells slots Q (F0 m pc ls (.int y :: .int x :: rest)) := by
  cases cnd <;> simp only [am_br] at he
  · exact lv_icmp_eq hexec hb hdg ht (fun q => kt (by rwa [if_pos q] at he)) (fun q => kf (by rwa [if_neg q] at he))
  · exact lv_icmp_ne hexec hb hdg ht (fun q => kt (by rwa [if_neg q] at he)) (fun q => kf (by rwa [if_pos q] at he))
  · exact lv_icmp_lt hexec hb hdg ht (fun q => kt (by rwa [if_pos q] at he)) (fun q => kf (by rwa [if_neg q] at he))
  · exact lv_icmp_ge hexec hb hdg ht (fun q => kt (by rwa [if_pos q] at he)) (fun q => kf (by rwa [if_neg q] at he))
  · exact lv_icmp_gt hexec hb hdg ht (fun q => kt (by rwa [if_pos q] at he)) (fun q => kf (by rwa [if_neg q] at he))
  · exact lv_icmp_le hexec hb hdg ht (fun q => kt (by rwa [if_pos q] at he)) (fun q => kf (by rwa [if_neg q] at he))
end AMR
end
section
/-! SOUNDNESS OF A STEP. -/
theorem am_S0_24 {L q : Nat} (h : (am_S0 L q).1 = 24) : q = 4600 ∧ (am_S0 L q).2 = L := by
  unfold am_S0 at h ⊢
  by_cases hq : q = 4600
  · subst hq; exact ⟨rfl, rfl⟩
  · exfalso
    rw [show Nat.beq q 4600 = false from am_nbeq hq] at h
    revert h
    cases Nat.ble q 1000 <;> cases Nat.ble q 1041 <;> cases Nat.ble q 2000 <;> cases Nat.ble q 2055 <;> cases Nat.ble q 3000 <;> cases Nat.ble q 3055 <;> cases Nat.ble q 4000 <;> cases Nat.beq q 4001 <;> cases Nat.ble q 4003 <;> exact fun h => absurd h (by show ¬ (_ : Nat) = 24; first | exact (by decide : ¬ (0 : Nat) = 24) | exact (by decide : ¬ (30 : Nat) = 24) | exact (by decide : ¬ (31 : Nat) = 24) | exact (by decide : ¬ (27 : Nat) = 24) | exact (by decide : ¬ (25 : Nat) = 24) | exact (by decide : ¬ (26 : Nat) = 24))
theorem am_tk_int {t : FieldType} (h : am_tk t = 0) : t = .int := by cases t <;> first | rfl | cases h
theorem am_tk_long {t : FieldType} (h : am_tk t = 1) : t = .long := by cases t <;> first | rfl | cases h
theorem am_tk_boolean {t : FieldType} (h : am_tk t = 5) : t = .boolean := by cases t <;> first | rfl | cases h
theorem am_tk_ref {t : FieldType} (h : am_tk t = 2) : (∃ z, t = .object z) ∨ ∃ z, t = .array z := by cases t <;> first | exact Or.inl ⟨_, rfl⟩ | exact Or.inr ⟨_, rfl⟩ | cases h
theorem am_tk_9 {b : Nat} (a : 1 ≤ b) (z : b ≤ 9) : ∀ k, k < (am_fldD b).2.2 → am_ft b k ≠ 9 := am_cases9 (P := fun b => ∀ k, k < (am_fldD b).2.2 → am_ft b k ≠ 9) (by decide +kernel) (by decide +kernel) (by decide +kernel) (by decide +kernel) (by decide +kernel) (by decide +kernel) (by decide +kernel) (by decide +kernel) (by decide +kernel) a z
theorem am_newI {h : am_H} {kd len : Nat} : (am_new h kd len).1.1 (h.2.1.2.2 + 1) = fun _ => 0 := by
  funext j
  show am_clr h.1.1 (h.2.1.2.2 + 1) 0 (h.2.1.2.2 + 1) j = 0
  rw [am_clr_eq, if_pos rfl]
theorem am_newJ {h : am_H} {kd len : Nat} : (am_new h kd len).1.2.1 (h.2.1.2.2 + 1) = fun _ => 0 := by
  funext j
  show am_clr h.1.2.1 (h.2.1.2.2 + 1) 0 (h.2.1.2.2 + 1) j = 0
  rw [am_clr_eq, if_pos rfl]
theorem am_newT {L : Nat} {xs : Nat → Int32} {adc ad : Nat → Option Nat} {h : am_H} {kd len q1 : Nat} (g : am_gd L xs adc ad h) : (fun j => am_adN ad (h.2.1.2.2 + 1) q1 ((am_new h kd len).1.2.2 (h.2.1.2.2 + 1) j)) = fun _ => none := by
  funext j
  rw [show (am_new h kd len).1.2.2 (h.2.1.2.2 + 1) j = 0 from (am_clr_eq h.1.2.2 (h.2.1.2.2 + 1) 0 (h.2.1.2.2 + 1) j).trans (if_pos rfl), am_adN_ne (by omega), g.2.1]
theorem am_fields_new {L : Nat} {xs : Nat → Int32} {adc ad : Nat → Option Nat} {h : am_H} {a b q1 : Nat} (g : am_gd L xs adc ad h) (b1 : 1 ≤ a) (b9 : a ≤ 9) (hb : b ≤ (am_fldD a).2.2) : am_fields (am_adN ad (h.2.1.2.2 + 1) q1) (am_new h a b) (h.2.1.2.2 + 1) a b = (List.range b).map fun j => defaultValue (am_tyD a j) := by
  unfold am_fields
  apply List.map_congr_left
  intro j hj
  have hj := List.mem_range.mp hj
  have h1 := am_tk_ok b1 b9 j (by omega)
  have h2 := am_tk_9 b1 b9 j (by omega)
  rw [am_newI, am_newJ, show (am_new h a b).2.1.1 (h.2.1.2.2 + 1) j = 0 from (am_clr_eq h.2.1.1 (h.2.1.2.2 + 1) 0 (h.2.1.2.2 + 1) j).trans (if_pos rfl), am_adN_ne (show (0 : Nat) ≠ h.2.1.2.2 + 1 by omega), g.2.1]
  rw [← h1] at h2 ⊢
  revert h2
  generalize am_tyD a j = t
  intro h2
  cases t <;> first | rfl | exact absurd rfl h2
theorem am_up_upd (f : Nat → Nat → Int32) (q k : Nat) (v : Int32) : am_up f q k v q = upd (f q) k v := by
  funext j
  rw [am_up_eq]
  unfold upd
  simp
theorem am_up_updL (f : Nat → Nat → Int64) (q k : Nat) (v : Int64) : am_up f q k v q = vp_updL (f q) k v := by
  funext j
  rw [am_up_eq]
  unfold vp_updL
  simp
theorem am_inj {L : Nat} {xs : Nat → Int32} {adc ad : Nat → Option Nat} {h : am_H} {A : Nat → Prop} {U : State} {H : Heap} (g : am_gd L xs adc ad h) (C : am_Cst L xs adc A U H) {x y : Nat} (hx : (am_S h x).1 = 30 ∨ x = 0) (hy : (am_S h y).1 = 30 ∨ y = 0) (e : ad x = ad y) : x = y := by
  have key : ∀ {z : Nat}, (am_S h z).1 = 30 → (am_S0 L z).1 = 30 ∧ ad z = adc z := fun {z} hz => by
    obtain ⟨h1, h2⟩ := am_dead g (q := z) (by omega)
    exact ⟨by rw [← h1]; exact hz, g.2.2.2.2.2.2.2.1 z h2⟩
  rcases hx with hx | hx
  · obtain ⟨h1, h2⟩ := key hx
    rcases hy with hy | hy
    · obtain ⟨h3, h4⟩ := key hy
      exact C.2.1 x y h1 h3 (by rw [← h2, ← h4, e])
    · exfalso
      obtain ⟨-, a, h5, -⟩ := C.1 x h1
      rw [hy, g.2.1, h2, h5] at e
      cases e
  · rcases hy with hy | hy
    · exfalso
      obtain ⟨h3, h4⟩ := key hy
      obtain ⟨-, a, h5, -⟩ := C.1 y h3
      rw [hx, g.2.1, h4, h5] at e
      cases e
    · rw [hx, hy]
theorem nI_succ_comm (j : Nat) : Int32.ofNat (j + 1) = 1 + Int32.ofNat j := by
  rw [Int32.add_comm]
  exact nI_succ j
section AMS
variable {p : Program} {l : Launch} {e : Env} {R : Room} {s : State} {m : MethodId} {args : Array Value} {below : List Frame} {meth : Method} {c : Code} {Q : State → Prop}
/-- the special calls of the law: given for themselves -/
def am_Spec (p : Program) (l : Launch) (e : Env) (R : Room) (s : State) (m : MethodId) (args : Array Value) (below : List Frame) (meth : Method) (c : Code) (Q : State → Prop) (G : va_G) (cA : Nat → ClassId) (L : Nat) (xs : Nat → Int32) (adc : Nat → Option Nat) (A : Nat → Prop) (k : Nat) (E : (Nat → Option Nat) → Prop) (n0 c0 s0 : Nat) (rf : Value) (hf : am_H) (n : Nat) : Prop :=
  ∀ (i a b cc : Nat) (ir : Instr) (ls st : List Value) (h : am_H) (ad : Nat → Option Nat) (H : Heap) (locs : List Loc) (Ls : Array Slot), am_ins k i = (ir, a, b, cc) → (∃ z, ir = .invokevirtual z ∨ ir = .invokespecial z ∨ ir = .invokestatic z) → (cc = 97 ∨ cc = 98) → am_call (am_ex n) k i ls st h a b cc = some (rf, hf) → am_Wd G cA L xs adc A s ad h H locs → am_Lr ad (am_nL k) ls Ls → am_vs h.2.1.2.2 ls → am_vs h.2.1.2.2 st → E ad → n0 ≤ h.2.1.2.2 → c0 ≤ h.2.2.1 → s0 ≤ h.2.2.2 →
    W p l e R s m args below meth c H locs (h.2.2.1 - c0) (h.2.2.2 - s0) Q (F0 m (am_pc k i) Ls (st.map (am_cv ad)))
theorem am_fin_ri {k : Nat} {v : Value} {h : am_H} {z : Value × am_H} (e : am_fin k v h = some z) : ∃ t, am_rt k = t ∧ t ≠ 0 ∧ ((∃ x, v = .int x ∧ am_ri t = .ireturn) ∨ (∃ x, v = .long x ∧ am_ri t = .lreturn) ∨ (∃ x, v = .ref x ∧ am_ri t = .areturn)) := by
  unfold am_fin at e
  split at e
  · rename_i h1; exact ⟨_, h1, by decide, Or.inl ⟨_, rfl, rfl⟩⟩
  · rename_i h1; exact ⟨_, h1, by decide, Or.inr (Or.inl ⟨_, rfl, rfl⟩)⟩
  · rename_i h1; exact ⟨_, h1, by decide, Or.inr (Or.inr ⟨_, rfl, rfl⟩)⟩
  · rename_i h1; exact ⟨_, h1, by decide, Or.inl ⟨_, rfl, rfl⟩⟩
  · rename_i h1; exact ⟨_, h1, by decide, Or.inl ⟨_, rfl, rfl⟩⟩
  · rename_i h1; exact ⟨_, h1, by decide, Or.inl ⟨_, rfl, rfl⟩⟩
  · cases e
theorem am_rs_ne {t : Nat} (h : t ≠ 0) (v : Value) : am_rs t v = [v] := by
  cases t with
  | zero => exact absurd rfl h
  | succ t => rfl
theorem am_sel_inv {x : Int32} {d : Nat} {k : Nat → am_R} {z : Value × am_H} : ∀ (ts : List Nat) (lo : Int32), am_sel k x d lo ts = some z → (∃ (j : Nat) (t : Nat), ts[j]? = some t ∧ x = lo + Int32.ofNat j ∧ k t = some z) ∨ ((∀ j, j < ts.length → x ≠ lo + Int32.ofNat j) ∧ k d = some z)
  | [], lo, h => Or.inr ⟨fun j hj => absurd hj (Nat.not_lt_zero _), h⟩
  | t :: ts, lo, h => by
    unfold am_sel at h
    by_cases q : x = lo
    · rw [if_pos q] at h
      exact Or.inl ⟨0, t, rfl, by rw [q]; simp, h⟩
    · rw [if_neg q] at h
      rcases am_sel_inv ts (lo + 1) h with ⟨j, u, h1, h2, h3⟩ | ⟨h1, h2⟩
      · refine Or.inl ⟨j + 1, u, by simpa using h1, ?_, h3⟩
        rw [h2, Int32.add_assoc, ← nI_succ_comm]
      · refine Or.inr ⟨fun j hj => ?_, h2⟩
        rcases j with _ | j
        · simpa using q
        · have := h1 j (by simpa using hj)
          rwa [Int32.add_assoc, ← nI_succ_comm] at this
def am_Calls (p : Program) (l : Launch) (e : Env) (R : Room) (s : State) (m : MethodId) (args : Array Value) (below : List Frame) (meth : Method) (c : Code) (Q : State → Prop) (G : va_G) (cA : Nat → ClassId) (L : Nat) (xs : Nat → Int32) (adc : Nat → Option Nat) (A : Nat → Prop) (k : Nat) (E : (Nat → Option Nat) → Prop) (n0 c0 s0 : Nat) (rf : Value) (hf : am_H) (n : Nat) : Prop :=
  ∀ (i a b cc : Nat) (ir : Instr) (ls st : List Value) (h : am_H) (ad : Nat → Option Nat) (H : Heap) (locs : List Loc) (Ls : Array Slot), am_ins k i = (ir, a, b, cc) → (∃ z, ir = .invokevirtual z ∨ ir = .invokespecial z ∨ ir = .invokestatic z) → ¬ (cc = 97 ∨ cc = 98) → am_call (am_ex n) k i ls st h a b cc = some (rf, hf) → am_Wd G cA L xs adc A s ad h H locs → am_Lr ad (am_nL k) ls Ls → am_vs h.2.1.2.2 ls → am_vs h.2.1.2.2 st → E ad → n0 ≤ h.2.1.2.2 → c0 ≤ h.2.2.1 → s0 ≤ h.2.2.2 →
    W p l e R s m args below meth c H locs (h.2.2.1 - c0) (h.2.2.2 - s0) Q (F0 m (am_pc k i) Ls (st.map (am_cv ad)))
end AMS
end
section
/-! SOUNDNESS OF A STEP: the instructions, one case each. -/
section AMS
variable {p : Program} {l : Launch} {e : Env} {R : Room} {s : State} {m : MethodId} {args : Array Value} {below : List Frame} {meth : Method} {c : Code} {Q : State → Prop}
set_option maxHeartbeats 16000000 in
set_option maxRecDepth 10000 in
theorem am_sound1 {G : va_G} {cA : Nat → ClassId} {L : Nat} {xs : Nat → Int32} {adc : Nat → Option Nat} {A : Nat → Prop} {k : Nat} {E : (Nat → Option Nat) → Prop} {n0 c0 s0 : Nat} {rf : Value} {hf : am_H} {n : Nat} (hk : k < 180) (HM : am_Met l n) (IH : am_G p l e R s m args below meth c Q G cA L xs adc A k E n0 c0 s0 rf hf n) (hcx : am_Ctx p s m args meth c k) (hfx : am_Fx G cA L xs adc A s) (hcc : hf.2.2.1 ≤ c0 + R.cells) (hss : hf.2.2.2 ≤ s0 + R.slots) (hfr : am_fr k ≤ R.frames) (hlo : am_lo k ≤ R.locals) (hE : ∀ (ad ad' : Nat → Option Nat) (N : Nat), n0 ≤ N → E ad → (∀ q, q ≤ N → ad' q = ad q) → E ad') (hend : am_Hend p l e R s m args below meth c Q G cA L xs adc A k E c0 s0 rf hf) (hsp : am_Spec p l e R s m args below meth c Q G cA L xs adc A k E n0 c0 s0 rf hf n) (hcall : am_Calls p l e R s m args below meth c Q G cA L xs adc A k E n0 c0 s0 rf hf n) : am_G p l e R s m args below meth c Q G cA L xs adc A k E n0 c0 s0 rf hf (n + 1) := by
  intro i ls st h ad H locs Ls he hw hl hvl hst hEad hn hc0 hs0
  replace he : am_step (am_ex n) k i ls st h = some (rf, hf) := he
  obtain ⟨hx, hb, hml, hown, hts, hini⟩ := id hcx
  obtain ⟨hK, hC, hA⟩ := id hfx
  obtain ⟨hP, hD, hS, hg⟩ := id hw
  have hck := am_ck hk i
  unfold am_step at he
  unfold am_chk at hck
  have hpc : am_pc k i = (am_lk k i).1 := rfl
  rcases hins : am_ins k i with ⟨ir, a, b, cc⟩
  rcases hlk : am_lk k i with ⟨pc, len, w, x⟩
  rw [hins] at he hck
  rw [hlk] at hck hpc
  dsimp only at he hck hpc
  by_cases hnop : ir = .nop
  · subst hnop; cases he
  rw [decide_eq_false hnop, cond_false] at hck
  simp only [Bool.and_eq_true] at hck
  obtain ⟨⟨⟨hd, hlen⟩, hfall⟩, hq⟩ := hck
  replace hd := of_decide_eq_true hd
  replace hlen := Nat.eq_of_beq_eq_true hlen
  have hnx : am_fall ir = true → am_pc k (i + 1) = pc + len := fun z => by
    rw [z] at hfall
    exact Nat.eq_of_beq_eq_true (by simpa using hfall)
  have tl : am_fall ir = true → ∀ (ls' st' : List Value) (Ls' : Array Slot), am_ex n k (i + 1) ls' st' h = some (rf, hf) → am_Lr ad (am_nL k) ls' Ls' → am_vs h.2.1.2.2 ls' → am_vs h.2.1.2.2 st' → W p l e R s m args below meth c H locs (h.2.2.1 - c0) (h.2.2.2 - s0) Q (F0 m (pc + len) Ls' (st'.map (am_cv ad))) := fun z ls' st' Ls' e' a1 a2 a3 => hnx z ▸ IH (i + 1) ls' st' h ad H locs Ls' e' hw a1 a2 a3 hEad hn hc0 hs0
  have jm : ∀ (t : Nat) (st' : List Value), am_ex n k t ls st' h = some (rf, hf) → am_vs h.2.1.2.2 st' → W p l e R s m args below meth c H locs (h.2.2.1 - c0) (h.2.2.2 - s0) Q (F0 m (am_pc k t) Ls (st'.map (am_cv ad))) := fun t st' e' a3 => IH t ls st' h ad H locs Ls e' hw hl hvl a3 hEad hn hc0 hs0
  have tw : am_fall ir = true → ∀ (st' : List Value) (h' : am_H) (H' : Heap) (locs' : List Loc), am_ex n k (i + 1) ls st' h' = some (rf, hf) → am_Wd G cA L xs adc A s ad h' H' locs' → h'.2.1.2 = h.2.1.2 → h'.2.2 = h.2.2 → am_vs h.2.1.2.2 st' → W p l e R s m args below meth c H' locs' (h.2.2.1 - c0) (h.2.2.2 - s0) Q (F0 m (pc + len) Ls (st'.map (am_cv ad))) := fun z st' h' H' locs' e' w' z1 z2 a3 => by
    have := IH (i + 1) ls st' h' ad H' locs' Ls e' w' hl (by rw [z1]; exact hvl) (by rw [z1]; exact a3) hEad (by rw [z1]; exact hn) (by rw [z2]; exact hc0) (by rw [z2]; exact hs0)
    rw [hnx z, z2] at this
    exact this
  rw [hpc]
  cases ir
  case iload_n q =>
    have hlen : len = 1 := hlen
    subst hlen
    obtain ⟨v, hv, he⟩ := am_vI_inv he
    exact lv_iload_n hx hb hd (Nat.eq_of_beq_eq_true hq) (hl.at hv (by simp)) (tl rfl ls (.int v :: st) Ls he hl hvl (am_vs.cons trivial hst))
  case iload q =>
    have hlen : len = 2 := hlen
    subst hlen
    obtain ⟨v, hv, he⟩ := am_vI_inv he
    replace hq : q = a := Nat.eq_of_beq_eq_true hq
    rw [hq] at hd
    exact lv_iload hx hb hd (hl.at hv (by simp)) (tl rfl ls (.int v :: st) Ls he hl hvl (am_vs.cons trivial hst))
  case lload_n q =>
    have hlen : len = 1 := hlen
    subst hlen
    obtain ⟨v, hv, he⟩ := am_vJ_inv he
    exact lv_lload_n hx hb hd (Nat.eq_of_beq_eq_true hq) (hl.at hv (by simp)) (tl rfl ls (.long v :: st) Ls he hl hvl (am_vs.cons trivial hst))
  case lload q =>
    have hlen : len = 2 := hlen
    subst hlen
    obtain ⟨v, hv, he⟩ := am_vJ_inv he
    replace hq : q = a := Nat.eq_of_beq_eq_true hq
    rw [hq] at hd
    exact lv_lload hx hb hd (hl.at hv (by simp)) (tl rfl ls (.long v :: st) Ls he hl hvl (am_vs.cons trivial hst))
  case aload_n q =>
    have hlen : len = 1 := hlen
    subst hlen
    obtain ⟨v, hv, he⟩ := am_vR_inv he
    exact am_aload_n hx hb hd (Nat.eq_of_beq_eq_true hq) (hl.at hv (by simp)) (tl rfl ls (.ref v :: st) Ls he hl hvl (am_vs.cons (hvl.at hv) hst))
  case aload q =>
    have hlen : len = 2 := hlen
    subst hlen
    obtain ⟨v, hv, he⟩ := am_vR_inv he
    replace hq : q = a := Nat.eq_of_beq_eq_true hq
    rw [hq] at hd
    exact am_aload hx hb hd (hl.at hv (by simp)) (tl rfl ls (.ref v :: st) Ls he hl hvl (am_vs.cons (hvl.at hv) hst))
  case istore_n q =>
    have hlen : len = 1 := hlen
    subst hlen
    have hq : (Nat.beq q.val a && Nat.blt a (am_nL k)) = true := hq
    simp only [Bool.and_eq_true] at hq
    obtain ⟨v, r, rfl, he⟩ := am_i1_inv he
    exact lv_istore_n hx hb hd (Nat.eq_of_beq_eq_true hq.1) hl.has (Nat.le_of_ble_eq_true hq.2) rfl (fun Ls' h' => tl rfl _ r Ls' he (am_Lr.st1 (v := .int v) h') (hvl.st1 trivial) hst.tl)
  case istore q =>
    have hlen : len = 2 := hlen
    subst hlen
    have hq : (Nat.beq q a && Nat.blt a (am_nL k)) = true := hq
    simp only [Bool.and_eq_true] at hq
    obtain ⟨v, r, rfl, he⟩ := am_i1_inv he
    have hq1 : q = a := Nat.eq_of_beq_eq_true hq.1
    rw [hq1] at hd
    exact lv_istore hx hb hd hl.has (Nat.le_of_ble_eq_true hq.2) rfl (fun Ls' h' => tl rfl _ r Ls' he (am_Lr.st1 (v := .int v) h') (hvl.st1 trivial) hst.tl)
  case astore_n q =>
    have hlen : len = 1 := hlen
    subst hlen
    have hq : (Nat.beq q.val a && Nat.blt a (am_nL k)) = true := hq
    simp only [Bool.and_eq_true] at hq
    obtain ⟨v, r, rfl, he⟩ := am_r1_inv he
    exact am_astore_n hx hb hd (Nat.eq_of_beq_eq_true hq.1) hl.has (Nat.le_of_ble_eq_true hq.2) (fun Ls' h' => tl rfl _ r Ls' he (am_Lr.st1 (v := .ref v) h') (hvl.st1 hst.hd) hst.tl)
  case astore q =>
    have hlen : len = 2 := hlen
    subst hlen
    have hq : (Nat.beq q a && Nat.blt a (am_nL k)) = true := hq
    simp only [Bool.and_eq_true] at hq
    obtain ⟨v, r, rfl, he⟩ := am_r1_inv he
    have hq1 : q = a := Nat.eq_of_beq_eq_true hq.1
    rw [hq1] at hd
    exact am_astore hx hb hd hl.has (Nat.le_of_ble_eq_true hq.2) (fun Ls' h' => tl rfl _ r Ls' he (am_Lr.st1 (v := .ref v) h') (hvl.st1 hst.hd) hst.tl)
  case lstore_n q =>
    have hlen : len = 1 := hlen
    subst hlen
    have hq : (Nat.beq q.val a && Nat.blt (a + 1) (am_nL k)) = true := hq
    simp only [Bool.and_eq_true] at hq
    obtain ⟨v, r, rfl, he⟩ := am_j1_inv he
    exact lv_lstore_n hx hb hd (Nat.eq_of_beq_eq_true hq.1) hl.has (Nat.le_of_ble_eq_true hq.2) rfl (fun Ls' h' => tl rfl _ r Ls' he (am_Lr.st2 (v := .long v) h') (hvl.st2 trivial) hst.tl)
  case lstore q =>
    have hlen : len = 2 := hlen
    subst hlen
    have hq : (Nat.beq q a && Nat.blt (a + 1) (am_nL k)) = true := hq
    simp only [Bool.and_eq_true] at hq
    obtain ⟨v, r, rfl, he⟩ := am_j1_inv he
    have hq1 : q = a := Nat.eq_of_beq_eq_true hq.1
    rw [hq1] at hd
    exact lv_lstore hx hb hd hl.has (Nat.le_of_ble_eq_true hq.2) rfl (fun Ls' h' => tl rfl _ r Ls' he (am_Lr.st2 (v := .long v) h') (hvl.st2 trivial) hst.tl)
  case iinc q y =>
    have hlen : len = 3 := hlen
    subst hlen
    have hq : (Nat.beq q a && decide (Int32.ofInt y = am_gI b) && Nat.blt a (am_nL k)) = true := hq
    simp only [Bool.and_eq_true] at hq
    obtain ⟨v, hv, he⟩ := am_vI_inv he
    have hq1 : q = a := Nat.eq_of_beq_eq_true hq.1.1
    rw [hq1] at hd
    have hin : ls[a]? = some (.int v) := by
      rw [List.getD_eq_getElem?_getD] at hv
      cases h1 : ls[a]? with
      | none => rw [h1] at hv; cases hv
      | some z => rw [h1] at hv; exact congrArg some hv
    obtain ⟨j, hj⟩ := List.mem_iff_getElem?.mp (am_ll_mem (ad := ad) (k := 0).mpr ⟨a, .int v, hin, by simp, rfl⟩)
    rw [Nat.zero_add] at hj
    exact lv_iinc hx hb hd hl.has (k := j) hj (by rw [of_decide_eq_true hq.1.2]) (Nat.le_of_ble_eq_true hq.2) rfl (fun Ls' h' => tl rfl _ st Ls' he (am_Lr.st1 (v := .int (v + am_gI b)) h') (hvl.st1 trivial) hst)
  case iconst q =>
    have hlen : len = 1 := hlen
    subst hlen
    exact lv_iconst hx hb hd (of_decide_eq_true hq) (tl rfl ls (.int (am_gI a) :: st) Ls he hl hvl (am_vs.cons trivial hst))
  case bipush q =>
    have hlen : len = 2 := hlen
    subst hlen
    exact lv_bipush hx hb hd (of_decide_eq_true hq) (tl rfl ls (.int (am_gI a) :: st) Ls he hl hvl (am_vs.cons trivial hst))
  case sipush q =>
    have hlen : len = 3 := hlen
    subst hlen
    exact lv_sipush hx hb hd (of_decide_eq_true hq) (tl rfl ls (.int (am_gI a) :: st) Ls he hl hvl (am_vs.cons trivial hst))
  case lconst q =>
    have hlen : len = 1 := hlen
    subst hlen
    exact lv_lconst hx hb hd (of_decide_eq_true hq) (tl rfl ls (.long (am_gJ a) :: st) Ls he hl hvl (am_vs.cons trivial hst))
  case ldc2_w q =>
    have hlen : len = 3 := hlen
    subst hlen
    exact lv_ldc2 hx hb hown (hts _ (am_lw_in hq rfl)) hd (tl rfl ls (.long (am_gJ a) :: st) Ls he hl hvl (am_vs.cons trivial hst))
  case ldc_w q =>
    have hlen : len = 3 := hlen
    subst hlen
    have hq : (Nat.beq b 1 && am_lw w (.constant (am_own k) q (am_gI a))) = true := hq
    simp only [Bool.and_eq_true] at hq
    rw [hq.1, cond_true] at he
    exact lv_ldcw hx hb hown (hts _ (am_lw_in hq.2 rfl)) hd (tl rfl ls (.int (am_gI a) :: st) Ls he hl hvl (am_vs.cons trivial hst))
  case ldc q =>
    have hlen : len = 2 := hlen
    subst hlen
    have hq : cond (Nat.beq b 1) (am_lw w (.constant (am_own k) q (am_gI a))) (decide (am_ldcs[x]? = some (am_own k, q, a))) = true := hq
    cases hb1 : Nat.beq b 1 with
    | true =>
      rw [hb1] at hq he
      exact lv_ldc hx hb hown (hts _ (am_lw_in hq rfl)) hd (tl rfl ls (.int (am_gI a) :: st) Ls he hl hvl (am_vs.cons trivial hst))
    | false =>
      rw [hb1] at hq he
      have hm := List.mem_of_getElem? (of_decide_eq_true hq)
      obtain ⟨h1, a', tx, h2, h3⟩ := hC.2.2.2.2.2.2.2.2.1 _ hm
      have ht := tl rfl ls (.ref a :: st) Ls he hl hvl (am_vs.cons (Or.inr h1) hst)
      have hz : am_cv ad (.ref a) = .ref a' := by
        show va_rf (ad a) = _
        rw [hg.2.2.2.2.2.2.2.1 a h1, h2]
        rfl
      rw [List.map_cons, hz] at ht
      exact va_ldcS hx hb hown h3 hd ht
  case aconst_null =>
    have hlen : len = 1 := hlen
    subst hlen
    have ht := tl rfl ls (.ref 0 :: st) Ls he hl hvl (am_vs.cons (Or.inl (Nat.zero_le _)) hst)
    have hz : am_cv ad (.ref 0) = .null := by
      show va_rf (ad 0) = _
      rw [hg.2.1]
      rfl
    rw [List.map_cons, hz] at ht
    exact lv_null hx hb hd ht
  case getstatic q =>
    have hlen : len = 3 := hlen
    subst hlen
    unfold am_chx at hq
    dsimp only at hq
    cases hsx : am_stats[x]? with
    | none => rw [hsx] at hq; cases hq
    | some t =>
      obtain ⟨C0, n1, d1, v, t1⟩ := t
      rw [hsx] at hq
      dsimp only at hq
      simp only [Bool.and_eq_true, Bool.or_eq_true] at hq
      obtain ⟨⟨hv, ht1⟩, hlink⟩ := hq
      have hv : v = a := Nat.eq_of_beq_eq_true hv
      have ht1 : t1 = b := Nat.eq_of_beq_eq_true ht1
      subst hv; subst ht1
      obtain ⟨hbig, hZ⟩ := hC.2.2.2.2.2.2.2.1 _ (List.mem_of_getElem? hsx)
      dsimp only at hbig hZ
      have go : ∀ v' : Value, (cond (Nat.beq t1 1) (.int (am_gI v)) (va_rf (adc v)) : Value) = v' → W p l e R s m args below meth c H locs (h.2.2.1 - c0) (h.2.2.2 - s0) Q (F0 m (pc + 3) Ls (v' :: st.map (am_cv ad))) → W p l e R s m args below meth c H locs (h.2.2.1 - c0) (h.2.2.2 - s0) Q (F0 m pc Ls (st.map (am_cv ad))) := fun v' hv' kk => by
        rw [hv'] at hZ
        rcases hlink with hlink | ⟨-, hlink⟩
        · exact va_gets hx hb hZ hS hown (hts _ (am_lw_in hlink rfl)) (fun _ h => h) hd kk
        · have hm := hC.2.2.2.2.2.2.2.2.2.2.1 _ (List.mem_of_getElem? (of_decide_eq_true hlink))
          exact va_getsN hx hb hZ hS hown (va_Nw.use rfl hm) (fun _ h => h) hd kk
      cases hb1 : Nat.beq t1 1 with
      | true =>
        rw [hb1] at he
        exact go _ (by rw [hb1]; rfl) (tl rfl ls (.int (am_gI v) :: st) Ls he hl hvl (am_vs.cons trivial hst))
      | false =>
        rw [hb1] at he hbig
        have hbig : 1000 < v := hbig
        refine go (va_rf (ad v)) (by rw [hb1, hg.2.2.2.2.2.2.2.1 v hbig]; rfl) (tl rfl ls (.ref v :: st) Ls he hl hvl (am_vs.cons (Or.inr hbig) hst))
  case iadd =>
    have hlen : len = 1 := hlen
    subst hlen
    obtain ⟨x1, y1, r, rfl, he⟩ := am_i2_inv he
    exact lv_iadd hx hb hd (tl rfl ls (.int (x1 + y1) :: r) Ls he hl hvl (am_vs.cons trivial hst.tl.tl))
  case isub =>
    have hlen : len = 1 := hlen
    subst hlen
    obtain ⟨x1, y1, r, rfl, he⟩ := am_i2_inv he
    exact lv_isub hx hb hd (tl rfl ls (.int (x1 - y1) :: r) Ls he hl hvl (am_vs.cons trivial hst.tl.tl))
  case imul =>
    have hlen : len = 1 := hlen
    subst hlen
    obtain ⟨x1, y1, r, rfl, he⟩ := am_i2_inv he
    exact lv_imul hx hb hd (tl rfl ls (.int (x1 * y1) :: r) Ls he hl hvl (am_vs.cons trivial hst.tl.tl))
  case iand =>
    have hlen : len = 1 := hlen
    subst hlen
    obtain ⟨x1, y1, r, rfl, he⟩ := am_i2_inv he
    exact lv_iand hx hb hd (tl rfl ls (.int (x1 &&& y1) :: r) Ls he hl hvl (am_vs.cons trivial hst.tl.tl))
  case ior =>
    have hlen : len = 1 := hlen
    subst hlen
    obtain ⟨x1, y1, r, rfl, he⟩ := am_i2_inv he
    exact lv_ior hx hb hd (tl rfl ls (.int (x1 ||| y1) :: r) Ls he hl hvl (am_vs.cons trivial hst.tl.tl))
  case ixor =>
    have hlen : len = 1 := hlen
    subst hlen
    obtain ⟨x1, y1, r, rfl, he⟩ := am_i2_inv he
    exact lv_ixor hx hb hd (tl rfl ls (.int (x1 ^^^ y1) :: r) Ls he hl hvl (am_vs.cons trivial hst.tl.tl))
  case ishl =>
    have hlen : len = 1 := hlen
    subst hlen
    obtain ⟨x1, y1, r, rfl, he⟩ := am_i2_inv he
    exact lv_ishl hx hb hd (tl rfl ls (.int (x1 <<< (y1 &&& 31)) :: r) Ls he hl hvl (am_vs.cons trivial hst.tl.tl))
  case ishr =>
    have hlen : len = 1 := hlen
    subst hlen
    obtain ⟨x1, y1, r, rfl, he⟩ := am_i2_inv he
    exact lv_ishr hx hb hd (tl rfl ls (.int (x1 >>> (y1 &&& 31)) :: r) Ls he hl hvl (am_vs.cons trivial hst.tl.tl))
  case iushr =>
    have hlen : len = 1 := hlen
    subst hlen
    obtain ⟨x1, y1, r, rfl, he⟩ := am_i2_inv he
    exact lv_iushr hx hb hd rfl (tl rfl ls (.int (x1.toUInt32 >>> (y1.toUInt32 &&& Int32.toUInt32 31)).toInt32 :: r) Ls he hl hvl (am_vs.cons trivial hst.tl.tl))
  case idiv =>
    have hlen : len = 1 := hlen
    subst hlen
    obtain ⟨x1, y1, r, rfl, he⟩ := am_i2_inv he
    obtain ⟨hne, he⟩ := am_ite_inv he
    exact lv_idiv hx hb hd hne (tl rfl ls (.int (x1 / y1) :: r) Ls he hl hvl (am_vs.cons trivial hst.tl.tl))
  case irem =>
    have hlen : len = 1 := hlen
    subst hlen
    obtain ⟨x1, y1, r, rfl, he⟩ := am_i2_inv he
    obtain ⟨hne, he⟩ := am_ite_inv he
    exact lv_irem hx hb hd hne (tl rfl ls (.int (x1 - x1 / y1 * y1) :: r) Ls he hl hvl (am_vs.cons trivial hst.tl.tl))
  case ladd =>
    have hlen : len = 1 := hlen
    subst hlen
    obtain ⟨x1, y1, r, rfl, he⟩ := am_j2_inv he
    exact lv_ladd hx hb hd (tl rfl ls (.long (x1 + y1) :: r) Ls he hl hvl (am_vs.cons trivial hst.tl.tl))
  case lsub =>
    have hlen : len = 1 := hlen
    subst hlen
    obtain ⟨x1, y1, r, rfl, he⟩ := am_j2_inv he
    exact lv_lsub hx hb hd (tl rfl ls (.long (x1 - y1) :: r) Ls he hl hvl (am_vs.cons trivial hst.tl.tl))
  case lmul =>
    have hlen : len = 1 := hlen
    subst hlen
    obtain ⟨x1, y1, r, rfl, he⟩ := am_j2_inv he
    exact lv_lmul hx hb hd (tl rfl ls (.long (x1 * y1) :: r) Ls he hl hvl (am_vs.cons trivial hst.tl.tl))
  case land =>
    have hlen : len = 1 := hlen
    subst hlen
    obtain ⟨x1, y1, r, rfl, he⟩ := am_j2_inv he
    exact lv_land hx hb hd (tl rfl ls (.long (x1 &&& y1) :: r) Ls he hl hvl (am_vs.cons trivial hst.tl.tl))
  case lor =>
    have hlen : len = 1 := hlen
    subst hlen
    obtain ⟨x1, y1, r, rfl, he⟩ := am_j2_inv he
    exact lv_lor hx hb hd (tl rfl ls (.long (x1 ||| y1) :: r) Ls he hl hvl (am_vs.cons trivial hst.tl.tl))
  case lshl =>
    have hlen : len = 1 := hlen
    subst hlen
    obtain ⟨x1, y1, r, rfl, he⟩ := am_ji_inv he
    exact lv_lshl hx hb hd rfl (tl rfl ls (.long (x1 <<< (y1.toInt64 &&& 63)) :: r) Ls he hl hvl (am_vs.cons trivial hst.tl.tl))
  case lshr =>
    have hlen : len = 1 := hlen
    subst hlen
    obtain ⟨x1, y1, r, rfl, he⟩ := am_ji_inv he
    exact lv_lshr hx hb hd rfl (tl rfl ls (.long (x1 >>> (y1.toInt64 &&& 63)) :: r) Ls he hl hvl (am_vs.cons trivial hst.tl.tl))
  case lushr =>
    have hlen : len = 1 := hlen
    subst hlen
    obtain ⟨x1, y1, r, rfl, he⟩ := am_ji_inv he
    exact lv_lushr hx hb hd rfl (tl rfl ls (.long ((x1.toUInt64 >>> (y1.toInt64.toUInt64 &&& Int64.toUInt64 63)).toInt64) :: r) Ls he hl hvl (am_vs.cons trivial hst.tl.tl))
  case lneg =>
    have hlen : len = 1 := hlen
    subst hlen
    obtain ⟨x1, r, rfl, he⟩ := am_j1_inv he
    exact lv_lneg hx hb hd (tl rfl ls (.long (-x1) :: r) Ls he hl hvl (am_vs.cons trivial hst.tl))
  case lcmp =>
    have hlen : len = 1 := hlen
    subst hlen
    obtain ⟨x1, y1, r, rfl, he⟩ := am_j2_inv he
    exact W.lcmp hx hb hd (tl rfl ls (.int (lg_cmp x1 y1) :: r) Ls he hl hvl (am_vs.cons trivial hst.tl.tl))
  case i2l =>
    have hlen : len = 1 := hlen
    subst hlen
    obtain ⟨x1, r, rfl, he⟩ := am_i1_inv he
    exact lv_i2l hx hb hd rfl (tl rfl ls (.long x1.toInt64 :: r) Ls he hl hvl (am_vs.cons trivial hst.tl))
  case l2i =>
    have hlen : len = 1 := hlen
    subst hlen
    obtain ⟨x1, r, rfl, he⟩ := am_j1_inv he
    exact lv_l2i hx hb hd rfl (tl rfl ls (.int x1.toInt32 :: r) Ls he hl hvl (am_vs.cons trivial hst.tl))
  case i2b =>
    have hlen : len = 1 := hlen
    subst hlen
    obtain ⟨x1, r, rfl, he⟩ := am_i1_inv he
    exact lv_i2b hx hb hd rfl (tl rfl ls (.int x1.toInt8.toInt32 :: r) Ls he hl hvl (am_vs.cons trivial hst.tl))
  case i2c =>
    have hlen : len = 1 := hlen
    subst hlen
    obtain ⟨x1, r, rfl, he⟩ := am_i1_inv he
    exact lv_i2c hx hb hd rfl (tl rfl ls (.int (x1.toUInt32 % 65536).toInt32 :: r) Ls he hl hvl (am_vs.cons trivial hst.tl))
  case goto q =>
    have hlen : len = 3 := hlen
    subst hlen
    exact lv_goto hx hb hd (of_decide_eq_true hq) (jm a st he hst)
  case ifCond q y =>
    have hlen : len = 3 := hlen
    subst hlen
    obtain ⟨x1, r, rfl, he⟩ := am_i1_inv he
    exact am_ifc hx hb hd (of_decide_eq_true hq) he (fun z => jm a r z hst.tl) (fun z => tl rfl ls r Ls z hl hvl hst.tl)
  case if_icmp q y =>
    have hlen : len = 3 := hlen
    subst hlen
    obtain ⟨x1, y1, r, rfl, he⟩ := am_i2_inv he
    exact am_ifi hx hb hd (of_decide_eq_true hq) he (fun z => jm a r z hst.tl.tl) (fun z => tl rfl ls r Ls z hl hvl hst.tl.tl)
  case if_acmp q y =>
    have hlen : len = 3 := hlen
    subst hlen
    obtain ⟨x1, y1, r, rfl, he⟩ := am_r2_inv he
    obtain ⟨hk2, he⟩ := am_cond_inv he
    simp only [Bool.and_eq_true, Bool.or_eq_true] at hk2
    have kx : (am_S h x1).1 = 30 ∨ x1 = 0 := hk2.1.imp Nat.eq_of_beq_eq_true Nat.eq_of_beq_eq_true
    have ky : (am_S h y1).1 = 30 ∨ y1 = 0 := hk2.2.imp Nat.eq_of_beq_eq_true Nat.eq_of_beq_eq_true
    have hij : ad x1 = ad y1 → x1 = y1 := am_inj hg hC kx ky
    cases q with
    | eq =>
      simp only [am_abr] at he
      exact lv_acmp_eq hx hb hd (of_decide_eq_true hq) (fun z => jm a r (by rwa [if_pos (hij z)] at he) hst.tl.tl) (fun z => tl rfl ls r Ls (by rwa [if_neg (fun y => z (by rw [y]))] at he) hl hvl hst.tl.tl)
    | ne =>
      simp only [am_abr] at he
      exact lv_acmp_ne hx hb hd (of_decide_eq_true hq) (fun z => jm a r (by rwa [if_neg (fun y => z (by rw [y]))] at he) hst.tl.tl) (fun z => tl rfl ls r Ls (by rwa [if_pos (hij z)] at he) hl hvl hst.tl.tl)
  case ifnull q =>
    have hlen : len = 3 := hlen
    subst hlen
    obtain ⟨x1, r, rfl, he⟩ := am_r1_inv he
    obtain ⟨hk2, he⟩ := am_cond_inv he
    simp only [Bool.or_eq_true] at hk2
    rcases hk2.imp Nat.eq_of_beq_eq_true Nat.eq_of_beq_eq_true with z | z
    · obtain ⟨h1, h2⟩ := am_dead hg (q := x1) (by omega)
      obtain ⟨-, a', h3, -⟩ := hC.1 x1 (by rw [← h1]; exact z)
      have hz : am_cv ad (.ref x1) = .ref a' := by
        show va_rf (ad x1) = _
        rw [hg.2.2.2.2.2.2.2.1 x1 h2, h3]
        rfl
      have hne : x1 ≠ 0 := Nat.ne_of_gt (Nat.zero_lt_of_lt h2)
      rw [if_neg hne] at he
      rw [List.map_cons, hz]
      exact lv_ifnull hx hb hd (tl rfl ls r Ls he hl hvl hst.tl)
    · have hz : am_cv ad (.ref x1) = .null := by
        show va_rf (ad x1) = _
        rw [z, hg.2.1]
        rfl
      rw [if_pos z] at he
      rw [List.map_cons, hz]
      exact lv_ifnullN hx hb hd (of_decide_eq_true hq) (jm a r he hst.tl)
  case ifnonnull q =>
    have hlen : len = 3 := hlen
    subst hlen
    obtain ⟨x1, r, rfl, he⟩ := am_r1_inv he
    obtain ⟨hk2, he⟩ := am_cond_inv he
    simp only [Bool.or_eq_true] at hk2
    rcases hk2.imp Nat.eq_of_beq_eq_true Nat.eq_of_beq_eq_true with z | z
    · obtain ⟨h1, h2⟩ := am_dead hg (q := x1) (by omega)
      obtain ⟨-, a', h3, -⟩ := hC.1 x1 (by rw [← h1]; exact z)
      have hz : am_cv ad (.ref x1) = .ref a' := by
        show va_rf (ad x1) = _
        rw [hg.2.2.2.2.2.2.2.1 x1 h2, h3]
        rfl
      have hne : x1 ≠ 0 := Nat.ne_of_gt (Nat.zero_lt_of_lt h2)
      rw [if_neg hne] at he
      rw [List.map_cons, hz]
      exact lv_ifnonnull hx hb hd (of_decide_eq_true hq) (jm a r he hst.tl)
    · have hz : am_cv ad (.ref x1) = .null := by
        show va_rf (ad x1) = _
        rw [z, hg.2.1]
        rfl
      rw [if_pos z] at he
      rw [List.map_cons, hz]
      exact lv_ifnonnullN hx hb hd (tl rfl ls r Ls he hl hvl hst.tl)
  case dup =>
    have hlen : len = 1 := hlen
    subst hlen
    obtain ⟨x1, r, rfl, h1, he⟩ := am_v1_inv he
    exact lv_dup hx hb hd (by rw [am_cv_cat]; exact h1) (tl rfl ls (x1 :: x1 :: r) Ls he hl hvl (am_vs.cons hst.hd hst))
  case pop =>
    have hlen : len = 1 := hlen
    subst hlen
    obtain ⟨x1, r, rfl, h1, he⟩ := am_v1_inv he
    exact lv_pop hx hb hd (by rw [am_cv_cat]; exact h1) (tl rfl ls r Ls he hl hvl hst.tl)
  case dup2 =>
    have hlen : len = 1 := hlen
    subst hlen
    obtain ⟨y1, x1, r, rfl, he⟩ := am_ir_inv he
    exact lv_dup2_11 hx hb hd rfl (am_rf_cat _) (tl rfl ls (.int y1 :: .ref x1 :: .int y1 :: .ref x1 :: r) Ls he hl hvl (am_vs.cons hst.hd (am_vs.cons hst.tl.hd hst)))
  case invokevirtual q =>
    by_cases hsx : cc = 97 ∨ cc = 98
    · have := hsp i a b cc _ ls st h ad H locs Ls hins ⟨q, Or.inl rfl⟩ hsx he hw hl hvl hst hEad hn hc0 hs0
      rwa [hpc] at this
    · have := hcall i a b cc _ ls st h ad H locs Ls hins ⟨q, Or.inl rfl⟩ hsx he hw hl hvl hst hEad hn hc0 hs0
      rwa [hpc] at this
  case invokespecial q =>
    by_cases hsx : cc = 97 ∨ cc = 98
    · have := hsp i a b cc _ ls st h ad H locs Ls hins ⟨q, Or.inr (Or.inl rfl)⟩ hsx he hw hl hvl hst hEad hn hc0 hs0
      rwa [hpc] at this
    · have := hcall i a b cc _ ls st h ad H locs Ls hins ⟨q, Or.inr (Or.inl rfl)⟩ hsx he hw hl hvl hst hEad hn hc0 hs0
      rwa [hpc] at this
  case invokestatic q =>
    by_cases hsx : cc = 97 ∨ cc = 98
    · have := hsp i a b cc _ ls st h ad H locs Ls hins ⟨q, Or.inr (Or.inr rfl)⟩ hsx he hw hl hvl hst hEad hn hc0 hs0
      rwa [hpc] at this
    · have := hcall i a b cc _ ls st h ad H locs Ls hins ⟨q, Or.inr (Or.inr rfl)⟩ hsx he hw hl hvl hst hEad hn hc0 hs0
      rwa [hpc] at this
  case ireturn =>
    have hlen : len = 1 := hlen
    subst hlen
    obtain ⟨v, rfl, he⟩ := am_o1_inv he
    obtain ⟨z, rfl, he⟩ := am_vI_inv he
    obtain ⟨t, h1, h2, h3⟩ := am_fin_ri he
    obtain ⟨h4, -⟩ := am_fin_inv he
    cases h4
    have h5 : am_ri t = .ireturn := by
      rcases h3 with ⟨_, y, h⟩ | ⟨_, y, h⟩ | ⟨_, y, h⟩ <;> first | exact h | cases y
    have := hend ad H locs Ls pc hEad hw hst.hd (fun _ => he) (by rw [h1, h5]; exact hd)
    rw [h1, am_rs_ne h2] at this
    exact this
  case lreturn =>
    have hlen : len = 1 := hlen
    subst hlen
    obtain ⟨v, rfl, he⟩ := am_o1_inv he
    obtain ⟨z, rfl, he⟩ := am_vJ_inv he
    obtain ⟨t, h1, h2, h3⟩ := am_fin_ri he
    obtain ⟨h4, -⟩ := am_fin_inv he
    cases h4
    have h5 : am_ri t = .lreturn := by
      rcases h3 with ⟨_, y, h⟩ | ⟨_, y, h⟩ | ⟨_, y, h⟩ <;> first | exact h | cases y
    have := hend ad H locs Ls pc hEad hw hst.hd (fun _ => he) (by rw [h1, h5]; exact hd)
    rw [h1, am_rs_ne h2] at this
    exact this
  case areturn =>
    have hlen : len = 1 := hlen
    subst hlen
    obtain ⟨v, rfl, he⟩ := am_o1_inv he
    obtain ⟨z, rfl, he⟩ := am_vR_inv he
    obtain ⟨t, h1, h2, h3⟩ := am_fin_ri he
    obtain ⟨h4, -⟩ := am_fin_inv he
    cases h4
    have h5 : am_ri t = .areturn := by
      rcases h3 with ⟨_, y, h⟩ | ⟨_, y, h⟩ | ⟨_, y, h⟩ <;> first | exact h | cases y
    have := hend ad H locs Ls pc hEad hw hst.hd (fun _ => he) (by rw [h1, h5]; exact hd)
    rw [h1, am_rs_ne h2] at this
    exact this
  case return_ =>
    have hlen : len = 1 := hlen
    subst hlen
    obtain ⟨rfl, he⟩ := am_o0_inv he
    obtain ⟨h1, he⟩ := am_cond_inv he
    have h1 := Nat.eq_of_beq_eq_true h1
    cases he
    have := hend ad H locs Ls pc hEad hw trivial (fun z => absurd h1 z) (by rw [h1]; exact hd)
    rw [h1] at this
    exact this
  case tableswitch d lo hi offs =>
    have hq : (decide ((pc : Int) + d = (am_pc k ((am_sw.getD a []).headD 0) : Int)) && decide (offs.toList.map (fun o => (pc : Int) + o) = (am_sw.getD a []).tail.map (fun t => (am_pc k t : Int))) && decide (lo = (am_gI b).toInt) && decide (hi = lo + offs.size - 1) && decide (0 ≤ lo) && decide (hi < 1000)) = true := hq
    simp only [Bool.and_eq_true, decide_eq_true_eq] at hq
    obtain ⟨⟨⟨⟨⟨q1, q2⟩, q3⟩, q4⟩, q5⟩, q6⟩ := hq
    obtain ⟨x1, r, rfl, he1⟩ := am_i1_inv he
    clear he
    have he := he1
    clear he1
    have hsz : (am_sw.getD a []).tail.length = offs.size := by
      have := congrArg List.length q2
      simpa using this.symm
    have hadd : ∀ j : Nat, j < offs.size → (am_gI b + Int32.ofNat j).toInt = lo + j := fun j hj => by
      rw [Int32.toInt_add, Int32.toInt_ofNat_small (by omega), ← q3]
      have := Int.emod_eq_of_lt (a := lo + j + 2 ^ 31) (b := 2 ^ 32) (by omega) (by omega)
      rw [Int.bmod_eq_of_le (by omega) (by omega)]
    rcases am_sel_inv _ _ he with ⟨j, t, h1, h2, h3⟩ | ⟨h1, h2⟩
    · have hj : j < offs.size := by rw [← hsz]; exact (List.getElem?_eq_some_iff.mp h1).1
      have hx1 : x1.toInt = lo + j := by rw [h2]; exact hadd j hj
      have ho : offs[(x1.toInt - lo).toNat]? = some (offs[j]) := by
        rw [hx1, show (lo + (j : Int) - lo).toNat = j by omega]
        exact Array.getElem?_eq_getElem hj
      have ht : (pc : Int) + offs[j] = (am_pc k t : Int) := by
        have e1 := congrArg (fun z => z[j]?) q2
        simp only [List.getElem?_map, h1, Option.map_some, Array.getElem?_toList, Array.getElem?_eq_getElem hj] at e1
        exact Option.some.inj e1
      exact lv_tableIn hx hb hd (by omega) (by omega) ho ht (jm t r h3 hst.tl)
    · refine lv_tableOut hx hb hd ?_ q1 (jm _ r h2 hst.tl)
      by_cases c1 : x1.toInt < lo
      · exact Or.inl c1
      · refine Or.inr ?_
        by_cases c2 : hi < x1.toInt
        · exact c2
        · exfalso
          refine h1 (x1.toInt - lo).toNat (by rw [hsz]; omega) (Int32.toInt_inj.mp ?_)
          rw [hadd _ (by omega)]
          omega
  case getfield q =>
    have hlen : len = 3 := hlen
    subst hlen
    obtain ⟨q1, r, rfl, he1⟩ := am_r1_inv he
    clear he
    have he := he1
    clear he1
    obtain ⟨hkd, he1⟩ := am_cond_inv he
    clear he
    have he := he1
    clear he1
    replace hkd := Nat.eq_of_beq_eq_true hkd
    unfold am_chx at hq
    dsimp only at hq
    cases hb9 : Nat.ble b 9 with
    | true =>
      rw [hb9, cond_true] at hq
      simp only [Bool.and_eq_true] at hq
      obtain ⟨⟨⟨b1, hl1⟩, hl2⟩, hl3⟩ := hq
      have b1 := Nat.le_of_ble_eq_true b1
      have b9 := Nat.le_of_ble_eq_true hb9
      have ha := Nat.le_of_ble_eq_true hl2
      have hc5 := Nat.eq_of_beq_eq_true hl3
      obtain ⟨ao, hao, z1, z2, hws⟩ := am_at (cA := cA) hg (q := q1) (by omega) (by omega)
      rw [am_ce_obj hkd b9] at hws
      have hok := hg.2.2.2.1 q1 z1 z2
      have hlenf : (am_S h q1).2 = (am_fldD b).2.2 := by
        rcases hok with z | z | z | z | z
        · rw [← hkd]; exact z.2.2
        all_goals omega
      have hcv : am_cv ad (.ref q1) = .ref ao := by show va_rf (ad q1) = _; rw [hao]; rfl
      have go : ∀ v' : Value, am_vd h.2.1.2.2 v' → am_fv ad h q1 b a = am_cv ad v' → am_ex n k (i + 1) ls (v' :: r) h = some (rf, hf) → W p l e R s m args below meth c H locs (h.2.2.1 - c0) (h.2.2.2 - s0) Q (F0 m pc Ls ((Value.ref q1 :: r).map (am_cv ad))) := fun v' hv1 hv2 hv3 => by
        rw [List.map_cons, hcv]
        refine va_get hx hb hts (am_cl_in b1 b9) hown hK hP (q1 - 1) hws (am_cl_at b1 b9) a ha (hts _ (am_lw_in hl1 rfl)) (fun z hz => by rw [← am_own_ok b1 b9 a ha]; exact hz) (v := am_cv ad v') ?_ hd (tl rfl ls (v' :: r) Ls hv3 hl hvl (am_vs.cons hv1 hst.tl))
        rw [hlenf, am_fields_get ha, hv2]
      have hft := am_tk_ok b1 b9 a ha
      have key : cc = 0 ∨ cc = 1 ∨ cc = 2 ∨ cc = 5 ∨ cc = 9 := by
        rw [hc5, ← hft]
        unfold am_tk
        split <;> simp
      unfold am_fv at go
      rw [← hc5] at go
      rcases key with z | z | z | z | z <;> subst z
      · exact go (.int (h.1.1 q1 a)) trivial rfl he
      · exact go (.long (h.1.2.1 q1 a)) trivial rfl he
      · exact go (.ref (h.2.1.1 q1 a)) (hg.2.2.2.2.2.2.2.2 q1 a) rfl he
      · exact go (.int (h.1.1 q1 a)) trivial rfl he
      · cases he
    | false =>
      rw [hb9, cond_false] at hq
      simp only [Bool.and_eq_true, Bool.or_eq_true] at hq
      obtain ⟨⟨⟨hbk, hl1⟩, hl3⟩, hl4⟩ := hq
      have hbk : b = 30 ∨ b = 31 := hbk.imp Nat.eq_of_beq_eq_true Nat.eq_of_beq_eq_true
      have hc5 := Nat.eq_of_beq_eq_true hl3
      obtain ⟨hS0, hbig⟩ := am_dead hg (q := q1) (by omega)
      have hk0 : (am_S0 L q1).1 = b := by rw [← hS0]; exact hkd
      have go : ∀ (ao : Nat) (v' : Value), adc q1 = some ao → va_OF (am_cfn b a).1 (am_cfn b a).2.1 (am_cfn b a).2.2 (am_cv ad v') ao A s s.heap → am_vd h.2.1.2.2 v' → am_ex n k (i + 1) ls (v' :: r) h = some (rf, hf) → W p l e R s m args below meth c H locs (h.2.2.1 - c0) (h.2.2.2 - s0) Q (F0 m pc Ls ((Value.ref q1 :: r).map (am_cv ad))) := fun ao v' ha1 hF hv1 hv3 => by
        have hcv : am_cv ad (.ref q1) = .ref ao := by show va_rf (ad q1) = _; rw [hg.2.2.2.2.2.2.2.1 q1 hbig, ha1]; rfl
        rw [List.map_cons, hcv]
        exact vk_getf hx hb hF hS hown (hts _ (am_lw_in hl1 rfl)) (fun _ h => h) hd (tl rfl ls (v' :: r) Ls hv3 hl hvl (am_vs.cons hv1 hst.tl))
      rcases hbk with z | z
      · subst z
        obtain ⟨hR0, ao, hao, -, hF⟩ := hC.1 q1 hk0
        have ha3 : a ≤ 3 := Nat.le_of_ble_eq_true hl4
        have := hF a ha3
        rcases Nat.eq_zero_or_pos a with z | z
        · subst z
          have hc4 : cc = 4 := hc5
          subst hc4
          refine go ao (.ref (am_cR q1 0)) hao ?_ (Or.inr hR0) he
          show va_OF _ _ _ (va_rf (ad (am_cR q1 0))) ao A s s.heap
          rw [hg.2.2.2.2.2.2.2.1 _ hR0]
          exact this
        · have hn0 : Nat.beq a 0 = false := am_nbeq (by omega)
          have hn10 : Nat.beq a 10 = false := am_nbeq (by omega)
          rw [hn0, hn10] at hc5
          have hc3 : cc = 3 := hc5
          subst hc3
          refine go ao (.int (am_cI q1 a)) hao ?_ trivial he
          rw [hn0] at this
          exact this
      · subst z
        obtain ⟨hR0, ao, hao, -, hF1, hF2⟩ := hC.2.2.1 q1 hk0
        have ha3 : (Nat.beq a 10 || Nat.beq a 11) = true := hl4
        simp only [Bool.or_eq_true] at ha3
        rcases ha3 with z | z <;> have z := Nat.eq_of_beq_eq_true z <;> subst z
        · have hc4 : cc = 4 := hc5
          subst hc4
          refine go ao (.ref (am_cR q1 10)) hao ?_ (Or.inr hR0) he
          show va_OF _ _ _ (va_rf (ad (am_cR q1 10))) ao A s s.heap
          rw [hg.2.2.2.2.2.2.2.1 _ hR0]
          exact hF1
        · have hc4 : cc = 3 := hc5
          subst hc4
          exact go ao (.int (am_cI q1 11)) hao hF2 trivial he
  case putfield q =>
    have hlen : len = 3 := hlen
    subst hlen
    obtain ⟨v, q1, r, rfl, he1⟩ := am_vr_inv he
    clear he
    have he := he1
    clear he1
    obtain ⟨hkd, he1⟩ := am_cond_inv he
    clear he
    have he := he1
    clear he1
    replace hkd := Nat.eq_of_beq_eq_true hkd
    have hq : (Nat.ble 1 b && Nat.ble b 9 && am_lw w (.fieldLink (am_own k) q (am_fldD b).1 ((am_fldD b).2.1 a).2.1 ((am_fldD b).2.1 a).2.2.1) && Nat.blt a (am_fldD b).2.2 && Nat.beq cc (am_ft b a) && cond ((am_fldD b).2.1 a).2.2.2 (decide ((am_y k).name = "<init>") && decide (((am_fldD b).2.1 a).1 = am_own k)) true) = true := hq
    simp only [Bool.and_eq_true] at hq
    obtain ⟨⟨⟨⟨⟨b1, hb9⟩, hl1⟩, hl2⟩, hl3⟩, hl4⟩ := hq
    have b1 := Nat.le_of_ble_eq_true b1
    have b9 := Nat.le_of_ble_eq_true hb9
    have ha := Nat.le_of_ble_eq_true hl2
    have hc5 := Nat.eq_of_beq_eq_true hl3
    obtain ⟨ao, hao, z1, z2, hws⟩ := am_at (cA := cA) hg (q := q1) (by omega) (by omega)
    rw [am_ce_obj hkd b9] at hws
    have hok := hg.2.2.2.1 q1 z1 z2
    have hlenf : (am_S h q1).2 = (am_fldD b).2.2 := by
      rcases hok with z | z | z | z | z
      · rw [← hkd]; exact z.2.2
      all_goals omega
    rw [hlenf] at hws
    have hcv : am_cv ad (.ref q1) = .ref ao := by show va_rf (ad q1) = _; rw [hao]; rfl
    have hty := am_ty_ok b1 b9 a ha
    have hft := am_tk_ok b1 b9 a ha
    have go : ∀ h' : am_H, h'.2.1.2 = h.2.1.2 → h'.2.2 = h.2.2 → (∀ z, z ≠ q1 → h'.1.1 z = h.1.1 z) → (∀ z, z ≠ q1 → h'.1.2.1 z = h.1.2.1 z) → (∀ z, z ≠ q1 → h'.1.2.2 z = h.1.2.2 z) → (∀ z, z ≠ q1 → h'.2.1.1 z = h.2.1.1 z) → am_gd L xs adc ad h' → am_fv ad h' q1 b a = am_cv ad v → (∀ j, j ≠ a → am_fv ad h' q1 b j = am_fv ad h q1 b j) → narrow (am_tyD b a) (am_cv ad v) = am_cv ad v → fits (am_tyD b a) (am_cv ad v) = true → am_ex n k (i + 1) ls r h' = some (rf, hf) → W p l e R s m args below meth c H locs (h.2.2.1 - c0) (h.2.2.2 - s0) Q (F0 m pc Ls ((v :: Value.ref q1 :: r).map (am_cv ad))) := fun h' y1 y2 y3 y4 y5 y6 y7 y8 y9 y10 y11 y12 => by
      rw [List.map_cons, List.map_cons, hcv]
      have hws' : am_ws cA ad h' = (am_ws cA ad h).set (q1 - 1) (ao, .inr (b - 1, (am_fields ad h q1 b (am_fldD b).2.2).set a (am_cv ad v))) := by
        have hS' : am_S h' q1 = am_S h q1 := by unfold am_S; rw [y1]
        rw [am_ws_upd z1 hao y1 y3 y4 y5 y6, am_ce_obj (b := b) (by rw [hS']; exact hkd) b9, hS', hlenf, am_fields_set y8 y9]
      have kk : ∀ (H1 : Heap) (locs1 : List Loc), va_P G vwCl ((am_ws cA ad h).set (q1 - 1) (ao, .inr (b - 1, (am_fields ad h q1 b (am_fldD b).2.2).set a (am_cv ad v)))) H1 → va_D A ((am_ws cA ad h).set (q1 - 1) (ao, .inr (b - 1, (am_fields ad h q1 b (am_fldD b).2.2).set a (am_cv ad v)))) → va_S A s.heap H1 locs1 → W p l e R s m args below meth c H1 locs1 (h.2.2.1 - c0) (h.2.2.2 - s0) Q (F0 m (pc + 3) Ls (r.map (am_cv ad))) := fun H1 locs1 k1 k2 k3 => tw rfl r h' H1 locs1 y12 ⟨by rw [hws']; exact k1, by rw [hws']; exact k2, k3, y7⟩ y1 y2 hst.tl.tl
      cases hfin : ((am_fldD b).2.1 a).2.2.2 with
      | false => exact va_put hx hb hts (am_cl_in b1 b9) (am_tyD b) (am_ty_ok b1 b9) (am_nm_ok b1 b9) hown hK hP hD hS (q1 - 1) hws (am_cl_at b1 b9) a ha (hts _ (am_lw_in hl1 rfl)) (fun z hz => by rw [← am_own_ok b1 b9 a ha]; exact hz) hfin hty y10 y11 (by rw [am_fields_len]; exact ha) hd kk
      | true =>
        rw [hfin, cond_true] at hl4
        simp only [Bool.and_eq_true, decide_eq_true_eq] at hl4
        exact va_putF hx hb hts (am_cl_in b1 b9) (am_tyD b) (am_ty_ok b1 b9) (am_nm_ok b1 b9) hown hK hP hD hS (q1 - 1) hws (am_cl_at b1 b9) a ha (hts _ (am_lw_in hl1 rfl)) (fun z hz => by rw [← am_own_ok b1 b9 a ha]; exact hz) hfin (hini hl4.1) hl4.2 hty y10 y11 (by rw [am_fields_len]; exact ha) hd kk
    have hft' : am_tk (am_tyD b a) = cc := hft.trans hc5.symm
    rcases (show cc = 0 ∨ cc = 1 ∨ cc = 2 ∨ cc = 5 ∨ cc = 9 by rw [← hft']; unfold am_tk; split <;> simp) with z | z | z | z | z <;> subst z
    · have hte : am_tyD b a = .int := am_tk_int hft'
      obtain ⟨x1, rfl, he1⟩ := am_vI_inv he
      clear he
      have he := he1
      clear he1
      refine go (am_sI h q1 a x1) rfl rfl (fun z hz => am_up_row _ _ hz) (fun _ _ => rfl) (fun _ _ => rfl) (fun _ _ => rfl) (am_gd_sI hg (by have := hg.2.2.1; omega)) ?_ (fun j hj => ?_) (by rw [hte]; rfl) (by rw [hte]; rfl) he
      · unfold am_fv
        rw [← hc5]
        show Value.int (am_up h.1.1 q1 a x1 q1 a) = _
        rw [am_up_eq, if_pos ⟨rfl, rfl⟩]
        rfl
      · unfold am_fv
        show cond _ _ (cond _ _ (Value.int (am_up h.1.1 q1 a x1 q1 j))) = _
        rw [am_up_eq, if_neg (fun z => hj z.2)]
        rfl
    · have hte : am_tyD b a = .long := am_tk_long hft'
      obtain ⟨x1, rfl, he1⟩ := am_vJ_inv he
      clear he
      have he := he1
      clear he1
      refine go (am_sJ h q1 a x1) rfl rfl (fun _ _ => rfl) (fun z hz => am_up_row _ _ hz) (fun _ _ => rfl) (fun _ _ => rfl) (am_gd_sJ hg) ?_ (fun j hj => ?_) (by rw [hte]; rfl) (by rw [hte]; rfl) he
      · unfold am_fv
        rw [← hc5]
        show Value.long (am_up h.1.2.1 q1 a x1 q1 a) = _
        rw [am_up_eq, if_pos ⟨rfl, rfl⟩]
        rfl
      · unfold am_fv
        show cond _ (Value.long (am_up h.1.2.1 q1 a x1 q1 j)) _ = _
        rw [am_up_eq, if_neg (fun z => hj z.2)]
        rfl
    · have hte : (∃ z, am_tyD b a = .object z) ∨ ∃ z, am_tyD b a = .array z := am_tk_ref hft'
      obtain ⟨x1, rfl, he1⟩ := am_vR_inv he
      clear he
      have he := he1
      clear he1
      have hnr : narrow (am_tyD b a) (va_rf (ad x1)) = va_rf (ad x1) ∧ fits (am_tyD b a) (va_rf (ad x1)) = true := by
        rcases hte with ⟨z, hz⟩ | ⟨z, hz⟩ <;> rw [hz] <;> cases ad x1 <;> exact ⟨rfl, rfl⟩
      refine go (am_sR h q1 a x1) rfl rfl (fun _ _ => rfl) (fun _ _ => rfl) (fun _ _ => rfl) (fun z hz => am_up_row _ _ hz) (am_gd_sR hg hst.hd) ?_ (fun j hj => ?_) hnr.1 hnr.2 he
      · unfold am_fv
        rw [← hc5]
        show va_rf (ad (am_up h.2.1.1 q1 a x1 q1 a)) = _
        rw [am_up_eq, if_pos ⟨rfl, rfl⟩]
        rfl
      · unfold am_fv
        show cond _ _ (cond _ (va_rf (ad (am_up h.2.1.1 q1 a x1 q1 j))) _) = _
        rw [am_up_eq, if_neg (fun z => hj z.2)]
        rfl
    · have hte : am_tyD b a = .boolean := am_tk_boolean hft'
      obtain ⟨x1, rfl, he1⟩ := am_vI_inv he
      clear he
      have he := he1
      clear he1
      obtain ⟨hbit, he1⟩ := am_cond_inv he
      clear he
      have he := he1
      clear he1
      unfold am_bit at hbit
      simp only [Bool.or_eq_true, decide_eq_true_eq] at hbit
      refine go (am_sI h q1 a x1) rfl rfl (fun z hz => am_up_row _ _ hz) (fun _ _ => rfl) (fun _ _ => rfl) (fun _ _ => rfl) (am_gd_sI hg (by have := hg.2.2.1; omega)) ?_ (fun j hj => ?_) (by rw [hte]; rcases hbit with z | z <;> subst z <;> rfl) (by rw [hte]; rcases hbit with z | z <;> subst z <;> rfl) he
      · unfold am_fv
        rw [← hc5]
        show Value.int (am_up h.1.1 q1 a x1 q1 a) = _
        rw [am_up_eq, if_pos ⟨rfl, rfl⟩]
        rfl
      · unfold am_fv
        show cond _ _ (cond _ _ (Value.int (am_up h.1.1 q1 a x1 q1 j))) = _
        rw [am_up_eq, if_neg (fun z => hj z.2)]
        rfl
    · cases he
  case arraylength =>
    have hlen : len = 1 := hlen
    subst hlen
    obtain ⟨q1, r, rfl, he1⟩ := am_r1_inv he
    clear he
    have he := he1
    clear he1
    obtain ⟨hkd, he1⟩ := am_cond_inv he
    clear he
    have he := he1
    clear he1
    simp only [Bool.and_eq_true] at hkd
    have k1 := Nat.le_of_ble_eq_true hkd.1
    have k2 := Nat.le_of_ble_eq_true hkd.2
    have ht := tl rfl ls (.int (nI (am_S h q1).2) :: r) Ls he hl hvl (am_vs.cons trivial hst.tl)
    rw [List.map_cons]
    rcases (show (am_S h q1).1 < 24 ∨ (am_S h q1).1 = 24 ∨ (am_S h q1).1 = 25 ∨ (am_S h q1).1 = 26 ∨ (am_S h q1).1 = 27 by omega) with z | z | z | z | z
    · obtain ⟨ao, hao, z1, z2, hws⟩ := am_at (cA := cA) hg (q := q1) (by omega) z
      have hcv : am_cv ad (.ref q1) = .ref ao := by show va_rf (ad q1) = _; rw [hao]; rfl
      rw [hcv]
      rcases (show (am_S h q1).1 = 20 ∨ (am_S h q1).1 = 21 ∨ (am_S h q1).1 = 22 ∨ (am_S h q1).1 = 23 by omega) with y | y | y | y
      · rw [am_ce_20 y] at hws
        exact va_alen hx hb hK hP (q1 - 1) 0 hws rfl rfl hd ht
      · rw [am_ce_21 y] at hws
        exact va_alen hx hb hK hP (q1 - 1) 1 hws rfl rfl hd ht
      · rw [am_ce_22 y] at hws
        exact va_alen hx hb hK hP (q1 - 1) 2 hws rfl rfl hd ht
      · rw [am_ce_23 y] at hws
        exact va_alen hx hb hK hP (q1 - 1) 3 hws rfl rfl hd ht
    all_goals
      obtain ⟨hS0, hbig⟩ := am_dead hg (q := q1) (by omega)
      have hk0 := hS0 ▸ z
      rw [hS0] at ht
      have hcvg : ∀ ao, adc q1 = some ao → am_cv ad (.ref q1) = .ref ao := fun ao h => by show va_rf (ad q1) = _; rw [hg.2.2.2.2.2.2.2.1 q1 hbig, h]; rfl
    · obtain ⟨y1, y2⟩ := am_S0_24 hk0
      subst y1
      obtain ⟨b0, b1, b2, b3, b4⟩ := hC.2.2.2.2.2.2.1
      rw [hcvg b0 b1]
      rw [y2] at ht
      exact va_slen hx hb b2 b3 b4 hS hd ht
    · obtain ⟨-, a0, y1, y2⟩ := hC.2.2.2.2.2.1 q1 hk0
      rw [hcvg a0 y1]
      exact va_tlen hx hb y2 hS rfl hd ht
    · obtain ⟨a0, y1, y2⟩ := hC.2.2.2.2.1 q1 hk0
      rw [hcvg a0 y1]
      exact va_tlen hx hb y2 hS rfl hd ht
    · obtain ⟨a0, y1, y2⟩ := hC.2.2.2.1 q1 hk0
      rw [hcvg a0 y1]
      exact va_tlen hx hb y2 hS rfl hd ht
  case iaload =>
    have hlen : len = 1 := hlen
    subst hlen
    obtain ⟨j1, q1, r, rfl, he1⟩ := am_ir_inv he
    clear he
    have he := he1
    clear he1
    have hcvg : 1000 < q1 → ∀ ao, adc q1 = some ao → am_cv ad (.ref q1) = .ref ao := fun hbig ao h => by show va_rf (ad q1) = _; rw [hg.2.2.2.2.2.2.2.1 q1 hbig, h]; rfl
    rw [List.map_cons, List.map_cons]
    cases hb1 : (Nat.beq (am_S h q1).1 20 || Nat.beq (am_S h q1).1 24) with
    | true =>
      rw [hb1] at he
      obtain ⟨hin, he1⟩ := am_inb_inv he
      clear he
      have he := he1
      clear he1
      simp only [Bool.or_eq_true] at hb1
      rcases hb1 with hk1 | hk1 <;> have hk1 := Nat.eq_of_beq_eq_true hk1
      · obtain ⟨ao, hao, z1, z2, hws⟩ := am_at (cA := cA) hg (q := q1) (by omega) (by omega)
        have hcv : am_cv ad (.ref q1) = .ref ao := by show va_rf (ad q1) = _; rw [hao]; rfl
        rw [hcv]
        rw [am_ce_20 hk1] at hws
        exact va_iald hx hb hK hP (q1 - 1) 0 hws rfl hin hd (tl rfl ls (.int (h.1.1 q1 j1.toNatClampNeg) :: r) Ls he hl hvl (am_vs.cons trivial hst.tl.tl))
      · obtain ⟨hS0, hbig⟩ := am_dead hg (q := q1) (by omega)
        have hk0 := hS0 ▸ hk1
        obtain ⟨y1, y2⟩ := am_S0_24 hk0
        obtain ⟨b0, b1, b2, b3, b4⟩ := hC.2.2.2.2.2.2.1
        rw [hcvg hbig b0 (by rw [y1]; exact b1)]
        have ht := tl rfl ls (.int (h.1.1 q1 j1.toNatClampNeg) :: r) Ls he hl hvl (am_vs.cons trivial hst.tl.tl)
        rw [y1, hg.2.2.2.2.2.2.1] at ht
        rw [hS0, y2] at hin
        exact va_sld hx hb b2 b3 b4 hS hin hd ht
    | false =>
      rw [hb1] at he
      obtain ⟨hk1, he1⟩ := am_cond_inv he
      clear he
      have he := he1
      clear he1
      obtain ⟨hin, he1⟩ := am_inb_inv he
      clear he
      have he := he1
      clear he1
      have hk1 := Nat.eq_of_beq_eq_true hk1
      obtain ⟨hS0, hbig⟩ := am_dead hg (q := q1) (by omega)
      have hk0 := hS0 ▸ hk1
      obtain ⟨a0, y1, y2⟩ := hC.2.2.2.2.1 q1 hk0
      rw [hcvg hbig a0 y1]
      rw [hS0] at hin
      exact va_ti hx hb y2 hS hin rfl hd (tl rfl ls (.int (am_cI q1 j1.toNatClampNeg) :: r) Ls he hl hvl (am_vs.cons trivial hst.tl.tl))
  case baload =>
    have hlen : len = 1 := hlen
    subst hlen
    obtain ⟨j1, q1, r, rfl, he1⟩ := am_ir_inv he
    clear he
    have he := he1
    clear he1
    have hcvg : 1000 < q1 → ∀ ao, adc q1 = some ao → am_cv ad (.ref q1) = .ref ao := fun hbig ao h => by show va_rf (ad q1) = _; rw [hg.2.2.2.2.2.2.2.1 q1 hbig, h]; rfl
    rw [List.map_cons, List.map_cons]
    cases hb1 : Nat.beq (am_S h q1).1 21 with
    | true =>
      rw [hb1] at he
      obtain ⟨hin, he1⟩ := am_inb_inv he
      clear he
      have he := he1
      clear he1
      have hk1 := Nat.eq_of_beq_eq_true hb1
      obtain ⟨ao, hao, z1, z2, hws⟩ := am_at (cA := cA) hg (q := q1) (by omega) (by omega)
      have hcv : am_cv ad (.ref q1) = .ref ao := by show va_rf (ad q1) = _; rw [hao]; rfl
      rw [hcv]
      rw [am_ce_21 hk1] at hws
      exact va_zald hx hb hK hP (q1 - 1) 1 hws rfl hin hd (tl rfl ls (.int (h.1.1 q1 j1.toNatClampNeg) :: r) Ls he hl hvl (am_vs.cons trivial hst.tl.tl))
    | false =>
      rw [hb1] at he
      obtain ⟨hk1, he1⟩ := am_cond_inv he
      clear he
      have he := he1
      clear he1
      obtain ⟨hin, he1⟩ := am_inb_inv he
      clear he
      have he := he1
      clear he1
      have hk1 := Nat.eq_of_beq_eq_true hk1
      obtain ⟨hS0, hbig⟩ := am_dead hg (q := q1) (by omega)
      have hk0 := hS0 ▸ hk1
      obtain ⟨a0, y1, y2⟩ := hC.2.2.2.1 q1 hk0
      rw [hcvg hbig a0 y1]
      rw [hS0] at hin
      exact va_tb hx hb y2 hS hin rfl hd (tl rfl ls (.int (am_cI q1 j1.toNatClampNeg) :: r) Ls he hl hvl (am_vs.cons trivial hst.tl.tl))
  case laload =>
    have hlen : len = 1 := hlen
    subst hlen
    obtain ⟨j1, q1, r, rfl, he1⟩ := am_ir_inv he
    clear he
    have he := he1
    clear he1
    have hcvg : 1000 < q1 → ∀ ao, adc q1 = some ao → am_cv ad (.ref q1) = .ref ao := fun hbig ao h => by show va_rf (ad q1) = _; rw [hg.2.2.2.2.2.2.2.1 q1 hbig, h]; rfl
    rw [List.map_cons, List.map_cons]
    obtain ⟨hk1, he1⟩ := am_cond_inv he
    clear he
    have he := he1
    clear he1
    obtain ⟨hin, he1⟩ := am_inb_inv he
    clear he
    have he := he1
    clear he1
    have hk1 := Nat.eq_of_beq_eq_true hk1
    obtain ⟨ao, hao, z1, z2, hws⟩ := am_at (cA := cA) hg (q := q1) (by omega) (by omega)
    have hcv : am_cv ad (.ref q1) = .ref ao := by show va_rf (ad q1) = _; rw [hao]; rfl
    rw [hcv]
    rw [am_ce_22 hk1] at hws
    exact va_lald hx hb hK hP (q1 - 1) 2 hws rfl hin hd (tl rfl ls (.long (h.1.2.1 q1 j1.toNatClampNeg) :: r) Ls he hl hvl (am_vs.cons trivial hst.tl.tl))
  case aaload =>
    have hlen : len = 1 := hlen
    subst hlen
    obtain ⟨j1, q1, r, rfl, he1⟩ := am_ir_inv he
    clear he
    have he := he1
    clear he1
    have hcvg : 1000 < q1 → ∀ ao, adc q1 = some ao → am_cv ad (.ref q1) = .ref ao := fun hbig ao h => by show va_rf (ad q1) = _; rw [hg.2.2.2.2.2.2.2.1 q1 hbig, h]; rfl
    rw [List.map_cons, List.map_cons]
    cases hb1 : Nat.beq (am_S h q1).1 23 with
    | true =>
      rw [hb1] at he
      obtain ⟨hin, he1⟩ := am_inb_inv he
      clear he
      have he := he1
      clear he1
      have hk1 := Nat.eq_of_beq_eq_true hb1
      have hvT : am_vd h.2.1.2.2 (.ref (h.1.2.2 q1 j1.toNatClampNeg)) := by
        rcases hg.2.2.2.2.2.1 q1 j1.toNatClampNeg hk1 with z | z
        · exact Or.inl (by rw [z]; exact Nat.zero_le _)
        · exact Or.inr (am_dead hg (by omega)).2
      obtain ⟨ao, hao, z1, z2, hws⟩ := am_at (cA := cA) hg (q := q1) (by omega) (by omega)
      have hcv : am_cv ad (.ref q1) = .ref ao := by show va_rf (ad q1) = _; rw [hao]; rfl
      rw [hcv]
      rw [am_ce_23 hk1] at hws
      exact va_aldq hx hb hK hP (q1 - 1) 3 hws rfl hin hd (tl rfl ls (.ref (h.1.2.2 q1 j1.toNatClampNeg) :: r) Ls he hl hvl (am_vs.cons hvT hst.tl.tl))
    | false =>
      rw [hb1] at he
      obtain ⟨hk1, he1⟩ := am_cond_inv he
      clear he
      have he := he1
      clear he1
      obtain ⟨hin, he1⟩ := am_inb_inv he
      clear he
      have he := he1
      clear he1
      have hk1 := Nat.eq_of_beq_eq_true hk1
      obtain ⟨hS0, hbig⟩ := am_dead hg (q := q1) (by omega)
      have hk0 := hS0 ▸ hk1
      obtain ⟨hr0, a0, y1, y2⟩ := hC.2.2.2.2.2.1 q1 hk0
      rw [hcvg hbig a0 y1]
      rw [hS0] at hin
      have ht := tl rfl ls (.ref (am_cR q1 j1.toNatClampNeg) :: r) Ls he hl hvl (am_vs.cons (Or.inr (hr0 _)) hst.tl.tl)
      exact vb_tq hx hb y2 hS hin (v := va_rf (ad (am_cR q1 j1.toNatClampNeg))) (by rw [hg.2.2.2.2.2.2.2.1 _ (hr0 _)]) hd ht
  case iastore =>
    have hlen : len = 1 := hlen
    subst hlen
    obtain ⟨x1, j1, q1, r, rfl, he1⟩ := am_iir_inv he
    clear he
    have he := he1
    clear he1
    obtain ⟨hk1, he1⟩ := am_cond_inv he
    clear he
    have he := he1
    clear he1
    obtain ⟨hin, he1⟩ := am_inb_inv he
    clear he
    have he := he1
    clear he1
    have hk1 := Nat.eq_of_beq_eq_true hk1
    obtain ⟨ao, hao, z1, z2, hws⟩ := am_at (cA := cA) hg (q := q1) (by omega) (by omega)
    have hcv : am_cv ad (.ref q1) = .ref ao := by show va_rf (ad q1) = _; rw [hao]; rfl
    rw [List.map_cons, List.map_cons, List.map_cons, hcv]
    rw [am_ce_20 hk1] at hws
    have hrow := am_up_upd h.1.1 q1 j1.toNatClampNeg x1
    have hws' : am_ws cA ad (am_sI h q1 j1.toNatClampNeg x1) = (am_ws cA ad h).set (q1 - 1) (ao, .inl (cA 0, (am_S h q1).2, .inl (upd (h.1.1 q1) j1.toNatClampNeg x1))) := by
      rw [← hrow, am_ws_upd (h := h) (h' := am_sI h q1 j1.toNatClampNeg x1) z1 hao rfl (fun z hz => am_up_row _ _ hz) (fun _ _ => rfl) (fun _ _ => rfl) (fun _ _ => rfl), am_ce_20 (h := am_sI h q1 j1.toNatClampNeg x1) hk1]
      rfl
    exact va_iast hx hb hK hP hD hS (q1 - 1) 0 hws rfl hin hd (fun H1 locs1 k1 k2 k3 => tw rfl r _ H1 locs1 he ⟨by rw [hws']; exact k1, by rw [hws']; exact k2, k3, am_gd_sI hg (by have := hg.2.2.1; omega)⟩ rfl rfl hst.tl.tl.tl)
  case bastore =>
    have hlen : len = 1 := hlen
    subst hlen
    obtain ⟨x1, j1, q1, r, rfl, he1⟩ := am_iir_inv he
    clear he
    have he := he1
    clear he1
    obtain ⟨hk1, he1⟩ := am_cond_inv he
    clear he
    have he := he1
    clear he1
    obtain ⟨hin, he1⟩ := am_inb_inv he
    clear he
    have he := he1
    clear he1
    have hk1 := Nat.eq_of_beq_eq_true hk1
    obtain ⟨ao, hao, z1, z2, hws⟩ := am_at (cA := cA) hg (q := q1) (by omega) (by omega)
    have hcv : am_cv ad (.ref q1) = .ref ao := by show va_rf (ad q1) = _; rw [hao]; rfl
    rw [List.map_cons, List.map_cons, List.map_cons, hcv]
    rw [am_ce_21 hk1] at hws
    obtain ⟨hbit, he1⟩ := am_cond_inv he
    clear he
    have he := he1
    clear he1
    unfold am_bit at hbit
    simp only [Bool.or_eq_true, decide_eq_true_eq] at hbit
    have hnar : vp_nar .boolean x1 = x1 := by rcases hbit with z | z <;> subst z <;> rfl
    have hrow : am_up h.1.1 q1 j1.toNatClampNeg x1 q1 = upd (h.1.1 q1) j1.toNatClampNeg (vp_nar .boolean x1) := by rw [hnar]; exact am_up_upd h.1.1 q1 j1.toNatClampNeg x1
    have hws' : am_ws cA ad (am_sI h q1 j1.toNatClampNeg x1) = (am_ws cA ad h).set (q1 - 1) (ao, .inl (cA 1, (am_S h q1).2, .inl (upd (h.1.1 q1) j1.toNatClampNeg (vp_nar .boolean x1)))) := by
      rw [← hrow, am_ws_upd (h := h) (h' := am_sI h q1 j1.toNatClampNeg x1) z1 hao rfl (fun z hz => am_up_row _ _ hz) (fun _ _ => rfl) (fun _ _ => rfl) (fun _ _ => rfl), am_ce_21 (h := am_sI h q1 j1.toNatClampNeg x1) hk1]
      rfl
    exact va_zast hx hb hK hP hD hS (q1 - 1) 1 hws rfl hin hd (fun H1 locs1 k1 k2 k3 => tw rfl r _ H1 locs1 he ⟨by rw [hws']; exact k1, by rw [hws']; exact k2, k3, am_gd_sI hg (by have := hg.2.2.1; omega)⟩ rfl rfl hst.tl.tl.tl)
  case lastore =>
    have hlen : len = 1 := hlen
    subst hlen
    obtain ⟨x1, j1, q1, r, rfl, he1⟩ := am_jir_inv he
    clear he
    have he := he1
    clear he1
    obtain ⟨hk1, he1⟩ := am_cond_inv he
    clear he
    have he := he1
    clear he1
    obtain ⟨hin, he1⟩ := am_inb_inv he
    clear he
    have he := he1
    clear he1
    have hk1 := Nat.eq_of_beq_eq_true hk1
    obtain ⟨ao, hao, z1, z2, hws⟩ := am_at (cA := cA) hg (q := q1) (by omega) (by omega)
    have hcv : am_cv ad (.ref q1) = .ref ao := by show va_rf (ad q1) = _; rw [hao]; rfl
    rw [List.map_cons, List.map_cons, List.map_cons, hcv]
    rw [am_ce_22 hk1] at hws
    have hrow := am_up_updL h.1.2.1 q1 j1.toNatClampNeg x1
    have hws' : am_ws cA ad (am_sJ h q1 j1.toNatClampNeg x1) = (am_ws cA ad h).set (q1 - 1) (ao, .inl (cA 2, (am_S h q1).2, .inr (.inl (vp_updL (h.1.2.1 q1) j1.toNatClampNeg x1)))) := by
      rw [← hrow, am_ws_upd (h := h) (h' := am_sJ h q1 j1.toNatClampNeg x1) z1 hao rfl (fun _ _ => rfl) (fun z hz => am_up_row _ _ hz) (fun _ _ => rfl) (fun _ _ => rfl), am_ce_22 (h := am_sJ h q1 j1.toNatClampNeg x1) hk1]
      rfl
    exact va_last hx hb hK hP hD hS (q1 - 1) 2 hws rfl hin hd (fun H1 locs1 k1 k2 k3 => tw rfl r _ H1 locs1 he ⟨by rw [hws']; exact k1, by rw [hws']; exact k2, k3, am_gd_sJ hg⟩ rfl rfl hst.tl.tl.tl)
  case aastore =>
    have hlen : len = 1 := hlen
    subst hlen
    obtain ⟨x1, j1, q1, r, rfl, he1⟩ := am_rir_inv he
    clear he
    have he := he1
    clear he1
    obtain ⟨hk1, he1⟩ := am_cond_inv he
    clear he
    have he := he1
    clear he1
    obtain ⟨hin, he1⟩ := am_inb_inv he
    clear he
    have he := he1
    clear he1
    have hk1 := Nat.eq_of_beq_eq_true hk1
    obtain ⟨ao, hao, z1, z2, hws⟩ := am_at (cA := cA) hg (q := q1) (by omega) (by omega)
    have hcv : am_cv ad (.ref q1) = .ref ao := by show va_rf (ad q1) = _; rw [hao]; rfl
    rw [List.map_cons, List.map_cons, List.map_cons, hcv]
    rw [am_ce_23 hk1] at hws
    obtain ⟨hk3, he1⟩ := am_cond_inv he
    clear he
    have he := he1
    clear he1
    have hk3 := Nat.eq_of_beq_eq_true hk3
    obtain ⟨hS0, hbig⟩ := am_dead hg (q := x1) (by omega)
    have hk0 := hS0 ▸ hk3
    obtain ⟨-, av, y1, y2, -⟩ := hC.1 x1 hk0
    have hxa : ad x1 = some av := by rw [hg.2.2.2.2.2.2.2.1 x1 hbig, y1]
    have hcv2 : am_cv ad (.ref x1) = .ref av := by show va_rf (ad x1) = _; rw [hxa]; rfl
    rw [hcv2]
    have hany : va_Any "ScanChart$Op" s H av := by
      obtain ⟨cell, e1, e2, e3, -⟩ := y2.kept hS.2.1
      obtain ⟨kC, hkC, -⟩ := Vm.findClass_spec e3
      exact ⟨cell, e1, e2, ⟨kC, hkC⟩, fun comp hc => by
        have : comp = cell.cls := Option.some.inj (hc.symm.trans e3)
        rw [this]
        exact va_asg _ _⟩
    have hrow : (fun j => ad (am_up h.1.2.2 q1 j1.toNatClampNeg x1 q1 j)) = va_up (fun j => ad (h.1.2.2 q1 j)) j1.toNatClampNeg (some av) := by
      funext j
      rw [am_up_eq]
      unfold va_up
      by_cases c : j = j1.toNatClampNeg
      · rw [if_pos ⟨rfl, c⟩, if_pos c, hxa]
      · rw [if_neg (fun z => c z.2), if_neg c]
    have hws' : am_ws cA ad (am_sT h q1 j1.toNatClampNeg x1) = (am_ws cA ad h).set (q1 - 1) (ao, .inl (cA 3, (am_S h q1).2, .inr (.inr (.inr (.inr (va_up (fun j => ad (h.1.2.2 q1 j)) j1.toNatClampNeg (some av))))))) := by
      rw [← hrow, am_ws_upd (h := h) (h' := am_sT h q1 j1.toNatClampNeg x1) z1 hao rfl (fun _ _ => rfl) (fun _ _ => rfl) (fun z hz => am_up_row _ _ hz) (fun _ _ => rfl), am_ce_23 (h := am_sT h q1 j1.toNatClampNeg x1) hk1]
      rfl
    exact va_astqM hx hb hK hP hD hS (q1 - 1) 3 hws rfl hany hin hd (fun H1 locs1 k1 k2 k3 => tw rfl r _ H1 locs1 he ⟨by rw [hws']; exact k1, by rw [hws']; exact k2, k3, am_gd_sT hg hk3⟩ rfl rfl hst.tl.tl.tl)
  case new q =>
    have hlen : len = 3 := hlen
    subst hlen
    have hq : (Nat.ble 1 a && Nat.ble a 9 && am_lw w (.classLink (am_own k) q (am_fldD a).1) && Nat.beq b (am_fldD a).2.2) = true := hq
    simp only [Bool.and_eq_true] at hq
    obtain ⟨⟨⟨b1, b9⟩, hl1⟩, hl2⟩ := hq
    have b1 := Nat.le_of_ble_eq_true b1
    have b9 := Nat.le_of_ble_eq_true b9
    have hbN := Nat.eq_of_beq_eq_true hl2
    obtain ⟨hn1, he1⟩ := am_cond_inv he
    clear he
    have he := he1
    clear he1
    have hn1 := Nat.le_of_ble_eq_true hn1
    have hokk : am_okk (a, b) := Or.inl ⟨b1, b9, hbN⟩
    have hMx := am_Mex n _ _ _ _ _ _ _ he
    have hM1 : h.2.2.1 + 1 ≤ hf.2.2.1 := hMx.1
    have hM2 : h.2.2.2 + b ≤ hf.2.2.2 := hMx.2.1
    have nxt : ∀ (q1 : Nat) (H1 : Heap), va_P G vwCl (am_ws cA (am_adN ad (h.2.1.2.2 + 1) q1) (am_new h a (b))) H1 → va_D A (am_ws cA (am_adN ad (h.2.1.2.2 + 1) q1) (am_new h a (b))) → va_S A s.heap H1 locs → W p l e R s m args below meth c H1 locs (h.2.2.1 - c0 + 1) (h.2.2.2 - s0 + (b)) Q (F0 m (pc + 3) Ls (.ref q1 :: st.map (am_cv ad))) := fun q1 H1 k1 k2 k3 => by
      have had : ∀ q, q ≤ h.2.1.2.2 → am_adN ad (h.2.1.2.2 + 1) q1 q = ad q := fun q hq => am_adN_ne (by omega)
      have had2 : ∀ q, 1000 < q → am_adN ad (h.2.1.2.2 + 1) q1 q = ad q := fun q hq => am_adN_ne (by omega)
      have hle : h.2.1.2.2 ≤ (am_new h a (b)).2.1.2.2 := Nat.le_succ _
      have := IH (i + 1) ls (.ref (h.2.1.2.2 + 1) :: st) (am_new h a (b)) (am_adN ad (h.2.1.2.2 + 1) q1) H1 locs Ls he ⟨k1, k2, k3, am_gd_new hg hokk hn1⟩ (hl.ad had had2 hvl) (hvl.le hle) (am_vs.cons (Or.inl (Nat.le_refl _)) (hst.le hle)) (hE ad _ h.2.1.2.2 hn hEad had) (Nat.le_succ_of_le hn) (Nat.le_succ_of_le hc0) (Nat.le_trans hs0 (Nat.le_add_right _ _))
      rw [hnx rfl, List.map_cons, am_cvs_eq had had2 hst, show am_cv (am_adN ad (h.2.1.2.2 + 1) q1) (.ref (h.2.1.2.2 + 1)) = .ref q1 by show va_rf _ = _; rw [am_adN_eq]; rfl] at this
      have e1 : (am_new h a (b)).2.2.1 - c0 = h.2.2.1 - c0 + 1 := by show h.2.2.1 + 1 - c0 = _; omega
      have e2 : (am_new h a (b)).2.2.2 - s0 = h.2.2.2 - s0 + (b) := by show h.2.2.2 + (b) - s0 = _; omega
      rw [e1, e2] at this
      exact this
    
    refine va_new hx hb hts (am_cl_in b1 b9) (am_tyD a) (am_ty_ok b1 b9) hown (hts _ (am_lw_in hl1 rfl)) (hts _ (am_inst_ok b1 b9)) (hts _ (am_init_ok b1 b9)) hK hP hD hS hA (am_cl_at b1 b9) (fs := (List.range b).map fun j => defaultValue (am_tyD a j)) (fun j hj => ?_) (by omega) (by rw [← hbN]; omega) hd (fun q1 H1 k1 k2 k3 => ?_)
    · unfold vp_V
      rw [List.getD_eq_getElem?_getD, List.getElem?_map, List.getElem?_range (by rw [hbN]; exact hj)]
      rfl
    · have hws : am_ws cA (am_adN ad (h.2.1.2.2 + 1) q1) (am_new h a b) = am_ws cA ad h ++ [(q1, .inr (a - 1, (List.range b).map fun j => defaultValue (am_tyD a j)))] := by
        rw [am_ws_new hg hn1, am_ce_obj (b := a) (by rw [am_S_new_eq]) b9, am_S_new_eq, am_fields_new hg b1 b9 (by rw [hbN]; exact Nat.le_refl _)]
      rw [← hbN]
      exact nxt q1 H1 (by rw [hws]; exact k1) (by rw [hws]; exact k2) k3
  case newarray t =>
    have hlen : len = 2 := hlen
    subst hlen
    obtain ⟨x1, r, rfl, he1⟩ := am_i1_inv he
    clear he
    have he := he1
    clear he1
    obtain ⟨hx0, he1⟩ := am_ite_inv he
    clear he
    have he := he1
    clear he1
    obtain ⟨hx2, he1⟩ := am_ite_inv he
    clear he
    have he := he1
    clear he1
    obtain ⟨hn1, he1⟩ := am_cond_inv he
    clear he
    have he := he1
    clear he1
    have hn1 := Nat.le_of_ble_eq_true hn1
    have hokk : am_okk (a, x1.toNatClampNeg) := by
      have hq : am_chx k pc (.newarray t) a b cc w x = true := hq
      unfold am_chx at hq
      dsimp only at hq
      cases t <;> first | exact Or.inr (Or.inl (Nat.eq_of_beq_eq_true hq)) | exact Or.inr (Or.inr (Or.inl (Nat.eq_of_beq_eq_true hq))) | exact Or.inr (Or.inr (Or.inr (Or.inl (Nat.eq_of_beq_eq_true hq)))) | cases hq
    have hMx := am_Mex n _ _ _ _ _ _ _ he
    have hM1 : h.2.2.1 + 1 ≤ hf.2.2.1 := hMx.1
    have hM2 : h.2.2.2 + x1.toNatClampNeg ≤ hf.2.2.2 := hMx.2.1
    have nxt : ∀ (q1 : Nat) (H1 : Heap), va_P G vwCl (am_ws cA (am_adN ad (h.2.1.2.2 + 1) q1) (am_new h a (x1.toNatClampNeg))) H1 → va_D A (am_ws cA (am_adN ad (h.2.1.2.2 + 1) q1) (am_new h a (x1.toNatClampNeg))) → va_S A s.heap H1 locs → W p l e R s m args below meth c H1 locs (h.2.2.1 - c0 + 1) (h.2.2.2 - s0 + (x1.toNatClampNeg)) Q (F0 m (pc + 2) Ls (.ref q1 :: r.map (am_cv ad))) := fun q1 H1 k1 k2 k3 => by
      have had : ∀ q, q ≤ h.2.1.2.2 → am_adN ad (h.2.1.2.2 + 1) q1 q = ad q := fun q hq => am_adN_ne (by omega)
      have had2 : ∀ q, 1000 < q → am_adN ad (h.2.1.2.2 + 1) q1 q = ad q := fun q hq => am_adN_ne (by omega)
      have hle : h.2.1.2.2 ≤ (am_new h a (x1.toNatClampNeg)).2.1.2.2 := Nat.le_succ _
      have := IH (i + 1) ls (.ref (h.2.1.2.2 + 1) :: r) (am_new h a (x1.toNatClampNeg)) (am_adN ad (h.2.1.2.2 + 1) q1) H1 locs Ls he ⟨k1, k2, k3, am_gd_new hg hokk hn1⟩ (hl.ad had had2 hvl) (hvl.le hle) (am_vs.cons (Or.inl (Nat.le_refl _)) (hst.tl.le hle)) (hE ad _ h.2.1.2.2 hn hEad had) (Nat.le_succ_of_le hn) (Nat.le_succ_of_le hc0) (Nat.le_trans hs0 (Nat.le_add_right _ _))
      rw [hnx rfl, List.map_cons, am_cvs_eq had had2 hst.tl, show am_cv (am_adN ad (h.2.1.2.2 + 1) q1) (.ref (h.2.1.2.2 + 1)) = .ref q1 by show va_rf _ = _; rw [am_adN_eq]; rfl] at this
      have e1 : (am_new h a (x1.toNatClampNeg)).2.2.1 - c0 = h.2.2.1 - c0 + 1 := by show h.2.2.1 + 1 - c0 = _; omega
      have e2 : (am_new h a (x1.toNatClampNeg)).2.2.2 - s0 = h.2.2.2 - s0 + (x1.toNatClampNeg) := by show h.2.2.2 + (x1.toNatClampNeg) - s0 = _; omega
      rw [e1, e2] at this
      exact this
    
    rw [List.map_cons]
    have hq : am_chx k pc (.newarray t) a b cc w x = true := hq
    unfold am_chx at hq
    dsimp only at hq
    have fit : ∀ (ty : FieldType) (t0 : Nat) (cA1 : ClassId), (am_tys cA)[t0]? = some (cA t0, ty) → va_K G vwCl (am_tys cA ++ [(cA1, ty)]) s → (∀ C, ty ≠ .object C) → cA1 = cA t0 := fun ty t0 cA1 h1 h2 h3 => by
      have q1 := (h2.2 4 (cA1, ty) rfl).2
      have q2 := (hK.2 t0 _ h1).2
      have e : ∀ {z : ClassId}, va_RA s z ty → s.vm.findClass ("[" ++ ty.toString) = some z := fun {z} hz => by
        cases ty <;> first | exact hz | exact absurd rfl (h3 _)
      exact Option.some.inj ((e q1).symm.trans (e q2))
    cases t <;> first
      | (cases hq; done)
      | skip
    · have ha : a = 21 := Nat.eq_of_beq_eq_true hq
      subst ha
      refine va_newa (atype := .boolean) hx hb (hts _ am_arr_ok.2.1) (ty := .boolean) rfl hK hP hD hS hA (a0 := (x1.toNatClampNeg, .inl (fun _ => 0))) (fun cA1 => rfl) hx0 rfl (by show x1.toNatClampNeg * 1 ≤ 536870912; omega) (by omega) (by omega) hd (fun q1 cA1 H1 k0 k1 k2 k3 => ?_)
      have hcA := fit .boolean 1 cA1 rfl k0 (fun C z => by cases z)
      have hws : am_ws cA (am_adN ad (h.2.1.2.2 + 1) q1) (am_new h 21 x1.toNatClampNeg) = am_ws cA ad h ++ [(q1, .inl (cA1, x1.toNatClampNeg, .inl (fun _ => 0)))] := by
        rw [am_ws_new hg hn1, am_ce_21 (by rw [am_S_new_eq]), am_S_new_eq, hcA, am_newI]
      exact nxt q1 H1 (by rw [hws]; exact k1) (by rw [hws]; exact k2) k3
    · have ha : a = 20 := Nat.eq_of_beq_eq_true hq
      subst ha
      refine va_newa (atype := .int) hx hb (hts _ am_arr_ok.1) (ty := .int) rfl hK hP hD hS hA (a0 := (x1.toNatClampNeg, .inl (fun _ => 0))) (fun cA1 => rfl) hx0 rfl (by show x1.toNatClampNeg * 4 ≤ 536870912; omega) (by omega) (by omega) hd (fun q1 cA1 H1 k0 k1 k2 k3 => ?_)
      have hcA := fit .int 0 cA1 rfl k0 (fun C z => by cases z)
      have hws : am_ws cA (am_adN ad (h.2.1.2.2 + 1) q1) (am_new h 20 x1.toNatClampNeg) = am_ws cA ad h ++ [(q1, .inl (cA1, x1.toNatClampNeg, .inl (fun _ => 0)))] := by
        rw [am_ws_new hg hn1, am_ce_20 (by rw [am_S_new_eq]), am_S_new_eq, hcA, am_newI]
      exact nxt q1 H1 (by rw [hws]; exact k1) (by rw [hws]; exact k2) k3
    · have ha : a = 22 := Nat.eq_of_beq_eq_true hq
      subst ha
      refine va_newa (atype := .long) hx hb (hts _ am_arr_ok.2.2) (ty := .long) rfl hK hP hD hS hA (a0 := (x1.toNatClampNeg, .inr (.inl (fun _ => 0)))) (fun cA1 => rfl) hx0 rfl (by show x1.toNatClampNeg * 8 ≤ 536870912; omega) (by omega) (by omega) hd (fun q1 cA1 H1 k0 k1 k2 k3 => ?_)
      have hcA := fit .long 2 cA1 rfl k0 (fun C z => by cases z)
      have hws : am_ws cA (am_adN ad (h.2.1.2.2 + 1) q1) (am_new h 22 x1.toNatClampNeg) = am_ws cA ad h ++ [(q1, .inl (cA1, x1.toNatClampNeg, .inr (.inl (fun _ => 0))))] := by
        rw [am_ws_new hg hn1, am_ce_22 (by rw [am_S_new_eq]), am_S_new_eq, hcA, am_newJ]
      exact nxt q1 H1 (by rw [hws]; exact k1) (by rw [hws]; exact k2) k3
  case anewarray q =>
    have hlen : len = 3 := hlen
    subst hlen
    have hq : (Nat.beq a 23 && am_lw w (.classLink (am_own k) q "ScanChart$Op")) = true := hq
    simp only [Bool.and_eq_true] at hq
    have ha : a = 23 := Nat.eq_of_beq_eq_true hq.1
    subst ha
    obtain ⟨x1, r, rfl, he1⟩ := am_i1_inv he
    clear he
    have he := he1
    clear he1
    obtain ⟨hx0, he1⟩ := am_ite_inv he
    clear he
    have he := he1
    clear he1
    obtain ⟨hx2, he1⟩ := am_ite_inv he
    clear he
    have he := he1
    clear he1
    obtain ⟨hn1, he1⟩ := am_cond_inv he
    clear he
    have he := he1
    clear he1
    have hn1 := Nat.le_of_ble_eq_true hn1
    have hokk : am_okk (23, x1.toNatClampNeg) := Or.inr (Or.inr (Or.inr (Or.inr rfl)))
    have hMx := am_Mex n _ _ _ _ _ _ _ he
    have hM1 : h.2.2.1 + 1 ≤ hf.2.2.1 := hMx.1
    have hM2 : h.2.2.2 + x1.toNatClampNeg ≤ hf.2.2.2 := hMx.2.1
    have nxt : ∀ (q1 : Nat) (H1 : Heap), va_P G vwCl (am_ws cA (am_adN ad (h.2.1.2.2 + 1) q1) (am_new h 23 (x1.toNatClampNeg))) H1 → va_D A (am_ws cA (am_adN ad (h.2.1.2.2 + 1) q1) (am_new h 23 (x1.toNatClampNeg))) → va_S A s.heap H1 locs → W p l e R s m args below meth c H1 locs (h.2.2.1 - c0 + 1) (h.2.2.2 - s0 + (x1.toNatClampNeg)) Q (F0 m (pc + 3) Ls (.ref q1 :: r.map (am_cv ad))) := fun q1 H1 k1 k2 k3 => by
      have had : ∀ q, q ≤ h.2.1.2.2 → am_adN ad (h.2.1.2.2 + 1) q1 q = ad q := fun q hq => am_adN_ne (by omega)
      have had2 : ∀ q, 1000 < q → am_adN ad (h.2.1.2.2 + 1) q1 q = ad q := fun q hq => am_adN_ne (by omega)
      have hle : h.2.1.2.2 ≤ (am_new h 23 (x1.toNatClampNeg)).2.1.2.2 := Nat.le_succ _
      have := IH (i + 1) ls (.ref (h.2.1.2.2 + 1) :: r) (am_new h 23 (x1.toNatClampNeg)) (am_adN ad (h.2.1.2.2 + 1) q1) H1 locs Ls he ⟨k1, k2, k3, am_gd_new hg hokk hn1⟩ (hl.ad had had2 hvl) (hvl.le hle) (am_vs.cons (Or.inl (Nat.le_refl _)) (hst.tl.le hle)) (hE ad _ h.2.1.2.2 hn hEad had) (Nat.le_succ_of_le hn) (Nat.le_succ_of_le hc0) (Nat.le_trans hs0 (Nat.le_add_right _ _))
      rw [hnx rfl, List.map_cons, am_cvs_eq had had2 hst.tl, show am_cv (am_adN ad (h.2.1.2.2 + 1) q1) (.ref (h.2.1.2.2 + 1)) = .ref q1 by show va_rf _ = _; rw [am_adN_eq]; rfl] at this
      have e1 : (am_new h 23 (x1.toNatClampNeg)).2.2.1 - c0 = h.2.2.1 - c0 + 1 := by show h.2.2.1 + 1 - c0 = _; omega
      have e2 : (am_new h 23 (x1.toNatClampNeg)).2.2.2 - s0 = h.2.2.2 - s0 + (x1.toNatClampNeg) := by show h.2.2.2 + (x1.toNatClampNeg) - s0 = _; omega
      rw [e1, e2] at this
      exact this
    
    rw [List.map_cons]
    refine va_newq hx hb hown (hts _ (am_lw_in hq.2 rfl)) hC.2.2.2.2.2.2.2.2.2.2.2 hK hP hD hS hA hx0 rfl (by omega) (by omega) (by omega) hd (fun q1 cA1 H1 k0 k1 k2 k3 => ?_)
    have hcA : cA1 = cA 3 := by
      obtain ⟨-, _, _, -, -, -, e1⟩ := k0.2 4 (cA1, .object "ScanChart$Op") rfl
      obtain ⟨-, _, _, -, -, -, e2⟩ := hK.2 3 (cA 3, .object "ScanChart$Op") rfl
      exact Option.some.inj (e1.symm.trans e2)
    have hws : am_ws cA (am_adN ad (h.2.1.2.2 + 1) q1) (am_new h 23 x1.toNatClampNeg) = am_ws cA ad h ++ [(q1, .inl (cA1, x1.toNatClampNeg, .inr (.inr (.inr (.inr (fun _ => none))))))] := by
      rw [am_ws_new hg hn1, am_ce_23 (by rw [am_S_new_eq]), am_S_new_eq, hcA, am_newT hg]
    exact nxt q1 H1 (by rw [hws]; exact k1) (by rw [hws]; exact k2) k3
  all_goals cases he
end AMS
end
section
/-! SOUNDNESS OF CALLS, and the contract of every method. -/
def am_tcode (t : Option FieldType) : Nat := match t with
  | none => 0
  | some .int => 1
  | some .long => 2
  | some .boolean => 4
  | some .char => 5
  | some .byte => 6
  | some (.object _) => 3
  | _ => 9
theorem am_tcode_0 {t : Option FieldType} (h : am_tcode t = 0) : t = none := by
  cases t with
  | none => rfl
  | some z => cases z <;> cases h
def am_mok (a : Nat) : Bool := decide ((am_y a).cls ≠ "") && decide ((am_y a).cls ≠ "java/lang/invoke/MethodHandle") && decide ((am_y a).cls ≠ "java/lang/invoke/VarHandle") && decide (am_tcode (am_rty a) = am_rt a) && plainFor (am_y a)
theorem am_mok_all : (List.range 179).all am_mok = true := by decide +kernel
theorem am_mok_at {a : Nat} (h : a < 179) : (am_y a).cls ≠ "" ∧ (am_y a).cls ≠ "java/lang/invoke/MethodHandle" ∧ (am_y a).cls ≠ "java/lang/invoke/VarHandle" ∧ am_tcode (am_rty a) = am_rt a ∧ plainFor (am_y a) = true := by
  have := List.all_eq_true.mp am_mok_all a (List.mem_range.mpr h)
  unfold am_mok at this
  simp only [Bool.and_eq_true, decide_eq_true_eq] at this
  exact ⟨this.1.1.1.1, this.1.1.1.2, this.1.1.2, this.1.2, this.2⟩
theorem am_ord_ok : Cond.sameMethod "ScanChart$Op" "java/lang/Enum" "ordinal" "()I" ∈ am_good ∧ Cond.selects "ScanChart$Op" ⟨"ScanChart$Op", "ordinal", "()I"⟩ (am_y 161) ∈ am_good ∧ Cond.instanceMethod (am_y 161) ∈ am_good ∧ Cond.initialized (am_y 161).cls ∈ am_good := ⟨am_good_in (List.mem_of_getElem? (i := 854) (by decide +kernel)) rfl, am_good_in (List.mem_of_getElem? (i := 856) (by decide +kernel)) rfl, am_good_in (List.mem_of_getElem? (i := 857) (by decide +kernel)) rfl, am_good_in (List.mem_of_getElem? (i := 99) (by decide +kernel)) rfl⟩
def am_sp1 (m i : Nat) : Bool := match am_ins m i with
  | (ir, _, _, c) => match ir with
    | .invokespecial _ => Nat.beq c 99 || Nat.ble c 9
    | _ => true
def am_spp (m : Nat) : Bool := (List.range (16 * (am_cc m).length)).all (am_sp1 m)
theorem am_sp_all : (List.range 180).all am_spp = true := by decide +kernel
theorem am_sp {k : Nat} (hk : k < 180) (i : Nat) : am_sp1 k i = true := by
  by_cases h : i < 16 * (am_cc k).length
  · exact List.all_eq_true.mp (List.all_eq_true.mp am_sp_all k (List.mem_range.mpr hk)) i (List.mem_range.mpr h)
  · have e : am_ins k i = (.nop, 0, 0, 0) := by
      show (((am_cc k).getD (i / 16) []).getD (i % 16) (.nop, 0, 0, 0)) = _
      rw [show (am_cc k).getD (i / 16) [] = [] by rw [List.getD_eq_getElem?_getD, List.getElem?_eq_none (by omega)]; rfl]
      rfl
    unfold am_sp1
    rw [e]
theorem am_kcl_9 {c : Nat} (h1 : 1 ≤ c) (h9 : c ≤ 9) : am_kcl c ≠ "" := am_cases9 (P := fun c => am_kcl c ≠ "") (by decide +kernel) (by decide +kernel) (by decide +kernel) (by decide +kernel) (by decide +kernel) (by decide +kernel) (by decide +kernel) (by decide +kernel) (by decide +kernel) h1 h9
theorem am_kcl_big {c : Nat} (h : am_kcl c ≠ "") : 1 ≤ c ∧ c ≤ 9 ∨ c = 30 ∨ c = 31 ∨ c = 0 := by
  by_cases h1 : c = 30
  · exact Or.inr (Or.inl h1)
  · by_cases h2 : c = 31
    · exact Or.inr (Or.inr (Or.inl h2))
    · by_cases h3 : c ≤ 9
      · omega
      · exfalso
        apply h
        unfold am_kcl am_fldD
        rw [am_nbeq h1, am_nbeq h2, cond_false, cond_false, List.getD_eq_getElem?_getD, List.getElem?_eq_none (by show 9 ≤ c - 1; omega)]
        rfl
theorem am_back_inv {t : Nat} {r : Value} {rest : List Value} {k : List Value → am_R} {z : Value × am_H} (he : am_back t r rest k = some z) {n : Nat} (hr : am_vd n r) (hv : am_vs n rest) : ∃ r', k r' = some z ∧ am_vs n r' ∧ ∀ ad, r'.map (am_cv ad) = (am_rv t (am_cv ad r)).toList ++ rest.map (am_cv ad) := by
  rcases t with _ | _ | _ | _ | t
  · exact ⟨rest, he, hv, fun _ => rfl⟩
  · obtain ⟨x, rfl, he⟩ := am_vI_inv he
    exact ⟨_, he, am_vs.cons trivial hv, fun _ => rfl⟩
  · obtain ⟨x, rfl, he⟩ := am_vJ_inv he
    exact ⟨_, he, am_vs.cons trivial hv, fun _ => rfl⟩
  · obtain ⟨x, rfl, he⟩ := am_vR_inv he
    exact ⟨_, he, am_vs.cons hr hv, fun _ => rfl⟩
  · obtain ⟨x, rfl, he⟩ := am_vI_inv he
    exact ⟨_, he, am_vs.cons trivial hv, fun _ => rfl⟩
theorem am_cat_le {n : Nat} : ∀ {l : List Value}, am_vs n l → (l.map fun v => v.category).sum ≤ 2 * l.length
  | [], _ => Nat.le_refl _
  | v :: l, h => by
    have ih := am_cat_le (l := l) h.tl
    have h1 : v.category ≤ 2 := by rcases lv_cat v with z | z <;> omega
    simp only [List.map_cons, List.sum_cons, List.length_cons]
    omega
theorem am_sum_cv (ad : Nat → Option Nat) (l : List Value) : ((l.map (am_cv ad)).map fun v => v.category).sum = (l.map fun v => v.category).sum := by
  congr 1
  rw [List.map_map]
  exact List.map_congr_left fun v _ => am_cv_cat ad v
section AMS
variable {p : Program} {l : Launch} {e : Env} {R : Room} {s : State} {m : MethodId} {args : Array Value} {below : List Frame} {meth : Method} {c : Code} {Q : State → Prop}
/-- what a callee asks at the call -/
theorem am_pre {G : va_G} {cA : Nat → ClassId} {L : Nat} {xs : Nat → Int32} {adc ad : Nat → Option Nat} {A : Nat → Prop} {h : am_H} {H : Heap} {locs : List Loc} {as : List Value} (hfx : am_Fx G cA L xs adc A s) (hw : am_Wd G cA L xs adc A s ad h H locs) : (∀ q, va_A (am_ws cA ad h) H.size q → A q) ∧ ∀ U : State, U.heap = H → s.WarmedH U.vm → am_Pc G cA L xs adc ad h H.size as (as.map (am_cv ad)).toArray U := by
  obtain ⟨hK, hC, hA⟩ := hfx
  obtain ⟨hP, hD, hS, hg⟩ := hw
  have hF : ∀ q, va_A (am_ws cA ad h) H.size q → A q := fun q z => by
    rcases z with ⟨k, e, z⟩ | z
    · exact hD.2 k _ z
    · exact hA q (Nat.le_trans hS.1 z)
  refine ⟨hF, fun U hU hW => ⟨rfl, by rw [hU], by rw [hU]; exact hP, va_K.moved hW.alike hK, hD.weaken (fun _ _ _ _ => trivial), ?_⟩⟩
  exact am_Cst.move hC hW (fun a h1 h2 => by rw [hU]; exact hS.2.1 a h1 h2) (by rw [hU]; exact hS.1) (fun q _ z => hF q z)
set_option maxHeartbeats 16000000 in
theorem am_calls {G : va_G} {cA : Nat → ClassId} {L : Nat} {xs : Nat → Int32} {adc : Nat → Option Nat} {A : Nat → Prop} {k : Nat} {E : (Nat → Option Nat) → Prop} {n0 c0 s0 : Nat} {rf : Value} {hf : am_H} {n : Nat} (hk : k < 180) (HM : am_Met l n) (IH : am_G p l e R s m args below meth c Q G cA L xs adc A k E n0 c0 s0 rf hf n) (hcx : am_Ctx p s m args meth c k) (hfx : am_Fx G cA L xs adc A s) (hcc : hf.2.2.1 ≤ c0 + R.cells) (hss : hf.2.2.2 ≤ s0 + R.slots) (hfr : am_fr k ≤ R.frames) (hlo : am_lo k ≤ R.locals) (hE : ∀ (ad ad' : Nat → Option Nat) (N : Nat), n0 ≤ N → E ad → (∀ q, q ≤ N → ad' q = ad q) → E ad') : am_Calls p l e R s m args below meth c Q G cA L xs adc A k E n0 c0 s0 rf hf n := by
  intro i a b cc ir ls st h ad H locs Ls hins hinv hnsp he hw hl hvl hst hEad hn hc0 hs0
  obtain ⟨hx, hb, hml, hown, hts, hini⟩ := id hcx
  obtain ⟨hK, hC, hA⟩ := id hfx
  obtain ⟨hP, hD, hS, hg⟩ := id hw
  have hck := am_ck hk i
  have hrk := am_rk hk i
  unfold am_chk at hck
  unfold am_rk1 at hrk
  have hpc : am_pc k i = (am_lk k i).1 := rfl
  rcases hlk : am_lk k i with ⟨pc, len, w, x⟩
  rw [hins, hlk] at hck
  rw [hins] at hrk
  rw [hlk] at hpc
  dsimp only at hck hpc
  have hnop : ¬ ir = .nop := by
    obtain ⟨z, y | y | y⟩ := hinv <;> rw [y] <;> exact fun q => by cases q
  rw [decide_eq_false hnop, cond_false] at hck
  simp only [Bool.and_eq_true] at hck
  obtain ⟨⟨⟨hd, hlen⟩, hfall⟩, hq⟩ := hck
  replace hd := of_decide_eq_true hd
  replace hlen := Nat.eq_of_beq_eq_true hlen
  have hlen3 : len = 3 := by
    obtain ⟨z, y | y | y⟩ := hinv <;> rw [y] at hlen <;> exact hlen
  subst hlen3
  have hnx : am_pc k (i + 1) = pc + 3 := by
    obtain ⟨z, y | y | y⟩ := hinv <;> rw [y] at hfall <;> exact Nat.eq_of_beq_eq_true (by simpa [am_fall] using hfall)
  rw [hpc]
  unfold am_call at he
  obtain ⟨hb2, he1⟩ := am_cond_inv he
  clear he
  simp only [Bool.and_eq_true] at hb2
  have hbl := Nat.le_of_ble_eq_true hb2.1
  have hrl := Nat.le_of_ble_eq_true hb2.2
  have hrest : am_vs h.2.1.2.2 (st.drop b) := fun v hv => hst v (List.mem_of_mem_drop hv)
  have hsumr : 2 * 0 + (((st.drop b).map (am_cv ad)).map fun v => v.category).sum ≤ 8 := by
    rw [am_sum_cv]
    have := am_cat_le hrest
    omega
  cases h99 : Nat.beq cc 99 with
  | true =>
    rw [h99, cond_true] at he1
    have hc99 := Nat.eq_of_beq_eq_true h99
    subst hc99
    obtain ⟨hb1, he1⟩ := am_cond_inv he1
    have hb1 := Nat.eq_of_beq_eq_true hb1
    subst hb1
    obtain ⟨q1, r, rfl, he⟩ := am_r1_inv he1
    obtain ⟨hkd, he⟩ := am_cond_inv he
    simp only [Bool.and_eq_true] at hkd
    have k1 := Nat.le_of_ble_eq_true hkd.1
    have k2 := Nat.le_of_ble_eq_true hkd.2
    obtain ⟨ao, hao, z1, z2, hws⟩ := am_at (cA := cA) hg (q := q1) k1 (by omega)
    have hcv : am_cv ad (.ref q1) = .ref ao := by show va_rf (ad q1) = _; rw [hao]; rfl
    obtain ⟨z, y | y | y⟩ := hinv
    · subst y
      exfalso
      skip
      have hq : (am_lw w (.methodLink (am_own k) z (am_y a)) && Nat.blt a 179 && am_vok a 1 99) = true := hq
      simp only [Bool.and_eq_true] at hq
      have ha := Nat.le_of_ble_eq_true hq.1.2
      have hv := hq.2
      unfold am_vok at hv
      simp only [Bool.and_eq_true, decide_eq_true_eq] at hv
      have := am_kcl_big (c := 99) (by rw [← hv.1.1.1.1.1.1]; exact (am_mok_at ha).1)
      omega
    · subst y
      have hq : am_lw w (.methodLink (am_own k) z Lib.objectInit) = true := hq
      have hrk : (Nat.ble 1 (am_fr k) && Nat.ble 20 (am_lo k)) = true := hrk
      simp only [Bool.and_eq_true] at hrk
      have f1 := Nat.le_of_ble_eq_true hrk.1
      have f2 := Nat.le_of_ble_eq_true hrk.2
      have ht := hnx ▸ IH (i + 1) ls r h ad H locs Ls he hw hl hvl hst.tl hEad hn hc0 hs0
      rw [List.map_cons, hcv]
      have hsum2 : ((r.map (am_cv ad)).map fun v => v.category).sum ≤ 8 := by
        have := hsumr
        rw [Nat.mul_zero, Nat.zero_add] at this
        exact this
      exact W.objInit hx hb hown (hts _ (am_lw_in hq rfl)) (hts _ am_objInit_ok.1) (hts _ am_objInit_ok.2) rfl (hl.1.trans hml.symm) rfl hd (by omega) (by show 2 * 0 + _ + 12 ≤ _; omega) ht
    · subst y
      exfalso
      have hq : (Nat.beq 99 0 && am_cl k z a w x && Nat.blt a 179 && am_sok a 1) = true := hq
      simp only [Bool.and_eq_true] at hq
      exact absurd hq.1.1.1 (by decide)
  | false =>
    rw [h99, cond_false, am_nbeq (fun z => hnsp (Or.inr z)), cond_false, am_nbeq (fun z => hnsp (Or.inl z)), cond_false] at he1
    obtain ⟨he2, hrecv⟩ := am_recv_inv he1
    obtain ⟨hexp, ⟨r, h1⟩, hr, he3⟩ := am_run_inv he2
    clear he1 he2
    have hcc99 : cc ≠ 99 := fun z => by rw [z] at h99; cases h99
    have hcc98 : cc ≠ 98 := fun z => hnsp (Or.inr z)
    have hcc97 : cc ≠ 97 := fun z => hnsp (Or.inl z)
    have has : am_vs h.2.1.2.2 (st.take b).reverse := fun v hv => hst v (List.mem_of_mem_take (List.mem_reverse.mp hv))
    obtain ⟨hA', hU⟩ := am_pre (as := (st.take b).reverse) hfx hw
    have hMx := am_Mex n _ _ _ _ _ _ _ hr
    have hM1 : h.2.2.1 ≤ h1.2.2.1 := hMx.1
    have hM2 : h.2.2.2 ≤ h1.2.2.2 := hMx.2.1
    have hM3 : h.2.1.2.2 ≤ h1.2.1.2.2 := hMx.2.2
    have hM4 : h1.2.2.1 ≤ hf.2.2.1 ∧ h1.2.2.2 ≤ hf.2.2.2 := by
      have := am_Mback (h := h1) (t := am_rt a) (v := r) (r := st.drop b) (k := fun r => am_ex n k (i + 1) ls r h1) (fun x => am_Mex n _ _ _ _ _) rf hf he3
      exact ⟨this.1, this.2.1⟩
    have hfit : (h.2.2.1 - c0) + (h1.2.2.1 - h.2.2.1) ≤ R.cells ∧ (h.2.2.2 - s0) + (h1.2.2.2 - h.2.2.2) ≤ R.slots := by omega
    have hstk : st.map (am_cv ad) = ((st.take b).reverse.map (am_cv ad)).reverse ++ (st.drop b).map (am_cv ad) := by
      rw [← List.map_reverse, List.reverse_reverse, ← List.map_append, List.take_append_drop]
    have hlenas : (st.take b).reverse.length = b := by rw [List.length_reverse, List.length_take]; omega
    have done : ∀ (av : Array Value) (st0 : List Value), va_Run p l e R s m args below meth c H locs (h.2.2.1 - c0) (h.2.2.2 - s0) (h1.2.2.1 - h.2.2.1) (h1.2.2.2 - h.2.2.2) (F0 m pc Ls st0) ((st.drop b).map (am_cv ad)) (am_Qc G cA L xs adc ad h h1 H.size a r av) (va_A (am_ws cA ad h) H.size) → W p l e R s m args below meth c H locs (h.2.2.1 - c0) (h.2.2.2 - s0) Q (F0 m pc Ls st0) := fun av st0 hrun => by
      refine am_after hrun hA' hS (fun ad' H1 locs1 hw' had hvd => ?_)
      obtain ⟨r', k1, k2, k3⟩ := am_back_inv he3 hvd (hrest.le hM3)
      have had2 : ∀ q, 1000 < q → ad' q = ad q := fun q hq => (hw'.2.2.2.2.2.2.2.2.2.2.1 q hq).trans (hg.2.2.2.2.2.2.2.1 q hq).symm
      have := IH (i + 1) ls r' h1 ad' H1 locs1 Ls k1 hw' (hl.ad had had2 hvl) (hvl.le hM3) k2 (hE ad ad' h.2.1.2.2 hn hEad had) (Nat.le_trans hn hM3) (Nat.le_trans hc0 hM1) (Nat.le_trans hs0 hM2)
      rw [hnx, k3, am_cvs_eq had had2 hrest] at this
      rw [show h.2.2.1 - c0 + (h1.2.2.1 - h.2.2.1) = h1.2.2.1 - c0 by omega, show h.2.2.2 - s0 + (h1.2.2.2 - h.2.2.2) = h1.2.2.2 - s0 by omega]
      exact this
    have main : ∀ (ha : a < 179), (Nat.ble (am_fr a + 1) (am_fr k) && Nat.ble (8 + (am_nL a + 11) + am_lo a) (am_lo k)) = true → (am_fr a + 1 ≤ R.frames ∧ 8 + (am_nL a + 11) + am_lo a ≤ R.locals) ∧ Met l (am_y a) (am_wsm a) (am_rm a h h1) (am_Pc G cA L xs adc ad h H.size (st.take b).reverse) (am_Qc G cA L xs adc ad h h1 H.size a r) (h1.2.2.1 - h.2.2.1) (h1.2.2.2 - h.2.2.2) (va_A (am_ws cA ad h) H.size) := fun ha hroom => by
      simp only [Bool.and_eq_true] at hroom
      have f1 := Nat.le_of_ble_eq_true hroom.1
      have f2 := Nat.le_of_ble_eq_true hroom.2
      exact ⟨⟨by omega, by omega⟩, HM a _ h h1 r ha hr hexp has G cA L xs adc ad H.size hg⟩
    have hroom0 : ∀ z, (ir = .invokevirtual z ∨ ir = .invokespecial z ∨ ir = .invokestatic z) → (Nat.ble (am_fr a + 1) (am_fr k) && Nat.ble (8 + (am_nL a + 11) + am_lo a) (am_lo k)) = true := fun z hz => by
      rcases hz with y | y | y <;> subst y <;> dsimp only at hrk
      · rwa [am_nbeq hcc98, cond_false] at hrk
      · rwa [am_nbeq hcc99, cond_false] at hrk
      · rwa [am_nbeq hcc98, cond_false] at hrk
    have hsz : (F0 m pc Ls (st.map (am_cv ad))).locals.size = am_nL k := hl.1
    rw [hstk]
    -- the receiver
    have recv : ∀ (q : Nat) (as' : List Value), (st.take b).reverse = .ref q :: as' → (am_S h q).1 = cc → am_kcl cc ≠ "" → cc ≠ 0 → ∃ b0, (st.take b).reverse.map (am_cv ad) = .ref b0 :: as'.map (am_cv ad) ∧ ∃ cellB : Cell, H[b0]? = some cellB ∧ cellB.vm.isStatics = false ∧ s.vm.findClass (am_kcl cc) = some cellB.cls := fun q as' e1 e2 e3 e4 => by
      rcases am_kcl_big e3 with ⟨z1, z2⟩ | z | z | z
      · obtain ⟨ao, hao, y1, y2, hws⟩ := am_at (cA := cA) hg (q := q) (by omega) (by omega)
        rw [am_ce_obj e2 z2] at hws
        refine ⟨ao, by rw [e1, List.map_cons]; congr 1; show va_rf (ad q) = _; rw [hao]; rfl, ?_⟩
        have := va_recv hK hP (am_cl_at z1 z2) hws
        rwa [show am_kcl cc = (am_fldD cc).1 by unfold am_kcl; rw [am_nbeq (by omega), am_nbeq (by omega)]; rfl]
      · obtain ⟨hS0, hbig⟩ := am_dead hg (q := q) (by omega)
        obtain ⟨-, a0, y1, y2, -⟩ := hC.1 q (by rw [← hS0, e2]; exact z)
        obtain ⟨cell, g1, g2, g3, -⟩ := y2.kept hS.2.1
        exact ⟨a0, by rw [e1, List.map_cons]; congr 1; show va_rf (ad q) = _; rw [hg.2.2.2.2.2.2.2.1 q hbig, y1]; rfl, cell, g1, g2, by rw [z]; exact g3⟩
      · obtain ⟨hS0, hbig⟩ := am_dead hg (q := q) (by omega)
        obtain ⟨-, a0, y1, y2, -⟩ := hC.2.2.1 q (by rw [← hS0, e2]; exact z)
        obtain ⟨cell, g1, g2, g3, -⟩ := y2.kept hS.2.1
        exact ⟨a0, by rw [e1, List.map_cons]; congr 1; show va_rf (ad q) = _; rw [hg.2.2.2.2.2.2.2.1 q hbig, y1]; rfl, cell, g1, g2, by rw [z]; exact g3⟩
      · exact absurd z e4
    have SF : CallFix p m c (am_bc k) (am_nL k) s args am_good (am_own k) := ⟨hx, hb, hml, hown, hts⟩
    obtain ⟨z, y | y | y⟩ := id hinv
    · have hroom := hroom0 z (Or.inl y)
      subst y
      have hq : cond (Nat.beq cc 30 && Nat.beq a 161) (am_lw w (.methodLink (am_own k) z ⟨"ScanChart$Op", "ordinal", "()I"⟩) && Nat.beq b 1) (am_lw w (.methodLink (am_own k) z (am_y a)) && Nat.blt a 179 && am_vok a b (cond (Nat.beq cc 97) 8 cc)) = true := hq
      cases hord : (Nat.beq cc 30 && Nat.beq a 161) with
      | true =>
        rw [hord, cond_true] at hq
        simp only [Bool.and_eq_true] at hord hq
        obtain ⟨hl1, hb1⟩ := hq
        have hb1 := Nat.eq_of_beq_eq_true hb1
        have hc30 := Nat.eq_of_beq_eq_true hord.1
        have ha := Nat.eq_of_beq_eq_true hord.2
        subst ha
        obtain ⟨⟨R1, R2⟩, hMet⟩ := main (by decide) hroom
        rcases hrecv with y | ⟨q, as', e1, e2⟩
        · omega
        obtain ⟨b0, e3, e4⟩ := recv q as' e1 e2 (by rw [hc30]; decide +kernel) (by omega)
        rw [hc30] at e4
        rw [e3] at hU ⊢
        have hla : (as'.map (am_cv ad)).length = 0 := by
          rw [e1, List.length_cons] at hlenas
          rw [List.length_map]
          omega
        refine done _ _ (va_runU (C := "ScanChart$Op") (owner := "java/lang/Enum") (x := ⟨"ScanChart$Op", "ordinal", "()I"⟩) (ret := am_rty 161) (bytes := am_bc 161) (maxL := am_nL 161) (index := z) (n := 0) SF hMet (va_cwU (ws' := am_good) 0 hts (fun w' hw' => ?_) rfl rfl rfl rfl ⟨by decide, by decide, by decide +kernel⟩ ⟨R1, R2⟩) ⟨am_Pc_blind, e4, hU⟩ rfl hla hsz (by simp) hsumr hd hfit)
        unfold va_wsU at hw'
        rcases List.mem_append.mp hw' with z1 | z1
        · simp only [List.mem_cons, List.not_mem_nil, or_false] at z1
          have : w' ∈ am_good := by
            rcases z1 with z1 | z1 | z1 | z1 | z1 <;> rw [z1]
            · exact am_lw_in hl1 rfl
            · exact am_ord_ok.1
            · exact am_ord_ok.2.1
            · exact am_ord_ok.2.2.1
            · exact am_ord_ok.2.2.2
          exact ⟨this, am_good_word this⟩
        · exact am_wsm_good (by decide) w' z1
      | false =>
        rw [hord, cond_false, am_nbeq hcc97, cond_false] at hq
        simp only [Bool.and_eq_true] at hq
        obtain ⟨⟨hl1, ha⟩, hok⟩ := hq
        have ha := Nat.le_of_ble_eq_true ha
        obtain ⟨⟨R1, R2⟩, hMet⟩ := main ha hroom
        unfold am_vok am_npar at hok
        simp only [Bool.and_eq_true] at hok
        obtain ⟨⟨⟨⟨⟨⟨o1, o2⟩, o3⟩, o4⟩, o5⟩, o6⟩, o7⟩ := hok
        have o1 := of_decide_eq_true o1
        have o2 := Nat.le_of_ble_eq_true o2
        have o3 := of_decide_eq_true o3
        have o7 := Nat.le_of_ble_eq_true o7
        obtain ⟨m1, m2, m3, -, -⟩ := am_mok_at ha
        rcases hrecv with y | ⟨q, as', e1, e2⟩
        · omega
        obtain ⟨b0, e3, e4⟩ := recv q as' e1 e2 (by rw [← o1]; exact m1) (by omega)
        rw [← o1] at e4
        rw [e3] at hU ⊢
        have hla : (as'.map (am_cv ad)).length = b - 1 := by
          rw [e1, List.length_cons] at hlenas
          rw [List.length_map]
          omega
        refine done _ _ (va_runV (C := (am_y a).cls) (ret := am_rty a) (bytes := am_bc a) (maxL := am_nL a) (index := z) (n := b - 1) SF hMet (cwV (ws' := am_good) (b - 1) hts (fun w' hw' => ?_) rfl rfl rfl ⟨rfl, m2, m3, o3⟩ ⟨R1, R2⟩) ⟨am_Pc_blind, e4, hU⟩ rfl hla hsz (by simp) hsumr hd hfit)
        unfold wsV at hw'
        rcases List.mem_append.mp hw' with z1 | z1
        · simp only [List.mem_cons, List.not_mem_nil, or_false] at z1
          have : w' ∈ am_good := by
            rcases z1 with z1 | z1 | z1 | z1 <;> rw [z1]
            · exact am_lw_in hl1 rfl
            · exact am_lw_in o4 rfl
            · exact am_lw_in o5 rfl
            · exact am_lw_in o6 rfl
          exact ⟨this, am_good_word this⟩
        · exact am_wsm_good ha w' z1
    · have hroom := hroom0 z (Or.inr (Or.inl y))
      subst y
      have hq : cond (Nat.beq cc 99) (am_lw w (.methodLink (am_own k) z Lib.objectInit)) (am_cl k z a w x && Nat.blt a 179 && am_iok a b cc) = true := hq
      rw [h99, cond_false] at hq
      simp only [Bool.and_eq_true] at hq
      obtain ⟨⟨hcl, ha⟩, hok⟩ := hq
      have ha := Nat.le_of_ble_eq_true ha
      obtain ⟨⟨R1, R2⟩, hMet⟩ := main ha hroom
      unfold am_iok am_npar at hok
      simp only [Bool.and_eq_true] at hok
      obtain ⟨⟨⟨⟨⟨⟨o1, o2⟩, o7⟩, o3⟩, o4⟩, o6⟩, o8⟩ := hok
      have o1 := of_decide_eq_true o1
      have o2 := Nat.le_of_ble_eq_true o2
      have o3 := of_decide_eq_true o3
      have o7 := Nat.le_of_ble_eq_true o7
      have o8 := Nat.eq_of_beq_eq_true o8
      obtain ⟨m1, m2, m3, m4, -⟩ := am_mok_at ha
      have hret : am_rty a = none := am_tcode_0 (m4.trans o8)
      have hsp9 := am_sp hk i
      unfold am_sp1 at hsp9
      rw [hins] at hsp9
      have hsp9 : (Nat.beq cc 99 || Nat.ble cc 9) = true := hsp9
      rw [h99, Bool.false_or] at hsp9
      have hc9 := Nat.le_of_ble_eq_true hsp9
      rcases hrecv with y | ⟨q, as', e1, e2⟩
      · omega
      obtain ⟨b0, e3, -⟩ := recv q as' e1 e2 (am_kcl_9 o7 hc9) (by omega)
      rw [e3] at hU ⊢
      have hla : (as'.map (am_cv ad)).length = b - 1 := by
        rw [e1, List.length_cons] at hlenas
        rw [List.length_map]
        omega
      have hwse : am_wsm a = Cond.code (am_y a) (am_bc a) (am_nL a) none :: am_good := by unfold am_wsm; rw [hret]
      refine done (Value.ref b0 :: as'.map (am_cv ad)).toArray _ ?_
      unfold am_cl at hcl
      split at hcl
      · exact va_runI (bytes := am_bc a) (maxL := am_nL a) (index := z) (n := b - 1) SF hMet (cwI (b - 1) hts (am_wsm_good ha) hwse rfl rfl (hts _ (am_lw_in o6 rfl)) (hts _ (am_lw_in hcl rfl)) (hts _ (am_lw_in o4 rfl)) o1 ⟨m2, m3, o3⟩ ⟨R1, R2⟩) ⟨am_Pc_blind, hU⟩ rfl hla hsz (by simp) hsumr hd hfit
      · have hnest := hC.2.2.2.2.2.2.2.2.2.1 _ (List.mem_of_getElem? (of_decide_eq_true hcl))
        exact va_runIN (bytes := am_bc a) (maxL := am_nL a) (index := z) (n := b - 1) SF hMet ⟨va_cnB (b - 1) hts (am_wsm_good ha) hwse rfl rfl hnest (hts _ (am_lw_in o6 rfl)) ⟨m2, m3, o3⟩ ⟨R1, R2⟩, o1, hts _ (am_lw_in o4 rfl)⟩ ⟨am_Pc_blind, hU⟩ rfl hla hsz (by simp) hsumr hd hfit
    · have hroom := hroom0 z (Or.inr (Or.inr y))
      subst y
      have hq : cond (Nat.beq cc 98) (Nat.beq k 179) (Nat.beq cc 0 && am_cl k z a w x && Nat.blt a 179 && am_sok a b) = true := hq
      rw [am_nbeq hcc98, cond_false] at hq
      simp only [Bool.and_eq_true] at hq
      obtain ⟨⟨⟨hc0', hcl⟩, ha⟩, hok⟩ := hq
      have ha := Nat.le_of_ble_eq_true ha
      obtain ⟨⟨R1, R2⟩, hMet⟩ := main ha hroom
      unfold am_sok am_npar at hok
      simp only [Bool.and_eq_true] at hok
      obtain ⟨⟨o1, o2⟩, o3⟩ := hok
      have o1 := of_decide_eq_true o1
      obtain ⟨m1, m2, m3, -, -⟩ := am_mok_at ha
      refine done ((st.take b).reverse.map (am_cv ad)).toArray _ ?_
      unfold am_cl at hcl
      split at hcl
      · refine va_runS (ret := am_rty a) (bytes := am_bc a) (maxL := am_nL a) (index := z) (n := b) SF hMet (va_cwS (ws' := am_good) b hts (fun w hw => ?_) rfl rfl rfl ⟨m2, m3, o1⟩ ⟨R1, R2⟩) ⟨am_Pc_blind, hU⟩ rfl (by rw [List.length_map]; exact hlenas) hsz rfl hsumr hd hfit
        unfold va_wsS at hw
        rcases List.mem_append.mp hw with z1 | z1
        · simp only [List.mem_cons, List.not_mem_nil, or_false] at z1
          have : w ∈ am_good := by
            rcases z1 with z1 | z1 | z1 <;> rw [z1]
            · exact am_lw_in hcl rfl
            · exact am_lw_in o2 rfl
            · exact am_lw_in o3 rfl
          exact ⟨this, am_good_word this⟩
        · exact am_wsm_good ha w z1
      · have hnest := hC.2.2.2.2.2.2.2.2.2.1 _ (List.mem_of_getElem? (of_decide_eq_true hcl))
        exact va_runSN (ret := am_rty a) (bytes := am_bc a) (maxL := am_nL a) (index := z) (n := b) SF hMet ⟨va_cnB (ws' := am_good) b hts (am_wsm_good ha) rfl rfl rfl hnest (hts _ (am_lw_in o3 rfl)) ⟨m2, m3, o1⟩ ⟨R1, R2⟩, hts _ (am_lw_in o2 rfl), trivial⟩ ⟨am_Pc_blind, hU⟩ rfl (by rw [List.length_map]; exact hlenas) hsz rfl hsumr hd hfit
end AMS
end
section
/-! THE CONTRACT OF EVERY METHOD of the tables. -/
def am_np1 (m i : Nat) : Bool := match am_ins m i with
  | (ir, _, _, c) => match ir with
    | .invokevirtual _ => !(Nat.beq c 97 || Nat.beq c 98)
    | .invokespecial _ => !(Nat.beq c 97 || Nat.beq c 98)
    | .invokestatic _ => !(Nat.beq c 97 || Nat.beq c 98)
    | _ => true
def am_npp (m : Nat) : Bool := (List.range (16 * (am_cc m).length)).all (am_np1 m)
theorem am_np_all : (List.range 179).all am_npp = true := by decide +kernel
theorem am_np {k : Nat} (hk : k < 179) (i : Nat) : am_np1 k i = true := by
  by_cases h : i < 16 * (am_cc k).length
  · exact List.all_eq_true.mp (List.all_eq_true.mp am_np_all k (List.mem_range.mpr hk)) i (List.mem_range.mpr h)
  · have e : am_ins k i = (.nop, 0, 0, 0) := by
      show (((am_cc k).getD (i / 16) []).getD (i % 16) (.nop, 0, 0, 0)) = _
      rw [show (am_cc k).getD (i / 16) [] = [] by rw [List.getD_eq_getElem?_getD, List.getElem?_eq_none (by omega)]; rfl]
      rfl
    unfold am_np1
    rw [e]
theorem am_tcode_1 {t : Option FieldType} (h : am_tcode t = 1) : t = some .int := by
  cases t with
  | none => cases h
  | some z => cases z <;> first | rfl | cases h
theorem am_tcode_2 {t : Option FieldType} (h : am_tcode t = 2) : t = some .long := by
  cases t with
  | none => cases h
  | some z => cases z <;> first | rfl | cases h
theorem am_tcode_3 {t : Option FieldType} (h : am_tcode t = 3) : ∃ z, t = some (.object z) := by
  cases t with
  | none => cases h
  | some z => cases z <;> first | exact ⟨_, rfl⟩ | cases h
theorem am_tcode_4 {t : Option FieldType} (h : am_tcode t = 4) : t = some .boolean := by
  cases t with
  | none => cases h
  | some z => cases z <;> first | rfl | cases h
theorem am_tcode_5 {t : Option FieldType} (h : am_tcode t = 5) : t = some .char := by
  cases t with
  | none => cases h
  | some z => cases z <;> first | rfl | cases h
theorem am_tcode_6 {t : Option FieldType} (h : am_tcode t = 6) : t = some .byte := by
  cases t with
  | none => cases h
  | some z => cases z <;> first | rfl | cases h
theorem am_nar_char {x : Int32} (h0 : ¬ x < 0) (h1 : ¬ 65535 < x) : narrow .char (.int x) = .int x := by
  obtain ⟨j, hj, rfl⟩ := nI_of h0
  have : j < 65536 := by
    by_cases q : j < 65536
    · exact q
    · exact absurd (show nI 65535 < nI j from nI_lt (by omega) hj) h1
  exact (pk_charN this).1
theorem am_pc0_all : (List.range 180).all (fun k => Nat.beq (am_pc k 0) 0) = true := by decide +kernel
theorem am_pc0 {k : Nat} (hk : k < 179) : am_pc k 0 = 0 := Nat.eq_of_beq_eq_true (List.all_eq_true.mp am_pc0_all k (List.mem_range.mpr (by omega)))
set_option maxHeartbeats 4000000 in
theorem am_met_step (l : Launch) (N : Nat) (HS : ∀ n, n < N → am_Met l n) : am_Met l N := by
  intro k as h h1 r hk hr hexp has G cA L xs adc ad sz hg
  obtain ⟨-, -, -, hty, hplain⟩ := am_mok_at hk
  refine va_MetF (y := am_y k) (ws' := am_good) (cc := am_bc k) (maxL := am_nL k) (ret := am_rty k) hplain rfl ?_
  intro p e s m args below meth c s₁ B hml hPc
  obtain ⟨hargs, hsz, hP, hK, hD0, hC⟩ := hPc
  have hret := B.returns
  have hts : ∀ w ∈ am_good, w.before args s = true := fun w hw => atoms_spec (ws := am_wsm k) B.pre w (List.mem_cons_of_mem _ hw)
  have hcx : am_Ctx p s m args meth c k := ⟨B.exec, B.bytes, hml, findClass_of_methodNamed B.named, hts, fun z => by rw [(name_of_methodNamed B.named B.method).1, z]⟩
  have hx := B.exec
  have hb := B.bytes
  subst hsz
  have hfx : am_Fx G cA L xs adc (va_A (am_ws cA ad h) s.heap.size) s := ⟨hK, hC, fun q hq => Or.inr hq⟩
  have hMx := am_Mex N _ _ _ _ _ _ _ hr
  have hM1 : h.2.2.1 ≤ h1.2.2.1 := hMx.1
  have hM2 : h.2.2.2 ≤ h1.2.2.2 := hMx.2.1
  have hend : am_Hend p l e (headSpec (am_wsm k) (am_rm k h h1)).room s m args below meth c (MQ below (am_Qc G cA L xs adc ad h h1 s.heap.size k r) args s (h1.2.2.1 - h.2.2.1) (h1.2.2.2 - h.2.2.2) (va_A (am_ws cA ad h) s.heap.size)) G cA L xs adc (va_A (am_ws cA ad h) s.heap.size) k (fun ad' => ∀ q, q ≤ h.2.1.2.2 → ad' q = ad q) h.2.2.1 h.2.2.2 r h1 := by
    intro ad' H' locs' Ls' pcr hE hw' hvd hfin hd
    obtain ⟨hP', hD', hS', hg'⟩ := hw'
    have hQ : ∀ t : State, t.heap = H' → s.WarmedH t.vm → am_Qc G cA L xs adc ad h h1 s.heap.size k r args s (.returned (am_rv (am_rt k) (am_cv ad' r))) t := fun t ht _ => ⟨⟨ad', rfl, by rw [ht]; exact hP', hD', hg', hE, hvd⟩, hS'.F ht⟩
    by_cases h0 : am_rt k = 0
    · rw [h0] at hQ hd ⊢
      exact W.vret hx hb (hret.trans (am_tcode_0 (hty.trans h0))) hQ hS'.2.2 hd
    · have hf := hfin h0
      unfold am_fin at hf
      split at hf
      · rename_i e1
        rw [e1] at hQ hd ⊢
        exact W.iret hx hb (hret.trans (am_tcode_1 (hty.trans e1))) hQ hS'.2.2 hd
      · rename_i e1
        rw [e1] at hQ hd ⊢
        exact W.lret hx hb (hret.trans (am_tcode_2 (hty.trans e1))) hQ hS'.2.2 hd
      · rename_i x e1
        rw [e1] at hQ hd ⊢
        obtain ⟨z, hz⟩ := am_tcode_3 (hty.trans e1)
        exact W.aret hx hb (hret.trans hz) (Or.inl ⟨z, rfl⟩) (show va_rf (ad' x) = .null ∨ ∃ a, va_rf (ad' x) = .ref a by cases ad' x; exact Or.inl rfl; exact Or.inr ⟨_, rfl⟩) hQ hS'.2.2 hd
      · rename_i x e1
        rw [e1] at hQ hd ⊢
        obtain ⟨hbit, -⟩ := am_cond_inv hf
        unfold am_bit at hbit
        simp only [Bool.or_eq_true, decide_eq_true_eq] at hbit
        exact W.zret hx hb (hret.trans (am_tcode_4 (hty.trans e1))) (by rcases hbit with z | z <;> subst z <;> rfl) hQ hS'.2.2 hd
      · rename_i x e1
        rw [e1] at hQ hd ⊢
        obtain ⟨q0, hf⟩ := am_ite_inv hf
        obtain ⟨q1, hf⟩ := am_ite_inv hf
        exact W.zret hx hb (hret.trans (am_tcode_5 (hty.trans e1))) (am_nar_char q0 q1) hQ hS'.2.2 hd
      · rename_i x e1
        rw [e1] at hQ hd ⊢
        split at hf
        · rename_i z
          subst z
          exact W.zret hx hb (hret.trans (am_tcode_6 (hty.trans e1))) rfl hQ hS'.2.2 hd
        · cases hf
      · cases hf
  have hG : ∀ j, j ≤ N → am_G p l e (headSpec (am_wsm k) (am_rm k h h1)).room s m args below meth c (MQ below (am_Qc G cA L xs adc ad h h1 s.heap.size k r) args s (h1.2.2.1 - h.2.2.1) (h1.2.2.2 - h.2.2.2) (va_A (am_ws cA ad h) s.heap.size)) G cA L xs adc (va_A (am_ws cA ad h) s.heap.size) k (fun ad' => ∀ q, q ≤ h.2.1.2.2 → ad' q = ad q) h.2.1.2.2 h.2.2.1 h.2.2.2 r h1 j := by
    intro j
    induction j with
    | zero => intro _ i ls st h' ad' H locs Ls he; cases he
    | succ j ih =>
      intro hj
      have IH := ih (by omega)
      have hE : ∀ (ad1 ad2 : Nat → Option Nat) (M : Nat), h.2.1.2.2 ≤ M → (∀ q, q ≤ h.2.1.2.2 → ad1 q = ad q) → (∀ q, q ≤ M → ad2 q = ad1 q) → ∀ q, q ≤ h.2.1.2.2 → ad2 q = ad q := fun ad1 ad2 M z1 z2 z3 q hq => (z3 q (Nat.le_trans hq z1)).trans (z2 q hq)
      have hcc : h1.2.2.1 ≤ h.2.2.1 + (headSpec (am_wsm k) (am_rm k h h1)).room.cells := by show _ ≤ h.2.2.1 + (h1.2.2.1 - h.2.2.1); omega
      have hss : h1.2.2.2 ≤ h.2.2.2 + (headSpec (am_wsm k) (am_rm k h h1)).room.slots := by show _ ≤ h.2.2.2 + (h1.2.2.2 - h.2.2.2); omega
      refine am_sound1 (by omega) (HS j hj) IH hcx hfx hcc hss (Nat.le_refl _) (Nat.le_refl _) hE hend ?_ (am_calls (by omega) (HS j hj) IH hcx hfx hcc hss (Nat.le_refl _) (Nat.le_refl _) hE)
      intro i a b cc ir ls st h' ad' H locs Ls hins hinv hs
      exfalso
      have := am_np hk i
      unfold am_np1 at this
      rw [hins] at this
      obtain ⟨z, y | y | y⟩ := hinv <;> subst y <;> dsimp only at this <;> rcases hs with y | y <;> subst y <;> cases this
  have key := hG N (Nat.le_refl _) 0 (am_ent as (am_nL k)) [] h ad s.heap [] _ hr ⟨hP, hD0.self, va_S.rf, hg⟩ (am_Lr.entry has.long hexp) has.ent am_vs.nil (fun q _ => rfl) (Nat.le_refl _) (Nat.le_refl _) (Nat.le_refl _)
  rw [Nat.sub_self, Nat.sub_self] at key
  rw [hargs, lg_entry_eq]
  rw [← hargs]
  have hpc0 : am_pc k 0 = 0 := am_pc0 hk
  rw [hpc0] at key
  exact key
theorem am_met (l : Launch) : ∀ n, am_Met l n := fun n => Nat.strongRecOn n fun n ih => am_met_step l n ih
end
section
/-! THE WORLD behind the constructors, and running the abstract machine up to given stops. -/
abbrev am_W (I : Nat → Nat → Int32) (J : Nat → Nat → Int64) (T : Nat → Nat → Nat) (L : Nat) (C : Nat × Nat) : am_H := ((I, J, T), (am_RF, am_SF L, 92), C)
/-- behind a fetched reference field the reference stands as a numeral -/
def am_g2 (m i : Nat) : Bool := match am_ins m i with
  | (.getfield _, _, _, c) => Nat.beq c 2
  | _ => false
def am_nst (f : List Value → am_R) (st : List Value) : am_R := match st with
  | .ref 0 :: r => f (.ref 0 :: r)
  | .ref (x + 1) :: r => f (.ref (x + 1) :: r)
  | _ => f st
theorem am_nst_eq (f : List Value → am_R) (st : List Value) : am_nst f st = f st := by
  unfold am_nst
  split <;> rfl
noncomputable def am_rn (P : List Nat) : Nat → am_K
  | 0 => am_E
  | n + 1 => am_step (fun m i ls st h => cond (am_g2 m (i - 1)) (am_nst (fun st => cond (Nat.beq i 0 || P.any (Nat.beq i)) (am_E m i ls st h) (am_rn P n m i ls st h)) st) (cond (Nat.beq i 0 || P.any (Nat.beq i)) (am_E m i ls st h) (am_rn P n m i ls st h)))
theorem am_rn_eq (P : List Nat) : ∀ n, am_rn P n = am_E
  | 0 => rfl
  | n + 1 => by
    have e1 : ∀ m i ls st h, cond (Nat.beq i 0 || P.any (Nat.beq i)) (am_E m i ls st h) (am_rn P n m i ls st h) = am_E m i ls st h := by
      intro m i ls st h
      cases (Nat.beq i 0 || P.any (Nat.beq i))
      · show am_rn P n m i ls st h = _
        rw [am_rn_eq P n]
      · rfl
    have e : (fun m i ls st h => cond (am_g2 m (i - 1)) (am_nst (fun st => cond (Nat.beq i 0 || P.any (Nat.beq i)) (am_E m i ls st h) (am_rn P n m i ls st h)) st) (cond (Nat.beq i 0 || P.any (Nat.beq i)) (am_E m i ls st h) (am_rn P n m i ls st h))) = am_E := by
      funext m i ls st h
      rw [am_nst_eq, e1]
      cases am_g2 m (i - 1) <;> rfl
    show am_step _ = am_E
    rw [e]
    funext m i ls st h
    exact (am_E_eq m i ls st h).symm
theorem am_rg (P : List Nat) (n m i : Nat) (ls st : List Value) (h : am_H) : am_E m i ls st h = am_rn P n m i ls st h := by
  rw [am_rn_eq]
end
section
/-! EQUATIONS of the abstract machine between cut points, written by wip/whole/gen/regions.py -/
-- 1 ScanChart$Cells.clear()V
theorem rg_1_0 (I : Nat → Nat → Int32) (J : Nat → Nat → Int64) (T : Nat → Nat → Nat) (L : Nat) (C : Nat × Nat) : am_E 1 0 [.ref 23] [] (am_W I J T L C) = ((am_E 93 0 [.ref 24, .int 0, .null] [] (am_W I J T L C)).bind (fun z1 => (am_E 1 4 [.ref 23] [] z1.2))) := (am_rg [4, 8, 12, 16, 21] 4 _ _ _ _ _).trans rfl
theorem rg_1_4 (I : Nat → Nat → Int32) (J : Nat → Nat → Int64) (T : Nat → Nat → Nat) (L : Nat) (C : Nat × Nat) : am_E 1 4 [.ref 23] [] (am_W I J T L C) = ((am_E 93 0 [.ref 25, .int 0, .null] [] (am_W I J T L C)).bind (fun z1 => (am_E 1 8 [.ref 23] [] z1.2))) := (am_rg [4, 8, 12, 16, 21] 4 _ _ _ _ _).trans rfl
theorem rg_1_8 (I : Nat → Nat → Int32) (J : Nat → Nat → Int64) (T : Nat → Nat → Nat) (L : Nat) (C : Nat × Nat) : am_E 1 8 [.ref 23] [] (am_W I J T L C) = ((am_E 93 0 [.ref 26, .int 0, .null] [] (am_W I J T L C)).bind (fun z1 => (am_E 1 12 [.ref 23] [] z1.2))) := (am_rg [4, 8, 12, 16, 21] 4 _ _ _ _ _).trans rfl
theorem rg_1_12 (I : Nat → Nat → Int32) (J : Nat → Nat → Int64) (T : Nat → Nat → Nat) (L : Nat) (C : Nat × Nat) : am_E 1 12 [.ref 23] [] (am_W I J T L C) = ((am_E 93 0 [.ref 27, .int 0, .null] [] (am_W I J T L C)).bind (fun z1 => (am_E 1 16 [.ref 23] [] z1.2))) := (am_rg [4, 8, 12, 16, 21] 4 _ _ _ _ _).trans rfl
theorem rg_1_16 (I : Nat → Nat → Int32) (J : Nat → Nat → Int64) (T : Nat → Nat → Nat) (L : Nat) (C : Nat × Nat) : am_E 1 16 [.ref 23] [] (am_W I J T L C) = ((am_E 90 0 [.ref 24, .int 3, .int 1] [] (am_W I J T L C)).bind (fun z1 => (am_E 1 21 [.ref 23] [] z1.2))) := (am_rg [4, 8, 12, 16, 21] 5 _ _ _ _ _).trans rfl
theorem rg_1_21 (I : Nat → Nat → Int32) (J : Nat → Nat → Int64) (T : Nat → Nat → Nat) (L : Nat) (C : Nat × Nat) : am_E 1 21 [.ref 23] [] (am_W I J T L C) = (some (.null, (am_W I J T L C))) := (am_rg [4, 8, 12, 16, 21] 1 _ _ _ _ _).trans rfl
-- 2 ScanChart$Cells.valueOf(II)I
theorem rg_2_0 (I : Nat → Nat → Int32) (J : Nat → Nat → Int64) (T : Nat → Nat → Nat) (L : Nat) (C : Nat × Nat) (x1 : Int32) (x2 : Int32) : am_E 2 0 [.ref 23, .int x1, .int x2] [] (am_W I J T L C) = (if x1 = 6 then ((am_E 89 0 [.ref 25, .int x2] [] (am_W I J T L C)).bind (fun z6 => am_vI z6.1 fun u6 => (am_E 2 8 [.ref 23, .int x1, .int x2] [.int u6] z6.2))) else (if x1 = 6 + 1 then ((am_E 89 0 [.ref 24, .int x1] [] (am_W I J T L C)).bind (fun z5 => am_vI z5.1 fun u5 => (am_E 2 23 [.ref 23, .int x1, .int x2] [.int u5] z5.2))) else (if x1 = 6 + 1 + 1 then ((am_E 89 0 [.ref 24, .int x1] [] (am_W I J T L C)).bind (fun z4 => am_vI z4.1 fun u4 => (am_E 2 23 [.ref 23, .int x1, .int x2] [.int u4] z4.2))) else (if x1 = 6 + 1 + 1 + 1 then ((am_E 89 0 [.ref 26, .int x2] [] (am_W I J T L C)).bind (fun z3 => am_vI z3.1 fun u3 => (am_E 2 13 [.ref 23, .int x1, .int x2] [.int u3] z3.2))) else (if x1 = 6 + 1 + 1 + 1 + 1 then ((am_E 89 0 [.ref 27, .int x2] [] (am_W I J T L C)).bind (fun z2 => am_vI z2.1 fun u2 => (am_E 2 18 [.ref 23, .int x1, .int x2] [.int u2] z2.2))) else (if x1 = 6 + 1 + 1 + 1 + 1 + 1 then (some (.int x2, (am_W I J T L C))) else ((am_E 89 0 [.ref 24, .int x1] [] (am_W I J T L C)).bind (fun z1 => am_vI z1.1 fun u1 => (am_E 2 23 [.ref 23, .int x1, .int x2] [.int u1] z1.2))))))))) := (am_rg [8, 13, 18, 23] 6 _ _ _ _ _).trans rfl
theorem rg_2_8 (I : Nat → Nat → Int32) (J : Nat → Nat → Int64) (T : Nat → Nat → Nat) (L : Nat) (C : Nat × Nat) (x1 : Int32) (x2 : Int32) (xs0 : Int32) : am_E 2 8 [.ref 23, .int x1, .int x2] [.int xs0] (am_W I J T L C) = (some (.int xs0, (am_W I J T L C))) := (am_rg [8, 13, 18, 23] 1 _ _ _ _ _).trans rfl
theorem rg_2_13 (I : Nat → Nat → Int32) (J : Nat → Nat → Int64) (T : Nat → Nat → Nat) (L : Nat) (C : Nat × Nat) (x1 : Int32) (x2 : Int32) (xs0 : Int32) : am_E 2 13 [.ref 23, .int x1, .int x2] [.int xs0] (am_W I J T L C) = (some (.int xs0, (am_W I J T L C))) := (am_rg [8, 13, 18, 23] 1 _ _ _ _ _).trans rfl
theorem rg_2_18 (I : Nat → Nat → Int32) (J : Nat → Nat → Int64) (T : Nat → Nat → Nat) (L : Nat) (C : Nat × Nat) (x1 : Int32) (x2 : Int32) (xs0 : Int32) : am_E 2 18 [.ref 23, .int x1, .int x2] [.int xs0] (am_W I J T L C) = (some (.int xs0, (am_W I J T L C))) := (am_rg [8, 13, 18, 23] 1 _ _ _ _ _).trans rfl
theorem rg_2_23 (I : Nat → Nat → Int32) (J : Nat → Nat → Int64) (T : Nat → Nat → Nat) (L : Nat) (C : Nat × Nat) (x1 : Int32) (x2 : Int32) (xs0 : Int32) : am_E 2 23 [.ref 23, .int x1, .int x2] [.int xs0] (am_W I J T L C) = (some (.int ((Int32.toUInt32 xs0 >>> (Int32.toUInt32 x2 &&& Int32.toUInt32 31)).toInt32 &&& 1), (am_W I J T L C))) := (am_rg [8, 13, 18, 23] 5 _ _ _ _ _).trans rfl
-- 3 ScanChart$Cells.setBit(IIZ)V
theorem rg_3_0 (I : Nat → Nat → Int32) (J : Nat → Nat → Int64) (T : Nat → Nat → Nat) (L : Nat) (C : Nat × Nat) (x1 : Int32) (x2 : Int32) (x3 : Int32) : am_E 3 0 [.ref 23, .int x1, .int x2, .int x3] [] (am_W I J T L C) = ((am_E 89 0 [.ref 24, .int x1] [] (am_W I J T L C)).bind (fun z1 => am_vI z1.1 fun u1 => (am_E 3 7 [.ref 23, .int x1, .int x2, .int x3] [.int u1, .int x1, .ref 24] z1.2))) := (am_rg [7, 10, 11] 7 _ _ _ _ _).trans rfl
theorem rg_3_7 (I : Nat → Nat → Int32) (J : Nat → Nat → Int64) (T : Nat → Nat → Nat) (L : Nat) (C : Nat × Nat) (x1 : Int32) (x2 : Int32) (x3 : Int32) (xs1 : Int32) (xs2 : Int32) : am_E 3 7 [.ref 23, .int x1, .int x2, .int x3] [.int xs2, .int xs1, .ref 24] (am_W I J T L C) = ((am_E 92 0 [.int xs2, .int x2, .int x3] [] (am_W I J T L C)).bind (fun z1 => am_vI z1.1 fun u1 => (am_E 3 10 [.ref 23, .int x1, .int x2, .int x3] [.int u1, .int xs1, .ref 24] z1.2))) := (am_rg [7, 10, 11] 3 _ _ _ _ _).trans rfl
theorem rg_3_10 (I : Nat → Nat → Int32) (J : Nat → Nat → Int64) (T : Nat → Nat → Nat) (L : Nat) (C : Nat × Nat) (x1 : Int32) (x2 : Int32) (x3 : Int32) (xs1 : Int32) (xs2 : Int32) : am_E 3 10 [.ref 23, .int x1, .int x2, .int x3] [.int xs2, .int xs1, .ref 24] (am_W I J T L C) = ((am_E 90 0 [.ref 24, .int xs1, .int xs2] [] (am_W I J T L C)).bind (fun z1 => (am_E 3 11 [.ref 23, .int x1, .int x2, .int x3] [] z1.2))) := (am_rg [7, 10, 11] 1 _ _ _ _ _).trans rfl
theorem rg_3_11 (I : Nat → Nat → Int32) (J : Nat → Nat → Int64) (T : Nat → Nat → Nat) (L : Nat) (C : Nat × Nat) (x1 : Int32) (x2 : Int32) (x3 : Int32) : am_E 3 11 [.ref 23, .int x1, .int x2, .int x3] [] (am_W I J T L C) = (some (.null, (am_W I J T L C))) := (am_rg [7, 10, 11] 1 _ _ _ _ _).trans rfl
-- 4 ScanChart$Cells.store(III)V
theorem rg_4_0 (I : Nat → Nat → Int32) (J : Nat → Nat → Int64) (T : Nat → Nat → Nat) (L : Nat) (C : Nat × Nat) (x1 : Int32) (x2 : Int32) (x3 : Int32) : am_E 4 0 [.ref 23, .int x1, .int x2, .int x3] [] (am_W I J T L C) = (if x1 = 6 then ((am_E 90 0 [.ref 25, .int x2, .int x3] [] (am_W I J T L C)).bind (fun z1 => (am_E 4 8 [.ref 23, .int x1, .int x2, .int x3] [] z1.2))) else (if x3 = 0 then (am_E 4 17 [.ref 23, .int x1, .int x2, .int x3] [.int 0, .int x2, .int x1, .ref 23] (am_W I J T L C)) else (am_E 4 17 [.ref 23, .int x1, .int x2, .int x3] [.int 1, .int x2, .int x1, .ref 23] (am_W I J T L C)))) := (am_rg [8, 17, 18] 10 _ _ _ _ _).trans rfl
theorem rg_4_8 (I : Nat → Nat → Int32) (J : Nat → Nat → Int64) (T : Nat → Nat → Nat) (L : Nat) (C : Nat × Nat) (x1 : Int32) (x2 : Int32) (x3 : Int32) : am_E 4 8 [.ref 23, .int x1, .int x2, .int x3] [] (am_W I J T L C) = (am_E 4 18 [.ref 23, .int x1, .int x2, .int x3] [] (am_W I J T L C)) := (am_rg [8, 17, 18] 1 _ _ _ _ _).trans rfl
theorem rg_4_17 (I : Nat → Nat → Int32) (J : Nat → Nat → Int64) (T : Nat → Nat → Nat) (L : Nat) (C : Nat × Nat) (x1 : Int32) (x2 : Int32) (x3 : Int32) (xs1 : Int32) (xs2 : Int32) (xs3 : Int32) : am_E 4 17 [.ref 23, .int x1, .int x2, .int x3] [.int xs3, .int xs2, .int xs1, .ref 23] (am_W I J T L C) = ((am_E 3 0 [.ref 23, .int xs1, .int xs2, .int xs3] [] (am_W I J T L C)).bind (fun z1 => (am_E 4 18 [.ref 23, .int x1, .int x2, .int x3] [] z1.2))) := (am_rg [8, 17, 18] 1 _ _ _ _ _).trans rfl
theorem rg_4_18 (I : Nat → Nat → Int32) (J : Nat → Nat → Int64) (T : Nat → Nat → Nat) (L : Nat) (C : Nat × Nat) (x1 : Int32) (x2 : Int32) (x3 : Int32) : am_E 4 18 [.ref 23, .int x1, .int x2, .int x3] [] (am_W I J T L C) = (some (.null, (am_W I J T L C))) := (am_rg [8, 17, 18] 1 _ _ _ _ _).trans rfl
-- 5 ScanChart$Cells.setTimer(IZI)V
theorem rg_5_0 (I : Nat → Nat → Int32) (J : Nat → Nat → Int64) (T : Nat → Nat → Nat) (L : Nat) (C : Nat × Nat) (x1 : Int32) (x2 : Int32) (x3 : Int32) : am_E 5 0 [.ref 23, .int x1, .int x2, .int x3] [] (am_W I J T L C) = ((am_E 89 0 [.ref 24, .int 4] [] (am_W I J T L C)).bind (fun z1 => am_vI z1.1 fun u1 => (am_E 5 7 [.ref 23, .int x1, .int x2, .int x3] [.int u1, .int 4, .ref 24] z1.2))) := (am_rg [7, 10, 11, 16] 7 _ _ _ _ _).trans rfl
theorem rg_5_7 (I : Nat → Nat → Int32) (J : Nat → Nat → Int64) (T : Nat → Nat → Nat) (L : Nat) (C : Nat × Nat) (x1 : Int32) (x2 : Int32) (x3 : Int32) (xs1 : Int32) (xs2 : Int32) : am_E 5 7 [.ref 23, .int x1, .int x2, .int x3] [.int xs2, .int xs1, .ref 24] (am_W I J T L C) = ((am_E 92 0 [.int xs2, .int x1, .int x2] [] (am_W I J T L C)).bind (fun z1 => am_vI z1.1 fun u1 => (am_E 5 10 [.ref 23, .int x1, .int x2, .int x3] [.int u1, .int xs1, .ref 24] z1.2))) := (am_rg [7, 10, 11, 16] 3 _ _ _ _ _).trans rfl
theorem rg_5_10 (I : Nat → Nat → Int32) (J : Nat → Nat → Int64) (T : Nat → Nat → Nat) (L : Nat) (C : Nat × Nat) (x1 : Int32) (x2 : Int32) (x3 : Int32) (xs1 : Int32) (xs2 : Int32) : am_E 5 10 [.ref 23, .int x1, .int x2, .int x3] [.int xs2, .int xs1, .ref 24] (am_W I J T L C) = ((am_E 90 0 [.ref 24, .int xs1, .int xs2] [] (am_W I J T L C)).bind (fun z1 => (am_E 5 11 [.ref 23, .int x1, .int x2, .int x3] [] z1.2))) := (am_rg [7, 10, 11, 16] 1 _ _ _ _ _).trans rfl
theorem rg_5_11 (I : Nat → Nat → Int32) (J : Nat → Nat → Int64) (T : Nat → Nat → Nat) (L : Nat) (C : Nat × Nat) (x1 : Int32) (x2 : Int32) (x3 : Int32) : am_E 5 11 [.ref 23, .int x1, .int x2, .int x3] [] (am_W I J T L C) = ((am_E 90 0 [.ref 26, .int x1, .int x3] [] (am_W I J T L C)).bind (fun z1 => (am_E 5 16 [.ref 23, .int x1, .int x2, .int x3] [] z1.2))) := (am_rg [7, 10, 11, 16] 5 _ _ _ _ _).trans rfl
theorem rg_5_16 (I : Nat → Nat → Int32) (J : Nat → Nat → Int64) (T : Nat → Nat → Nat) (L : Nat) (C : Nat × Nat) (x1 : Int32) (x2 : Int32) (x3 : Int32) : am_E 5 16 [.ref 23, .int x1, .int x2, .int x3] [] (am_W I J T L C) = (some (.null, (am_W I J T L C))) := (am_rg [7, 10, 11, 16] 1 _ _ _ _ _).trans rfl
-- 6 ScanChart$Cells.setCount(II)V
theorem rg_6_0 (I : Nat → Nat → Int32) (J : Nat → Nat → Int64) (T : Nat → Nat → Nat) (L : Nat) (C : Nat × Nat) (x1 : Int32) (x2 : Int32) : am_E 6 0 [.ref 23, .int x1, .int x2] [] (am_W I J T L C) = ((am_E 90 0 [.ref 27, .int x1, .int x2] [] (am_W I J T L C)).bind (fun z1 => (am_E 6 5 [.ref 23, .int x1, .int x2] [] z1.2))) := (am_rg [5] 5 _ _ _ _ _).trans rfl
theorem rg_6_5 (I : Nat → Nat → Int32) (J : Nat → Nat → Int64) (T : Nat → Nat → Nat) (L : Nat) (C : Nat × Nat) (x1 : Int32) (x2 : Int32) : am_E 6 5 [.ref 23, .int x1, .int x2] [] (am_W I J T L C) = (some (.null, (am_W I J T L C))) := (am_rg [5] 1 _ _ _ _ _).trans rfl
-- 8 ScanChart$Chart.clear()V
theorem rg_8_0 (I : Nat → Nat → Int32) (J : Nat → Nat → Int64) (T : Nat → Nat → Nat) (L : Nat) (C : Nat × Nat) : am_E 8 0 [.ref 6] [] (am_W I J T L C) = ((am_E 93 0 [.ref 12, .int 0, .null] [] (am_W (am_up (am_up I 6 5 0) 6 9 0) J T L C)).bind (fun z1 => (am_E 8 10 [.ref 6] [] z1.2))) := (am_rg [10] 10 _ _ _ _ _).trans rfl
theorem rg_8_10 (I : Nat → Nat → Int32) (J : Nat → Nat → Int64) (T : Nat → Nat → Nat) (L : Nat) (C : Nat × Nat) : am_E 8 10 [.ref 6] [] (am_W I J T L C) = (some (.null, (am_W I J T L C))) := (am_rg [10] 1 _ _ _ _ _).trans rfl
-- 9 ScanChart$Chart.addGo(IIIII)V
theorem rg_9_0 (I : Nat → Nat → Int32) (J : Nat → Nat → Int64) (T : Nat → Nat → Nat) (L : Nat) (C : Nat × Nat) (x1 : Int32) (x2 : Int32) (x3 : Int32) (x4 : Int32) (x5 : Int32) : am_E 9 0 [.ref 6, .int x1, .int x2, .int x3, .int x4, .int x5] [] (am_W I J T L C) = ((am_E 90 0 [.ref 7, .int (I 6 5), .int x1] [] (am_W I J T L C)).bind (fun z1 => (am_E 9 6 [.ref 6, .int x1, .int x2, .int x3, .int x4, .int x5] [] z1.2))) := (am_rg [6, 12, 18, 24, 30] 6 _ _ _ _ _).trans rfl
theorem rg_9_6 (I : Nat → Nat → Int32) (J : Nat → Nat → Int64) (T : Nat → Nat → Nat) (L : Nat) (C : Nat × Nat) (x1 : Int32) (x2 : Int32) (x3 : Int32) (x4 : Int32) (x5 : Int32) : am_E 9 6 [.ref 6, .int x1, .int x2, .int x3, .int x4, .int x5] [] (am_W I J T L C) = ((am_E 90 0 [.ref 8, .int (I 6 5), .int x2] [] (am_W I J T L C)).bind (fun z1 => (am_E 9 12 [.ref 6, .int x1, .int x2, .int x3, .int x4, .int x5] [] z1.2))) := (am_rg [6, 12, 18, 24, 30] 6 _ _ _ _ _).trans rfl
theorem rg_9_12 (I : Nat → Nat → Int32) (J : Nat → Nat → Int64) (T : Nat → Nat → Nat) (L : Nat) (C : Nat × Nat) (x1 : Int32) (x2 : Int32) (x3 : Int32) (x4 : Int32) (x5 : Int32) : am_E 9 12 [.ref 6, .int x1, .int x2, .int x3, .int x4, .int x5] [] (am_W I J T L C) = ((am_E 90 0 [.ref 9, .int (I 6 5), .int x3] [] (am_W I J T L C)).bind (fun z1 => (am_E 9 18 [.ref 6, .int x1, .int x2, .int x3, .int x4, .int x5] [] z1.2))) := (am_rg [6, 12, 18, 24, 30] 6 _ _ _ _ _).trans rfl
theorem rg_9_18 (I : Nat → Nat → Int32) (J : Nat → Nat → Int64) (T : Nat → Nat → Nat) (L : Nat) (C : Nat × Nat) (x1 : Int32) (x2 : Int32) (x3 : Int32) (x4 : Int32) (x5 : Int32) : am_E 9 18 [.ref 6, .int x1, .int x2, .int x3, .int x4, .int x5] [] (am_W I J T L C) = ((am_E 90 0 [.ref 10, .int (I 6 5), .int x4] [] (am_W I J T L C)).bind (fun z1 => (am_E 9 24 [.ref 6, .int x1, .int x2, .int x3, .int x4, .int x5] [] z1.2))) := (am_rg [6, 12, 18, 24, 30] 6 _ _ _ _ _).trans rfl
theorem rg_9_24 (I : Nat → Nat → Int32) (J : Nat → Nat → Int64) (T : Nat → Nat → Nat) (L : Nat) (C : Nat × Nat) (x1 : Int32) (x2 : Int32) (x3 : Int32) (x4 : Int32) (x5 : Int32) : am_E 9 24 [.ref 6, .int x1, .int x2, .int x3, .int x4, .int x5] [] (am_W I J T L C) = ((am_E 90 0 [.ref 11, .int (I 6 5), .int x5] [] (am_W I J T L C)).bind (fun z1 => (am_E 9 30 [.ref 6, .int x1, .int x2, .int x3, .int x4, .int x5] [] z1.2))) := (am_rg [6, 12, 18, 24, 30] 6 _ _ _ _ _).trans rfl
theorem rg_9_30 (I : Nat → Nat → Int32) (J : Nat → Nat → Int64) (T : Nat → Nat → Nat) (L : Nat) (C : Nat × Nat) (x1 : Int32) (x2 : Int32) (x3 : Int32) (x4 : Int32) (x5 : Int32) : am_E 9 30 [.ref 6, .int x1, .int x2, .int x3, .int x4, .int x5] [] (am_W I J T L C) = (some (.null, (am_W (am_up I 6 5 ((I 6 5) + 1)) J T L C))) := (am_rg [6, 12, 18, 24, 30] 7 _ _ _ _ _).trans rfl
-- 10 ScanChart$Chart.addAction(IIIII)V
theorem rg_10_0 (I : Nat → Nat → Int32) (J : Nat → Nat → Int64) (T : Nat → Nat → Nat) (L : Nat) (C : Nat × Nat) (x1 : Int32) (x2 : Int32) (x3 : Int32) (x4 : Int32) (x5 : Int32) : am_E 10 0 [.ref 6, .int x1, .int x2, .int x3, .int x4, .int x5, .null] [] (am_W I J T L C) = ((am_E 90 0 [.ref 12, .int ((x1 * 3) + x2), .int x3] [] (am_W I J T L C)).bind (fun z1 => (am_E 10 11 [.ref 6, .int x1, .int x2, .int x3, .int x4, .int x5, .int ((x1 * 3) + x2)] [] z1.2))) := (am_rg [11, 16, 21] 11 _ _ _ _ _).trans rfl
theorem rg_10_11 (I : Nat → Nat → Int32) (J : Nat → Nat → Int64) (T : Nat → Nat → Nat) (L : Nat) (C : Nat × Nat) (x1 : Int32) (x2 : Int32) (x3 : Int32) (x4 : Int32) (x5 : Int32) (x6 : Int32) : am_E 10 11 [.ref 6, .int x1, .int x2, .int x3, .int x4, .int x5, .int x6] [] (am_W I J T L C) = ((am_E 90 0 [.ref 13, .int x6, .int x4] [] (am_W I J T L C)).bind (fun z1 => (am_E 10 16 [.ref 6, .int x1, .int x2, .int x3, .int x4, .int x5, .int x6] [] z1.2))) := (am_rg [11, 16, 21] 5 _ _ _ _ _).trans rfl
theorem rg_10_16 (I : Nat → Nat → Int32) (J : Nat → Nat → Int64) (T : Nat → Nat → Nat) (L : Nat) (C : Nat × Nat) (x1 : Int32) (x2 : Int32) (x3 : Int32) (x4 : Int32) (x5 : Int32) (x6 : Int32) : am_E 10 16 [.ref 6, .int x1, .int x2, .int x3, .int x4, .int x5, .int x6] [] (am_W I J T L C) = ((am_E 90 0 [.ref 14, .int x6, .int x5] [] (am_W I J T L C)).bind (fun z1 => (am_E 10 21 [.ref 6, .int x1, .int x2, .int x3, .int x4, .int x5, .int x6] [] z1.2))) := (am_rg [11, 16, 21] 5 _ _ _ _ _).trans rfl
theorem rg_10_21 (I : Nat → Nat → Int32) (J : Nat → Nat → Int64) (T : Nat → Nat → Nat) (L : Nat) (C : Nat × Nat) (x1 : Int32) (x2 : Int32) (x3 : Int32) (x4 : Int32) (x5 : Int32) (x6 : Int32) : am_E 10 21 [.ref 6, .int x1, .int x2, .int x3, .int x4, .int x5, .int x6] [] (am_W I J T L C) = (some (.null, (am_W I J T L C))) := (am_rg [11, 16, 21] 1 _ _ _ _ _).trans rfl
-- 12 ScanChart$Machine.startAgain()V
theorem rg_12_0 (I : Nat → Nat → Int32) (J : Nat → Nat → Int64) (T : Nat → Nat → Nat) (L : Nat) (C : Nat × Nat) : am_E 12 0 [.ref 22] [] (am_W I J T L C) = ((am_E 1 0 [.ref 23] [] (am_W I J T L C)).bind (fun z1 => (am_E 12 3 [.ref 22] [] z1.2))) := (am_rg [3, 6] 3 _ _ _ _ _).trans rfl
theorem rg_12_3 (I : Nat → Nat → Int32) (J : Nat → Nat → Int64) (T : Nat → Nat → Nat) (L : Nat) (C : Nat × Nat) : am_E 12 3 [.ref 22] [] (am_W I J T L C) = ((am_E 29 0 [.ref 28] [] (am_W I J T L C)).bind (fun z1 => (am_E 12 6 [.ref 22] [] z1.2))) := (am_rg [3, 6] 3 _ _ _ _ _).trans rfl
theorem rg_12_6 (I : Nat → Nat → Int32) (J : Nat → Nat → Int64) (T : Nat → Nat → Nat) (L : Nat) (C : Nat × Nat) : am_E 12 6 [.ref 22] [] (am_W I J T L C) = (some (.null, (am_W (am_up (am_up (am_up (am_up I 22 2 0) 22 3 0) 22 4 0) 22 5 0) (am_up J 22 1 0) T L C))) := (am_rg [3, 6] 16 _ _ _ _ _).trans rfl
-- 13 ScanChart$Machine.goRound(LScanChart$Program;II)V
theorem rg_13_0 (I : Nat → Nat → Int32) (J : Nat → Nat → Int64) (T : Nat → Nat → Nat) (L : Nat) (C : Nat × Nat) (x2 : Int32) (x3 : Int32) : am_E 13 0 [.ref 22, .ref 34, .int x2, .int x3] [] (am_W I J T L C) = ((am_E 90 0 [.ref 24, .int 0, .int x2] [] (am_W I (am_up J 22 1 ((J 22 1) + (Int32.toInt64 x3))) T L C)).bind (fun z1 => (am_E 13 13 [.ref 22, .ref 34, .int x2, .int x3] [] z1.2))) := (am_rg [13, 19, 27, 31, 37] 13 _ _ _ _ _).trans rfl
theorem rg_13_13 (I : Nat → Nat → Int32) (J : Nat → Nat → Int64) (T : Nat → Nat → Nat) (L : Nat) (C : Nat × Nat) (x2 : Int32) (x3 : Int32) : am_E 13 13 [.ref 22, .ref 34, .int x2, .int x3] [] (am_W I J T L C) = ((am_E 14 0 [.ref 22, .ref 34, .null, .null, .null] [] (am_W (am_up I 22 5 0) J T L C)).bind (fun z1 => (am_E 13 19 [.ref 22, .ref 34, .int x2, .int x3] [] z1.2))) := (am_rg [13, 19, 27, 31, 37] 6 _ _ _ _ _).trans rfl
theorem rg_13_19 (I : Nat → Nat → Int32) (J : Nat → Nat → Int64) (T : Nat → Nat → Nat) (L : Nat) (C : Nat × Nat) (x2 : Int32) (x3 : Int32) : am_E 13 19 [.ref 22, .ref 34, .int x2, .int x3] [] (am_W I J T L C) = (if (I 22 3) = 0 then ((am_E 21 0 [.ref 22, .ref 35, .null, .null, .null, .null] [] (am_W I J T L C)).bind (fun z1 => (am_E 13 27 [.ref 22, .ref 34, .int x2, .int x3] [] z1.2))) else (some (.null, (am_W I J T L C)))) := (am_rg [13, 19, 27, 31, 37] 7 _ _ _ _ _).trans rfl
theorem rg_13_27 (I : Nat → Nat → Int32) (J : Nat → Nat → Int64) (T : Nat → Nat → Nat) (L : Nat) (C : Nat × Nat) (x2 : Int32) (x3 : Int32) : am_E 13 27 [.ref 22, .ref 34, .int x2, .int x3] [] (am_W I J T L C) = ((am_E 23 0 [.ref 22, .ref 35, .null, .null, .null, .null] [] (am_W I J T L C)).bind (fun z1 => (am_E 13 31 [.ref 22, .ref 34, .int x2, .int x3] [] z1.2))) := (am_rg [13, 19, 27, 31, 37] 4 _ _ _ _ _).trans rfl
theorem rg_13_31 (I : Nat → Nat → Int32) (J : Nat → Nat → Int64) (T : Nat → Nat → Nat) (L : Nat) (C : Nat × Nat) (x2 : Int32) (x3 : Int32) : am_E 13 31 [.ref 22, .ref 34, .int x2, .int x3] [] (am_W I J T L C) = ((am_E 89 0 [.ref 24, .int 1] [] (am_W I J T L C)).bind (fun z1 => am_vI z1.1 fun u1 => (am_E 13 37 [.ref 22, .ref 34, .int x2, .int x3] [.int u1, .ref 22] z1.2))) := (am_rg [13, 19, 27, 31, 37] 6 _ _ _ _ _).trans rfl
theorem rg_13_37 (I : Nat → Nat → Int32) (J : Nat → Nat → Int64) (T : Nat → Nat → Nat) (L : Nat) (C : Nat × Nat) (x2 : Int32) (x3 : Int32) (xs1 : Int32) : am_E 13 37 [.ref 22, .ref 34, .int x2, .int x3] [.int xs1, .ref 22] (am_W I J T L C) = (some (.null, (am_W (am_up I 22 2 xs1) J T L C))) := (am_rg [13, 19, 27, 31, 37] 2 _ _ _ _ _).trans rfl
-- 14 ScanChart$Machine.performList(LScanChart$Program;)V
theorem rg_14_0 (I : Nat → Nat → Int32) (J : Nat → Nat → Int64) (T : Nat → Nat → Nat) (L : Nat) (C : Nat × Nat) : am_E 14 0 [.ref 22, .ref 34, .null, .null, .null] [] (am_W I J T L C) = (am_E 14 14 [.ref 22, .ref 34, .int 0, .null, .null] [] (am_W (am_up (am_up (am_up (am_up I 22 7 0) 22 8 0) 22 9 0) 22 4 0) J T L C)) := (am_rg [14, 33, 39, 46, 50, 51, 57, 69] 14 _ _ _ _ _).trans rfl
theorem rg_14_14 (I : Nat → Nat → Int32) (J : Nat → Nat → Int64) (T : Nat → Nat → Nat) (L : Nat) (C : Nat × Nat) (x2 : Int32) (v3 : Value) (v4 : Value) : am_E 14 14 [.ref 22, .ref 34, .int x2, v3, v4] [] (am_W I J T L C) = (if 500 ≤ x2 then (am_E 14 69 [.ref 22, .ref 34, .int x2, v3, v4] [] (am_W I J T L C)) else (if (I 34 6) ≤ (I 22 8) then (am_E 14 69 [.ref 22, .ref 34, .int x2, v3, v4] [] (am_W I J T L C)) else ((am_E 42 0 [.ref 34, .int (I 22 8)] [] (am_W (am_up I 22 8 ((I 22 8) + 1)) J T L C)).bind (fun z1 => am_vR z1.1 fun u1 => (am_E 14 33 [.ref 22, .ref 34, .int x2, .int (I 22 8), v4] [.ref u1] z1.2))))) := (am_rg [14, 33, 39, 46, 50, 51, 57, 69] 19 _ _ _ _ _).trans rfl
theorem rg_14_33 (I : Nat → Nat → Int32) (J : Nat → Nat → Int64) (T : Nat → Nat → Nat) (L : Nat) (C : Nat × Nat) (x2 : Int32) (x3 : Int32) (v4 : Value) (qs0 : Nat) : am_E 14 33 [.ref 22, .ref 34, .int x2, .int x3, v4] [.ref qs0] (am_W I J T L C) = (cond (Nat.beq (am_SF L qs0).1 30 || Nat.beq qs0 0) (if qs0 = 0 then (some (.null, (am_W I J T L C))) else (cond (Nat.beq (am_SF L qs0).1 30) ((am_E 26 0 [.ref qs0] [] (am_W I J T L C)).bind (fun z1 => am_vI z1.1 fun u1 => (am_E 14 39 [.ref 22, .ref 34, .int x2, .int x3, .ref qs0] [.int u1] z1.2))) none)) none) := (am_rg [14, 33, 39, 46, 50, 51, 57, 69] 5 _ _ _ _ _).trans rfl
theorem rg_14_39 (I : Nat → Nat → Int32) (J : Nat → Nat → Int64) (T : Nat → Nat → Nat) (L : Nat) (C : Nat × Nat) (x2 : Int32) (x3 : Int32) (q4 : Nat) (xs0 : Int32) : am_E 14 39 [.ref 22, .ref 34, .int x2, .int x3, .ref q4] [.int xs0] (am_W I J T L C) = (if xs0 = 0 then ((am_E 15 0 [.ref 22, .ref q4, .ref 34, .int x3, .null, .null] [] (am_W I J T L C)).bind (fun z1 => (am_E 14 57 [.ref 22, .ref 34, .int x2, .int x3, .ref q4] [] z1.2))) else ((am_E 89 0 [.ref 46, .int x3] [] (am_W I J T L C)).bind (fun z2 => am_vI z2.1 fun u2 => (am_E 14 46 [.ref 22, .ref 34, .int x2, .int x3, .ref q4] [.int u2, .ref q4, .ref 22] z2.2)))) := (am_rg [14, 33, 39, 46, 50, 51, 57, 69] 7 _ _ _ _ _).trans rfl
theorem rg_14_46 (I : Nat → Nat → Int32) (J : Nat → Nat → Int64) (T : Nat → Nat → Nat) (L : Nat) (C : Nat × Nat) (x2 : Int32) (x3 : Int32) (q4 : Nat) (qs1 : Nat) (xs2 : Int32) : am_E 14 46 [.ref 22, .ref 34, .int x2, .int x3, .ref q4] [.int xs2, .ref qs1, .ref 22] (am_W I J T L C) = ((am_E 89 0 [.ref 47, .int x3] [] (am_W I J T L C)).bind (fun z1 => am_vI z1.1 fun u1 => (am_E 14 50 [.ref 22, .ref 34, .int x2, .int x3, .ref q4] [.int u1, .int xs2, .ref qs1, .ref 22] z1.2))) := (am_rg [14, 33, 39, 46, 50, 51, 57, 69] 4 _ _ _ _ _).trans rfl
theorem rg_14_50 (I : Nat → Nat → Int32) (J : Nat → Nat → Int64) (T : Nat → Nat → Nat) (L : Nat) (C : Nat × Nat) (x2 : Int32) (x3 : Int32) (q4 : Nat) (qs1 : Nat) (xs2 : Int32) (xs3 : Int32) : am_E 14 50 [.ref 22, .ref 34, .int x2, .int x3, .ref q4] [.int xs3, .int xs2, .ref qs1, .ref 22] (am_W I J T L C) = ((am_E 16 0 [.ref 22, .ref qs1, .int xs2, .int xs3, .null] [] (am_W I J T L C)).bind (fun z1 => (am_E 14 51 [.ref 22, .ref 34, .int x2, .int x3, .ref q4] [] z1.2))) := (am_rg [14, 33, 39, 46, 50, 51, 57, 69] 1 _ _ _ _ _).trans rfl
theorem rg_14_51 (I : Nat → Nat → Int32) (J : Nat → Nat → Int64) (T : Nat → Nat → Nat) (L : Nat) (C : Nat × Nat) (x2 : Int32) (x3 : Int32) (q4 : Nat) : am_E 14 51 [.ref 22, .ref 34, .int x2, .int x3, .ref q4] [] (am_W I J T L C) = (am_E 14 57 [.ref 22, .ref 34, .int x2, .int x3, .ref q4] [] (am_W I J T L C)) := (am_rg [14, 33, 39, 46, 50, 51, 57, 69] 1 _ _ _ _ _).trans rfl
theorem rg_14_57 (I : Nat → Nat → Int32) (J : Nat → Nat → Int64) (T : Nat → Nat → Nat) (L : Nat) (C : Nat × Nat) (x2 : Int32) (x3 : Int32) (q4 : Nat) : am_E 14 57 [.ref 22, .ref 34, .int x2, .int x3, .ref q4] [] (am_W I J T L C) = (if (I 22 3) = 0 then (am_E 14 14 [.ref 22, .ref 34, .int (x2 + 1), .int x3, .ref q4] [] (am_W (am_up I 22 4 ((I 22 4) + 1)) J T L C)) else (some (.null, (am_W I J T L C)))) := (am_rg [14, 33, 39, 46, 50, 51, 57, 69] 11 _ _ _ _ _).trans rfl
theorem rg_14_69 (I : Nat → Nat → Int32) (J : Nat → Nat → Int64) (T : Nat → Nat → Nat) (L : Nat) (C : Nat × Nat) (x2 : Int32) (v3 : Value) (v4 : Value) : am_E 14 69 [.ref 22, .ref 34, .int x2, v3, v4] [] (am_W I J T L C) = (if (I 34 6) ≤ (I 22 8) then (some (.null, (am_W I J T L C))) else (some (.null, (am_W (am_up I 22 3 3) J T L C)))) := (am_rg [14, 33, 39, 46, 50, 51, 57, 69] 9 _ _ _ _ _).trans rfl
-- 15 ScanChart$Machine.perform(LScanChart$Op;LScanChart$Program;I)V
theorem rg_15_0 (I : Nat → Nat → Int32) (J : Nat → Nat → Int64) (T : Nat → Nat → Nat) (L : Nat) (C : Nat × Nat) (q1 : Nat) (x3 : Int32) : am_E 15 0 [.ref 22, .ref q1, .ref 34, .int x3, .null, .null] [] (am_W I J T L C) = ((am_E 89 0 [.ref 45, .int x3] [] (am_W I J T L C)).bind (fun z1 => am_vI z1.1 fun u1 => (am_E 15 4 [.ref 22, .ref q1, .ref 34, .int x3, .null, .null] [.int u1] z1.2))) := (am_rg [4, 9, 20, 21, 29, 40, 41, 51, 52, 66, 67, 70, 84, 90, 96] 4 _ _ _ _ _).trans rfl
theorem rg_15_4 (I : Nat → Nat → Int32) (J : Nat → Nat → Int64) (T : Nat → Nat → Nat) (L : Nat) (C : Nat × Nat) (q1 : Nat) (x3 : Int32) (v4 : Value) (v5 : Value) (xs0 : Int32) : am_E 15 4 [.ref 22, .ref q1, .ref 34, .int x3, v4, v5] [.int xs0] (am_W I J T L C) = ((am_E 89 0 [.ref 46, .int x3] [] (am_W I J T L C)).bind (fun z1 => am_vI z1.1 fun u1 => (am_E 15 9 [.ref 22, .ref q1, .ref 34, .int x3, .int xs0, v5] [.int u1] z1.2))) := (am_rg [4, 9, 20, 21, 29, 40, 41, 51, 52, 66, 67, 70, 84, 90, 96] 5 _ _ _ _ _).trans rfl
theorem rg_15_9 (I : Nat → Nat → Int32) (J : Nat → Nat → Int64) (T : Nat → Nat → Nat) (L : Nat) (C : Nat × Nat) (q1 : Nat) (x3 : Int32) (x4 : Int32) (v5 : Value) (xs0 : Int32) : am_E 15 9 [.ref 22, .ref q1, .ref 34, .int x3, .int x4, v5] [.int xs0] (am_W I J T L C) = (cond (Nat.beq (am_SF L q1).1 30) (if (am_cI q1 1) = 0 then ((am_E 2 0 [.ref 23, .int x4, .int xs0] [] (am_W I J T L C)).bind (fun z7 => am_vI z7.1 fun u7 => (am_E 15 20 [.ref 22, .ref q1, .ref 34, .int x3, .int x4, .int xs0] [.int u7, .ref q1, .ref 22] z7.2))) else (if (am_cI q1 1) = 0 + 1 then (if x4 = 12 then ((am_E 17 0 [.ref 22, .ref q1] [] (am_W I J T L C)).bind (fun z6 => (am_E 15 29 [.ref 22, .ref q1, .ref 34, .int x3, .int x4, .int xs0] [] z6.2))) else ((am_E 2 0 [.ref 23, .int x4, .int xs0] [] (am_W I J T L C)).bind (fun z5 => am_vI z5.1 fun u5 => (am_E 15 40 [.ref 22, .ref q1, .ref 34, .int x3, .int x4, .int xs0] [.int u5, .int (I 22 7), .ref q1, .ref 22, .ref 22] z5.2)))) else (if (am_cI q1 1) = 0 + 1 + 1 then (cond (Nat.beq (am_SF L q1).1 30) ((am_E 25 0 [.ref q1, .int (I 22 7)] [] (am_W I J T L C)).bind (fun z4 => am_vI z4.1 fun u4 => (am_E 15 51 [.ref 22, .ref q1, .ref 34, .int x3, .int x4, .int xs0] [.int u4, .int xs0, .int x4, .ref 23] z4.2))) none) else (if (am_cI q1 1) = 0 + 1 + 1 + 1 then (if (I 22 7) = 0 then (some (.null, (am_W I J T L C))) else (cond ((Nat.beq (am_SF L q1).1 30 || Nat.beq q1 0) && true) (if q1 = 1005 then (am_E 15 66 [.ref 22, .ref q1, .ref 34, .int x3, .int x4, .int xs0] [.int 1, .int xs0, .int x4, .ref 23] (am_W I J T L C)) else (am_E 15 66 [.ref 22, .ref q1, .ref 34, .int x3, .int x4, .int xs0] [.int 0, .int xs0, .int x4, .ref 23] (am_W I J T L C))) none)) else (if (am_cI q1 1) = 0 + 1 + 1 + 1 + 1 then ((am_E 18 0 [.ref 22, .null] [] (am_W I J T L C)).bind (fun z3 => (am_E 15 70 [.ref 22, .ref q1, .ref 34, .int x3, .int x4, .int xs0] [] z3.2))) else (if (am_cI q1 1) = 0 + 1 + 1 + 1 + 1 + 1 then (if (I 22 7) = 0 then (some (.null, (am_W (am_up I 22 7 1) J T L C))) else (some (.null, (am_W (am_up I 22 7 0) J T L C)))) else (if (am_cI q1 1) = 0 + 1 + 1 + 1 + 1 + 1 + 1 then (cond (Nat.beq (am_SF L q1).1 30) ((am_E 27 0 [.ref q1, .int (I 22 7)] [] (am_W I J T L C)).bind (fun z2 => am_vI z2.1 fun u2 => (am_E 15 84 [.ref 22, .ref q1, .ref 34, .int x3, .int x4, .int xs0] [.int u2] z2.2))) none) else (if (am_cI q1 1) = 0 + 1 + 1 + 1 + 1 + 1 + 1 + 1 then (cond (Nat.beq (am_SF L q1).1 30) ((am_E 27 0 [.ref q1, .int (I 22 7)] [] (am_W I J T L C)).bind (fun z1 => am_vI z1.1 fun u1 => (am_E 15 96 [.ref 22, .ref q1, .ref 34, .int x3, .int x4, .int xs0] [.int u1] z1.2))) none) else (some (.null, (am_W I J T L C))))))))))) none) := (am_rg [4, 9, 20, 21, 29, 40, 41, 51, 52, 66, 67, 70, 84, 90, 96] 17 _ _ _ _ _).trans rfl
theorem rg_15_20 (I : Nat → Nat → Int32) (J : Nat → Nat → Int64) (T : Nat → Nat → Nat) (L : Nat) (C : Nat × Nat) (q1 : Nat) (x3 : Int32) (x4 : Int32) (x5 : Int32) (qs1 : Nat) (xs2 : Int32) : am_E 15 20 [.ref 22, .ref q1, .ref 34, .int x3, .int x4, .int x5] [.int xs2, .ref qs1, .ref 22] (am_W I J T L C) = (cond (Nat.beq (am_SF L qs1).1 30) ((am_E 25 0 [.ref qs1, .int xs2] [] (am_W I J T L C)).bind (fun z1 => am_vI z1.1 fun u1 => (am_E 15 21 [.ref 22, .ref q1, .ref 34, .int x3, .int x4, .int x5] [.int u1, .ref 22] z1.2))) none) := (am_rg [4, 9, 20, 21, 29, 40, 41, 51, 52, 66, 67, 70, 84, 90, 96] 1 _ _ _ _ _).trans rfl
theorem rg_15_21 (I : Nat → Nat → Int32) (J : Nat → Nat → Int64) (T : Nat → Nat → Nat) (L : Nat) (C : Nat × Nat) (q1 : Nat) (x3 : Int32) (x4 : Int32) (x5 : Int32) (xs1 : Int32) : am_E 15 21 [.ref 22, .ref q1, .ref 34, .int x3, .int x4, .int x5] [.int xs1, .ref 22] (am_W I J T L C) = (some (.null, (am_W (am_up I 22 7 xs1) J T L C))) := (am_rg [4, 9, 20, 21, 29, 40, 41, 51, 52, 66, 67, 70, 84, 90, 96] 3 _ _ _ _ _).trans rfl
theorem rg_15_29 (I : Nat → Nat → Int32) (J : Nat → Nat → Int64) (T : Nat → Nat → Nat) (L : Nat) (C : Nat × Nat) (q1 : Nat) (x3 : Int32) (x4 : Int32) (x5 : Int32) : am_E 15 29 [.ref 22, .ref q1, .ref 34, .int x3, .int x4, .int x5] [] (am_W I J T L C) = (some (.null, (am_W I J T L C))) := (am_rg [4, 9, 20, 21, 29, 40, 41, 51, 52, 66, 67, 70, 84, 90, 96] 2 _ _ _ _ _).trans rfl
theorem rg_15_40 (I : Nat → Nat → Int32) (J : Nat → Nat → Int64) (T : Nat → Nat → Nat) (L : Nat) (C : Nat × Nat) (q1 : Nat) (x3 : Int32) (x4 : Int32) (x5 : Int32) (qs2 : Nat) (xs3 : Int32) (xs4 : Int32) : am_E 15 40 [.ref 22, .ref q1, .ref 34, .int x3, .int x4, .int x5] [.int xs4, .int xs3, .ref qs2, .ref 22, .ref 22] (am_W I J T L C) = ((am_E 19 0 [.ref 22, .ref qs2, .int xs3, .int xs4, .null] [] (am_W I J T L C)).bind (fun z1 => am_vI z1.1 fun u1 => (am_E 15 41 [.ref 22, .ref q1, .ref 34, .int x3, .int x4, .int x5] [.int u1, .ref 22] z1.2))) := (am_rg [4, 9, 20, 21, 29, 40, 41, 51, 52, 66, 67, 70, 84, 90, 96] 1 _ _ _ _ _).trans rfl
theorem rg_15_41 (I : Nat → Nat → Int32) (J : Nat → Nat → Int64) (T : Nat → Nat → Nat) (L : Nat) (C : Nat × Nat) (q1 : Nat) (x3 : Int32) (x4 : Int32) (x5 : Int32) (xs1 : Int32) : am_E 15 41 [.ref 22, .ref q1, .ref 34, .int x3, .int x4, .int x5] [.int xs1, .ref 22] (am_W I J T L C) = (some (.null, (am_W (am_up I 22 7 xs1) J T L C))) := (am_rg [4, 9, 20, 21, 29, 40, 41, 51, 52, 66, 67, 70, 84, 90, 96] 3 _ _ _ _ _).trans rfl
theorem rg_15_51 (I : Nat → Nat → Int32) (J : Nat → Nat → Int64) (T : Nat → Nat → Nat) (L : Nat) (C : Nat × Nat) (q1 : Nat) (x3 : Int32) (x4 : Int32) (x5 : Int32) (xs1 : Int32) (xs2 : Int32) (xs3 : Int32) : am_E 15 51 [.ref 22, .ref q1, .ref 34, .int x3, .int x4, .int x5] [.int xs3, .int xs2, .int xs1, .ref 23] (am_W I J T L C) = ((am_E 4 0 [.ref 23, .int xs1, .int xs2, .int xs3] [] (am_W I J T L C)).bind (fun z1 => (am_E 15 52 [.ref 22, .ref q1, .ref 34, .int x3, .int x4, .int x5] [] z1.2))) := (am_rg [4, 9, 20, 21, 29, 40, 41, 51, 52, 66, 67, 70, 84, 90, 96] 1 _ _ _ _ _).trans rfl
theorem rg_15_52 (I : Nat → Nat → Int32) (J : Nat → Nat → Int64) (T : Nat → Nat → Nat) (L : Nat) (C : Nat × Nat) (q1 : Nat) (x3 : Int32) (x4 : Int32) (x5 : Int32) : am_E 15 52 [.ref 22, .ref q1, .ref 34, .int x3, .int x4, .int x5] [] (am_W I J T L C) = (some (.null, (am_W I J T L C))) := (am_rg [4, 9, 20, 21, 29, 40, 41, 51, 52, 66, 67, 70, 84, 90, 96] 2 _ _ _ _ _).trans rfl
theorem rg_15_66 (I : Nat → Nat → Int32) (J : Nat → Nat → Int64) (T : Nat → Nat → Nat) (L : Nat) (C : Nat × Nat) (q1 : Nat) (x3 : Int32) (x4 : Int32) (x5 : Int32) (xs1 : Int32) (xs2 : Int32) (xs3 : Int32) : am_E 15 66 [.ref 22, .ref q1, .ref 34, .int x3, .int x4, .int x5] [.int xs3, .int xs2, .int xs1, .ref 23] (am_W I J T L C) = ((am_E 3 0 [.ref 23, .int xs1, .int xs2, .int xs3] [] (am_W I J T L C)).bind (fun z1 => (am_E 15 67 [.ref 22, .ref q1, .ref 34, .int x3, .int x4, .int x5] [] z1.2))) := (am_rg [4, 9, 20, 21, 29, 40, 41, 51, 52, 66, 67, 70, 84, 90, 96] 1 _ _ _ _ _).trans rfl
theorem rg_15_67 (I : Nat → Nat → Int32) (J : Nat → Nat → Int64) (T : Nat → Nat → Nat) (L : Nat) (C : Nat × Nat) (q1 : Nat) (x3 : Int32) (x4 : Int32) (x5 : Int32) : am_E 15 67 [.ref 22, .ref q1, .ref 34, .int x3, .int x4, .int x5] [] (am_W I J T L C) = (some (.null, (am_W I J T L C))) := (am_rg [4, 9, 20, 21, 29, 40, 41, 51, 52, 66, 67, 70, 84, 90, 96] 2 _ _ _ _ _).trans rfl
theorem rg_15_70 (I : Nat → Nat → Int32) (J : Nat → Nat → Int64) (T : Nat → Nat → Nat) (L : Nat) (C : Nat × Nat) (q1 : Nat) (x3 : Int32) (x4 : Int32) (x5 : Int32) : am_E 15 70 [.ref 22, .ref q1, .ref 34, .int x3, .int x4, .int x5] [] (am_W I J T L C) = (some (.null, (am_W I J T L C))) := (am_rg [4, 9, 20, 21, 29, 40, 41, 51, 52, 66, 67, 70, 84, 90, 96] 2 _ _ _ _ _).trans rfl
theorem rg_15_84 (I : Nat → Nat → Int32) (J : Nat → Nat → Int64) (T : Nat → Nat → Nat) (L : Nat) (C : Nat × Nat) (q1 : Nat) (x3 : Int32) (x4 : Int32) (x5 : Int32) (xs0 : Int32) : am_E 15 84 [.ref 22, .ref q1, .ref 34, .int x3, .int x4, .int x5] [.int xs0] (am_W I J T L C) = (if xs0 = 0 then (some (.null, (am_W I J T L C))) else ((am_E 89 0 [.ref 48, .int x5] [] (am_W I J T L C)).bind (fun z1 => am_vI z1.1 fun u1 => (am_E 15 90 [.ref 22, .ref q1, .ref 34, .int x3, .int x4, .int x5] [.int u1, .ref 22] z1.2)))) := (am_rg [4, 9, 20, 21, 29, 40, 41, 51, 52, 66, 67, 70, 84, 90, 96] 6 _ _ _ _ _).trans rfl
theorem rg_15_90 (I : Nat → Nat → Int32) (J : Nat → Nat → Int64) (T : Nat → Nat → Nat) (L : Nat) (C : Nat × Nat) (q1 : Nat) (x3 : Int32) (x4 : Int32) (x5 : Int32) (xs1 : Int32) : am_E 15 90 [.ref 22, .ref q1, .ref 34, .int x3, .int x4, .int x5] [.int xs1, .ref 22] (am_W I J T L C) = (some (.null, (am_W (am_up I 22 8 xs1) J T L C))) := (am_rg [4, 9, 20, 21, 29, 40, 41, 51, 52, 66, 67, 70, 84, 90, 96] 3 _ _ _ _ _).trans rfl
theorem rg_15_96 (I : Nat → Nat → Int32) (J : Nat → Nat → Int64) (T : Nat → Nat → Nat) (L : Nat) (C : Nat × Nat) (q1 : Nat) (x3 : Int32) (x4 : Int32) (x5 : Int32) (xs0 : Int32) : am_E 15 96 [.ref 22, .ref q1, .ref 34, .int x3, .int x4, .int x5] [.int xs0] (am_W I J T L C) = (if xs0 = 0 then (some (.null, (am_W I J T L C))) else (some (.null, (am_W (am_up I 22 8 (I 34 6)) J T L C)))) := (am_rg [4, 9, 20, 21, 29, 40, 41, 51, 52, 66, 67, 70, 84, 90, 96] 7 _ _ _ _ _).trans rfl
-- 16 ScanChart$Machine.performBlock(LScanChart$Op;II)V
theorem rg_16_0 (I : Nat → Nat → Int32) (J : Nat → Nat → Int64) (T : Nat → Nat → Nat) (L : Nat) (C : Nat × Nat) (q1 : Nat) (x2 : Int32) (x3 : Int32) : am_E 16 0 [.ref 22, .ref q1, .int x2, .int x3, .null] [] (am_W I J T L C) = (if (I 22 7) = 0 then (am_E 16 6 [.ref 22, .ref q1, .int x2, .int x3, .null] [.int 0] (am_W I J T L C)) else (am_E 16 6 [.ref 22, .ref q1, .int x2, .int x3, .null] [.int 1] (am_W I J T L C))) := (am_rg [6, 10, 22, 33, 44, 53, 61, 69, 76, 80, 88, 92, 94, 104, 116] 5 _ _ _ _ _).trans rfl
theorem rg_16_6 (I : Nat → Nat → Int32) (J : Nat → Nat → Int64) (T : Nat → Nat → Nat) (L : Nat) (C : Nat × Nat) (q1 : Nat) (x2 : Int32) (x3 : Int32) (v4 : Value) (xs0 : Int32) : am_E 16 6 [.ref 22, .ref q1, .int x2, .int x3, v4] [.int xs0] (am_W I J T L C) = (cond (Nat.beq (am_SF L q1).1 30) ((am_E 161 0 [.ref q1] [] (am_W I J T L C)).bind (fun z1 => am_vI z1.1 fun u1 => (am_E 16 10 [.ref 22, .ref q1, .int x2, .int x3, .int xs0] [.int u1, .ref 4003] z1.2))) none) := (am_rg [6, 10, 22, 33, 44, 53, 61, 69, 76, 80, 88, 92, 94, 104, 116] 4 _ _ _ _ _).trans rfl
theorem rg_16_10 (I : Nat → Nat → Int32) (J : Nat → Nat → Int64) (T : Nat → Nat → Nat) (L : Nat) (C : Nat × Nat) (q1 : Nat) (x2 : Int32) (x3 : Int32) (x4 : Int32) (xs1 : Int32) : am_E 16 10 [.ref 22, .ref q1, .int x2, .int x3, .int x4] [.int xs1, .ref 4003] (am_W I J T L C) = (am_inb xs1 (am_SF L 4003).2 (if (am_cI 4003 (Int32.toNatClampNeg xs1)) = 1 then ((am_E 32 0 [.ref 28, .ref 23, .int x2, .int x4, .int x3, .long (J 22 1), .null, .null] [] (am_W I J T L C)).bind (fun z8 => (am_E 16 22 [.ref 22, .ref q1, .int x2, .int x3, .int x4] [] z8.2))) else (if (am_cI 4003 (Int32.toNatClampNeg xs1)) = 1 + 1 then ((am_E 33 0 [.ref 28, .ref 23, .int x2, .int x4, .int x3, .long (J 22 1), .null, .null] [] (am_W I J T L C)).bind (fun z7 => (am_E 16 33 [.ref 22, .ref q1, .int x2, .int x3, .int x4] [] z7.2))) else (if (am_cI 4003 (Int32.toNatClampNeg xs1)) = 1 + 1 + 1 then ((am_E 34 0 [.ref 28, .ref 23, .int x2, .int x4, .int x3, .long (J 22 1), .null, .null, .null] [] (am_W I J T L C)).bind (fun z6 => (am_E 16 44 [.ref 22, .ref q1, .int x2, .int x3, .int x4] [] z6.2))) else (if (am_cI 4003 (Int32.toNatClampNeg xs1)) = 1 + 1 + 1 + 1 then ((am_E 35 0 [.ref 28, .ref 23, .int x2, .int x4, .int x3, .null] [] (am_W I J T L C)).bind (fun z5 => (am_E 16 53 [.ref 22, .ref q1, .int x2, .int x3, .int x4] [] z5.2))) else (if (am_cI 4003 (Int32.toNatClampNeg xs1)) = 1 + 1 + 1 + 1 + 1 then ((am_E 36 0 [.ref 28, .ref 23, .int x2, .int x4, .null] [] (am_W I J T L C)).bind (fun z4 => (am_E 16 61 [.ref 22, .ref q1, .int x2, .int x3, .int x4] [] z4.2))) else (if (am_cI 4003 (Int32.toNatClampNeg xs1)) = 1 + 1 + 1 + 1 + 1 + 1 then (if x4 = 0 then (am_E 16 94 [.ref 22, .ref q1, .int x2, .int x3, .int x4] [] (am_W I J T L C)) else ((am_E 6 0 [.ref 23, .int x2, .int 0] [] (am_W I J T L C)).bind (fun z3 => (am_E 16 69 [.ref 22, .ref q1, .int x2, .int x3, .int x4] [] z3.2)))) else (if (am_cI 4003 (Int32.toNatClampNeg xs1)) = 1 + 1 + 1 + 1 + 1 + 1 + 1 then ((am_E 37 0 [.ref 28, .int x2, .int x4, .null] [] (am_W I J T L C)).bind (fun z2 => am_vI z2.1 fun u2 => (am_E 16 76 [.ref 22, .ref q1, .int x2, .int x3, .int x4] [.int u2, .ref 22] z2.2))) else (if (am_cI 4003 (Int32.toNatClampNeg xs1)) = 1 + 1 + 1 + 1 + 1 + 1 + 1 + 1 then ((am_E 38 0 [.ref 28, .int x2, .int x4, .null] [] (am_W I J T L C)).bind (fun z1 => am_vI z1.1 fun u1 => (am_E 16 88 [.ref 22, .ref q1, .int x2, .int x3, .int x4] [.int u1, .ref 22] z1.2))) else (am_E 16 94 [.ref 22, .ref q1, .int x2, .int x3, .int x4] [] (am_W I J T L C))))))))))) := (am_rg [6, 10, 22, 33, 44, 53, 61, 69, 76, 80, 88, 92, 94, 104, 116] 12 _ _ _ _ _).trans rfl
theorem rg_16_22 (I : Nat → Nat → Int32) (J : Nat → Nat → Int64) (T : Nat → Nat → Nat) (L : Nat) (C : Nat × Nat) (q1 : Nat) (x2 : Int32) (x3 : Int32) (x4 : Int32) : am_E 16 22 [.ref 22, .ref q1, .int x2, .int x3, .int x4] [] (am_W I J T L C) = (am_E 16 94 [.ref 22, .ref q1, .int x2, .int x3, .int x4] [] (am_W I J T L C)) := (am_rg [6, 10, 22, 33, 44, 53, 61, 69, 76, 80, 88, 92, 94, 104, 116] 1 _ _ _ _ _).trans rfl
theorem rg_16_33 (I : Nat → Nat → Int32) (J : Nat → Nat → Int64) (T : Nat → Nat → Nat) (L : Nat) (C : Nat × Nat) (q1 : Nat) (x2 : Int32) (x3 : Int32) (x4 : Int32) : am_E 16 33 [.ref 22, .ref q1, .int x2, .int x3, .int x4] [] (am_W I J T L C) = (am_E 16 94 [.ref 22, .ref q1, .int x2, .int x3, .int x4] [] (am_W I J T L C)) := (am_rg [6, 10, 22, 33, 44, 53, 61, 69, 76, 80, 88, 92, 94, 104, 116] 1 _ _ _ _ _).trans rfl
theorem rg_16_44 (I : Nat → Nat → Int32) (J : Nat → Nat → Int64) (T : Nat → Nat → Nat) (L : Nat) (C : Nat × Nat) (q1 : Nat) (x2 : Int32) (x3 : Int32) (x4 : Int32) : am_E 16 44 [.ref 22, .ref q1, .int x2, .int x3, .int x4] [] (am_W I J T L C) = (am_E 16 94 [.ref 22, .ref q1, .int x2, .int x3, .int x4] [] (am_W I J T L C)) := (am_rg [6, 10, 22, 33, 44, 53, 61, 69, 76, 80, 88, 92, 94, 104, 116] 1 _ _ _ _ _).trans rfl
theorem rg_16_53 (I : Nat → Nat → Int32) (J : Nat → Nat → Int64) (T : Nat → Nat → Nat) (L : Nat) (C : Nat × Nat) (q1 : Nat) (x2 : Int32) (x3 : Int32) (x4 : Int32) : am_E 16 53 [.ref 22, .ref q1, .int x2, .int x3, .int x4] [] (am_W I J T L C) = (am_E 16 94 [.ref 22, .ref q1, .int x2, .int x3, .int x4] [] (am_W I J T L C)) := (am_rg [6, 10, 22, 33, 44, 53, 61, 69, 76, 80, 88, 92, 94, 104, 116] 1 _ _ _ _ _).trans rfl
theorem rg_16_61 (I : Nat → Nat → Int32) (J : Nat → Nat → Int64) (T : Nat → Nat → Nat) (L : Nat) (C : Nat × Nat) (q1 : Nat) (x2 : Int32) (x3 : Int32) (x4 : Int32) : am_E 16 61 [.ref 22, .ref q1, .int x2, .int x3, .int x4] [] (am_W I J T L C) = (am_E 16 94 [.ref 22, .ref q1, .int x2, .int x3, .int x4] [] (am_W I J T L C)) := (am_rg [6, 10, 22, 33, 44, 53, 61, 69, 76, 80, 88, 92, 94, 104, 116] 1 _ _ _ _ _).trans rfl
theorem rg_16_69 (I : Nat → Nat → Int32) (J : Nat → Nat → Int64) (T : Nat → Nat → Nat) (L : Nat) (C : Nat × Nat) (q1 : Nat) (x2 : Int32) (x3 : Int32) (x4 : Int32) : am_E 16 69 [.ref 22, .ref q1, .int x2, .int x3, .int x4] [] (am_W I J T L C) = (am_E 16 94 [.ref 22, .ref q1, .int x2, .int x3, .int x4] [] (am_W I J T L C)) := (am_rg [6, 10, 22, 33, 44, 53, 61, 69, 76, 80, 88, 92, 94, 104, 116] 1 _ _ _ _ _).trans rfl
theorem rg_16_76 (I : Nat → Nat → Int32) (J : Nat → Nat → Int64) (T : Nat → Nat → Nat) (L : Nat) (C : Nat × Nat) (q1 : Nat) (x2 : Int32) (x3 : Int32) (x4 : Int32) (xs1 : Int32) : am_E 16 76 [.ref 22, .ref q1, .int x2, .int x3, .int x4] [.int xs1, .ref 22] (am_W I J T L C) = (if xs1 = 0 then (am_E 16 80 [.ref 22, .ref q1, .int x2, .int x3, .int x4] [.int 0, .ref 22] (am_W I J T L C)) else (am_E 16 80 [.ref 22, .ref q1, .int x2, .int x3, .int x4] [.int 1, .ref 22] (am_W I J T L C))) := (am_rg [6, 10, 22, 33, 44, 53, 61, 69, 76, 80, 88, 92, 94, 104, 116] 3 _ _ _ _ _).trans rfl
theorem rg_16_80 (I : Nat → Nat → Int32) (J : Nat → Nat → Int64) (T : Nat → Nat → Nat) (L : Nat) (C : Nat × Nat) (q1 : Nat) (x2 : Int32) (x3 : Int32) (x4 : Int32) (xs1 : Int32) : am_E 16 80 [.ref 22, .ref q1, .int x2, .int x3, .int x4] [.int xs1, .ref 22] (am_W I J T L C) = (am_E 16 94 [.ref 22, .ref q1, .int x2, .int x3, .int x4] [] (am_W (am_up I 22 7 xs1) J T L C)) := (am_rg [6, 10, 22, 33, 44, 53, 61, 69, 76, 80, 88, 92, 94, 104, 116] 2 _ _ _ _ _).trans rfl
theorem rg_16_88 (I : Nat → Nat → Int32) (J : Nat → Nat → Int64) (T : Nat → Nat → Nat) (L : Nat) (C : Nat × Nat) (q1 : Nat) (x2 : Int32) (x3 : Int32) (x4 : Int32) (xs1 : Int32) : am_E 16 88 [.ref 22, .ref q1, .int x2, .int x3, .int x4] [.int xs1, .ref 22] (am_W I J T L C) = (if xs1 = 0 then (am_E 16 92 [.ref 22, .ref q1, .int x2, .int x3, .int x4] [.int 0, .ref 22] (am_W I J T L C)) else (am_E 16 92 [.ref 22, .ref q1, .int x2, .int x3, .int x4] [.int 1, .ref 22] (am_W I J T L C))) := (am_rg [6, 10, 22, 33, 44, 53, 61, 69, 76, 80, 88, 92, 94, 104, 116] 3 _ _ _ _ _).trans rfl
theorem rg_16_92 (I : Nat → Nat → Int32) (J : Nat → Nat → Int64) (T : Nat → Nat → Nat) (L : Nat) (C : Nat × Nat) (q1 : Nat) (x2 : Int32) (x3 : Int32) (x4 : Int32) (xs1 : Int32) : am_E 16 92 [.ref 22, .ref q1, .int x2, .int x3, .int x4] [.int xs1, .ref 22] (am_W I J T L C) = (am_E 16 94 [.ref 22, .ref q1, .int x2, .int x3, .int x4] [] (am_W (am_up I 22 7 xs1) J T L C)) := (am_rg [6, 10, 22, 33, 44, 53, 61, 69, 76, 80, 88, 92, 94, 104, 116] 2 _ _ _ _ _).trans rfl
theorem rg_16_94 (I : Nat → Nat → Int32) (J : Nat → Nat → Int64) (T : Nat → Nat → Nat) (L : Nat) (C : Nat × Nat) (q1 : Nat) (x2 : Int32) (x3 : Int32) (x4 : Int32) : am_E 16 94 [.ref 22, .ref q1, .int x2, .int x3, .int x4] [] (am_W I J T L C) = (cond (Nat.beq (am_SF L q1).1 30) (if (am_cI q1 1) = 8 then ((am_E 2 0 [.ref 23, .int 4, .int x2] [] (am_W I J T L C)).bind (fun z2 => am_vI z2.1 fun u2 => (am_E 16 104 [.ref 22, .ref q1, .int x2, .int x3, .int x4] [.int u2, .ref 22] z2.2))) else (cond (Nat.beq (am_SF L q1).1 30) (if (am_cI q1 1) = 9 then ((am_E 2 0 [.ref 23, .int 5, .int x2] [] (am_W I J T L C)).bind (fun z1 => am_vI z1.1 fun u1 => (am_E 16 116 [.ref 22, .ref q1, .int x2, .int x3, .int x4] [.int u1, .ref 22] z1.2))) else (some (.null, (am_W I J T L C)))) none)) none) := (am_rg [6, 10, 22, 33, 44, 53, 61, 69, 76, 80, 88, 92, 94, 104, 116] 14 _ _ _ _ _).trans rfl
theorem rg_16_104 (I : Nat → Nat → Int32) (J : Nat → Nat → Int64) (T : Nat → Nat → Nat) (L : Nat) (C : Nat × Nat) (q1 : Nat) (x2 : Int32) (x3 : Int32) (x4 : Int32) (xs1 : Int32) : am_E 16 104 [.ref 22, .ref q1, .int x2, .int x3, .int x4] [.int xs1, .ref 22] (am_W I J T L C) = (some (.null, (am_W (am_up I 22 7 xs1) J T L C))) := (am_rg [6, 10, 22, 33, 44, 53, 61, 69, 76, 80, 88, 92, 94, 104, 116] 3 _ _ _ _ _).trans rfl
theorem rg_16_116 (I : Nat → Nat → Int32) (J : Nat → Nat → Int64) (T : Nat → Nat → Nat) (L : Nat) (C : Nat × Nat) (q1 : Nat) (x2 : Int32) (x3 : Int32) (x4 : Int32) (xs1 : Int32) : am_E 16 116 [.ref 22, .ref q1, .int x2, .int x3, .int x4] [.int xs1, .ref 22] (am_W I J T L C) = (some (.null, (am_W (am_up I 22 7 xs1) J T L C))) := (am_rg [6, 10, 22, 33, 44, 53, 61, 69, 76, 80, 88, 92, 94, 104, 116] 2 _ _ _ _ _).trans rfl
-- 17 ScanChart$Machine.putAside(LScanChart$Op;)V
theorem rg_17_0 (I : Nat → Nat → Int32) (J : Nat → Nat → Int64) (T : Nat → Nat → Nat) (L : Nat) (C : Nat × Nat) (q1 : Nat) : am_E 17 0 [.ref 22, .ref q1] [] (am_W I J T L C) = (if (I 22 9) < 0 then (some (.null, (am_W I J T L C))) else (if (I 22 9) < (nI 8) then (am_inb (I 22 9) 8 (cond (Nat.beq (am_SF L q1).1 30) ((am_E 90 0 [.ref 32, .int (I 22 9), .int (I 22 7)] [] (am_W I J (am_up T 33 (Int32.toNatClampNeg (I 22 9)) q1) L C)).bind (fun z1 => (am_E 17 23 [.ref 22, .ref q1] [] z1.2))) none)) else (some (.null, (am_W I J T L C))))) := (am_rg [23] 22 _ _ _ _ _).trans rfl
theorem rg_17_23 (I : Nat → Nat → Int32) (J : Nat → Nat → Int64) (T : Nat → Nat → Nat) (L : Nat) (C : Nat × Nat) (q1 : Nat) : am_E 17 23 [.ref 22, .ref q1] [] (am_W I J T L C) = (some (.null, (am_W (am_up (am_up I 22 9 ((I 22 9) + 1)) 22 7 0) J T L C))) := (am_rg [23] 10 _ _ _ _ _).trans rfl
-- 18 ScanChart$Machine.takeBack()V
theorem rg_18_0 (I : Nat → Nat → Int32) (J : Nat → Nat → Int64) (T : Nat → Nat → Nat) (L : Nat) (C : Nat × Nat) : am_E 18 0 [.ref 22, .null] [] (am_W I J T L C) = (if (I 22 9) < 1 then (some (.null, (am_W I J T L C))) else (if (I 22 9) ≤ (nI 8) then (am_inb ((I 22 9) - 1) 8 (cond (Nat.beq (am_SF L (T 33 (Int32.toNatClampNeg ((I 22 9) - 1)))).1 30 || Nat.beq (T 33 (Int32.toNatClampNeg ((I 22 9) - 1))) 0) (if (T 33 (Int32.toNatClampNeg ((I 22 9) - 1))) = 0 then (some (.null, (am_W (am_up I 22 9 ((I 22 9) - 1)) J T L C))) else ((am_E 89 0 [.ref 32, .int ((I 22 9) - 1)] [] (am_W (am_up I 22 9 ((I 22 9) - 1)) J T L C)).bind (fun z1 => am_vI z1.1 fun u1 => (am_E 18 33 [.ref 22, .ref (T 33 (Int32.toNatClampNeg ((I 22 9) - 1)))] [.int u1, .ref (T 33 (Int32.toNatClampNeg ((I 22 9) - 1))), .ref 22, .ref 22] z1.2)))) none)) else (some (.null, (am_W I J T L C))))) := (am_rg [33, 36] 32 _ _ _ _ _).trans rfl
theorem rg_18_33 (I : Nat → Nat → Int32) (J : Nat → Nat → Int64) (T : Nat → Nat → Nat) (L : Nat) (C : Nat × Nat) (q1 : Nat) (qs2 : Nat) (xs3 : Int32) : am_E 18 33 [.ref 22, .ref q1] [.int xs3, .ref qs2, .ref 22, .ref 22] (am_W I J T L C) = ((am_E 19 0 [.ref 22, .ref qs2, .int xs3, .int (I 22 7), .null] [] (am_W I J T L C)).bind (fun z1 => am_vI z1.1 fun u1 => (am_E 18 36 [.ref 22, .ref q1] [.int u1, .ref 22] z1.2))) := (am_rg [33, 36] 3 _ _ _ _ _).trans rfl
theorem rg_18_36 (I : Nat → Nat → Int32) (J : Nat → Nat → Int64) (T : Nat → Nat → Nat) (L : Nat) (C : Nat × Nat) (q1 : Nat) (xs1 : Int32) : am_E 18 36 [.ref 22, .ref q1] [.int xs1, .ref 22] (am_W I J T L C) = (some (.null, (am_W (am_up I 22 7 xs1) J T L C))) := (am_rg [33, 36] 2 _ _ _ _ _).trans rfl
-- 19 ScanChart$Machine.calculate(LScanChart$Op;II)I
theorem rg_19_0 (I : Nat → Nat → Int32) (J : Nat → Nat → Int64) (T : Nat → Nat → Nat) (L : Nat) (C : Nat × Nat) (q1 : Nat) (x2 : Int32) (x3 : Int32) : am_E 19 0 [.ref 22, .ref q1, .int x2, .int x3, .null] [] (am_W I J T L C) = (cond (Nat.beq (am_SF L q1).1 30) ((am_E 25 0 [.ref q1, .int x3] [] (am_W I J T L C)).bind (fun z1 => am_vI z1.1 fun u1 => (am_E 19 3 [.ref 22, .ref q1, .int x2, .int x3, .null] [.int u1] z1.2))) none) := (am_rg [3, 7, 56] 3 _ _ _ _ _).trans rfl
theorem rg_19_3 (I : Nat → Nat → Int32) (J : Nat → Nat → Int64) (T : Nat → Nat → Nat) (L : Nat) (C : Nat × Nat) (q1 : Nat) (x2 : Int32) (x3 : Int32) (v4 : Value) (xs0 : Int32) : am_E 19 3 [.ref 22, .ref q1, .int x2, .int x3, v4] [.int xs0] (am_W I J T L C) = (cond (Nat.beq (am_SF L q1).1 30) ((am_E 161 0 [.ref q1] [] (am_W I J T L C)).bind (fun z1 => am_vI z1.1 fun u1 => (am_E 19 7 [.ref 22, .ref q1, .int x2, .int x3, .int xs0] [.int u1, .ref 4003] z1.2))) none) := (am_rg [3, 7, 56] 4 _ _ _ _ _).trans rfl
theorem rg_19_7 (I : Nat → Nat → Int32) (J : Nat → Nat → Int64) (T : Nat → Nat → Nat) (L : Nat) (C : Nat × Nat) (q1 : Nat) (x2 : Int32) (x3 : Int32) (x4 : Int32) (xs1 : Int32) : am_E 19 7 [.ref 22, .ref q1, .int x2, .int x3, .int x4] [.int xs1, .ref 4003] (am_W I J T L C) = (am_inb xs1 (am_SF L 4003).2 (if (am_cI 4003 (Int32.toNatClampNeg xs1)) = 9 then (some (.int (x2 &&& x4), (am_W I J T L C))) else (if (am_cI 4003 (Int32.toNatClampNeg xs1)) = 9 + 1 then (some (.int (x2 &&& x4), (am_W I J T L C))) else (if (am_cI 4003 (Int32.toNatClampNeg xs1)) = 9 + 1 + 1 then (some (.int (x2 ||| x4), (am_W I J T L C))) else (if (am_cI 4003 (Int32.toNatClampNeg xs1)) = 9 + 1 + 1 + 1 then (some (.int (x2 ||| x4), (am_W I J T L C))) else (if (am_cI 4003 (Int32.toNatClampNeg xs1)) = 9 + 1 + 1 + 1 + 1 then (some (.int (x2 ^^^ x4), (am_W I J T L C))) else (if (am_cI 4003 (Int32.toNatClampNeg xs1)) = 9 + 1 + 1 + 1 + 1 + 1 then (some (.int (x2 ^^^ x4), (am_W I J T L C))) else (if (am_cI 4003 (Int32.toNatClampNeg xs1)) = 9 + 1 + 1 + 1 + 1 + 1 + 1 then (some (.int (x2 + x4), (am_W I J T L C))) else (if (am_cI 4003 (Int32.toNatClampNeg xs1)) = 9 + 1 + 1 + 1 + 1 + 1 + 1 + 1 then (some (.int (x2 - x4), (am_W I J T L C))) else (if (am_cI 4003 (Int32.toNatClampNeg xs1)) = 9 + 1 + 1 + 1 + 1 + 1 + 1 + 1 + 1 then (some (.int (x2 * x4), (am_W I J T L C))) else (if (am_cI 4003 (Int32.toNatClampNeg xs1)) = 9 + 1 + 1 + 1 + 1 + 1 + 1 + 1 + 1 + 1 then (if x4 = 0 then (some (.int x2, (am_W (am_up I 22 3 2) J T L C))) else (cond ((Nat.beq (am_SF L q1).1 30 || Nat.beq q1 0) && true) (if q1 = 1016 then (if x4 = 0 then none else (some (.int (x2 / x4), (am_W I J T L C)))) else (if x4 = 0 then none else (some (.int (x2 - x2 / x4 * x4), (am_W I J T L C))))) none)) else (if (am_cI 4003 (Int32.toNatClampNeg xs1)) = 9 + 1 + 1 + 1 + 1 + 1 + 1 + 1 + 1 + 1 + 1 then (if x4 = 0 then (some (.int x2, (am_W (am_up I 22 3 2) J T L C))) else (cond ((Nat.beq (am_SF L q1).1 30 || Nat.beq q1 0) && true) (if q1 = 1016 then (if x4 = 0 then none else (some (.int (x2 / x4), (am_W I J T L C)))) else (if x4 = 0 then none else (some (.int (x2 - x2 / x4 * x4), (am_W I J T L C))))) none)) else ((am_E 20 0 [.ref 22, .ref q1, .int x2, .int x4] [] (am_W I J T L C)).bind (fun z1 => am_vI z1.1 fun u1 => (am_E 19 56 [.ref 22, .ref q1, .int x2, .int x3, .int x4] [.int u1] z1.2))))))))))))))) := (am_rg [3, 7, 56] 12 _ _ _ _ _).trans rfl
theorem rg_19_56 (I : Nat → Nat → Int32) (J : Nat → Nat → Int64) (T : Nat → Nat → Nat) (L : Nat) (C : Nat × Nat) (q1 : Nat) (x2 : Int32) (x3 : Int32) (x4 : Int32) (xs0 : Int32) : am_E 19 56 [.ref 22, .ref q1, .int x2, .int x3, .int x4] [.int xs0] (am_W I J T L C) = (if xs0 = 0 then (some (.int 0, (am_W I J T L C))) else (some (.int 1, (am_W I J T L C)))) := (am_rg [3, 7, 56] 4 _ _ _ _ _).trans rfl
-- 20 ScanChart$Machine.compare(LScanChart$Op;II)Z
theorem rg_20_0 (I : Nat → Nat → Int32) (J : Nat → Nat → Int64) (T : Nat → Nat → Nat) (L : Nat) (C : Nat × Nat) (q1 : Nat) (x2 : Int32) (x3 : Int32) : am_E 20 0 [.ref 22, .ref q1, .int x2, .int x3] [] (am_W I J T L C) = (cond (Nat.beq (am_SF L q1).1 30) ((am_E 161 0 [.ref q1] [] (am_W I J T L C)).bind (fun z1 => am_vI z1.1 fun u1 => (am_E 20 3 [.ref 22, .ref q1, .int x2, .int x3] [.int u1, .ref 4003] z1.2))) none) := (am_rg [3] 3 _ _ _ _ _).trans rfl
theorem rg_20_3 (I : Nat → Nat → Int32) (J : Nat → Nat → Int64) (T : Nat → Nat → Nat) (L : Nat) (C : Nat × Nat) (q1 : Nat) (x2 : Int32) (x3 : Int32) (xs1 : Int32) : am_E 20 3 [.ref 22, .ref q1, .int x2, .int x3] [.int xs1, .ref 4003] (am_W I J T L C) = (am_inb xs1 (am_SF L 4003).2 (if (am_cI 4003 (Int32.toNatClampNeg xs1)) = 20 then (if x2 ≤ x3 then (some (.int 0, (am_W I J T L C))) else (some (.int 1, (am_W I J T L C)))) else (if (am_cI 4003 (Int32.toNatClampNeg xs1)) = 20 + 1 then (if x2 < x3 then (some (.int 0, (am_W I J T L C))) else (some (.int 1, (am_W I J T L C)))) else (if (am_cI 4003 (Int32.toNatClampNeg xs1)) = 20 + 1 + 1 then (if x2 = x3 then (some (.int 1, (am_W I J T L C))) else (some (.int 0, (am_W I J T L C)))) else (if (am_cI 4003 (Int32.toNatClampNeg xs1)) = 20 + 1 + 1 + 1 then (if x2 = x3 then (some (.int 0, (am_W I J T L C))) else (some (.int 1, (am_W I J T L C)))) else (if (am_cI 4003 (Int32.toNatClampNeg xs1)) = 20 + 1 + 1 + 1 + 1 then (if x3 < x2 then (some (.int 0, (am_W I J T L C))) else (some (.int 1, (am_W I J T L C)))) else (if x3 ≤ x2 then (some (.int 0, (am_W I J T L C))) else (some (.int 1, (am_W I J T L C)))))))))) := (am_rg [3] 8 _ _ _ _ _).trans rfl
-- 21 ScanChart$Machine.goOn(LScanChart$Chart;)V
theorem rg_21_0 (I : Nat → Nat → Int32) (J : Nat → Nat → Int64) (T : Nat → Nat → Nat) (L : Nat) (C : Nat × Nat) : am_E 21 0 [.ref 22, .ref 35, .null, .null, .null, .null] [] (am_W I J T L C) = (am_E 21 4 [.ref 22, .ref 35, .int 0, .int 0, .null, .null] [] (am_W I J T L C)) := (am_rg [4, 12, 18, 28, 39, 44, 63, 66] 4 _ _ _ _ _).trans rfl
theorem rg_21_4 (I : Nat → Nat → Int32) (J : Nat → Nat → Int64) (T : Nat → Nat → Nat) (L : Nat) (C : Nat × Nat) (x2 : Int32) (x3 : Int32) (v4 : Value) (v5 : Value) : am_E 21 4 [.ref 22, .ref 35, .int x2, .int x3, v4, v5] [] (am_W I J T L C) = (if (I 35 5) ≤ x3 then ((am_E 89 0 [.ref 24, .int 3] [] (am_W I J T L C)).bind (fun z1 => am_vI z1.1 fun u1 => (am_E 21 63 [.ref 22, .ref 35, .int x2, .int x3, v4, v5] [.int u1, .int 3, .ref 24] z1.2))) else ((am_E 89 0 [.ref 36, .int x3] [] (am_W I J T L C)).bind (fun z2 => am_vI z2.1 fun u2 => (am_E 21 12 [.ref 22, .ref 35, .int x2, .int x3, v4, v5] [.int u2] z2.2)))) := (am_rg [4, 12, 18, 28, 39, 44, 63, 66] 13 _ _ _ _ _).trans rfl
theorem rg_21_12 (I : Nat → Nat → Int32) (J : Nat → Nat → Int64) (T : Nat → Nat → Nat) (L : Nat) (C : Nat × Nat) (x2 : Int32) (x3 : Int32) (v4 : Value) (v5 : Value) (xs0 : Int32) : am_E 21 12 [.ref 22, .ref 35, .int x2, .int x3, v4, v5] [.int xs0] (am_W I J T L C) = ((am_E 89 0 [.ref 24, .int 3] [] (am_W I J T L C)).bind (fun z1 => am_vI z1.1 fun u1 => (am_E 21 18 [.ref 22, .ref 35, .int x2, .int x3, .int xs0, v5] [.int u1] z1.2))) := (am_rg [4, 12, 18, 28, 39, 44, 63, 66] 6 _ _ _ _ _).trans rfl
theorem rg_21_18 (I : Nat → Nat → Int32) (J : Nat → Nat → Int64) (T : Nat → Nat → Nat) (L : Nat) (C : Nat × Nat) (x2 : Int32) (x3 : Int32) (x4 : Int32) (v5 : Value) (xs0 : Int32) : am_E 21 18 [.ref 22, .ref 35, .int x2, .int x3, .int x4, v5] [.int xs0] (am_W I J T L C) = (if (xs0 &&& x4) = x4 then ((am_E 22 0 [.ref 22, .ref 35, .int x3, .null, .null] [] (am_W I J T L C)).bind (fun z1 => am_vI z1.1 fun u1 => (am_E 21 28 [.ref 22, .ref 35, .int x2, .int x3, .int x4, .int xs0] [.int u1] z1.2))) else (am_E 21 4 [.ref 22, .ref 35, .int x2, .int (x3 + 1), .int x4, .int xs0] [] (am_W I J T L C))) := (am_rg [4, 12, 18, 28, 39, 44, 63, 66] 10 _ _ _ _ _).trans rfl
theorem rg_21_28 (I : Nat → Nat → Int32) (J : Nat → Nat → Int64) (T : Nat → Nat → Nat) (L : Nat) (C : Nat × Nat) (x2 : Int32) (x3 : Int32) (x4 : Int32) (x5 : Int32) (xs0 : Int32) : am_E 21 28 [.ref 22, .ref 35, .int x2, .int x3, .int x4, .int x5] [.int xs0] (am_W I J T L C) = (if xs0 = 0 then (am_E 21 4 [.ref 22, .ref 35, .int x2, .int (x3 + 1), .int x4, .int x5] [] (am_W I J T L C)) else ((am_E 90 0 [.ref 24, .int 3, .int (x5 &&& (x4 ^^^ (-1)))] [] (am_W I J T L C)).bind (fun z1 => (am_E 21 39 [.ref 22, .ref 35, .int x2, .int x3, .int x4, .int x5] [] z1.2)))) := (am_rg [4, 12, 18, 28, 39, 44, 63, 66] 11 _ _ _ _ _).trans rfl
theorem rg_21_39 (I : Nat → Nat → Int32) (J : Nat → Nat → Int64) (T : Nat → Nat → Nat) (L : Nat) (C : Nat × Nat) (x2 : Int32) (x3 : Int32) (x4 : Int32) (x5 : Int32) : am_E 21 39 [.ref 22, .ref 35, .int x2, .int x3, .int x4, .int x5] [] (am_W I J T L C) = ((am_E 89 0 [.ref 37, .int x3] [] (am_W I J T L C)).bind (fun z1 => am_vI z1.1 fun u1 => (am_E 21 44 [.ref 22, .ref 35, .int x2, .int x3, .int x4, .int x5] [.int u1, .int x2] z1.2))) := (am_rg [4, 12, 18, 28, 39, 44, 63, 66] 5 _ _ _ _ _).trans rfl
theorem rg_21_44 (I : Nat → Nat → Int32) (J : Nat → Nat → Int64) (T : Nat → Nat → Nat) (L : Nat) (C : Nat × Nat) (x2 : Int32) (x3 : Int32) (x4 : Int32) (x5 : Int32) (xs0 : Int32) (xs1 : Int32) : am_E 21 44 [.ref 22, .ref 35, .int x2, .int x3, .int x4, .int x5] [.int xs1, .int xs0] (am_W I J T L C) = (am_E 21 4 [.ref 22, .ref 35, .int (xs0 ||| xs1), .int (x3 + 1), .int x4, .int x5] [] (am_W (am_up I 22 5 ((I 22 5) + 1)) J T L C)) := (am_rg [4, 12, 18, 28, 39, 44, 63, 66] 10 _ _ _ _ _).trans rfl
theorem rg_21_63 (I : Nat → Nat → Int32) (J : Nat → Nat → Int64) (T : Nat → Nat → Nat) (L : Nat) (C : Nat × Nat) (x2 : Int32) (x3 : Int32) (v4 : Value) (v5 : Value) (xs1 : Int32) (xs2 : Int32) : am_E 21 63 [.ref 22, .ref 35, .int x2, .int x3, v4, v5] [.int xs2, .int xs1, .ref 24] (am_W I J T L C) = ((am_E 90 0 [.ref 24, .int xs1, .int (xs2 ||| x2)] [] (am_W I J T L C)).bind (fun z1 => (am_E 21 66 [.ref 22, .ref 35, .int x2, .int x3, v4, v5] [] z1.2))) := (am_rg [4, 12, 18, 28, 39, 44, 63, 66] 3 _ _ _ _ _).trans rfl
theorem rg_21_66 (I : Nat → Nat → Int32) (J : Nat → Nat → Int64) (T : Nat → Nat → Nat) (L : Nat) (C : Nat × Nat) (x2 : Int32) (x3 : Int32) (v4 : Value) (v5 : Value) : am_E 21 66 [.ref 22, .ref 35, .int x2, .int x3, v4, v5] [] (am_W I J T L C) = (some (.null, (am_W I J T L C))) := (am_rg [4, 12, 18, 28, 39, 44, 63, 66] 1 _ _ _ _ _).trans rfl
-- 22 ScanChart$Machine.isOpen(LScanChart$Chart;I)Z
theorem rg_22_0 (I : Nat → Nat → Int32) (J : Nat → Nat → Int64) (T : Nat → Nat → Nat) (L : Nat) (C : Nat × Nat) (x2 : Int32) : am_E 22 0 [.ref 22, .ref 35, .int x2, .null, .null] [] (am_W I J T L C) = ((am_E 89 0 [.ref 38, .int x2] [] (am_W I J T L C)).bind (fun z1 => am_vI z1.1 fun u1 => (am_E 22 4 [.ref 22, .ref 35, .int x2, .null, .null] [.int u1] z1.2))) := (am_rg [4, 15, 19, 20, 27, 32] 4 _ _ _ _ _).trans rfl
theorem rg_22_4 (I : Nat → Nat → Int32) (J : Nat → Nat → Int64) (T : Nat → Nat → Nat) (L : Nat) (C : Nat × Nat) (x2 : Int32) (v3 : Value) (v4 : Value) (xs0 : Int32) : am_E 22 4 [.ref 22, .ref 35, .int x2, v3, v4] [.int xs0] (am_W I J T L C) = (if xs0 = 0 then (some (.int 1, (am_W I J T L C))) else ((am_E 89 0 [.ref 39, .int x2] [] (am_W I J T L C)).bind (fun z1 => am_vI z1.1 fun u1 => (am_E 22 15 [.ref 22, .ref 35, .int x2, .int xs0, v4] [.int u1, .ref 23] z1.2)))) := (am_rg [4, 15, 19, 20, 27, 32] 9 _ _ _ _ _).trans rfl
theorem rg_22_15 (I : Nat → Nat → Int32) (J : Nat → Nat → Int64) (T : Nat → Nat → Nat) (L : Nat) (C : Nat × Nat) (x2 : Int32) (x3 : Int32) (v4 : Value) (xs1 : Int32) : am_E 22 15 [.ref 22, .ref 35, .int x2, .int x3, v4] [.int xs1, .ref 23] (am_W I J T L C) = ((am_E 89 0 [.ref 40, .int x2] [] (am_W I J T L C)).bind (fun z1 => am_vI z1.1 fun u1 => (am_E 22 19 [.ref 22, .ref 35, .int x2, .int x3, v4] [.int u1, .int xs1, .ref 23] z1.2))) := (am_rg [4, 15, 19, 20, 27, 32] 4 _ _ _ _ _).trans rfl
theorem rg_22_19 (I : Nat → Nat → Int32) (J : Nat → Nat → Int64) (T : Nat → Nat → Nat) (L : Nat) (C : Nat × Nat) (x2 : Int32) (x3 : Int32) (v4 : Value) (xs1 : Int32) (xs2 : Int32) : am_E 22 19 [.ref 22, .ref 35, .int x2, .int x3, v4] [.int xs2, .int xs1, .ref 23] (am_W I J T L C) = ((am_E 2 0 [.ref 23, .int xs1, .int xs2] [] (am_W I J T L C)).bind (fun z1 => am_vI z1.1 fun u1 => (am_E 22 20 [.ref 22, .ref 35, .int x2, .int x3, v4] [.int u1] z1.2))) := (am_rg [4, 15, 19, 20, 27, 32] 1 _ _ _ _ _).trans rfl
theorem rg_22_20 (I : Nat → Nat → Int32) (J : Nat → Nat → Int64) (T : Nat → Nat → Nat) (L : Nat) (C : Nat × Nat) (x2 : Int32) (x3 : Int32) (v4 : Value) (xs0 : Int32) : am_E 22 20 [.ref 22, .ref 35, .int x2, .int x3, v4] [.int xs0] (am_W I J T L C) = (if x3 = 1 then (am_E 22 27 [.ref 22, .ref 35, .int x2, .int x3, .int xs0] [.int 1] (am_W I J T L C)) else (am_E 22 27 [.ref 22, .ref 35, .int x2, .int x3, .int xs0] [.int 0] (am_W I J T L C))) := (am_rg [4, 15, 19, 20, 27, 32] 6 _ _ _ _ _).trans rfl
theorem rg_22_27 (I : Nat → Nat → Int32) (J : Nat → Nat → Int64) (T : Nat → Nat → Nat) (L : Nat) (C : Nat × Nat) (x2 : Int32) (x3 : Int32) (x4 : Int32) (xs0 : Int32) : am_E 22 27 [.ref 22, .ref 35, .int x2, .int x3, .int x4] [.int xs0] (am_W I J T L C) = (if x4 = 0 then (am_E 22 32 [.ref 22, .ref 35, .int x2, .int x3, .int x4] [.int 0, .int xs0] (am_W I J T L C)) else (am_E 22 32 [.ref 22, .ref 35, .int x2, .int x3, .int x4] [.int 1, .int xs0] (am_W I J T L C))) := (am_rg [4, 15, 19, 20, 27, 32] 4 _ _ _ _ _).trans rfl
theorem rg_22_32 (I : Nat → Nat → Int32) (J : Nat → Nat → Int64) (T : Nat → Nat → Nat) (L : Nat) (C : Nat × Nat) (x2 : Int32) (x3 : Int32) (x4 : Int32) (xs0 : Int32) (xs1 : Int32) : am_E 22 32 [.ref 22, .ref 35, .int x2, .int x3, .int x4] [.int xs1, .int xs0] (am_W I J T L C) = (if xs0 = xs1 then (some (.int 1, (am_W I J T L C))) else (some (.int 0, (am_W I J T L C)))) := (am_rg [4, 15, 19, 20, 27, 32] 4 _ _ _ _ _).trans rfl
-- 23 ScanChart$Machine.act(LScanChart$Chart;)V
theorem rg_23_0 (I : Nat → Nat → Int32) (J : Nat → Nat → Int64) (T : Nat → Nat → Nat) (L : Nat) (C : Nat × Nat) : am_E 23 0 [.ref 22, .ref 35, .null, .null, .null, .null] [] (am_W I J T L C) = ((am_E 89 0 [.ref 24, .int 3] [] (am_W I J T L C)).bind (fun z1 => am_vI z1.1 fun u1 => (am_E 23 5 [.ref 22, .ref 35, .null, .null, .null, .null] [.int u1] z1.2))) := (am_rg [5, 14, 20, 22, 29, 36, 41, 48, 52, 58, 59] 5 _ _ _ _ _).trans rfl
theorem rg_23_5 (I : Nat → Nat → Int32) (J : Nat → Nat → Int64) (T : Nat → Nat → Nat) (L : Nat) (C : Nat × Nat) (v2 : Value) (v3 : Value) (v4 : Value) (v5 : Value) (xs0 : Int32) : am_E 23 5 [.ref 22, .ref 35, v2, v3, v4, v5] [.int xs0] (am_W I J T L C) = ((am_E 24 0 [.ref 22, .ref 35, .int 1, .int 65535, .int 0, .null] [] (am_W I J T L C)).bind (fun z1 => (am_E 23 14 [.ref 22, .ref 35, .int xs0, .int 65535, v4, v5] [] z1.2))) := (am_rg [5, 14, 20, 22, 29, 36, 41, 48, 52, 58, 59] 9 _ _ _ _ _).trans rfl
theorem rg_23_14 (I : Nat → Nat → Int32) (J : Nat → Nat → Int64) (T : Nat → Nat → Nat) (L : Nat) (C : Nat × Nat) (x2 : Int32) (x3 : Int32) (v4 : Value) (v5 : Value) : am_E 23 14 [.ref 22, .ref 35, .int x2, .int x3, v4, v5] [] (am_W I J T L C) = ((am_E 24 0 [.ref 22, .ref 35, .int 1, .int x2, .int 1, .null] [] (am_W I J T L C)).bind (fun z1 => (am_E 23 20 [.ref 22, .ref 35, .int x2, .int x3, v4, v5] [] z1.2))) := (am_rg [5, 14, 20, 22, 29, 36, 41, 48, 52, 58, 59] 6 _ _ _ _ _).trans rfl
theorem rg_23_20 (I : Nat → Nat → Int32) (J : Nat → Nat → Int64) (T : Nat → Nat → Nat) (L : Nat) (C : Nat × Nat) (x2 : Int32) (x3 : Int32) (v4 : Value) (v5 : Value) : am_E 23 20 [.ref 22, .ref 35, .int x2, .int x3, v4, v5] [] (am_W I J T L C) = (am_E 23 22 [.ref 22, .ref 35, .int x2, .int x3, .int 0, v5] [] (am_W I J T L C)) := (am_rg [5, 14, 20, 22, 29, 36, 41, 48, 52, 58, 59] 2 _ _ _ _ _).trans rfl
theorem rg_23_22 (I : Nat → Nat → Int32) (J : Nat → Nat → Int64) (T : Nat → Nat → Nat) (L : Nat) (C : Nat × Nat) (x2 : Int32) (x3 : Int32) (x4 : Int32) (v5 : Value) : am_E 23 22 [.ref 22, .ref 35, .int x2, .int x3, .int x4, v5] [] (am_W I J T L C) = (if 48 ≤ x4 then (some (.null, (am_W I J T L C))) else ((am_E 89 0 [.ref 41, .int x4] [] (am_W I J T L C)).bind (fun z1 => am_vI z1.1 fun u1 => (am_E 23 29 [.ref 22, .ref 35, .int x2, .int x3, .int x4, v5] [.int u1] z1.2)))) := (am_rg [5, 14, 20, 22, 29, 36, 41, 48, 52, 58, 59] 7 _ _ _ _ _).trans rfl
theorem rg_23_29 (I : Nat → Nat → Int32) (J : Nat → Nat → Int64) (T : Nat → Nat → Nat) (L : Nat) (C : Nat × Nat) (x2 : Int32) (x3 : Int32) (x4 : Int32) (v5 : Value) (xs0 : Int32) : am_E 23 29 [.ref 22, .ref 35, .int x2, .int x3, .int x4, v5] [.int xs0] (am_W I J T L C) = (if xs0 = 2 then (am_E 23 36 [.ref 22, .ref 35, .int x2, .int x3, .int x4, .int xs0] [] (am_W I J T L C)) else (if xs0 = 3 then (am_E 23 36 [.ref 22, .ref 35, .int x2, .int x3, .int x4, .int xs0] [] (am_W I J T L C)) else (am_E 23 59 [.ref 22, .ref 35, .int x2, .int x3, .int x4, .int xs0] [] (am_W I J T L C)))) := (am_rg [5, 14, 20, 22, 29, 36, 41, 48, 52, 58, 59] 7 _ _ _ _ _).trans rfl
theorem rg_23_36 (I : Nat → Nat → Int32) (J : Nat → Nat → Int64) (T : Nat → Nat → Nat) (L : Nat) (C : Nat × Nat) (x2 : Int32) (x3 : Int32) (x4 : Int32) (x5 : Int32) : am_E 23 36 [.ref 22, .ref 35, .int x2, .int x3, .int x4, .int x5] [] (am_W I J T L C) = (if (3 : Int32) = 0 then none else ((am_E 91 0 [.int x2, .int (x4 / 3)] [] (am_W I J T L C)).bind (fun z1 => am_vI z1.1 fun u1 => (am_E 23 41 [.ref 22, .ref 35, .int x2, .int x3, .int x4, .int x5] [.int u1] z1.2)))) := (am_rg [5, 14, 20, 22, 29, 36, 41, 48, 52, 58, 59] 5 _ _ _ _ _).trans rfl
theorem rg_23_41 (I : Nat → Nat → Int32) (J : Nat → Nat → Int64) (T : Nat → Nat → Nat) (L : Nat) (C : Nat × Nat) (x2 : Int32) (x3 : Int32) (x4 : Int32) (x5 : Int32) (xs0 : Int32) : am_E 23 41 [.ref 22, .ref 35, .int x2, .int x3, .int x4, .int x5] [.int xs0] (am_W I J T L C) = (if xs0 = 0 then (am_E 23 59 [.ref 22, .ref 35, .int x2, .int x3, .int x4, .int x5] [] (am_W I J T L C)) else ((am_E 89 0 [.ref 42, .int x4] [] (am_W I J T L C)).bind (fun z1 => am_vI z1.1 fun u1 => (am_E 23 48 [.ref 22, .ref 35, .int x2, .int x3, .int x4, .int x5] [.int u1, .ref 23] z1.2)))) := (am_rg [5, 14, 20, 22, 29, 36, 41, 48, 52, 58, 59] 7 _ _ _ _ _).trans rfl
theorem rg_23_48 (I : Nat → Nat → Int32) (J : Nat → Nat → Int64) (T : Nat → Nat → Nat) (L : Nat) (C : Nat × Nat) (x2 : Int32) (x3 : Int32) (x4 : Int32) (x5 : Int32) (xs1 : Int32) : am_E 23 48 [.ref 22, .ref 35, .int x2, .int x3, .int x4, .int x5] [.int xs1, .ref 23] (am_W I J T L C) = ((am_E 89 0 [.ref 43, .int x4] [] (am_W I J T L C)).bind (fun z1 => am_vI z1.1 fun u1 => (am_E 23 52 [.ref 22, .ref 35, .int x2, .int x3, .int x4, .int x5] [.int u1, .int xs1, .ref 23] z1.2))) := (am_rg [5, 14, 20, 22, 29, 36, 41, 48, 52, 58, 59] 4 _ _ _ _ _).trans rfl
theorem rg_23_52 (I : Nat → Nat → Int32) (J : Nat → Nat → Int64) (T : Nat → Nat → Nat) (L : Nat) (C : Nat × Nat) (x2 : Int32) (x3 : Int32) (x4 : Int32) (x5 : Int32) (xs1 : Int32) (xs2 : Int32) : am_E 23 52 [.ref 22, .ref 35, .int x2, .int x3, .int x4, .int x5] [.int xs2, .int xs1, .ref 23] (am_W I J T L C) = (if x5 = 2 then (am_E 23 58 [.ref 22, .ref 35, .int x2, .int x3, .int x4, .int x5] [.int 1, .int xs2, .int xs1, .ref 23] (am_W I J T L C)) else (am_E 23 58 [.ref 22, .ref 35, .int x2, .int x3, .int x4, .int x5] [.int 0, .int xs2, .int xs1, .ref 23] (am_W I J T L C))) := (am_rg [5, 14, 20, 22, 29, 36, 41, 48, 52, 58, 59] 5 _ _ _ _ _).trans rfl
theorem rg_23_58 (I : Nat → Nat → Int32) (J : Nat → Nat → Int64) (T : Nat → Nat → Nat) (L : Nat) (C : Nat × Nat) (x2 : Int32) (x3 : Int32) (x4 : Int32) (x5 : Int32) (xs1 : Int32) (xs2 : Int32) (xs3 : Int32) : am_E 23 58 [.ref 22, .ref 35, .int x2, .int x3, .int x4, .int x5] [.int xs3, .int xs2, .int xs1, .ref 23] (am_W I J T L C) = ((am_E 3 0 [.ref 23, .int xs1, .int xs2, .int xs3] [] (am_W I J T L C)).bind (fun z1 => (am_E 23 59 [.ref 22, .ref 35, .int x2, .int x3, .int x4, .int x5] [] z1.2))) := (am_rg [5, 14, 20, 22, 29, 36, 41, 48, 52, 58, 59] 1 _ _ _ _ _).trans rfl
theorem rg_23_59 (I : Nat → Nat → Int32) (J : Nat → Nat → Int64) (T : Nat → Nat → Nat) (L : Nat) (C : Nat × Nat) (x2 : Int32) (x3 : Int32) (x4 : Int32) (x5 : Int32) : am_E 23 59 [.ref 22, .ref 35, .int x2, .int x3, .int x4, .int x5] [] (am_W I J T L C) = (am_E 23 22 [.ref 22, .ref 35, .int x2, .int x3, .int (x4 + 1), .int x5] [] (am_W I J T L C)) := (am_rg [5, 14, 20, 22, 29, 36, 41, 48, 52, 58, 59] 2 _ _ _ _ _).trans rfl
-- 24 ScanChart$Machine.actAs(LScanChart$Chart;IIZ)V
theorem rg_24_0 (I : Nat → Nat → Int32) (J : Nat → Nat → Int64) (T : Nat → Nat → Nat) (L : Nat) (C : Nat × Nat) (x2 : Int32) (x3 : Int32) (x4 : Int32) : am_E 24 0 [.ref 22, .ref 35, .int x2, .int x3, .int x4, .null] [] (am_W I J T L C) = (am_E 24 2 [.ref 22, .ref 35, .int x2, .int x3, .int x4, .int 0] [] (am_W I J T L C)) := (am_rg [2, 9, 16, 23, 27, 29] 2 _ _ _ _ _).trans rfl
theorem rg_24_2 (I : Nat → Nat → Int32) (J : Nat → Nat → Int64) (T : Nat → Nat → Nat) (L : Nat) (C : Nat × Nat) (x2 : Int32) (x3 : Int32) (x4 : Int32) (x5 : Int32) : am_E 24 2 [.ref 22, .ref 35, .int x2, .int x3, .int x4, .int x5] [] (am_W I J T L C) = (if 48 ≤ x5 then (some (.null, (am_W I J T L C))) else ((am_E 89 0 [.ref 41, .int x5] [] (am_W I J T L C)).bind (fun z1 => am_vI z1.1 fun u1 => (am_E 24 9 [.ref 22, .ref 35, .int x2, .int x3, .int x4, .int x5] [.int u1] z1.2)))) := (am_rg [2, 9, 16, 23, 27, 29] 7 _ _ _ _ _).trans rfl
theorem rg_24_9 (I : Nat → Nat → Int32) (J : Nat → Nat → Int64) (T : Nat → Nat → Nat) (L : Nat) (C : Nat × Nat) (x2 : Int32) (x3 : Int32) (x4 : Int32) (x5 : Int32) (xs0 : Int32) : am_E 24 9 [.ref 22, .ref 35, .int x2, .int x3, .int x4, .int x5] [.int xs0] (am_W I J T L C) = (if xs0 = x2 then (if (3 : Int32) = 0 then none else ((am_E 91 0 [.int x3, .int (x5 / 3)] [] (am_W I J T L C)).bind (fun z1 => am_vI z1.1 fun u1 => (am_E 24 16 [.ref 22, .ref 35, .int x2, .int x3, .int x4, .int x5] [.int u1] z1.2)))) else (am_E 24 29 [.ref 22, .ref 35, .int x2, .int x3, .int x4, .int x5] [] (am_W I J T L C))) := (am_rg [2, 9, 16, 23, 27, 29] 7 _ _ _ _ _).trans rfl
theorem rg_24_16 (I : Nat → Nat → Int32) (J : Nat → Nat → Int64) (T : Nat → Nat → Nat) (L : Nat) (C : Nat × Nat) (x2 : Int32) (x3 : Int32) (x4 : Int32) (x5 : Int32) (xs0 : Int32) : am_E 24 16 [.ref 22, .ref 35, .int x2, .int x3, .int x4, .int x5] [.int xs0] (am_W I J T L C) = (if xs0 = 0 then (am_E 24 29 [.ref 22, .ref 35, .int x2, .int x3, .int x4, .int x5] [] (am_W I J T L C)) else ((am_E 89 0 [.ref 42, .int x5] [] (am_W I J T L C)).bind (fun z1 => am_vI z1.1 fun u1 => (am_E 24 23 [.ref 22, .ref 35, .int x2, .int x3, .int x4, .int x5] [.int u1, .ref 23] z1.2)))) := (am_rg [2, 9, 16, 23, 27, 29] 7 _ _ _ _ _).trans rfl
theorem rg_24_23 (I : Nat → Nat → Int32) (J : Nat → Nat → Int64) (T : Nat → Nat → Nat) (L : Nat) (C : Nat × Nat) (x2 : Int32) (x3 : Int32) (x4 : Int32) (x5 : Int32) (xs1 : Int32) : am_E 24 23 [.ref 22, .ref 35, .int x2, .int x3, .int x4, .int x5] [.int xs1, .ref 23] (am_W I J T L C) = ((am_E 89 0 [.ref 43, .int x5] [] (am_W I J T L C)).bind (fun z1 => am_vI z1.1 fun u1 => (am_E 24 27 [.ref 22, .ref 35, .int x2, .int x3, .int x4, .int x5] [.int u1, .int xs1, .ref 23] z1.2))) := (am_rg [2, 9, 16, 23, 27, 29] 4 _ _ _ _ _).trans rfl
theorem rg_24_27 (I : Nat → Nat → Int32) (J : Nat → Nat → Int64) (T : Nat → Nat → Nat) (L : Nat) (C : Nat × Nat) (x2 : Int32) (x3 : Int32) (x4 : Int32) (x5 : Int32) (xs1 : Int32) (xs2 : Int32) : am_E 24 27 [.ref 22, .ref 35, .int x2, .int x3, .int x4, .int x5] [.int xs2, .int xs1, .ref 23] (am_W I J T L C) = ((am_E 3 0 [.ref 23, .int xs1, .int xs2, .int x4] [] (am_W I J T L C)).bind (fun z1 => (am_E 24 29 [.ref 22, .ref 35, .int x2, .int x3, .int x4, .int x5] [] z1.2))) := (am_rg [2, 9, 16, 23, 27, 29] 2 _ _ _ _ _).trans rfl
theorem rg_24_29 (I : Nat → Nat → Int32) (J : Nat → Nat → Int64) (T : Nat → Nat → Nat) (L : Nat) (C : Nat × Nat) (x2 : Int32) (x3 : Int32) (x4 : Int32) (x5 : Int32) : am_E 24 29 [.ref 22, .ref 35, .int x2, .int x3, .int x4, .int x5] [] (am_W I J T L C) = (am_E 24 2 [.ref 22, .ref 35, .int x2, .int x3, .int x4, .int (x5 + 1)] [] (am_W I J T L C)) := (am_rg [2, 9, 16, 23, 27, 29] 2 _ _ _ _ _).trans rfl
-- 25 ScanChart$Op.counts(I)I
theorem rg_25_0 (I : Nat → Nat → Int32) (J : Nat → Nat → Int64) (T : Nat → Nat → Nat) (L : Nat) (C : Nat × Nat) (q0 : Nat) (x1 : Int32) : am_E 25 0 [.ref q0, .int x1] [] (am_W I J T L C) = (cond (Nat.beq (am_SF L q0).1 30) (if (am_cI q0 2) = 1 then (if x1 = 0 then (some (.int 1, (am_W I J T L C))) else (some (.int 0, (am_W I J T L C)))) else (some (.int x1, (am_W I J T L C)))) none) := (am_rg [] 9 _ _ _ _ _).trans rfl
-- 26 ScanChart$Op.isBlock()Z
theorem rg_26_0 (I : Nat → Nat → Int32) (J : Nat → Nat → Int64) (T : Nat → Nat → Nat) (L : Nat) (C : Nat × Nat) (q0 : Nat) : am_E 26 0 [.ref q0] [] (am_W I J T L C) = (cond (Nat.beq (am_SF L q0).1 30) (if (am_cI q0 1) = 8 then (some (.int 1, (am_W I J T L C))) else (cond (Nat.beq (am_SF L q0).1 30) (if (am_cI q0 1) = 9 then (some (.int 1, (am_W I J T L C))) else (cond (Nat.beq (am_SF L q0).1 30) (if (am_cI q0 1) = 10 then (some (.int 1, (am_W I J T L C))) else (cond (Nat.beq (am_SF L q0).1 30) (if (am_cI q0 1) = 11 then (some (.int 1, (am_W I J T L C))) else (some (.int 0, (am_W I J T L C)))) none)) none)) none)) none) := (am_rg [] 19 _ _ _ _ _).trans rfl
-- 27 ScanChart$Op.isTaken(I)Z
theorem rg_27_0 (I : Nat → Nat → Int32) (J : Nat → Nat → Int64) (T : Nat → Nat → Nat) (L : Nat) (C : Nat × Nat) (q0 : Nat) (x1 : Int32) : am_E 27 0 [.ref q0, .int x1] [] (am_W I J T L C) = (cond (Nat.beq (am_SF L q0).1 30) (if (am_cI q0 2) = 0 then (some (.int 1, (am_W I J T L C))) else (cond (Nat.beq (am_SF L q0).1 30) (if (am_cI q0 2) = 2 then (am_E 27 10 [.ref q0, .int x1] [.int 1] (am_W I J T L C)) else (am_E 27 10 [.ref q0, .int x1] [.int 0] (am_W I J T L C))) none)) none) := (am_rg [10, 15] 9 _ _ _ _ _).trans rfl
theorem rg_27_10 (I : Nat → Nat → Int32) (J : Nat → Nat → Int64) (T : Nat → Nat → Nat) (L : Nat) (C : Nat × Nat) (q0 : Nat) (x1 : Int32) (xs0 : Int32) : am_E 27 10 [.ref q0, .int x1] [.int xs0] (am_W I J T L C) = (if x1 = 0 then (am_E 27 15 [.ref q0, .int x1] [.int 0, .int xs0] (am_W I J T L C)) else (am_E 27 15 [.ref q0, .int x1] [.int 1, .int xs0] (am_W I J T L C))) := (am_rg [10, 15] 4 _ _ _ _ _).trans rfl
theorem rg_27_15 (I : Nat → Nat → Int32) (J : Nat → Nat → Int64) (T : Nat → Nat → Nat) (L : Nat) (C : Nat × Nat) (q0 : Nat) (x1 : Int32) (xs0 : Int32) (xs1 : Int32) : am_E 27 15 [.ref q0, .int x1] [.int xs1, .int xs0] (am_W I J T L C) = (if xs0 = xs1 then (some (.int 1, (am_W I J T L C))) else (some (.int 0, (am_W I J T L C)))) := (am_rg [10, 15] 4 _ _ _ _ _).trans rfl
-- 29 ScanChart$Past.clear()V
theorem rg_29_0 (I : Nat → Nat → Int32) (J : Nat → Nat → Int64) (T : Nat → Nat → Nat) (L : Nat) (C : Nat × Nat) : am_E 29 0 [.ref 28] [] (am_W I J T L C) = (some (.null, (am_W (am_up (am_up (am_up (am_up (am_up (am_up (am_up (am_up I 28 0 0) 28 2 0) 28 3 0) 28 5 0) 28 7 0) 28 8 0) 28 9 0) 28 10 0) J T L C))) := (am_rg [] 25 _ _ _ _ _).trans rfl
-- 30 ScanChart$Past.begin([JIJ)V
theorem rg_30_0 (I : Nat → Nat → Int32) (J : Nat → Nat → Int64) (T : Nat → Nat → Nat) (L : Nat) (C : Nat × Nat) (q0 : Nat) (x1 : Int32) (y2 : Int64) : am_E 30 0 [.ref q0, .int x1, .long y2, .null] [] (am_W I J T L C) = (if x1 < 0 then (some (.null, (am_W I J T L C))) else (cond (Nat.ble 20 (am_SF L q0).1 && Nat.ble (am_SF L q0).1 27) (if (nI (am_SF L q0).2) ≤ x1 then (some (.null, (am_W I J T L C))) else (cond (Nat.beq (am_SF L q0).1 22) (am_inb x1 (am_SF L q0).2 (some (.null, (am_W I (am_up J q0 (Int32.toNatClampNeg x1) y2) T L C)))) none)) none)) := (am_rg [] 11 _ _ _ _ _).trans rfl
-- 31 ScanChart$Past.goneSince([JIJI)I
theorem rg_31_0 (I : Nat → Nat → Int32) (J : Nat → Nat → Int64) (T : Nat → Nat → Nat) (L : Nat) (C : Nat × Nat) (q0 : Nat) (x1 : Int32) (y2 : Int64) (x4 : Int32) : am_E 31 0 [.ref q0, .int x1, .long y2, .null, .int x4, .null, .null] [] (am_W I J T L C) = (if x1 < 0 then (am_E 31 10 [.ref q0, .int x1, .long y2, .null, .int x4, .null, .null] [] (am_W I J T L C)) else (cond (Nat.ble 20 (am_SF L q0).1 && Nat.ble (am_SF L q0).1 27) (if (nI (am_SF L q0).2) ≤ x1 then (am_E 31 10 [.ref q0, .int x1, .long y2, .null, .int x4, .null, .null] [] (am_W I J T L C)) else (cond (Nat.beq (am_SF L q0).1 22) (am_inb x1 (am_SF L q0).2 (am_E 31 11 [.ref q0, .int x1, .long y2, .null, .int x4, .null, .null] [.long (J q0 (Int32.toNatClampNeg x1))] (am_W I J T L C))) none)) none)) := (am_rg [10, 11, 18] 10 _ _ _ _ _).trans rfl
theorem rg_31_10 (I : Nat → Nat → Int32) (J : Nat → Nat → Int64) (T : Nat → Nat → Nat) (L : Nat) (C : Nat × Nat) (q0 : Nat) (x1 : Int32) (y2 : Int64) (x4 : Int32) (v5 : Value) (v6 : Value) : am_E 31 10 [.ref q0, .int x1, .long y2, .null, .int x4, v5, v6] [] (am_W I J T L C) = (am_E 31 11 [.ref q0, .int x1, .long y2, .null, .int x4, v5, v6] [.long y2] (am_W I J T L C)) := (am_rg [10, 11, 18] 1 _ _ _ _ _).trans rfl
theorem rg_31_11 (I : Nat → Nat → Int32) (J : Nat → Nat → Int64) (T : Nat → Nat → Nat) (L : Nat) (C : Nat × Nat) (q0 : Nat) (x1 : Int32) (y2 : Int64) (x4 : Int32) (v5 : Value) (v6 : Value) (ys0 : Int64) : am_E 31 11 [.ref q0, .int x1, .long y2, .null, .int x4, v5, v6] [.long ys0] (am_W I J T L C) = ((am_E 164 0 [.long (y2 - ys0), .null, .long (Int32.toInt64 x4), .null] [] (am_W I J T L C)).bind (fun z1 => am_vJ z1.1 fun u1 => (am_E 31 18 [.ref q0, .int x1, .long y2, .null, .int x4, .long ys0, .null] [.long u1] z1.2))) := (am_rg [10, 11, 18] 7 _ _ _ _ _).trans rfl
theorem rg_31_18 (I : Nat → Nat → Int32) (J : Nat → Nat → Int64) (T : Nat → Nat → Nat) (L : Nat) (C : Nat × Nat) (q0 : Nat) (x1 : Int32) (y2 : Int64) (x4 : Int32) (y5 : Int64) (ys0 : Int64) : am_E 31 18 [.ref q0, .int x1, .long y2, .null, .int x4, .long y5, .null] [.long ys0] (am_W I J T L C) = (some (.int (Int64.toInt32 ys0), (am_W I J T L C))) := (am_rg [10, 11, 18] 2 _ _ _ _ _).trans rfl
-- 32 ScanChart$Past.delayOn(LScanChart$Cells;IZIJ)V
theorem rg_32_0 (I : Nat → Nat → Int32) (J : Nat → Nat → Int64) (T : Nat → Nat → Nat) (L : Nat) (C : Nat × Nat) (x2 : Int32) (x3 : Int32) (x4 : Int32) (y5 : Int64) : am_E 32 0 [.ref 28, .ref 23, .int x2, .int x3, .int x4, .long y5, .null, .null] [] (am_W I J T L C) = (if x3 = 0 then (am_E 32 12 [.ref 28, .ref 23, .int x2, .int x3, .int x4, .long y5, .null, .null] [] (am_W I J T L C)) else ((am_E 91 0 [.int (I 28 0), .int x2] [] (am_W I J T L C)).bind (fun z1 => am_vI z1.1 fun u1 => (am_E 32 6 [.ref 28, .ref 23, .int x2, .int x3, .int x4, .long y5, .null, .null] [.int u1] z1.2)))) := (am_rg [6, 12, 18, 27, 29, 39, 40, 42] 6 _ _ _ _ _).trans rfl
theorem rg_32_6 (I : Nat → Nat → Int32) (J : Nat → Nat → Int64) (T : Nat → Nat → Nat) (L : Nat) (C : Nat × Nat) (x2 : Int32) (x3 : Int32) (x4 : Int32) (y5 : Int64) (v7 : Value) (xs0 : Int32) : am_E 32 6 [.ref 28, .ref 23, .int x2, .int x3, .int x4, .long y5, .null, v7] [.int xs0] (am_W I J T L C) = (if xs0 = 0 then ((am_E 30 0 [.ref 29, .int x2, .long y5, .null] [] (am_W I J T L C)).bind (fun z1 => (am_E 32 12 [.ref 28, .ref 23, .int x2, .int x3, .int x4, .long y5, .null, v7] [] z1.2))) else (am_E 32 12 [.ref 28, .ref 23, .int x2, .int x3, .int x4, .long y5, .null, v7] [] (am_W I J T L C))) := (am_rg [6, 12, 18, 27, 29, 39, 40, 42] 6 _ _ _ _ _).trans rfl
theorem rg_32_12 (I : Nat → Nat → Int32) (J : Nat → Nat → Int64) (T : Nat → Nat → Nat) (L : Nat) (C : Nat × Nat) (x2 : Int32) (x3 : Int32) (x4 : Int32) (y5 : Int64) (v7 : Value) : am_E 32 12 [.ref 28, .ref 23, .int x2, .int x3, .int x4, .long y5, .null, v7] [] (am_W I J T L C) = ((am_E 92 0 [.int (I 28 0), .int x2, .int x3] [] (am_W I J T L C)).bind (fun z1 => am_vI z1.1 fun u1 => (am_E 32 18 [.ref 28, .ref 23, .int x2, .int x3, .int x4, .long y5, .null, v7] [.int u1, .ref 28] z1.2))) := (am_rg [6, 12, 18, 27, 29, 39, 40, 42] 6 _ _ _ _ _).trans rfl
theorem rg_32_18 (I : Nat → Nat → Int32) (J : Nat → Nat → Int64) (T : Nat → Nat → Nat) (L : Nat) (C : Nat × Nat) (x2 : Int32) (x3 : Int32) (x4 : Int32) (y5 : Int64) (v7 : Value) (xs1 : Int32) : am_E 32 18 [.ref 28, .ref 23, .int x2, .int x3, .int x4, .long y5, .null, v7] [.int xs1, .ref 28] (am_W I J T L C) = (if x3 = 0 then (am_E 32 29 [.ref 28, .ref 23, .int x2, .int x3, .int x4, .long y5, .null, v7] [.int 0] (am_W (am_up I 28 0 xs1) J T L C)) else ((am_E 31 0 [.ref 29, .int x2, .long y5, .null, .int x4, .null, .null] [] (am_W (am_up I 28 0 xs1) J T L C)).bind (fun z1 => am_vI z1.1 fun u1 => (am_E 32 27 [.ref 28, .ref 23, .int x2, .int x3, .int x4, .long y5, .null, v7] [.int u1] z1.2)))) := (am_rg [6, 12, 18, 27, 29, 39, 40, 42] 9 _ _ _ _ _).trans rfl
theorem rg_32_27 (I : Nat → Nat → Int32) (J : Nat → Nat → Int64) (T : Nat → Nat → Nat) (L : Nat) (C : Nat × Nat) (x2 : Int32) (x3 : Int32) (x4 : Int32) (y5 : Int64) (v7 : Value) (xs0 : Int32) : am_E 32 27 [.ref 28, .ref 23, .int x2, .int x3, .int x4, .long y5, .null, v7] [.int xs0] (am_W I J T L C) = (am_E 32 29 [.ref 28, .ref 23, .int x2, .int x3, .int x4, .long y5, .null, v7] [.int xs0] (am_W I J T L C)) := (am_rg [6, 12, 18, 27, 29, 39, 40, 42] 1 _ _ _ _ _).trans rfl
theorem rg_32_29 (I : Nat → Nat → Int32) (J : Nat → Nat → Int64) (T : Nat → Nat → Nat) (L : Nat) (C : Nat × Nat) (x2 : Int32) (x3 : Int32) (x4 : Int32) (y5 : Int64) (v7 : Value) (xs0 : Int32) : am_E 32 29 [.ref 28, .ref 23, .int x2, .int x3, .int x4, .long y5, .null, v7] [.int xs0] (am_W I J T L C) = (if x3 = 0 then (am_E 32 39 [.ref 28, .ref 23, .int x2, .int x3, .int x4, .long y5, .null, .int xs0] [.int x2, .ref 23] (am_W I J T L C)) else (if xs0 = x4 then (am_E 32 40 [.ref 28, .ref 23, .int x2, .int x3, .int x4, .long y5, .null, .int xs0] [.int 1, .int x2, .ref 23] (am_W I J T L C)) else (am_E 32 39 [.ref 28, .ref 23, .int x2, .int x3, .int x4, .long y5, .null, .int xs0] [.int x2, .ref 23] (am_W I J T L C)))) := (am_rg [6, 12, 18, 27, 29, 39, 40, 42] 10 _ _ _ _ _).trans rfl
theorem rg_32_39 (I : Nat → Nat → Int32) (J : Nat → Nat → Int64) (T : Nat → Nat → Nat) (L : Nat) (C : Nat × Nat) (x2 : Int32) (x3 : Int32) (x4 : Int32) (y5 : Int64) (x7 : Int32) (xs1 : Int32) : am_E 32 39 [.ref 28, .ref 23, .int x2, .int x3, .int x4, .long y5, .null, .int x7] [.int xs1, .ref 23] (am_W I J T L C) = (am_E 32 40 [.ref 28, .ref 23, .int x2, .int x3, .int x4, .long y5, .null, .int x7] [.int 0, .int xs1, .ref 23] (am_W I J T L C)) := (am_rg [6, 12, 18, 27, 29, 39, 40, 42] 1 _ _ _ _ _).trans rfl
theorem rg_32_40 (I : Nat → Nat → Int32) (J : Nat → Nat → Int64) (T : Nat → Nat → Nat) (L : Nat) (C : Nat × Nat) (x2 : Int32) (x3 : Int32) (x4 : Int32) (y5 : Int64) (x7 : Int32) (xs1 : Int32) (xs2 : Int32) : am_E 32 40 [.ref 28, .ref 23, .int x2, .int x3, .int x4, .long y5, .null, .int x7] [.int xs2, .int xs1, .ref 23] (am_W I J T L C) = ((am_E 5 0 [.ref 23, .int xs1, .int xs2, .int x7] [] (am_W I J T L C)).bind (fun z1 => (am_E 32 42 [.ref 28, .ref 23, .int x2, .int x3, .int x4, .long y5, .null, .int x7] [] z1.2))) := (am_rg [6, 12, 18, 27, 29, 39, 40, 42] 2 _ _ _ _ _).trans rfl
theorem rg_32_42 (I : Nat → Nat → Int32) (J : Nat → Nat → Int64) (T : Nat → Nat → Nat) (L : Nat) (C : Nat × Nat) (x2 : Int32) (x3 : Int32) (x4 : Int32) (y5 : Int64) (x7 : Int32) : am_E 32 42 [.ref 28, .ref 23, .int x2, .int x3, .int x4, .long y5, .null, .int x7] [] (am_W I J T L C) = (some (.null, (am_W I J T L C))) := (am_rg [6, 12, 18, 27, 29, 39, 40, 42] 1 _ _ _ _ _).trans rfl
-- 33 ScanChart$Past.delayOff(LScanChart$Cells;IZIJ)V
theorem rg_33_0 (I : Nat → Nat → Int32) (J : Nat → Nat → Int64) (T : Nat → Nat → Nat) (L : Nat) (C : Nat × Nat) (x2 : Int32) (x3 : Int32) (x4 : Int32) (y5 : Int64) : am_E 33 0 [.ref 28, .ref 23, .int x2, .int x3, .int x4, .long y5, .null, .null] [] (am_W I J T L C) = (if x3 = 0 then ((am_E 91 0 [.int (I 28 2), .int x2] [] (am_W I J T L C)).bind (fun z1 => am_vI z1.1 fun u1 => (am_E 33 26 [.ref 28, .ref 23, .int x2, .int x3, .int x4, .long y5, .null, .null] [.int u1] z1.2))) else ((am_E 92 0 [.int (I 28 2), .int x2, .int 1] [] (am_W I J T L C)).bind (fun z2 => am_vI z2.1 fun u2 => (am_E 33 8 [.ref 28, .ref 23, .int x2, .int x3, .int x4, .long y5, .null, .null] [.int u2, .ref 28] z2.2)))) := (am_rg [8, 15, 21, 26, 32, 37, 44, 50, 56, 65, 67] 8 _ _ _ _ _).trans rfl
theorem rg_33_8 (I : Nat → Nat → Int32) (J : Nat → Nat → Int64) (T : Nat → Nat → Nat) (L : Nat) (C : Nat × Nat) (x2 : Int32) (x3 : Int32) (x4 : Int32) (y5 : Int64) (v7 : Value) (xs1 : Int32) : am_E 33 8 [.ref 28, .ref 23, .int x2, .int x3, .int x4, .long y5, .null, v7] [.int xs1, .ref 28] (am_W I J T L C) = ((am_E 92 0 [.int (I 28 3), .int x2, .int 0] [] (am_W (am_up I 28 2 xs1) J T L C)).bind (fun z1 => am_vI z1.1 fun u1 => (am_E 33 15 [.ref 28, .ref 23, .int x2, .int x3, .int x4, .long y5, .null, v7] [.int u1, .ref 28] z1.2))) := (am_rg [8, 15, 21, 26, 32, 37, 44, 50, 56, 65, 67] 7 _ _ _ _ _).trans rfl
theorem rg_33_15 (I : Nat → Nat → Int32) (J : Nat → Nat → Int64) (T : Nat → Nat → Nat) (L : Nat) (C : Nat × Nat) (x2 : Int32) (x3 : Int32) (x4 : Int32) (y5 : Int64) (v7 : Value) (xs1 : Int32) : am_E 33 15 [.ref 28, .ref 23, .int x2, .int x3, .int x4, .long y5, .null, v7] [.int xs1, .ref 28] (am_W I J T L C) = ((am_E 5 0 [.ref 23, .int x2, .int 1, .int 0] [] (am_W (am_up I 28 3 xs1) J T L C)).bind (fun z1 => (am_E 33 21 [.ref 28, .ref 23, .int x2, .int x3, .int x4, .long y5, .null, v7] [] z1.2))) := (am_rg [8, 15, 21, 26, 32, 37, 44, 50, 56, 65, 67] 6 _ _ _ _ _).trans rfl
theorem rg_33_21 (I : Nat → Nat → Int32) (J : Nat → Nat → Int64) (T : Nat → Nat → Nat) (L : Nat) (C : Nat × Nat) (x2 : Int32) (x3 : Int32) (x4 : Int32) (y5 : Int64) (v7 : Value) : am_E 33 21 [.ref 28, .ref 23, .int x2, .int x3, .int x4, .long y5, .null, v7] [] (am_W I J T L C) = (some (.null, (am_W I J T L C))) := (am_rg [8, 15, 21, 26, 32, 37, 44, 50, 56, 65, 67] 1 _ _ _ _ _).trans rfl
theorem rg_33_26 (I : Nat → Nat → Int32) (J : Nat → Nat → Int64) (T : Nat → Nat → Nat) (L : Nat) (C : Nat × Nat) (x2 : Int32) (x3 : Int32) (x4 : Int32) (y5 : Int64) (v7 : Value) (xs0 : Int32) : am_E 33 26 [.ref 28, .ref 23, .int x2, .int x3, .int x4, .long y5, .null, v7] [.int xs0] (am_W I J T L C) = (if xs0 = 0 then ((am_E 5 0 [.ref 23, .int x2, .int 0, .int 0] [] (am_W I J T L C)).bind (fun z2 => (am_E 33 32 [.ref 28, .ref 23, .int x2, .int x3, .int x4, .long y5, .null, v7] [] z2.2))) else ((am_E 91 0 [.int (I 28 3), .int x2] [] (am_W I J T L C)).bind (fun z1 => am_vI z1.1 fun u1 => (am_E 33 37 [.ref 28, .ref 23, .int x2, .int x3, .int x4, .long y5, .null, v7] [.int u1] z1.2)))) := (am_rg [8, 15, 21, 26, 32, 37, 44, 50, 56, 65, 67] 6 _ _ _ _ _).trans rfl
theorem rg_33_32 (I : Nat → Nat → Int32) (J : Nat → Nat → Int64) (T : Nat → Nat → Nat) (L : Nat) (C : Nat × Nat) (x2 : Int32) (x3 : Int32) (x4 : Int32) (y5 : Int64) (v7 : Value) : am_E 33 32 [.ref 28, .ref 23, .int x2, .int x3, .int x4, .long y5, .null, v7] [] (am_W I J T L C) = (some (.null, (am_W I J T L C))) := (am_rg [8, 15, 21, 26, 32, 37, 44, 50, 56, 65, 67] 1 _ _ _ _ _).trans rfl
theorem rg_33_37 (I : Nat → Nat → Int32) (J : Nat → Nat → Int64) (T : Nat → Nat → Nat) (L : Nat) (C : Nat × Nat) (x2 : Int32) (x3 : Int32) (x4 : Int32) (y5 : Int64) (v7 : Value) (xs0 : Int32) : am_E 33 37 [.ref 28, .ref 23, .int x2, .int x3, .int x4, .long y5, .null, v7] [.int xs0] (am_W I J T L C) = (if xs0 = 0 then ((am_E 92 0 [.int (I 28 3), .int x2, .int 1] [] (am_W I J T L C)).bind (fun z1 => am_vI z1.1 fun u1 => (am_E 33 44 [.ref 28, .ref 23, .int x2, .int x3, .int x4, .long y5, .null, v7] [.int u1, .ref 28] z1.2))) else (am_E 33 50 [.ref 28, .ref 23, .int x2, .int x3, .int x4, .long y5, .null, v7] [] (am_W I J T L C))) := (am_rg [8, 15, 21, 26, 32, 37, 44, 50, 56, 65, 67] 7 _ _ _ _ _).trans rfl
theorem rg_33_44 (I : Nat → Nat → Int32) (J : Nat → Nat → Int64) (T : Nat → Nat → Nat) (L : Nat) (C : Nat × Nat) (x2 : Int32) (x3 : Int32) (x4 : Int32) (y5 : Int64) (v7 : Value) (xs1 : Int32) : am_E 33 44 [.ref 28, .ref 23, .int x2, .int x3, .int x4, .long y5, .null, v7] [.int xs1, .ref 28] (am_W I J T L C) = ((am_E 30 0 [.ref 30, .int x2, .long y5, .null] [] (am_W (am_up I 28 3 xs1) J T L C)).bind (fun z1 => (am_E 33 50 [.ref 28, .ref 23, .int x2, .int x3, .int x4, .long y5, .null, v7] [] z1.2))) := (am_rg [8, 15, 21, 26, 32, 37, 44, 50, 56, 65, 67] 6 _ _ _ _ _).trans rfl
theorem rg_33_50 (I : Nat → Nat → Int32) (J : Nat → Nat → Int64) (T : Nat → Nat → Nat) (L : Nat) (C : Nat × Nat) (x2 : Int32) (x3 : Int32) (x4 : Int32) (y5 : Int64) (v7 : Value) : am_E 33 50 [.ref 28, .ref 23, .int x2, .int x3, .int x4, .long y5, .null, v7] [] (am_W I J T L C) = ((am_E 31 0 [.ref 30, .int x2, .long y5, .null, .int x4, .null, .null] [] (am_W I J T L C)).bind (fun z1 => am_vI z1.1 fun u1 => (am_E 33 56 [.ref 28, .ref 23, .int x2, .int x3, .int x4, .long y5, .null, v7] [.int u1] z1.2))) := (am_rg [8, 15, 21, 26, 32, 37, 44, 50, 56, 65, 67] 6 _ _ _ _ _).trans rfl
theorem rg_33_56 (I : Nat → Nat → Int32) (J : Nat → Nat → Int64) (T : Nat → Nat → Nat) (L : Nat) (C : Nat × Nat) (x2 : Int32) (x3 : Int32) (x4 : Int32) (y5 : Int64) (v7 : Value) (xs0 : Int32) : am_E 33 56 [.ref 28, .ref 23, .int x2, .int x3, .int x4, .long y5, .null, v7] [.int xs0] (am_W I J T L C) = (if x4 ≤ xs0 then (am_E 33 65 [.ref 28, .ref 23, .int x2, .int x3, .int x4, .long y5, .null, .int xs0] [.int 0, .int x2, .ref 23] (am_W I J T L C)) else (am_E 33 65 [.ref 28, .ref 23, .int x2, .int x3, .int x4, .long y5, .null, .int xs0] [.int 1, .int x2, .ref 23] (am_W I J T L C))) := (am_rg [8, 15, 21, 26, 32, 37, 44, 50, 56, 65, 67] 8 _ _ _ _ _).trans rfl
theorem rg_33_65 (I : Nat → Nat → Int32) (J : Nat → Nat → Int64) (T : Nat → Nat → Nat) (L : Nat) (C : Nat × Nat) (x2 : Int32) (x3 : Int32) (x4 : Int32) (y5 : Int64) (x7 : Int32) (xs1 : Int32) (xs2 : Int32) : am_E 33 65 [.ref 28, .ref 23, .int x2, .int x3, .int x4, .long y5, .null, .int x7] [.int xs2, .int xs1, .ref 23] (am_W I J T L C) = ((am_E 5 0 [.ref 23, .int xs1, .int xs2, .int x7] [] (am_W I J T L C)).bind (fun z1 => (am_E 33 67 [.ref 28, .ref 23, .int x2, .int x3, .int x4, .long y5, .null, .int x7] [] z1.2))) := (am_rg [8, 15, 21, 26, 32, 37, 44, 50, 56, 65, 67] 2 _ _ _ _ _).trans rfl
theorem rg_33_67 (I : Nat → Nat → Int32) (J : Nat → Nat → Int64) (T : Nat → Nat → Nat) (L : Nat) (C : Nat × Nat) (x2 : Int32) (x3 : Int32) (x4 : Int32) (y5 : Int64) (x7 : Int32) : am_E 33 67 [.ref 28, .ref 23, .int x2, .int x3, .int x4, .long y5, .null, .int x7] [] (am_W I J T L C) = (some (.null, (am_W I J T L C))) := (am_rg [8, 15, 21, 26, 32, 37, 44, 50, 56, 65, 67] 1 _ _ _ _ _).trans rfl
-- 34 ScanChart$Past.pulse(LScanChart$Cells;IZIJ)V
theorem rg_34_0 (I : Nat → Nat → Int32) (J : Nat → Nat → Int64) (T : Nat → Nat → Nat) (L : Nat) (C : Nat × Nat) (x2 : Int32) (x3 : Int32) (x4 : Int32) (y5 : Int64) : am_E 34 0 [.ref 28, .ref 23, .int x2, .int x3, .int x4, .long y5, .null, .null, .null] [] (am_W I J T L C) = (if x3 = 0 then ((am_E 91 0 [.int (I 28 5), .int x2] [] (am_W I J T L C)).bind (fun z1 => am_vI z1.1 fun u1 => (am_E 34 6 [.ref 28, .ref 23, .int x2, .int x3, .int x4, .long y5, .null, .null, .null] [.int u1] z1.2))) else (am_E 34 13 [.ref 28, .ref 23, .int x2, .int x3, .int x4, .long y5, .null, .null, .null] [] (am_W I J T L C))) := (am_rg [6, 12, 13, 17, 23, 29, 37, 38, 48, 49, 58, 63, 64] 6 _ _ _ _ _).trans rfl
theorem rg_34_6 (I : Nat → Nat → Int32) (J : Nat → Nat → Int64) (T : Nat → Nat → Nat) (L : Nat) (C : Nat × Nat) (x2 : Int32) (x3 : Int32) (x4 : Int32) (y5 : Int64) (v7 : Value) (v8 : Value) (xs0 : Int32) : am_E 34 6 [.ref 28, .ref 23, .int x2, .int x3, .int x4, .long y5, .null, v7, v8] [.int xs0] (am_W I J T L C) = (if xs0 = 0 then ((am_E 5 0 [.ref 23, .int x2, .int 0, .int 0] [] (am_W I J T L C)).bind (fun z1 => (am_E 34 12 [.ref 28, .ref 23, .int x2, .int x3, .int x4, .long y5, .null, v7, v8] [] z1.2))) else (am_E 34 13 [.ref 28, .ref 23, .int x2, .int x3, .int x4, .long y5, .null, v7, v8] [] (am_W I J T L C))) := (am_rg [6, 12, 13, 17, 23, 29, 37, 38, 48, 49, 58, 63, 64] 6 _ _ _ _ _).trans rfl
theorem rg_34_12 (I : Nat → Nat → Int32) (J : Nat → Nat → Int64) (T : Nat → Nat → Nat) (L : Nat) (C : Nat × Nat) (x2 : Int32) (x3 : Int32) (x4 : Int32) (y5 : Int64) (v7 : Value) (v8 : Value) : am_E 34 12 [.ref 28, .ref 23, .int x2, .int x3, .int x4, .long y5, .null, v7, v8] [] (am_W I J T L C) = (some (.null, (am_W I J T L C))) := (am_rg [6, 12, 13, 17, 23, 29, 37, 38, 48, 49, 58, 63, 64] 1 _ _ _ _ _).trans rfl
theorem rg_34_13 (I : Nat → Nat → Int32) (J : Nat → Nat → Int64) (T : Nat → Nat → Nat) (L : Nat) (C : Nat × Nat) (x2 : Int32) (x3 : Int32) (x4 : Int32) (y5 : Int64) (v7 : Value) (v8 : Value) : am_E 34 13 [.ref 28, .ref 23, .int x2, .int x3, .int x4, .long y5, .null, v7, v8] [] (am_W I J T L C) = ((am_E 91 0 [.int (I 28 5), .int x2] [] (am_W I J T L C)).bind (fun z1 => am_vI z1.1 fun u1 => (am_E 34 17 [.ref 28, .ref 23, .int x2, .int x3, .int x4, .long y5, .null, v7, v8] [.int u1] z1.2))) := (am_rg [6, 12, 13, 17, 23, 29, 37, 38, 48, 49, 58, 63, 64] 4 _ _ _ _ _).trans rfl
theorem rg_34_17 (I : Nat → Nat → Int32) (J : Nat → Nat → Int64) (T : Nat → Nat → Nat) (L : Nat) (C : Nat × Nat) (x2 : Int32) (x3 : Int32) (x4 : Int32) (y5 : Int64) (v7 : Value) (v8 : Value) (xs0 : Int32) : am_E 34 17 [.ref 28, .ref 23, .int x2, .int x3, .int x4, .long y5, .null, v7, v8] [.int xs0] (am_W I J T L C) = (if xs0 = 0 then ((am_E 30 0 [.ref 31, .int x2, .long y5, .null] [] (am_W I J T L C)).bind (fun z1 => (am_E 34 23 [.ref 28, .ref 23, .int x2, .int x3, .int x4, .long y5, .null, v7, v8] [] z1.2))) else (am_E 34 23 [.ref 28, .ref 23, .int x2, .int x3, .int x4, .long y5, .null, v7, v8] [] (am_W I J T L C))) := (am_rg [6, 12, 13, 17, 23, 29, 37, 38, 48, 49, 58, 63, 64] 6 _ _ _ _ _).trans rfl
theorem rg_34_23 (I : Nat → Nat → Int32) (J : Nat → Nat → Int64) (T : Nat → Nat → Nat) (L : Nat) (C : Nat × Nat) (x2 : Int32) (x3 : Int32) (x4 : Int32) (y5 : Int64) (v7 : Value) (v8 : Value) : am_E 34 23 [.ref 28, .ref 23, .int x2, .int x3, .int x4, .long y5, .null, v7, v8] [] (am_W I J T L C) = ((am_E 31 0 [.ref 31, .int x2, .long y5, .null, .int x4, .null, .null] [] (am_W I J T L C)).bind (fun z1 => am_vI z1.1 fun u1 => (am_E 34 29 [.ref 28, .ref 23, .int x2, .int x3, .int x4, .long y5, .null, v7, v8] [.int u1] z1.2))) := (am_rg [6, 12, 13, 17, 23, 29, 37, 38, 48, 49, 58, 63, 64] 6 _ _ _ _ _).trans rfl
theorem rg_34_29 (I : Nat → Nat → Int32) (J : Nat → Nat → Int64) (T : Nat → Nat → Nat) (L : Nat) (C : Nat × Nat) (x2 : Int32) (x3 : Int32) (x4 : Int32) (y5 : Int64) (v7 : Value) (v8 : Value) (xs0 : Int32) : am_E 34 29 [.ref 28, .ref 23, .int x2, .int x3, .int x4, .long y5, .null, v7, v8] [.int xs0] (am_W I J T L C) = (if xs0 = x4 then (if x3 = 0 then (am_E 34 38 [.ref 28, .ref 23, .int x2, .int x3, .int x4, .long y5, .null, .int xs0, v8] [.int 1] (am_W I J T L C)) else (am_E 34 37 [.ref 28, .ref 23, .int x2, .int x3, .int x4, .long y5, .null, .int xs0, v8] [] (am_W I J T L C))) else (am_E 34 37 [.ref 28, .ref 23, .int x2, .int x3, .int x4, .long y5, .null, .int xs0, v8] [] (am_W I J T L C))) := (am_rg [6, 12, 13, 17, 23, 29, 37, 38, 48, 49, 58, 63, 64] 8 _ _ _ _ _).trans rfl
theorem rg_34_37 (I : Nat → Nat → Int32) (J : Nat → Nat → Int64) (T : Nat → Nat → Nat) (L : Nat) (C : Nat × Nat) (x2 : Int32) (x3 : Int32) (x4 : Int32) (y5 : Int64) (x7 : Int32) (v8 : Value) : am_E 34 37 [.ref 28, .ref 23, .int x2, .int x3, .int x4, .long y5, .null, .int x7, v8] [] (am_W I J T L C) = (am_E 34 38 [.ref 28, .ref 23, .int x2, .int x3, .int x4, .long y5, .null, .int x7, v8] [.int 0] (am_W I J T L C)) := (am_rg [6, 12, 13, 17, 23, 29, 37, 38, 48, 49, 58, 63, 64] 1 _ _ _ _ _).trans rfl
theorem rg_34_38 (I : Nat → Nat → Int32) (J : Nat → Nat → Int64) (T : Nat → Nat → Nat) (L : Nat) (C : Nat × Nat) (x2 : Int32) (x3 : Int32) (x4 : Int32) (y5 : Int64) (x7 : Int32) (v8 : Value) (xs0 : Int32) : am_E 34 38 [.ref 28, .ref 23, .int x2, .int x3, .int x4, .long y5, .null, .int x7, v8] [.int xs0] (am_W I J T L C) = (if xs0 = 0 then (am_E 34 48 [.ref 28, .ref 23, .int x2, .int x3, .int x4, .long y5, .null, .int x7, .int xs0] [.int 1, .int x2, .int (I 28 5), .ref 28] (am_W I J T L C)) else (am_E 34 48 [.ref 28, .ref 23, .int x2, .int x3, .int x4, .long y5, .null, .int x7, .int xs0] [.int 0, .int x2, .int (I 28 5), .ref 28] (am_W I J T L C))) := (am_rg [6, 12, 13, 17, 23, 29, 37, 38, 48, 49, 58, 63, 64] 9 _ _ _ _ _).trans rfl
theorem rg_34_48 (I : Nat → Nat → Int32) (J : Nat → Nat → Int64) (T : Nat → Nat → Nat) (L : Nat) (C : Nat × Nat) (x2 : Int32) (x3 : Int32) (x4 : Int32) (y5 : Int64) (x7 : Int32) (x8 : Int32) (xs1 : Int32) (xs2 : Int32) (xs3 : Int32) : am_E 34 48 [.ref 28, .ref 23, .int x2, .int x3, .int x4, .long y5, .null, .int x7, .int x8] [.int xs3, .int xs2, .int xs1, .ref 28] (am_W I J T L C) = ((am_E 92 0 [.int xs1, .int xs2, .int xs3] [] (am_W I J T L C)).bind (fun z1 => am_vI z1.1 fun u1 => (am_E 34 49 [.ref 28, .ref 23, .int x2, .int x3, .int x4, .long y5, .null, .int x7, .int x8] [.int u1, .ref 28] z1.2))) := (am_rg [6, 12, 13, 17, 23, 29, 37, 38, 48, 49, 58, 63, 64] 1 _ _ _ _ _).trans rfl
theorem rg_34_49 (I : Nat → Nat → Int32) (J : Nat → Nat → Int64) (T : Nat → Nat → Nat) (L : Nat) (C : Nat × Nat) (x2 : Int32) (x3 : Int32) (x4 : Int32) (y5 : Int64) (x7 : Int32) (x8 : Int32) (xs1 : Int32) : am_E 34 49 [.ref 28, .ref 23, .int x2, .int x3, .int x4, .long y5, .null, .int x7, .int x8] [.int xs1, .ref 28] (am_W I J T L C) = (if x4 ≤ x7 then (am_E 34 58 [.ref 28, .ref 23, .int x2, .int x3, .int x4, .long y5, .null, .int x7, .int x8] [.int 0, .int x2, .ref 23] (am_W (am_up I 28 5 xs1) J T L C)) else (am_E 34 58 [.ref 28, .ref 23, .int x2, .int x3, .int x4, .long y5, .null, .int x7, .int x8] [.int 1, .int x2, .ref 23] (am_W (am_up I 28 5 xs1) J T L C))) := (am_rg [6, 12, 13, 17, 23, 29, 37, 38, 48, 49, 58, 63, 64] 8 _ _ _ _ _).trans rfl
theorem rg_34_58 (I : Nat → Nat → Int32) (J : Nat → Nat → Int64) (T : Nat → Nat → Nat) (L : Nat) (C : Nat × Nat) (x2 : Int32) (x3 : Int32) (x4 : Int32) (y5 : Int64) (x7 : Int32) (x8 : Int32) (xs1 : Int32) (xs2 : Int32) : am_E 34 58 [.ref 28, .ref 23, .int x2, .int x3, .int x4, .long y5, .null, .int x7, .int x8] [.int xs2, .int xs1, .ref 23] (am_W I J T L C) = (if x8 = 0 then (am_E 34 63 [.ref 28, .ref 23, .int x2, .int x3, .int x4, .long y5, .null, .int x7, .int x8] [.int x7, .int xs2, .int xs1, .ref 23] (am_W I J T L C)) else (am_E 34 63 [.ref 28, .ref 23, .int x2, .int x3, .int x4, .long y5, .null, .int x7, .int x8] [.int 0, .int xs2, .int xs1, .ref 23] (am_W I J T L C))) := (am_rg [6, 12, 13, 17, 23, 29, 37, 38, 48, 49, 58, 63, 64] 4 _ _ _ _ _).trans rfl
theorem rg_34_63 (I : Nat → Nat → Int32) (J : Nat → Nat → Int64) (T : Nat → Nat → Nat) (L : Nat) (C : Nat × Nat) (x2 : Int32) (x3 : Int32) (x4 : Int32) (y5 : Int64) (x7 : Int32) (x8 : Int32) (xs1 : Int32) (xs2 : Int32) (xs3 : Int32) : am_E 34 63 [.ref 28, .ref 23, .int x2, .int x3, .int x4, .long y5, .null, .int x7, .int x8] [.int xs3, .int xs2, .int xs1, .ref 23] (am_W I J T L C) = ((am_E 5 0 [.ref 23, .int xs1, .int xs2, .int xs3] [] (am_W I J T L C)).bind (fun z1 => (am_E 34 64 [.ref 28, .ref 23, .int x2, .int x3, .int x4, .long y5, .null, .int x7, .int x8] [] z1.2))) := (am_rg [6, 12, 13, 17, 23, 29, 37, 38, 48, 49, 58, 63, 64] 1 _ _ _ _ _).trans rfl
theorem rg_34_64 (I : Nat → Nat → Int32) (J : Nat → Nat → Int64) (T : Nat → Nat → Nat) (L : Nat) (C : Nat × Nat) (x2 : Int32) (x3 : Int32) (x4 : Int32) (y5 : Int64) (x7 : Int32) (x8 : Int32) : am_E 34 64 [.ref 28, .ref 23, .int x2, .int x3, .int x4, .long y5, .null, .int x7, .int x8] [] (am_W I J T L C) = (some (.null, (am_W I J T L C))) := (am_rg [6, 12, 13, 17, 23, 29, 37, 38, 48, 49, 58, 63, 64] 1 _ _ _ _ _).trans rfl
-- 35 ScanChart$Past.countUp(LScanChart$Cells;IZI)V
theorem rg_35_0 (I : Nat → Nat → Int32) (J : Nat → Nat → Int64) (T : Nat → Nat → Nat) (L : Nat) (C : Nat × Nat) (x2 : Int32) (x3 : Int32) (x4 : Int32) : am_E 35 0 [.ref 28, .ref 23, .int x2, .int x3, .int x4, .null] [] (am_W I J T L C) = ((am_E 2 0 [.ref 23, .int 10, .int x2] [] (am_W I J T L C)).bind (fun z1 => am_vI z1.1 fun u1 => (am_E 35 4 [.ref 28, .ref 23, .int x2, .int x3, .int x4, .null] [.int u1] z1.2))) := (am_rg [4, 11, 16, 22, 27, 36, 37] 4 _ _ _ _ _).trans rfl
theorem rg_35_4 (I : Nat → Nat → Int32) (J : Nat → Nat → Int64) (T : Nat → Nat → Nat) (L : Nat) (C : Nat × Nat) (x2 : Int32) (x3 : Int32) (x4 : Int32) (v5 : Value) (xs0 : Int32) : am_E 35 4 [.ref 28, .ref 23, .int x2, .int x3, .int x4, v5] [.int xs0] (am_W I J T L C) = (if x3 = 0 then (am_E 35 16 [.ref 28, .ref 23, .int x2, .int x3, .int x4, .int xs0] [] (am_W I J T L C)) else ((am_E 91 0 [.int (I 28 7), .int x2] [] (am_W I J T L C)).bind (fun z1 => am_vI z1.1 fun u1 => (am_E 35 11 [.ref 28, .ref 23, .int x2, .int x3, .int x4, .int xs0] [.int u1] z1.2)))) := (am_rg [4, 11, 16, 22, 27, 36, 37] 7 _ _ _ _ _).trans rfl
theorem rg_35_11 (I : Nat → Nat → Int32) (J : Nat → Nat → Int64) (T : Nat → Nat → Nat) (L : Nat) (C : Nat × Nat) (x2 : Int32) (x3 : Int32) (x4 : Int32) (x5 : Int32) (xs0 : Int32) : am_E 35 11 [.ref 28, .ref 23, .int x2, .int x3, .int x4, .int x5] [.int xs0] (am_W I J T L C) = (if xs0 = 0 then (if 32767 ≤ x5 then (am_E 35 16 [.ref 28, .ref 23, .int x2, .int x3, .int x4, .int x5] [] (am_W I J T L C)) else (am_E 35 16 [.ref 28, .ref 23, .int x2, .int x3, .int x4, .int (x5 + 1)] [] (am_W I J T L C))) else (am_E 35 16 [.ref 28, .ref 23, .int x2, .int x3, .int x4, .int x5] [] (am_W I J T L C))) := (am_rg [4, 11, 16, 22, 27, 36, 37] 5 _ _ _ _ _).trans rfl
theorem rg_35_16 (I : Nat → Nat → Int32) (J : Nat → Nat → Int64) (T : Nat → Nat → Nat) (L : Nat) (C : Nat × Nat) (x2 : Int32) (x3 : Int32) (x4 : Int32) (x5 : Int32) : am_E 35 16 [.ref 28, .ref 23, .int x2, .int x3, .int x4, .int x5] [] (am_W I J T L C) = ((am_E 92 0 [.int (I 28 7), .int x2, .int x3] [] (am_W I J T L C)).bind (fun z1 => am_vI z1.1 fun u1 => (am_E 35 22 [.ref 28, .ref 23, .int x2, .int x3, .int x4, .int x5] [.int u1, .ref 28] z1.2))) := (am_rg [4, 11, 16, 22, 27, 36, 37] 6 _ _ _ _ _).trans rfl
theorem rg_35_22 (I : Nat → Nat → Int32) (J : Nat → Nat → Int64) (T : Nat → Nat → Nat) (L : Nat) (C : Nat × Nat) (x2 : Int32) (x3 : Int32) (x4 : Int32) (x5 : Int32) (xs1 : Int32) : am_E 35 22 [.ref 28, .ref 23, .int x2, .int x3, .int x4, .int x5] [.int xs1, .ref 28] (am_W I J T L C) = ((am_E 6 0 [.ref 23, .int x2, .int x5] [] (am_W (am_up I 28 7 xs1) J T L C)).bind (fun z1 => (am_E 35 27 [.ref 28, .ref 23, .int x2, .int x3, .int x4, .int x5] [] z1.2))) := (am_rg [4, 11, 16, 22, 27, 36, 37] 5 _ _ _ _ _).trans rfl
theorem rg_35_27 (I : Nat → Nat → Int32) (J : Nat → Nat → Int64) (T : Nat → Nat → Nat) (L : Nat) (C : Nat × Nat) (x2 : Int32) (x3 : Int32) (x4 : Int32) (x5 : Int32) : am_E 35 27 [.ref 28, .ref 23, .int x2, .int x3, .int x4, .int x5] [] (am_W I J T L C) = (if x5 < x4 then (am_E 35 36 [.ref 28, .ref 23, .int x2, .int x3, .int x4, .int x5] [.int 0, .int x2, .int 5, .ref 23] (am_W I J T L C)) else (am_E 35 36 [.ref 28, .ref 23, .int x2, .int x3, .int x4, .int x5] [.int 1, .int x2, .int 5, .ref 23] (am_W I J T L C))) := (am_rg [4, 11, 16, 22, 27, 36, 37] 8 _ _ _ _ _).trans rfl
theorem rg_35_36 (I : Nat → Nat → Int32) (J : Nat → Nat → Int64) (T : Nat → Nat → Nat) (L : Nat) (C : Nat × Nat) (x2 : Int32) (x3 : Int32) (x4 : Int32) (x5 : Int32) (xs1 : Int32) (xs2 : Int32) (xs3 : Int32) : am_E 35 36 [.ref 28, .ref 23, .int x2, .int x3, .int x4, .int x5] [.int xs3, .int xs2, .int xs1, .ref 23] (am_W I J T L C) = ((am_E 3 0 [.ref 23, .int xs1, .int xs2, .int xs3] [] (am_W I J T L C)).bind (fun z1 => (am_E 35 37 [.ref 28, .ref 23, .int x2, .int x3, .int x4, .int x5] [] z1.2))) := (am_rg [4, 11, 16, 22, 27, 36, 37] 1 _ _ _ _ _).trans rfl
theorem rg_35_37 (I : Nat → Nat → Int32) (J : Nat → Nat → Int64) (T : Nat → Nat → Nat) (L : Nat) (C : Nat × Nat) (x2 : Int32) (x3 : Int32) (x4 : Int32) (x5 : Int32) : am_E 35 37 [.ref 28, .ref 23, .int x2, .int x3, .int x4, .int x5] [] (am_W I J T L C) = (some (.null, (am_W I J T L C))) := (am_rg [4, 11, 16, 22, 27, 36, 37] 1 _ _ _ _ _).trans rfl
-- 36 ScanChart$Past.countDown(LScanChart$Cells;IZ)V
theorem rg_36_0 (I : Nat → Nat → Int32) (J : Nat → Nat → Int64) (T : Nat → Nat → Nat) (L : Nat) (C : Nat × Nat) (x2 : Int32) (x3 : Int32) : am_E 36 0 [.ref 28, .ref 23, .int x2, .int x3, .null] [] (am_W I J T L C) = ((am_E 2 0 [.ref 23, .int 10, .int x2] [] (am_W I J T L C)).bind (fun z1 => am_vI z1.1 fun u1 => (am_E 36 4 [.ref 28, .ref 23, .int x2, .int x3, .null] [.int u1] z1.2))) := (am_rg [4, 11, 16, 22, 27, 35, 36] 4 _ _ _ _ _).trans rfl
theorem rg_36_4 (I : Nat → Nat → Int32) (J : Nat → Nat → Int64) (T : Nat → Nat → Nat) (L : Nat) (C : Nat × Nat) (x2 : Int32) (x3 : Int32) (v4 : Value) (xs0 : Int32) : am_E 36 4 [.ref 28, .ref 23, .int x2, .int x3, v4] [.int xs0] (am_W I J T L C) = (if x3 = 0 then (am_E 36 16 [.ref 28, .ref 23, .int x2, .int x3, .int xs0] [] (am_W I J T L C)) else ((am_E 91 0 [.int (I 28 8), .int x2] [] (am_W I J T L C)).bind (fun z1 => am_vI z1.1 fun u1 => (am_E 36 11 [.ref 28, .ref 23, .int x2, .int x3, .int xs0] [.int u1] z1.2)))) := (am_rg [4, 11, 16, 22, 27, 35, 36] 7 _ _ _ _ _).trans rfl
theorem rg_36_11 (I : Nat → Nat → Int32) (J : Nat → Nat → Int64) (T : Nat → Nat → Nat) (L : Nat) (C : Nat × Nat) (x2 : Int32) (x3 : Int32) (x4 : Int32) (xs0 : Int32) : am_E 36 11 [.ref 28, .ref 23, .int x2, .int x3, .int x4] [.int xs0] (am_W I J T L C) = (if xs0 = 0 then (if x4 ≤ (-32768) then (am_E 36 16 [.ref 28, .ref 23, .int x2, .int x3, .int x4] [] (am_W I J T L C)) else (am_E 36 16 [.ref 28, .ref 23, .int x2, .int x3, .int (x4 + (-1))] [] (am_W I J T L C))) else (am_E 36 16 [.ref 28, .ref 23, .int x2, .int x3, .int x4] [] (am_W I J T L C))) := (am_rg [4, 11, 16, 22, 27, 35, 36] 5 _ _ _ _ _).trans rfl
theorem rg_36_16 (I : Nat → Nat → Int32) (J : Nat → Nat → Int64) (T : Nat → Nat → Nat) (L : Nat) (C : Nat × Nat) (x2 : Int32) (x3 : Int32) (x4 : Int32) : am_E 36 16 [.ref 28, .ref 23, .int x2, .int x3, .int x4] [] (am_W I J T L C) = ((am_E 92 0 [.int (I 28 8), .int x2, .int x3] [] (am_W I J T L C)).bind (fun z1 => am_vI z1.1 fun u1 => (am_E 36 22 [.ref 28, .ref 23, .int x2, .int x3, .int x4] [.int u1, .ref 28] z1.2))) := (am_rg [4, 11, 16, 22, 27, 35, 36] 6 _ _ _ _ _).trans rfl
theorem rg_36_22 (I : Nat → Nat → Int32) (J : Nat → Nat → Int64) (T : Nat → Nat → Nat) (L : Nat) (C : Nat × Nat) (x2 : Int32) (x3 : Int32) (x4 : Int32) (xs1 : Int32) : am_E 36 22 [.ref 28, .ref 23, .int x2, .int x3, .int x4] [.int xs1, .ref 28] (am_W I J T L C) = ((am_E 6 0 [.ref 23, .int x2, .int x4] [] (am_W (am_up I 28 8 xs1) J T L C)).bind (fun z1 => (am_E 36 27 [.ref 28, .ref 23, .int x2, .int x3, .int x4] [] z1.2))) := (am_rg [4, 11, 16, 22, 27, 35, 36] 5 _ _ _ _ _).trans rfl
theorem rg_36_27 (I : Nat → Nat → Int32) (J : Nat → Nat → Int64) (T : Nat → Nat → Nat) (L : Nat) (C : Nat × Nat) (x2 : Int32) (x3 : Int32) (x4 : Int32) : am_E 36 27 [.ref 28, .ref 23, .int x2, .int x3, .int x4] [] (am_W I J T L C) = (if 0 < x4 then (am_E 36 35 [.ref 28, .ref 23, .int x2, .int x3, .int x4] [.int 0, .int x2, .int 5, .ref 23] (am_W I J T L C)) else (am_E 36 35 [.ref 28, .ref 23, .int x2, .int x3, .int x4] [.int 1, .int x2, .int 5, .ref 23] (am_W I J T L C))) := (am_rg [4, 11, 16, 22, 27, 35, 36] 7 _ _ _ _ _).trans rfl
theorem rg_36_35 (I : Nat → Nat → Int32) (J : Nat → Nat → Int64) (T : Nat → Nat → Nat) (L : Nat) (C : Nat × Nat) (x2 : Int32) (x3 : Int32) (x4 : Int32) (xs1 : Int32) (xs2 : Int32) (xs3 : Int32) : am_E 36 35 [.ref 28, .ref 23, .int x2, .int x3, .int x4] [.int xs3, .int xs2, .int xs1, .ref 23] (am_W I J T L C) = ((am_E 3 0 [.ref 23, .int xs1, .int xs2, .int xs3] [] (am_W I J T L C)).bind (fun z1 => (am_E 36 36 [.ref 28, .ref 23, .int x2, .int x3, .int x4] [] z1.2))) := (am_rg [4, 11, 16, 22, 27, 35, 36] 1 _ _ _ _ _).trans rfl
theorem rg_36_36 (I : Nat → Nat → Int32) (J : Nat → Nat → Int64) (T : Nat → Nat → Nat) (L : Nat) (C : Nat × Nat) (x2 : Int32) (x3 : Int32) (x4 : Int32) : am_E 36 36 [.ref 28, .ref 23, .int x2, .int x3, .int x4] [] (am_W I J T L C) = (some (.null, (am_W I J T L C))) := (am_rg [4, 11, 16, 22, 27, 35, 36] 1 _ _ _ _ _).trans rfl
-- 37 ScanChart$Past.rises(IZ)Z
theorem rg_37_0 (I : Nat → Nat → Int32) (J : Nat → Nat → Int64) (T : Nat → Nat → Nat) (L : Nat) (C : Nat × Nat) (x1 : Int32) (x2 : Int32) : am_E 37 0 [.ref 28, .int x1, .int x2, .null] [] (am_W I J T L C) = ((am_E 91 0 [.int (I 28 9), .int x1] [] (am_W I J T L C)).bind (fun z1 => am_vI z1.1 fun u1 => (am_E 37 4 [.ref 28, .int x1, .int x2, .null] [.int u1] z1.2))) := (am_rg [4, 11] 4 _ _ _ _ _).trans rfl
theorem rg_37_4 (I : Nat → Nat → Int32) (J : Nat → Nat → Int64) (T : Nat → Nat → Nat) (L : Nat) (C : Nat × Nat) (x1 : Int32) (x2 : Int32) (v3 : Value) (xs0 : Int32) : am_E 37 4 [.ref 28, .int x1, .int x2, v3] [.int xs0] (am_W I J T L C) = ((am_E 92 0 [.int (I 28 9), .int x1, .int x2] [] (am_W I J T L C)).bind (fun z1 => am_vI z1.1 fun u1 => (am_E 37 11 [.ref 28, .int x1, .int x2, .int xs0] [.int u1, .ref 28] z1.2))) := (am_rg [4, 11] 7 _ _ _ _ _).trans rfl
theorem rg_37_11 (I : Nat → Nat → Int32) (J : Nat → Nat → Int64) (T : Nat → Nat → Nat) (L : Nat) (C : Nat × Nat) (x1 : Int32) (x2 : Int32) (x3 : Int32) (xs1 : Int32) : am_E 37 11 [.ref 28, .int x1, .int x2, .int x3] [.int xs1, .ref 28] (am_W I J T L C) = (if x2 = 0 then (some (.int 0, (am_W (am_up I 28 9 xs1) J T L C))) else (if x3 = 0 then (some (.int 1, (am_W (am_up I 28 9 xs1) J T L C))) else (some (.int 0, (am_W (am_up I 28 9 xs1) J T L C))))) := (am_rg [4, 11] 8 _ _ _ _ _).trans rfl
-- 38 ScanChart$Past.falls(IZ)Z
theorem rg_38_0 (I : Nat → Nat → Int32) (J : Nat → Nat → Int64) (T : Nat → Nat → Nat) (L : Nat) (C : Nat × Nat) (x1 : Int32) (x2 : Int32) : am_E 38 0 [.ref 28, .int x1, .int x2, .null] [] (am_W I J T L C) = ((am_E 91 0 [.int (I 28 10), .int x1] [] (am_W I J T L C)).bind (fun z1 => am_vI z1.1 fun u1 => (am_E 38 4 [.ref 28, .int x1, .int x2, .null] [.int u1] z1.2))) := (am_rg [4, 11] 4 _ _ _ _ _).trans rfl
theorem rg_38_4 (I : Nat → Nat → Int32) (J : Nat → Nat → Int64) (T : Nat → Nat → Nat) (L : Nat) (C : Nat × Nat) (x1 : Int32) (x2 : Int32) (v3 : Value) (xs0 : Int32) : am_E 38 4 [.ref 28, .int x1, .int x2, v3] [.int xs0] (am_W I J T L C) = ((am_E 92 0 [.int (I 28 10), .int x1, .int x2] [] (am_W I J T L C)).bind (fun z1 => am_vI z1.1 fun u1 => (am_E 38 11 [.ref 28, .int x1, .int x2, .int xs0] [.int u1, .ref 28] z1.2))) := (am_rg [4, 11] 7 _ _ _ _ _).trans rfl
theorem rg_38_11 (I : Nat → Nat → Int32) (J : Nat → Nat → Int64) (T : Nat → Nat → Nat) (L : Nat) (C : Nat × Nat) (x1 : Int32) (x2 : Int32) (x3 : Int32) (xs1 : Int32) : am_E 38 11 [.ref 28, .int x1, .int x2, .int x3] [.int xs1, .ref 28] (am_W I J T L C) = (if x2 = 0 then (if x3 = 0 then (some (.int 0, (am_W (am_up I 28 10 xs1) J T L C))) else (some (.int 1, (am_W (am_up I 28 10 xs1) J T L C)))) else (some (.int 0, (am_W (am_up I 28 10 xs1) J T L C)))) := (am_rg [4, 11] 8 _ _ _ _ _).trans rfl
-- 40 ScanChart$Program.clear()V
theorem rg_40_0 (I : Nat → Nat → Int32) (J : Nat → Nat → Int64) (T : Nat → Nat → Nat) (L : Nat) (C : Nat × Nat) : am_E 40 0 [.ref 5] [] (am_W I J T L C) = ((am_E 93 0 [.ref 19, .int (-1), .null] [] (am_W (am_up I 5 6 0) J T L C)).bind (fun z1 => (am_E 40 7 [.ref 5] [] z1.2))) := (am_rg [7, 10] 7 _ _ _ _ _).trans rfl
theorem rg_40_7 (I : Nat → Nat → Int32) (J : Nat → Nat → Int64) (T : Nat → Nat → Nat) (L : Nat) (C : Nat × Nat) : am_E 40 7 [.ref 5] [] (am_W I J T L C) = ((am_E 8 0 [.ref 6] [] (am_W I J T L C)).bind (fun z1 => (am_E 40 10 [.ref 5] [] z1.2))) := (am_rg [7, 10] 3 _ _ _ _ _).trans rfl
theorem rg_40_10 (I : Nat → Nat → Int32) (J : Nat → Nat → Int64) (T : Nat → Nat → Nat) (L : Nat) (C : Nat × Nat) : am_E 40 10 [.ref 5] [] (am_W I J T L C) = (some (.null, (am_W I J T L C))) := (am_rg [7, 10] 1 _ _ _ _ _).trans rfl
-- 41 ScanChart$Program.add(LScanChart$Op;III)V
theorem rg_41_0 (I : Nat → Nat → Int32) (J : Nat → Nat → Int64) (T : Nat → Nat → Nat) (L : Nat) (C : Nat × Nat) (q1 : Nat) (x2 : Int32) (x3 : Int32) (x4 : Int32) : am_E 41 0 [.ref 5, .ref q1, .int x2, .int x3, .int x4] [] (am_W I J T L C) = (if (I 5 6) < 0 then (some (.null, (am_W I J T L C))) else (if (I 5 6) < (nI 80) then (am_inb (I 5 6) 80 (cond (Nat.beq (am_SF L q1).1 30) ((am_E 90 0 [.ref 16, .int (I 5 6), .int x2] [] (am_W I J (am_up T 15 (Int32.toNatClampNeg (I 5 6)) q1) L C)).bind (fun z1 => (am_E 41 22 [.ref 5, .ref q1, .int x2, .int x3, .int x4] [] z1.2))) none)) else (some (.null, (am_W I J T L C))))) := (am_rg [22, 28, 34] 21 _ _ _ _ _).trans rfl
theorem rg_41_22 (I : Nat → Nat → Int32) (J : Nat → Nat → Int64) (T : Nat → Nat → Nat) (L : Nat) (C : Nat × Nat) (q1 : Nat) (x2 : Int32) (x3 : Int32) (x4 : Int32) : am_E 41 22 [.ref 5, .ref q1, .int x2, .int x3, .int x4] [] (am_W I J T L C) = ((am_E 90 0 [.ref 17, .int (I 5 6), .int x3] [] (am_W I J T L C)).bind (fun z1 => (am_E 41 28 [.ref 5, .ref q1, .int x2, .int x3, .int x4] [] z1.2))) := (am_rg [22, 28, 34] 6 _ _ _ _ _).trans rfl
theorem rg_41_28 (I : Nat → Nat → Int32) (J : Nat → Nat → Int64) (T : Nat → Nat → Nat) (L : Nat) (C : Nat × Nat) (q1 : Nat) (x2 : Int32) (x3 : Int32) (x4 : Int32) : am_E 41 28 [.ref 5, .ref q1, .int x2, .int x3, .int x4] [] (am_W I J T L C) = ((am_E 90 0 [.ref 18, .int (I 5 6), .int x4] [] (am_W I J T L C)).bind (fun z1 => (am_E 41 34 [.ref 5, .ref q1, .int x2, .int x3, .int x4] [] z1.2))) := (am_rg [22, 28, 34] 6 _ _ _ _ _).trans rfl
theorem rg_41_34 (I : Nat → Nat → Int32) (J : Nat → Nat → Int64) (T : Nat → Nat → Nat) (L : Nat) (C : Nat × Nat) (q1 : Nat) (x2 : Int32) (x3 : Int32) (x4 : Int32) : am_E 41 34 [.ref 5, .ref q1, .int x2, .int x3, .int x4] [] (am_W I J T L C) = (some (.null, (am_W (am_up I 5 6 ((I 5 6) + 1)) J T L C))) := (am_rg [22, 28, 34] 7 _ _ _ _ _).trans rfl
-- 42 ScanChart$Program.opAt(I)LScanChart$Op;
theorem rg_42_0 (I : Nat → Nat → Int32) (J : Nat → Nat → Int64) (T : Nat → Nat → Nat) (L : Nat) (C : Nat × Nat) (x1 : Int32) : am_E 42 0 [.ref 34, .int x1] [] (am_W I J T L C) = (if x1 < 0 then (some (.ref 0, (am_W I J T L C))) else (if (nI 80) ≤ x1 then (some (.ref 0, (am_W I J T L C))) else (am_inb x1 80 (some (.ref (T 44 (Int32.toNatClampNeg x1)), (am_W I J T L C)))))) := (am_rg [] 13 _ _ _ _ _).trans rfl
end
section
/-! EQUATIONS of the abstract machine between cut points, written by wip/whole/gen/regions.py -/
-- 44 ScanChart$Reader.readText()Z
theorem rg_44_0 (I : Nat → Nat → Int32) (J : Nat → Nat → Int64) (T : Nat → Nat → Nat) (L : Nat) (C : Nat × Nat) : am_E 44 0 [.ref 2, .null, .null, .null] [] (am_W I J T L C) = ((am_E 40 0 [.ref 5] [] (am_W I J T L C)).bind (fun z1 => (am_E 44 3 [.ref 2, .null, .null, .null] [] z1.2))) := (am_rg [3, 7, 11, 25, 27, 35, 38, 39, 42, 51, 60, 68, 73, 74, 76, 77, 78, 89, 92, 94, 100, 103] 3 _ _ _ _ _).trans rfl
theorem rg_44_3 (I : Nat → Nat → Int32) (J : Nat → Nat → Int64) (T : Nat → Nat → Nat) (L : Nat) (C : Nat × Nat) (v1 : Value) (v2 : Value) (v3 : Value) : am_E 44 3 [.ref 2, v1, v2, v3] [] (am_W I J T L C) = ((am_E 93 0 [.ref 20, .int (-1), .null] [] (am_W I J T L C)).bind (fun z1 => (am_E 44 7 [.ref 2, v1, v2, v3] [] z1.2))) := (am_rg [3, 7, 11, 25, 27, 35, 38, 39, 42, 51, 60, 68, 73, 74, 76, 77, 78, 89, 92, 94, 100, 103] 4 _ _ _ _ _).trans rfl
theorem rg_44_7 (I : Nat → Nat → Int32) (J : Nat → Nat → Int64) (T : Nat → Nat → Nat) (L : Nat) (C : Nat × Nat) (v1 : Value) (v2 : Value) (v3 : Value) : am_E 44 7 [.ref 2, v1, v2, v3] [] (am_W I J T L C) = ((am_E 93 0 [.ref 21, .int (-1), .null] [] (am_W I J T L C)).bind (fun z1 => (am_E 44 11 [.ref 2, v1, v2, v3] [] z1.2))) := (am_rg [3, 7, 11, 25, 27, 35, 38, 39, 42, 51, 60, 68, 73, 74, 76, 77, 78, 89, 92, 94, 100, 103] 4 _ _ _ _ _).trans rfl
theorem rg_44_11 (I : Nat → Nat → Int32) (J : Nat → Nat → Int64) (T : Nat → Nat → Nat) (L : Nat) (C : Nat × Nat) (v1 : Value) (v2 : Value) (v3 : Value) : am_E 44 11 [.ref 2, v1, v2, v3] [] (am_W I J T L C) = ((am_E 47 0 [.ref 2] [] (am_W (am_up (am_up (am_up (am_up I 2 2 0) 2 3 (-1)) 2 9 0) 2 6 0) J T L C)).bind (fun z1 => (am_E 44 25 [.ref 2, v1, v2, v3] [] z1.2))) := (am_rg [3, 7, 11, 25, 27, 35, 38, 39, 42, 51, 60, 68, 73, 74, 76, 77, 78, 89, 92, 94, 100, 103] 14 _ _ _ _ _).trans rfl
theorem rg_44_25 (I : Nat → Nat → Int32) (J : Nat → Nat → Int64) (T : Nat → Nat → Nat) (L : Nat) (C : Nat × Nat) (v1 : Value) (v2 : Value) (v3 : Value) : am_E 44 25 [.ref 2, v1, v2, v3] [] (am_W I J T L C) = (am_E 44 27 [.ref 2, .int 0, v2, v3] [] (am_W I J T L C)) := (am_rg [3, 7, 11, 25, 27, 35, 38, 39, 42, 51, 60, 68, 73, 74, 76, 77, 78, 89, 92, 94, 100, 103] 2 _ _ _ _ _).trans rfl
theorem rg_44_27 (I : Nat → Nat → Int32) (J : Nat → Nat → Int64) (T : Nat → Nat → Nat) (L : Nat) (C : Nat × Nat) (x1 : Int32) (v2 : Value) (v3 : Value) : am_E 44 27 [.ref 2, .int x1, v2, v3] [] (am_W I J T L C) = (if 700 < x1 then (am_E 44 94 [.ref 2, .int x1, v2, v3] [] (am_W I J T L C)) else (if (I 2 4) = 0 then (am_E 44 94 [.ref 2, .int x1, v2, v3] [] (am_W I J T L C)) else ((am_E 50 0 [.ref 2] [] (am_W I J T L C)).bind (fun z1 => am_vI z1.1 fun u1 => (am_E 44 35 [.ref 2, .int x1, v2, v3] [.int u1] z1.2))))) := (am_rg [3, 7, 11, 25, 27, 35, 38, 39, 42, 51, 60, 68, 73, 74, 76, 77, 78, 89, 92, 94, 100, 103] 8 _ _ _ _ _).trans rfl
theorem rg_44_35 (I : Nat → Nat → Int32) (J : Nat → Nat → Int64) (T : Nat → Nat → Nat) (L : Nat) (C : Nat × Nat) (x1 : Int32) (v2 : Value) (v3 : Value) (xs0 : Int32) : am_E 44 35 [.ref 2, .int x1, v2, v3] [.int xs0] (am_W I J T L C) = (if xs0 = 0 then (am_E 44 39 [.ref 2, .int x1, v2, v3] [] (am_W I J T L C)) else ((am_E 51 0 [.ref 2, .null, .null, .null] [] (am_W I J T L C)).bind (fun z1 => am_vI z1.1 fun u1 => (am_E 44 38 [.ref 2, .int x1, v2, v3] [.int u1] z1.2)))) := (am_rg [3, 7, 11, 25, 27, 35, 38, 39, 42, 51, 60, 68, 73, 74, 76, 77, 78, 89, 92, 94, 100, 103] 3 _ _ _ _ _).trans rfl
theorem rg_44_38 (I : Nat → Nat → Int32) (J : Nat → Nat → Int64) (T : Nat → Nat → Nat) (L : Nat) (C : Nat × Nat) (x1 : Int32) (v2 : Value) (v3 : Value) (xs0 : Int32) : am_E 44 38 [.ref 2, .int x1, v2, v3] [.int xs0] (am_W I J T L C) = (if xs0 = 0 then (am_E 44 42 [.ref 2, .int x1, v2, v3] [.int 0] (am_W I J T L C)) else (am_E 44 39 [.ref 2, .int x1, v2, v3] [] (am_W I J T L C))) := (am_rg [3, 7, 11, 25, 27, 35, 38, 39, 42, 51, 60, 68, 73, 74, 76, 77, 78, 89, 92, 94, 100, 103] 2 _ _ _ _ _).trans rfl
theorem rg_44_39 (I : Nat → Nat → Int32) (J : Nat → Nat → Int64) (T : Nat → Nat → Nat) (L : Nat) (C : Nat × Nat) (x1 : Int32) (v2 : Value) (v3 : Value) : am_E 44 39 [.ref 2, .int x1, v2, v3] [] (am_W I J T L C) = (am_E 44 42 [.ref 2, .int x1, v2, v3] [.int 1] (am_W I J T L C)) := (am_rg [3, 7, 11, 25, 27, 35, 38, 39, 42, 51, 60, 68, 73, 74, 76, 77, 78, 89, 92, 94, 100, 103] 2 _ _ _ _ _).trans rfl
theorem rg_44_42 (I : Nat → Nat → Int32) (J : Nat → Nat → Int64) (T : Nat → Nat → Nat) (L : Nat) (C : Nat × Nat) (x1 : Int32) (v2 : Value) (v3 : Value) (xs0 : Int32) : am_E 44 42 [.ref 2, .int x1, v2, v3] [.int xs0] (am_W I J T L C) = (if xs0 = 0 then (am_E 44 78 [.ref 2, .int x1, .int xs0, v3] [] (am_W I J T L C)) else (if (I 2 4) = 2 then ((am_E 52 0 [.ref 2, .null] [] (am_W I J T L C)).bind (fun z1 => am_vR z1.1 fun u1 => (am_E 44 51 [.ref 2, .int x1, .int xs0, v3] [.ref u1] z1.2))) else (am_E 44 78 [.ref 2, .int x1, .int xs0, v3] [] (am_W I J T L C)))) := (am_rg [3, 7, 11, 25, 27, 35, 38, 39, 42, 51, 60, 68, 73, 74, 76, 77, 78, 89, 92, 94, 100, 103] 9 _ _ _ _ _).trans rfl
theorem rg_44_51 (I : Nat → Nat → Int32) (J : Nat → Nat → Int64) (T : Nat → Nat → Nat) (L : Nat) (C : Nat × Nat) (x1 : Int32) (x2 : Int32) (v3 : Value) (qs0 : Nat) : am_E 44 51 [.ref 2, .int x1, .int x2, v3] [.ref qs0] (am_W I J T L C) = (cond (Nat.beq (am_SF L qs0).1 30 || Nat.beq qs0 0) (if qs0 = 0 then (am_E 44 76 [.ref 2, .int x1, .int x2, .ref qs0] [] (am_W I J T L C)) else (cond (Nat.beq (am_SF L qs0).1 30) (if (am_cI qs0 1) = 13 then ((am_E 63 0 [.ref 2, .null, .null, .null] [] (am_W I J T L C)).bind (fun z3 => am_vI z3.1 fun u3 => (am_E 44 60 [.ref 2, .int x1, .int x2, .ref qs0] [.int u3] z3.2))) else (cond (Nat.beq (am_SF L qs0).1 30) (if (am_cI qs0 1) = 12 then ((am_E 61 0 [.ref 2, .null, .null, .null, .null] [] (am_W I J T L C)).bind (fun z2 => am_vI z2.1 fun u2 => (am_E 44 68 [.ref 2, .int x1, .int x2, .ref qs0] [.int u2] z2.2))) else ((am_E 56 0 [.ref 2, .ref qs0, .null, .null, .null, .null, .null] [] (am_W I J T L C)).bind (fun z1 => am_vI z1.1 fun u1 => (am_E 44 73 [.ref 2, .int x1, .int x2, .ref qs0] [.int u1] z1.2)))) none)) none)) none) := (am_rg [3, 7, 11, 25, 27, 35, 38, 39, 42, 51, 60, 68, 73, 74, 76, 77, 78, 89, 92, 94, 100, 103] 14 _ _ _ _ _).trans rfl
theorem rg_44_60 (I : Nat → Nat → Int32) (J : Nat → Nat → Int64) (T : Nat → Nat → Nat) (L : Nat) (C : Nat × Nat) (x1 : Int32) (x2 : Int32) (q3 : Nat) (xs0 : Int32) : am_E 44 60 [.ref 2, .int x1, .int x2, .ref q3] [.int xs0] (am_W I J T L C) = (if xs0 = 0 then (am_E 44 76 [.ref 2, .int x1, .int x2, .ref q3] [] (am_W I J T L C)) else (am_E 44 74 [.ref 2, .int x1, .int x2, .ref q3] [] (am_W I J T L C))) := (am_rg [3, 7, 11, 25, 27, 35, 38, 39, 42, 51, 60, 68, 73, 74, 76, 77, 78, 89, 92, 94, 100, 103] 2 _ _ _ _ _).trans rfl
theorem rg_44_68 (I : Nat → Nat → Int32) (J : Nat → Nat → Int64) (T : Nat → Nat → Nat) (L : Nat) (C : Nat × Nat) (x1 : Int32) (x2 : Int32) (q3 : Nat) (xs0 : Int32) : am_E 44 68 [.ref 2, .int x1, .int x2, .ref q3] [.int xs0] (am_W I J T L C) = (if xs0 = 0 then (am_E 44 76 [.ref 2, .int x1, .int x2, .ref q3] [] (am_W I J T L C)) else (am_E 44 74 [.ref 2, .int x1, .int x2, .ref q3] [] (am_W I J T L C))) := (am_rg [3, 7, 11, 25, 27, 35, 38, 39, 42, 51, 60, 68, 73, 74, 76, 77, 78, 89, 92, 94, 100, 103] 2 _ _ _ _ _).trans rfl
theorem rg_44_73 (I : Nat → Nat → Int32) (J : Nat → Nat → Int64) (T : Nat → Nat → Nat) (L : Nat) (C : Nat × Nat) (x1 : Int32) (x2 : Int32) (q3 : Nat) (xs0 : Int32) : am_E 44 73 [.ref 2, .int x1, .int x2, .ref q3] [.int xs0] (am_W I J T L C) = (if xs0 = 0 then (am_E 44 76 [.ref 2, .int x1, .int x2, .ref q3] [] (am_W I J T L C)) else (am_E 44 74 [.ref 2, .int x1, .int x2, .ref q3] [] (am_W I J T L C))) := (am_rg [3, 7, 11, 25, 27, 35, 38, 39, 42, 51, 60, 68, 73, 74, 76, 77, 78, 89, 92, 94, 100, 103] 1 _ _ _ _ _).trans rfl
theorem rg_44_74 (I : Nat → Nat → Int32) (J : Nat → Nat → Int64) (T : Nat → Nat → Nat) (L : Nat) (C : Nat × Nat) (x1 : Int32) (x2 : Int32) (q3 : Nat) : am_E 44 74 [.ref 2, .int x1, .int x2, .ref q3] [] (am_W I J T L C) = (am_E 44 77 [.ref 2, .int x1, .int x2, .ref q3] [.int 1] (am_W I J T L C)) := (am_rg [3, 7, 11, 25, 27, 35, 38, 39, 42, 51, 60, 68, 73, 74, 76, 77, 78, 89, 92, 94, 100, 103] 2 _ _ _ _ _).trans rfl
theorem rg_44_76 (I : Nat → Nat → Int32) (J : Nat → Nat → Int64) (T : Nat → Nat → Nat) (L : Nat) (C : Nat × Nat) (x1 : Int32) (x2 : Int32) (q3 : Nat) : am_E 44 76 [.ref 2, .int x1, .int x2, .ref q3] [] (am_W I J T L C) = (am_E 44 77 [.ref 2, .int x1, .int x2, .ref q3] [.int 0] (am_W I J T L C)) := (am_rg [3, 7, 11, 25, 27, 35, 38, 39, 42, 51, 60, 68, 73, 74, 76, 77, 78, 89, 92, 94, 100, 103] 1 _ _ _ _ _).trans rfl
theorem rg_44_77 (I : Nat → Nat → Int32) (J : Nat → Nat → Int64) (T : Nat → Nat → Nat) (L : Nat) (C : Nat × Nat) (x1 : Int32) (x2 : Int32) (q3 : Nat) (xs0 : Int32) : am_E 44 77 [.ref 2, .int x1, .int x2, .ref q3] [.int xs0] (am_W I J T L C) = (am_E 44 78 [.ref 2, .int x1, .int xs0, .ref q3] [] (am_W I J T L C)) := (am_rg [3, 7, 11, 25, 27, 35, 38, 39, 42, 51, 60, 68, 73, 74, 76, 77, 78, 89, 92, 94, 100, 103] 1 _ _ _ _ _).trans rfl
theorem rg_44_78 (I : Nat → Nat → Int32) (J : Nat → Nat → Int64) (T : Nat → Nat → Nat) (L : Nat) (C : Nat × Nat) (x1 : Int32) (x2 : Int32) (v3 : Value) : am_E 44 78 [.ref 2, .int x1, .int x2, v3] [] (am_W I J T L C) = (if x2 = 0 then (some (.int 0, (am_W I J T L C))) else (if (I 2 4) = 1 then ((am_E 47 0 [.ref 2] [] (am_W I J T L C)).bind (fun z1 => (am_E 44 92 [.ref 2, .int x1, .int x2, v3] [] z1.2))) else ((am_E 45 0 [.ref 2, .int 1] [] (am_W I J T L C)).bind (fun z2 => am_vI z2.1 fun u2 => (am_E 44 89 [.ref 2, .int x1, .int x2, v3] [.int u2] z2.2))))) := (am_rg [3, 7, 11, 25, 27, 35, 38, 39, 42, 51, 60, 68, 73, 74, 76, 77, 78, 89, 92, 94, 100, 103] 9 _ _ _ _ _).trans rfl
theorem rg_44_89 (I : Nat → Nat → Int32) (J : Nat → Nat → Int64) (T : Nat → Nat → Nat) (L : Nat) (C : Nat × Nat) (x1 : Int32) (x2 : Int32) (v3 : Value) (xs0 : Int32) : am_E 44 89 [.ref 2, .int x1, .int x2, v3] [.int xs0] (am_W I J T L C) = (cond (am_bit xs0) (some (.int xs0, (am_W I J T L C))) none) := (am_rg [3, 7, 11, 25, 27, 35, 38, 39, 42, 51, 60, 68, 73, 74, 76, 77, 78, 89, 92, 94, 100, 103] 1 _ _ _ _ _).trans rfl
theorem rg_44_92 (I : Nat → Nat → Int32) (J : Nat → Nat → Int64) (T : Nat → Nat → Nat) (L : Nat) (C : Nat × Nat) (x1 : Int32) (x2 : Int32) (v3 : Value) : am_E 44 92 [.ref 2, .int x1, .int x2, v3] [] (am_W I J T L C) = (am_E 44 27 [.ref 2, .int (x1 + 1), .int x2, v3] [] (am_W I J T L C)) := (am_rg [3, 7, 11, 25, 27, 35, 38, 39, 42, 51, 60, 68, 73, 74, 76, 77, 78, 89, 92, 94, 100, 103] 2 _ _ _ _ _).trans rfl
theorem rg_44_94 (I : Nat → Nat → Int32) (J : Nat → Nat → Int64) (T : Nat → Nat → Nat) (L : Nat) (C : Nat × Nat) (x1 : Int32) (v2 : Value) (v3 : Value) : am_E 44 94 [.ref 2, .int x1, v2, v3] [] (am_W I J T L C) = (if (I 2 9) ≤ 0 then ((am_E 66 0 [.ref 2, .null, .null] [] (am_W I J T L C)).bind (fun z1 => am_vI z1.1 fun u1 => (am_E 44 103 [.ref 2, .int x1, v2, v3] [.int u1] z1.2))) else ((am_E 45 0 [.ref 2, .int 5] [] (am_W I J T L C)).bind (fun z2 => am_vI z2.1 fun u2 => (am_E 44 100 [.ref 2, .int x1, v2, v3] [.int u2] z2.2)))) := (am_rg [3, 7, 11, 25, 27, 35, 38, 39, 42, 51, 60, 68, 73, 74, 76, 77, 78, 89, 92, 94, 100, 103] 6 _ _ _ _ _).trans rfl
theorem rg_44_100 (I : Nat → Nat → Int32) (J : Nat → Nat → Int64) (T : Nat → Nat → Nat) (L : Nat) (C : Nat × Nat) (x1 : Int32) (v2 : Value) (v3 : Value) (xs0 : Int32) : am_E 44 100 [.ref 2, .int x1, v2, v3] [.int xs0] (am_W I J T L C) = (am_E 44 103 [.ref 2, .int x1, v2, v3] [.int xs0] (am_W I J T L C)) := (am_rg [3, 7, 11, 25, 27, 35, 38, 39, 42, 51, 60, 68, 73, 74, 76, 77, 78, 89, 92, 94, 100, 103] 1 _ _ _ _ _).trans rfl
theorem rg_44_103 (I : Nat → Nat → Int32) (J : Nat → Nat → Int64) (T : Nat → Nat → Nat) (L : Nat) (C : Nat × Nat) (x1 : Int32) (v2 : Value) (v3 : Value) (xs0 : Int32) : am_E 44 103 [.ref 2, .int x1, v2, v3] [.int xs0] (am_W I J T L C) = (cond (am_bit xs0) (some (.int xs0, (am_W I J T L C))) none) := (am_rg [3, 7, 11, 25, 27, 35, 38, 39, 42, 51, 60, 68, 73, 74, 76, 77, 78, 89, 92, 94, 100, 103] 1 _ _ _ _ _).trans rfl
-- 45 ScanChart$Reader.fail(I)Z
theorem rg_45_0 (I : Nat → Nat → Int32) (J : Nat → Nat → Int64) (T : Nat → Nat → Nat) (L : Nat) (C : Nat × Nat) (x1 : Int32) : am_E 45 0 [.ref 2, .int x1] [] (am_W I J T L C) = (some (.int 0, (am_W (am_up (am_up I 2 2 x1) 2 3 (I 2 5)) J T L C))) := (am_rg [] 9 _ _ _ _ _).trans rfl
-- 46 ScanChart$Reader.failAt(II)Z
theorem rg_46_0 (I : Nat → Nat → Int32) (J : Nat → Nat → Int64) (T : Nat → Nat → Nat) (L : Nat) (C : Nat × Nat) (x1 : Int32) (x2 : Int32) : am_E 46 0 [.ref 2, .int x1, .int x2] [] (am_W I J T L C) = (some (.int 0, (am_W (am_up (am_up I 2 2 x1) 2 3 x2) J T L C))) := (am_rg [] 8 _ _ _ _ _).trans rfl
-- 47 ScanChart$Reader.advance()V
theorem rg_47_0 (I : Nat → Nat → Int32) (J : Nat → Nat → Int64) (T : Nat → Nat → Nat) (L : Nat) (C : Nat × Nat) : am_E 47 0 [.ref 2] [] (am_W I J T L C) = (am_E 47 4 [.ref 2] [] (am_W (am_up I 2 5 (I 2 6)) J T L C)) := (am_rg [4, 15, 24, 28, 39, 46, 55, 83, 87, 99, 108] 4 _ _ _ _ _).trans rfl
theorem rg_47_4 (I : Nat → Nat → Int32) (J : Nat → Nat → Int64) (T : Nat → Nat → Nat) (L : Nat) (C : Nat × Nat) : am_E 47 4 [.ref 2] [] (am_W I J T L C) = (if (I 3 1) ≤ (I 2 5) then (am_E 47 24 [.ref 2] [] (am_W I J T L C)) else ((am_E 69 0 [.ref 3, .int (I 2 5)] [] (am_W I J T L C)).bind (fun z1 => am_vI z1.1 fun u1 => (am_E 47 15 [.ref 2] [.int u1] z1.2)))) := (am_rg [4, 15, 24, 28, 39, 46, 55, 83, 87, 99, 108] 11 _ _ _ _ _).trans rfl
theorem rg_47_15 (I : Nat → Nat → Int32) (J : Nat → Nat → Int64) (T : Nat → Nat → Nat) (L : Nat) (C : Nat × Nat) (xs0 : Int32) : am_E 47 15 [.ref 2] [.int xs0] (am_W I J T L C) = (if 32 < xs0 then (am_E 47 24 [.ref 2] [] (am_W I J T L C)) else (am_E 47 4 [.ref 2] [] (am_W (am_up I 2 5 ((I 2 5) + 1)) J T L C))) := (am_rg [4, 15, 24, 28, 39, 46, 55, 83, 87, 99, 108] 9 _ _ _ _ _).trans rfl
theorem rg_47_24 (I : Nat → Nat → Int32) (J : Nat → Nat → Int64) (T : Nat → Nat → Nat) (L : Nat) (C : Nat × Nat) : am_E 47 24 [.ref 2] [] (am_W I J T L C) = (am_E 47 28 [.ref 2] [] (am_W (am_up I 2 6 (I 2 5)) J T L C)) := (am_rg [4, 15, 24, 28, 39, 46, 55, 83, 87, 99, 108] 4 _ _ _ _ _).trans rfl
theorem rg_47_28 (I : Nat → Nat → Int32) (J : Nat → Nat → Int64) (T : Nat → Nat → Nat) (L : Nat) (C : Nat × Nat) : am_E 47 28 [.ref 2] [] (am_W I J T L C) = (if (I 3 1) ≤ (I 2 6) then (am_E 47 55 [.ref 2] [] (am_W I J T L C)) else ((am_E 69 0 [.ref 3, .int (I 2 6)] [] (am_W I J T L C)).bind (fun z1 => am_vI z1.1 fun u1 => (am_E 47 39 [.ref 2] [.int u1] z1.2)))) := (am_rg [4, 15, 24, 28, 39, 46, 55, 83, 87, 99, 108] 11 _ _ _ _ _).trans rfl
theorem rg_47_39 (I : Nat → Nat → Int32) (J : Nat → Nat → Int64) (T : Nat → Nat → Nat) (L : Nat) (C : Nat × Nat) (xs0 : Int32) : am_E 47 39 [.ref 2] [.int xs0] (am_W I J T L C) = (if xs0 ≤ 32 then (am_E 47 55 [.ref 2] [] (am_W I J T L C)) else ((am_E 69 0 [.ref 3, .int (I 2 6)] [] (am_W I J T L C)).bind (fun z1 => am_vI z1.1 fun u1 => (am_E 47 46 [.ref 2] [.int u1] z1.2)))) := (am_rg [4, 15, 24, 28, 39, 46, 55, 83, 87, 99, 108] 7 _ _ _ _ _).trans rfl
theorem rg_47_46 (I : Nat → Nat → Int32) (J : Nat → Nat → Int64) (T : Nat → Nat → Nat) (L : Nat) (C : Nat × Nat) (xs0 : Int32) : am_E 47 46 [.ref 2] [.int xs0] (am_W I J T L C) = (if xs0 = 59 then (am_E 47 55 [.ref 2] [] (am_W I J T L C)) else (am_E 47 28 [.ref 2] [] (am_W (am_up I 2 6 ((I 2 6) + 1)) J T L C))) := (am_rg [4, 15, 24, 28, 39, 46, 55, 83, 87, 99, 108] 9 _ _ _ _ _).trans rfl
theorem rg_47_55 (I : Nat → Nat → Int32) (J : Nat → Nat → Int64) (T : Nat → Nat → Nat) (L : Nat) (C : Nat × Nat) : am_E 47 55 [.ref 2] [] (am_W I J T L C) = (if (I 2 6) ≤ (I 2 5) then (if (I 3 1) ≤ (I 2 5) then (am_E 47 83 [.ref 2] [] (am_W (am_up I 2 4 0) J T L C)) else (am_E 47 83 [.ref 2] [] (am_W (am_up (am_up I 2 4 1) 2 6 ((I 2 5) + 1)) J T L C))) else (am_E 47 83 [.ref 2] [] (am_W (am_up I 2 4 2) J T L C))) := (am_rg [4, 15, 24, 28, 39, 46, 55, 83, 87, 99, 108] 21 _ _ _ _ _).trans rfl
theorem rg_47_83 (I : Nat → Nat → Int32) (J : Nat → Nat → Int64) (T : Nat → Nat → Nat) (L : Nat) (C : Nat × Nat) : am_E 47 83 [.ref 2] [] (am_W I J T L C) = (am_E 47 87 [.ref 2] [] (am_W (am_up I 2 7 (I 2 6)) J T L C)) := (am_rg [4, 15, 24, 28, 39, 46, 55, 83, 87, 99, 108] 4 _ _ _ _ _).trans rfl
theorem rg_47_87 (I : Nat → Nat → Int32) (J : Nat → Nat → Int64) (T : Nat → Nat → Nat) (L : Nat) (C : Nat × Nat) : am_E 47 87 [.ref 2] [] (am_W I J T L C) = (if (I 2 7) ≤ (I 2 5) then (some (.null, (am_W I J T L C))) else ((am_E 69 0 [.ref 3, .int ((I 2 7) - 1)] [] (am_W I J T L C)).bind (fun z1 => am_vI z1.1 fun u1 => (am_E 47 99 [.ref 2] [.int u1] z1.2)))) := (am_rg [4, 15, 24, 28, 39, 46, 55, 83, 87, 99, 108] 12 _ _ _ _ _).trans rfl
theorem rg_47_99 (I : Nat → Nat → Int32) (J : Nat → Nat → Int64) (T : Nat → Nat → Nat) (L : Nat) (C : Nat × Nat) (xs0 : Int32) : am_E 47 99 [.ref 2] [.int xs0] (am_W I J T L C) = (if xs0 < 48 then (some (.null, (am_W I J T L C))) else ((am_E 69 0 [.ref 3, .int ((I 2 7) - 1)] [] (am_W I J T L C)).bind (fun z1 => am_vI z1.1 fun u1 => (am_E 47 108 [.ref 2] [.int u1] z1.2)))) := (am_rg [4, 15, 24, 28, 39, 46, 55, 83, 87, 99, 108] 9 _ _ _ _ _).trans rfl
theorem rg_47_108 (I : Nat → Nat → Int32) (J : Nat → Nat → Int64) (T : Nat → Nat → Nat) (L : Nat) (C : Nat × Nat) (xs0 : Int32) : am_E 47 108 [.ref 2] [.int xs0] (am_W I J T L C) = (if 57 < xs0 then (some (.null, (am_W I J T L C))) else (am_E 47 87 [.ref 2] [] (am_W (am_up I 2 7 ((I 2 7) - 1)) J T L C))) := (am_rg [4, 15, 24, 28, 39, 46, 55, 83, 87, 99, 108] 9 _ _ _ _ _).trans rfl
-- 48 ScanChart$Reader.isWord(Ljava/lang/String;)Z
theorem rg_48_0 (I : Nat → Nat → Int32) (J : Nat → Nat → Int64) (T : Nat → Nat → Nat) (L : Nat) (C : Nat × Nat) (q1 : Nat) : am_E 48 0 [.ref 2, .ref q1] [] (am_W I J T L C) = (if (I 2 4) = 2 then ((am_E 70 0 [.ref 3, .ref q1, .int (I 2 5), .int (I 2 6), .null] [] (am_W I J T L C)).bind (fun z1 => am_vI z1.1 fun u1 => (am_E 48 12 [.ref 2, .ref q1] [.int u1] z1.2))) else (some (.int 0, (am_W I J T L C)))) := (am_rg [12] 12 _ _ _ _ _).trans rfl
theorem rg_48_12 (I : Nat → Nat → Int32) (J : Nat → Nat → Int64) (T : Nat → Nat → Nat) (L : Nat) (C : Nat × Nat) (q1 : Nat) (xs0 : Int32) : am_E 48 12 [.ref 2, .ref q1] [.int xs0] (am_W I J T L C) = (if xs0 = 0 then (some (.int 0, (am_W I J T L C))) else (some (.int 1, (am_W I J T L C)))) := (am_rg [12] 4 _ _ _ _ _).trans rfl
-- 49 ScanChart$Reader.isFigures()Z
theorem rg_49_0 (I : Nat → Nat → Int32) (J : Nat → Nat → Int64) (T : Nat → Nat → Nat) (L : Nat) (C : Nat × Nat) : am_E 49 0 [.ref 2] [] (am_W I J T L C) = (if (I 2 4) = 2 then (if (I 2 7) = (I 2 5) then (some (.int 1, (am_W I J T L C))) else (some (.int 0, (am_W I J T L C)))) else (some (.int 0, (am_W I J T L C)))) := (am_rg [] 12 _ _ _ _ _).trans rfl
-- 50 ScanChart$Reader.isLabel()Z
theorem rg_50_0 (I : Nat → Nat → Int32) (J : Nat → Nat → Int64) (T : Nat → Nat → Nat) (L : Nat) (C : Nat × Nat) : am_E 50 0 [.ref 2] [] (am_W I J T L C) = (if (I 2 4) = 2 then ((am_E 69 0 [.ref 3, .int (I 2 5)] [] (am_W I J T L C)).bind (fun z1 => am_vI z1.1 fun u1 => (am_E 50 9 [.ref 2] [.int u1] z1.2))) else (some (.int 0, (am_W I J T L C)))) := (am_rg [9, 18, 31] 9 _ _ _ _ _).trans rfl
theorem rg_50_9 (I : Nat → Nat → Int32) (J : Nat → Nat → Int64) (T : Nat → Nat → Nat) (L : Nat) (C : Nat × Nat) (xs0 : Int32) : am_E 50 9 [.ref 2] [.int xs0] (am_W I J T L C) = (if xs0 = 76 then ((am_E 69 0 [.ref 3, .int ((I 2 6) - 1)] [] (am_W I J T L C)).bind (fun z1 => am_vI z1.1 fun u1 => (am_E 50 18 [.ref 2] [.int u1] z1.2))) else (some (.int 0, (am_W I J T L C)))) := (am_rg [9, 18, 31] 9 _ _ _ _ _).trans rfl
theorem rg_50_18 (I : Nat → Nat → Int32) (J : Nat → Nat → Int64) (T : Nat → Nat → Nat) (L : Nat) (C : Nat × Nat) (xs0 : Int32) : am_E 50 18 [.ref 2] [.int xs0] (am_W I J T L C) = (if xs0 = 58 then ((am_E 71 0 [.ref 3, .int ((I 2 5) + 1), .int ((I 2 6) - 1), .null, .null, .null, .null] [] (am_W I J T L C)).bind (fun z1 => am_vJ z1.1 fun u1 => (am_E 50 31 [.ref 2] [.long u1] z1.2))) else (some (.int 0, (am_W I J T L C)))) := (am_rg [9, 18, 31] 13 _ _ _ _ _).trans rfl
theorem rg_50_31 (I : Nat → Nat → Int32) (J : Nat → Nat → Int64) (T : Nat → Nat → Nat) (L : Nat) (C : Nat × Nat) (ys0 : Int64) : am_E 50 31 [.ref 2] [.long ys0] (am_W I J T L C) = (if (lg_cmp ys0 (-1)) = 0 then (some (.int 0, (am_W I J T L C))) else (some (.int 1, (am_W I J T L C)))) := (am_rg [9, 18, 31] 6 _ _ _ _ _).trans rfl
-- 51 ScanChart$Reader.readLabel()Z
theorem rg_51_0 (I : Nat → Nat → Int32) (J : Nat → Nat → Int64) (T : Nat → Nat → Nat) (L : Nat) (C : Nat × Nat) : am_E 51 0 [.ref 2, .null, .null, .null] [] (am_W I J T L C) = ((am_E 71 0 [.ref 3, .int ((I 2 5) + 1), .int ((I 2 6) - 1), .null, .null, .null, .null] [] (am_W I J T L C)).bind (fun z1 => am_vJ z1.1 fun u1 => (am_E 51 11 [.ref 2, .null, .null, .null] [.long u1] z1.2))) := (am_rg [11, 29, 32, 41, 46, 53, 62, 64] 11 _ _ _ _ _).trans rfl
theorem rg_51_11 (I : Nat → Nat → Int32) (J : Nat → Nat → Int64) (T : Nat → Nat → Nat) (L : Nat) (C : Nat × Nat) (v1 : Value) (v2 : Value) (v3 : Value) (ys0 : Int64) : am_E 51 11 [.ref 2, v1, v2, v3] [.long ys0] (am_W I J T L C) = (if 2 < (((I 2 6) - (I 2 5)) - 2) then (am_E 51 29 [.ref 2, .long ys0, .null, v3] [] (am_W I J T L C)) else (if (lg_cmp ys0 0) < 0 then (am_E 51 29 [.ref 2, .long ys0, .null, v3] [] (am_W I J T L C)) else (if (lg_cmp ys0 32) < 0 then ((am_E 89 0 [.ref 19, .int (Int64.toInt32 ys0)] [] (am_W I J T L C)).bind (fun z1 => am_vI z1.1 fun u1 => (am_E 51 41 [.ref 2, .long ys0, .null, .int (Int64.toInt32 ys0)] [.int u1] z1.2))) else (am_E 51 29 [.ref 2, .long ys0, .null, v3] [] (am_W I J T L C))))) := (am_rg [11, 29, 32, 41, 46, 53, 62, 64] 26 _ _ _ _ _).trans rfl
theorem rg_51_29 (I : Nat → Nat → Int32) (J : Nat → Nat → Int64) (T : Nat → Nat → Nat) (L : Nat) (C : Nat × Nat) (y1 : Int64) (v3 : Value) : am_E 51 29 [.ref 2, .long y1, .null, v3] [] (am_W I J T L C) = ((am_E 45 0 [.ref 2, .int 2] [] (am_W I J T L C)).bind (fun z1 => am_vI z1.1 fun u1 => (am_E 51 32 [.ref 2, .long y1, .null, v3] [.int u1] z1.2))) := (am_rg [11, 29, 32, 41, 46, 53, 62, 64] 3 _ _ _ _ _).trans rfl
theorem rg_51_32 (I : Nat → Nat → Int32) (J : Nat → Nat → Int64) (T : Nat → Nat → Nat) (L : Nat) (C : Nat × Nat) (y1 : Int64) (v3 : Value) (xs0 : Int32) : am_E 51 32 [.ref 2, .long y1, .null, v3] [.int xs0] (am_W I J T L C) = (cond (am_bit xs0) (some (.int xs0, (am_W I J T L C))) none) := (am_rg [11, 29, 32, 41, 46, 53, 62, 64] 1 _ _ _ _ _).trans rfl
theorem rg_51_41 (I : Nat → Nat → Int32) (J : Nat → Nat → Int64) (T : Nat → Nat → Nat) (L : Nat) (C : Nat × Nat) (y1 : Int64) (x3 : Int32) (xs0 : Int32) : am_E 51 41 [.ref 2, .long y1, .null, .int x3] [.int xs0] (am_W I J T L C) = (if xs0 = (-1) then (if (I 2 9) ≤ 0 then ((am_E 90 0 [.ref 19, .int x3, .int (I 5 6)] [] (am_W I J T L C)).bind (fun z1 => (am_E 51 62 [.ref 2, .long y1, .null, .int x3] [] z1.2))) else ((am_E 45 0 [.ref 2, .int 5] [] (am_W I J T L C)).bind (fun z2 => am_vI z2.1 fun u2 => (am_E 51 53 [.ref 2, .long y1, .null, .int x3] [.int u2] z2.2)))) else ((am_E 45 0 [.ref 2, .int 4] [] (am_W I J T L C)).bind (fun z3 => am_vI z3.1 fun u3 => (am_E 51 46 [.ref 2, .long y1, .null, .int x3] [.int u3] z3.2)))) := (am_rg [11, 29, 32, 41, 46, 53, 62, 64] 13 _ _ _ _ _).trans rfl
theorem rg_51_46 (I : Nat → Nat → Int32) (J : Nat → Nat → Int64) (T : Nat → Nat → Nat) (L : Nat) (C : Nat × Nat) (y1 : Int64) (x3 : Int32) (xs0 : Int32) : am_E 51 46 [.ref 2, .long y1, .null, .int x3] [.int xs0] (am_W I J T L C) = (cond (am_bit xs0) (some (.int xs0, (am_W I J T L C))) none) := (am_rg [11, 29, 32, 41, 46, 53, 62, 64] 1 _ _ _ _ _).trans rfl
theorem rg_51_53 (I : Nat → Nat → Int32) (J : Nat → Nat → Int64) (T : Nat → Nat → Nat) (L : Nat) (C : Nat × Nat) (y1 : Int64) (x3 : Int32) (xs0 : Int32) : am_E 51 53 [.ref 2, .long y1, .null, .int x3] [.int xs0] (am_W I J T L C) = (cond (am_bit xs0) (some (.int xs0, (am_W I J T L C))) none) := (am_rg [11, 29, 32, 41, 46, 53, 62, 64] 1 _ _ _ _ _).trans rfl
theorem rg_51_62 (I : Nat → Nat → Int32) (J : Nat → Nat → Int64) (T : Nat → Nat → Nat) (L : Nat) (C : Nat × Nat) (y1 : Int64) (x3 : Int32) : am_E 51 62 [.ref 2, .long y1, .null, .int x3] [] (am_W I J T L C) = ((am_E 47 0 [.ref 2] [] (am_W I J T L C)).bind (fun z1 => (am_E 51 64 [.ref 2, .long y1, .null, .int x3] [] z1.2))) := (am_rg [11, 29, 32, 41, 46, 53, 62, 64] 2 _ _ _ _ _).trans rfl
theorem rg_51_64 (I : Nat → Nat → Int32) (J : Nat → Nat → Int64) (T : Nat → Nat → Nat) (L : Nat) (C : Nat × Nat) (y1 : Int64) (x3 : Int32) : am_E 51 64 [.ref 2, .long y1, .null, .int x3] [] (am_W I J T L C) = (some (.int 1, (am_W I J T L C))) := (am_rg [11, 29, 32, 41, 46, 53, 62, 64] 2 _ _ _ _ _).trans rfl
-- 52 ScanChart$Reader.readOp()LScanChart$Op;
theorem rg_52_0 (I : Nat → Nat → Int32) (J : Nat → Nat → Int64) (T : Nat → Nat → Nat) (L : Nat) (C : Nat × Nat) : am_E 52 0 [.ref 2, .null] [] (am_W I J T L C) = ((am_E 69 0 [.ref 3, .int ((I 2 6) - 1)] [] (am_W I J T L C)).bind (fun z1 => am_vI z1.1 fun u1 => (am_E 52 8 [.ref 2, .null] [.int u1, .ref 2] z1.2))) := (am_rg [8, 13, 27, 28, 38, 41, 44, 47, 51, 57, 61, 84, 86] 8 _ _ _ _ _).trans rfl
theorem rg_52_8 (I : Nat → Nat → Int32) (J : Nat → Nat → Int64) (T : Nat → Nat → Nat) (L : Nat) (C : Nat × Nat) (v1 : Value) (xs1 : Int32) : am_E 52 8 [.ref 2, v1] [.int xs1, .ref 2] (am_W I J T L C) = (if xs1 = 40 then (am_E 52 13 [.ref 2, v1] [.int 1, .ref 2] (am_W I J T L C)) else (am_E 52 13 [.ref 2, v1] [.int 0, .ref 2] (am_W I J T L C))) := (am_rg [8, 13, 27, 28, 38, 41, 44, 47, 51, 57, 61, 84, 86] 4 _ _ _ _ _).trans rfl
theorem rg_52_13 (I : Nat → Nat → Int32) (J : Nat → Nat → Int64) (T : Nat → Nat → Nat) (L : Nat) (C : Nat × Nat) (v1 : Value) (xs1 : Int32) : am_E 52 13 [.ref 2, v1] [.int xs1, .ref 2] (am_W I J T L C) = (cond (am_bit xs1) (if xs1 = 0 then (am_E 52 27 [.ref 2, v1] [.int (I 2 6), .int (I 2 5), .ref 2] (am_W (am_up I 2 8 xs1) J T L C)) else (am_E 52 27 [.ref 2, v1] [.int ((I 2 6) - 1), .int (I 2 5), .ref 2] (am_W (am_up I 2 8 xs1) J T L C))) none) := (am_rg [8, 13, 27, 28, 38, 41, 44, 47, 51, 57, 61, 84, 86] 12 _ _ _ _ _).trans rfl
theorem rg_52_27 (I : Nat → Nat → Int32) (J : Nat → Nat → Int64) (T : Nat → Nat → Nat) (L : Nat) (C : Nat × Nat) (v1 : Value) (xs1 : Int32) (xs2 : Int32) : am_E 52 27 [.ref 2, v1] [.int xs2, .int xs1, .ref 2] (am_W I J T L C) = ((am_E 53 0 [.ref 2, .int xs1, .int xs2, .null, .null, .null, .null] [] (am_W I J T L C)).bind (fun z1 => am_vR z1.1 fun u1 => (am_E 52 28 [.ref 2, v1] [.ref u1] z1.2))) := (am_rg [8, 13, 27, 28, 38, 41, 44, 47, 51, 57, 61, 84, 86] 1 _ _ _ _ _).trans rfl
theorem rg_52_28 (I : Nat → Nat → Int32) (J : Nat → Nat → Int64) (T : Nat → Nat → Nat) (L : Nat) (C : Nat × Nat) (v1 : Value) (qs0 : Nat) : am_E 52 28 [.ref 2, v1] [.ref qs0] (am_W I J T L C) = (cond (Nat.beq (am_SF L qs0).1 30 || Nat.beq qs0 0) (if qs0 = 0 then (am_E 52 38 [.ref 2, .ref qs0] [] (am_W I J T L C)) else (if (I 2 8) = 0 then (am_E 52 44 [.ref 2, .ref qs0] [] (am_W I J T L C)) else (cond (Nat.beq (am_SF L qs0).1 30) (if (am_cI qs0 1) = 1 then (am_E 52 44 [.ref 2, .ref qs0] [] (am_W I J T L C)) else (am_E 52 38 [.ref 2, .ref qs0] [] (am_W I J T L C))) none))) none) := (am_rg [8, 13, 27, 28, 38, 41, 44, 47, 51, 57, 61, 84, 86] 10 _ _ _ _ _).trans rfl
theorem rg_52_38 (I : Nat → Nat → Int32) (J : Nat → Nat → Int64) (T : Nat → Nat → Nat) (L : Nat) (C : Nat × Nat) (q1 : Nat) : am_E 52 38 [.ref 2, .ref q1] [] (am_W I J T L C) = ((am_E 45 0 [.ref 2, .int 1] [] (am_W I J T L C)).bind (fun z1 => am_vI z1.1 fun u1 => (am_E 52 41 [.ref 2, .ref q1] [.int u1] z1.2))) := (am_rg [8, 13, 27, 28, 38, 41, 44, 47, 51, 57, 61, 84, 86] 3 _ _ _ _ _).trans rfl
theorem rg_52_41 (I : Nat → Nat → Int32) (J : Nat → Nat → Int64) (T : Nat → Nat → Nat) (L : Nat) (C : Nat × Nat) (q1 : Nat) (xs0 : Int32) : am_E 52 41 [.ref 2, .ref q1] [.int xs0] (am_W I J T L C) = (some (.ref 0, (am_W I J T L C))) := (am_rg [8, 13, 27, 28, 38, 41, 44, 47, 51, 57, 61, 84, 86] 3 _ _ _ _ _).trans rfl
theorem rg_52_44 (I : Nat → Nat → Int32) (J : Nat → Nat → Int64) (T : Nat → Nat → Nat) (L : Nat) (C : Nat × Nat) (q1 : Nat) : am_E 52 44 [.ref 2, .ref q1] [] (am_W I J T L C) = ((am_E 54 0 [.ref 2, .ref q1] [] (am_W I J T L C)).bind (fun z1 => am_vI z1.1 fun u1 => (am_E 52 47 [.ref 2, .ref q1] [.int u1] z1.2))) := (am_rg [8, 13, 27, 28, 38, 41, 44, 47, 51, 57, 61, 84, 86] 3 _ _ _ _ _).trans rfl
theorem rg_52_47 (I : Nat → Nat → Int32) (J : Nat → Nat → Int64) (T : Nat → Nat → Nat) (L : Nat) (C : Nat × Nat) (q1 : Nat) (xs0 : Int32) : am_E 52 47 [.ref 2, .ref q1] [.int xs0] (am_W I J T L C) = (if xs0 = 0 then ((am_E 55 0 [.ref 2, .ref q1] [] (am_W I J T L C)).bind (fun z1 => am_vI z1.1 fun u1 => (am_E 52 57 [.ref 2, .ref q1] [.int u1] z1.2))) else ((am_E 45 0 [.ref 2, .int 3] [] (am_W I J T L C)).bind (fun z2 => am_vI z2.1 fun u2 => (am_E 52 51 [.ref 2, .ref q1] [.int u2] z2.2)))) := (am_rg [8, 13, 27, 28, 38, 41, 44, 47, 51, 57, 61, 84, 86] 4 _ _ _ _ _).trans rfl
theorem rg_52_51 (I : Nat → Nat → Int32) (J : Nat → Nat → Int64) (T : Nat → Nat → Nat) (L : Nat) (C : Nat × Nat) (q1 : Nat) (xs0 : Int32) : am_E 52 51 [.ref 2, .ref q1] [.int xs0] (am_W I J T L C) = (some (.ref 0, (am_W I J T L C))) := (am_rg [8, 13, 27, 28, 38, 41, 44, 47, 51, 57, 61, 84, 86] 3 _ _ _ _ _).trans rfl
theorem rg_52_57 (I : Nat → Nat → Int32) (J : Nat → Nat → Int64) (T : Nat → Nat → Nat) (L : Nat) (C : Nat × Nat) (q1 : Nat) (xs0 : Int32) : am_E 52 57 [.ref 2, .ref q1] [.int xs0] (am_W I J T L C) = (if xs0 = 0 then ((am_E 45 0 [.ref 2, .int 5] [] (am_W I J T L C)).bind (fun z1 => am_vI z1.1 fun u1 => (am_E 52 61 [.ref 2, .ref q1] [.int u1] z1.2))) else (if (I 2 8) = 0 then (cond (Nat.beq (am_SF L q1).1 30) (if (am_cI q1 1) = 4 then (am_E 52 84 [.ref 2, .ref q1] [] (am_W (am_up I 2 9 ((I 2 9) - 1)) J T L C)) else (am_E 52 84 [.ref 2, .ref q1] [] (am_W I J T L C))) none) else (am_E 52 84 [.ref 2, .ref q1] [] (am_W (am_up I 2 9 ((I 2 9) + 1)) J T L C)))) := (am_rg [8, 13, 27, 28, 38, 41, 44, 47, 51, 57, 61, 84, 86] 14 _ _ _ _ _).trans rfl
theorem rg_52_61 (I : Nat → Nat → Int32) (J : Nat → Nat → Int64) (T : Nat → Nat → Nat) (L : Nat) (C : Nat × Nat) (q1 : Nat) (xs0 : Int32) : am_E 52 61 [.ref 2, .ref q1] [.int xs0] (am_W I J T L C) = (some (.ref 0, (am_W I J T L C))) := (am_rg [8, 13, 27, 28, 38, 41, 44, 47, 51, 57, 61, 84, 86] 3 _ _ _ _ _).trans rfl
theorem rg_52_84 (I : Nat → Nat → Int32) (J : Nat → Nat → Int64) (T : Nat → Nat → Nat) (L : Nat) (C : Nat × Nat) (q1 : Nat) : am_E 52 84 [.ref 2, .ref q1] [] (am_W I J T L C) = ((am_E 47 0 [.ref 2] [] (am_W I J T L C)).bind (fun z1 => (am_E 52 86 [.ref 2, .ref q1] [] z1.2))) := (am_rg [8, 13, 27, 28, 38, 41, 44, 47, 51, 57, 61, 84, 86] 2 _ _ _ _ _).trans rfl
theorem rg_52_86 (I : Nat → Nat → Int32) (J : Nat → Nat → Int64) (T : Nat → Nat → Nat) (L : Nat) (C : Nat × Nat) (q1 : Nat) : am_E 52 86 [.ref 2, .ref q1] [] (am_W I J T L C) = (some (.ref q1, (am_W I J T L C))) := (am_rg [8, 13, 27, 28, 38, 41, 44, 47, 51, 57, 61, 84, 86] 2 _ _ _ _ _).trans rfl
-- 53 ScanChart$Reader.opSpelled(II)LScanChart$Op;
theorem rg_53_0 (I : Nat → Nat → Int32) (J : Nat → Nat → Int64) (T : Nat → Nat → Nat) (L : Nat) (C : Nat × Nat) (x1 : Int32) (x2 : Int32) : am_E 53 0 [.ref 2, .int x1, .int x2, .null, .null, .null, .null] [] (am_W I J T L C) = (am_E 53 7 [.ref 2, .int x1, .int x2, .ref 4001, .int (nI 41), .int 0, .null] [] (am_W I J T L C)) := (am_rg [7, 21] 7 _ _ _ _ _).trans rfl
theorem rg_53_7 (I : Nat → Nat → Int32) (J : Nat → Nat → Int64) (T : Nat → Nat → Nat) (L : Nat) (C : Nat × Nat) (x1 : Int32) (x2 : Int32) (x4 : Int32) (x5 : Int32) (v6 : Value) : am_E 53 7 [.ref 2, .int x1, .int x2, .ref 4001, .int x4, .int x5, v6] [] (am_W I J T L C) = (if x4 ≤ x5 then (some (.ref 0, (am_W I J T L C))) else (am_inb x5 41 (cond (Nat.beq (am_SF L (am_cR 4001 (Int32.toNatClampNeg x5))).1 30) ((am_E 70 0 [.ref 3, .ref (am_cR (am_cR 4001 (Int32.toNatClampNeg x5)) 0), .int x1, .int x2, .null] [] (am_W I J T L C)).bind (fun z1 => am_vI z1.1 fun u1 => (am_E 53 21 [.ref 2, .int x1, .int x2, .ref 4001, .int x4, .int x5, .ref (am_cR 4001 (Int32.toNatClampNeg x5))] [.int u1] z1.2))) none))) := (am_rg [7, 21] 14 _ _ _ _ _).trans rfl
theorem rg_53_21 (I : Nat → Nat → Int32) (J : Nat → Nat → Int64) (T : Nat → Nat → Nat) (L : Nat) (C : Nat × Nat) (x1 : Int32) (x2 : Int32) (x4 : Int32) (x5 : Int32) (q6 : Nat) (xs0 : Int32) : am_E 53 21 [.ref 2, .int x1, .int x2, .ref 4001, .int x4, .int x5, .ref q6] [.int xs0] (am_W I J T L C) = (if xs0 = 0 then (am_E 53 7 [.ref 2, .int x1, .int x2, .ref 4001, .int x4, .int (x5 + 1), .ref q6] [] (am_W I J T L C)) else (some (.ref q6, (am_W I J T L C)))) := (am_rg [7, 21] 3 _ _ _ _ _).trans rfl
-- 54 ScanChart$Reader.isFull(LScanChart$Op;)Z
theorem rg_54_0 (I : Nat → Nat → Int32) (J : Nat → Nat → Int64) (T : Nat → Nat → Nat) (L : Nat) (C : Nat × Nat) (q1 : Nat) : am_E 54 0 [.ref 2, .ref q1] [] (am_W I J T L C) = (cond (Nat.beq (am_SF L q1).1 30) (if (am_cI q1 1) = 13 then (if (I 6 5) < 16 then (some (.int 0, (am_W I J T L C))) else (some (.int 1, (am_W I J T L C)))) else (cond (Nat.beq (am_SF L q1).1 30) (if (am_cI q1 1) = 12 then (some (.int 0, (am_W I J T L C))) else (if (I 5 6) < 80 then (some (.int 0, (am_W I J T L C))) else (some (.int 1, (am_W I J T L C))))) none)) none) := (am_rg [] 16 _ _ _ _ _).trans rfl
-- 55 ScanChart$Reader.isAllowedByBrackets(LScanChart$Op;)Z
theorem rg_55_0 (I : Nat → Nat → Int32) (J : Nat → Nat → Int64) (T : Nat → Nat → Nat) (L : Nat) (C : Nat × Nat) (q1 : Nat) : am_E 55 0 [.ref 2, .ref q1] [] (am_W I J T L C) = (cond (Nat.beq (am_SF L q1).1 30) (if (am_cI q1 1) = 1 then (if (I 2 8) = 0 then (some (.int 1, (am_W I J T L C))) else (if 8 ≤ (I 2 9) then (some (.int 0, (am_W I J T L C))) else (some (.int 1, (am_W I J T L C))))) else (if (am_cI q1 1) = 1 + 1 then (some (.int 1, (am_W I J T L C))) else (if (am_cI q1 1) = 1 + 1 + 1 then (some (.int 1, (am_W I J T L C))) else (if (am_cI q1 1) = 1 + 1 + 1 + 1 then (if (I 2 9) ≤ 0 then (some (.int 0, (am_W I J T L C))) else (some (.int 1, (am_W I J T L C)))) else (if (am_cI q1 1) = 1 + 1 + 1 + 1 + 1 then (some (.int 1, (am_W I J T L C))) else (if (am_cI q1 1) = 1 + 1 + 1 + 1 + 1 + 1 then (if (I 2 9) = 0 then (some (.int 1, (am_W I J T L C))) else (some (.int 0, (am_W I J T L C)))) else (if (am_cI q1 1) = 1 + 1 + 1 + 1 + 1 + 1 + 1 then (if (I 2 9) = 0 then (some (.int 1, (am_W I J T L C))) else (some (.int 0, (am_W I J T L C)))) else (if (am_cI q1 1) = 1 + 1 + 1 + 1 + 1 + 1 + 1 + 1 then (some (.int 1, (am_W I J T L C))) else (if (am_cI q1 1) = 1 + 1 + 1 + 1 + 1 + 1 + 1 + 1 + 1 then (some (.int 1, (am_W I J T L C))) else (if (am_cI q1 1) = 1 + 1 + 1 + 1 + 1 + 1 + 1 + 1 + 1 + 1 then (some (.int 1, (am_W I J T L C))) else (if (am_cI q1 1) = 1 + 1 + 1 + 1 + 1 + 1 + 1 + 1 + 1 + 1 + 1 then (some (.int 1, (am_W I J T L C))) else (if (am_cI q1 1) = 1 + 1 + 1 + 1 + 1 + 1 + 1 + 1 + 1 + 1 + 1 + 1 then (if (I 2 9) = 0 then (some (.int 1, (am_W I J T L C))) else (some (.int 0, (am_W I J T L C)))) else (if (am_cI q1 1) = 1 + 1 + 1 + 1 + 1 + 1 + 1 + 1 + 1 + 1 + 1 + 1 + 1 then (if (I 2 9) = 0 then (some (.int 1, (am_W I J T L C))) else (some (.int 0, (am_W I J T L C)))) else (some (.int 1, (am_W I J T L C)))))))))))))))) none) := (am_rg [] 13 _ _ _ _ _).trans rfl
-- 56 ScanChart$Reader.readOperands(LScanChart$Op;)Z
theorem rg_56_0 (I : Nat → Nat → Int32) (J : Nat → Nat → Int64) (T : Nat → Nat → Nat) (L : Nat) (C : Nat × Nat) (q1 : Nat) : am_E 56 0 [.ref 2, .ref q1, .null, .null, .null, .null, .null] [] (am_W I J T L C) = (if (I 2 8) = 0 then ((am_E 57 0 [.ref 2, .ref q1] [] (am_W (am_up (am_up I 2 10 12) 2 11 0) J T L C)).bind (fun z1 => am_vI z1.1 fun u1 => (am_E 56 19 [.ref 2, .ref q1, .int (I 2 5), .int 0, .null, .null, .null] [.int u1] z1.2))) else (am_E 56 19 [.ref 2, .ref q1, .int (I 2 5), .int 0, .null, .null, .null] [.int 0] (am_W (am_up (am_up I 2 10 12) 2 11 0) J T L C))) := (am_rg [19, 25, 28, 42, 51, 52, 69, 76] 17 _ _ _ _ _).trans rfl
theorem rg_56_19 (I : Nat → Nat → Int32) (J : Nat → Nat → Int64) (T : Nat → Nat → Nat) (L : Nat) (C : Nat × Nat) (q1 : Nat) (x2 : Int32) (x3 : Int32) (v4 : Value) (v5 : Value) (v6 : Value) (xs0 : Int32) : am_E 56 19 [.ref 2, .ref q1, .int x2, .int x3, v4, v5, v6] [.int xs0] (am_W I J T L C) = (if xs0 = 0 then (am_E 56 28 [.ref 2, .ref q1, .int x2, .int x3, .int xs0, v5, v6] [] (am_W I J T L C)) else ((am_E 59 0 [.ref 2, .int xs0, .null, .null, .null] [] (am_W I J T L C)).bind (fun z1 => am_vI z1.1 fun u1 => (am_E 56 25 [.ref 2, .ref q1, .int x2, .int x3, .int xs0, v5, v6] [.int u1] z1.2)))) := (am_rg [19, 25, 28, 42, 51, 52, 69, 76] 6 _ _ _ _ _).trans rfl
theorem rg_56_25 (I : Nat → Nat → Int32) (J : Nat → Nat → Int64) (T : Nat → Nat → Nat) (L : Nat) (C : Nat × Nat) (q1 : Nat) (x2 : Int32) (x3 : Int32) (x4 : Int32) (v5 : Value) (v6 : Value) (xs0 : Int32) : am_E 56 25 [.ref 2, .ref q1, .int x2, .int x3, .int x4, v5, v6] [.int xs0] (am_W I J T L C) = (if xs0 = 0 then (some (.int 0, (am_W I J T L C))) else (am_E 56 28 [.ref 2, .ref q1, .int x2, .int x3, .int x4, v5, v6] [] (am_W I J T L C))) := (am_rg [19, 25, 28, 42, 51, 52, 69, 76] 3 _ _ _ _ _).trans rfl
theorem rg_56_28 (I : Nat → Nat → Int32) (J : Nat → Nat → Int64) (T : Nat → Nat → Nat) (L : Nat) (C : Nat × Nat) (q1 : Nat) (x2 : Int32) (x3 : Int32) (x4 : Int32) (v5 : Value) (v6 : Value) : am_E 56 28 [.ref 2, .ref q1, .int x2, .int x3, .int x4, v5, v6] [] (am_W I J T L C) = (cond (Nat.beq (am_SF L q1).1 30) (if (am_cI q1 1) = 8 then (am_E 56 42 [.ref 2, .ref q1, .int x2, .int x3, .int x4, .int (I 2 10), .int (I 2 11)] [] (am_W I J T L C)) else (cond (Nat.beq (am_SF L q1).1 30) (if (am_cI q1 1) = 9 then (am_E 56 42 [.ref 2, .ref q1, .int x2, .int x3, .int x4, .int (I 2 10), .int (I 2 11)] [] (am_W I J T L C)) else (cond (Nat.beq (am_SF L q1).1 30) (if (am_cI q1 1) = 6 then ((am_E 65 0 [.ref 2, .ref 20, .int (I 2 11), .int x2] [] (am_W I J T L C)).bind (fun z1 => (am_E 56 69 [.ref 2, .ref q1, .int x2, .int x3, .int x4, .int (I 2 10), .int (I 2 11)] [] z1.2))) else (am_E 56 69 [.ref 2, .ref q1, .int x2, .int x3, .int x4, .int (I 2 10), .int (I 2 11)] [] (am_W I J T L C))) none)) none)) none) := (am_rg [19, 25, 28, 42, 51, 52, 69, 76] 24 _ _ _ _ _).trans rfl
theorem rg_56_42 (I : Nat → Nat → Int32) (J : Nat → Nat → Int64) (T : Nat → Nat → Nat) (L : Nat) (C : Nat × Nat) (q1 : Nat) (x2 : Int32) (x3 : Int32) (x4 : Int32) (x5 : Int32) (x6 : Int32) : am_E 56 42 [.ref 2, .ref q1, .int x2, .int x3, .int x4, .int x5, .int x6] [] (am_W I J T L C) = (cond (Nat.beq (am_SF L q1).1 30) (if (am_cI q1 1) = 8 then (am_E 56 51 [.ref 2, .ref q1, .int x2, .int x3, .int x4, .int x5, .int x6] [.int 1000000, .int 700, .ref 2] (am_W I J T L C)) else (am_E 56 51 [.ref 2, .ref q1, .int x2, .int x3, .int x4, .int x5, .int x6] [.int 32767, .int 700, .ref 2] (am_W I J T L C))) none) := (am_rg [19, 25, 28, 42, 51, 52, 69, 76] 8 _ _ _ _ _).trans rfl
theorem rg_56_51 (I : Nat → Nat → Int32) (J : Nat → Nat → Int64) (T : Nat → Nat → Nat) (L : Nat) (C : Nat × Nat) (q1 : Nat) (x2 : Int32) (x3 : Int32) (x4 : Int32) (x5 : Int32) (x6 : Int32) (xs1 : Int32) (xs2 : Int32) : am_E 56 51 [.ref 2, .ref q1, .int x2, .int x3, .int x4, .int x5, .int x6] [.int xs2, .int xs1, .ref 2] (am_W I J T L C) = ((am_E 60 0 [.ref 2, .int xs1, .int xs2, .null, .null] [] (am_W I J T L C)).bind (fun z1 => am_vI z1.1 fun u1 => (am_E 56 52 [.ref 2, .ref q1, .int x2, .int x3, .int x4, .int x5, .int x6] [.int u1] z1.2))) := (am_rg [19, 25, 28, 42, 51, 52, 69, 76] 1 _ _ _ _ _).trans rfl
theorem rg_56_52 (I : Nat → Nat → Int32) (J : Nat → Nat → Int64) (T : Nat → Nat → Nat) (L : Nat) (C : Nat × Nat) (q1 : Nat) (x2 : Int32) (x3 : Int32) (x4 : Int32) (x5 : Int32) (x6 : Int32) (xs0 : Int32) : am_E 56 52 [.ref 2, .ref q1, .int x2, .int x3, .int x4, .int x5, .int x6] [.int xs0] (am_W I J T L C) = (if xs0 = 0 then (some (.int 0, (am_W I J T L C))) else (am_E 56 69 [.ref 2, .ref q1, .int x2, .int (I 2 11), .int x4, .int x5, .int x6] [] (am_W I J T L C))) := (am_rg [19, 25, 28, 42, 51, 52, 69, 76] 5 _ _ _ _ _).trans rfl
theorem rg_56_69 (I : Nat → Nat → Int32) (J : Nat → Nat → Int64) (T : Nat → Nat → Nat) (L : Nat) (C : Nat × Nat) (q1 : Nat) (x2 : Int32) (x3 : Int32) (x4 : Int32) (x5 : Int32) (x6 : Int32) : am_E 56 69 [.ref 2, .ref q1, .int x2, .int x3, .int x4, .int x5, .int x6] [] (am_W I J T L C) = ((am_E 41 0 [.ref 5, .ref q1, .int x5, .int x6, .int x3] [] (am_W I J T L C)).bind (fun z1 => (am_E 56 76 [.ref 2, .ref q1, .int x2, .int x3, .int x4, .int x5, .int x6] [] z1.2))) := (am_rg [19, 25, 28, 42, 51, 52, 69, 76] 7 _ _ _ _ _).trans rfl
theorem rg_56_76 (I : Nat → Nat → Int32) (J : Nat → Nat → Int64) (T : Nat → Nat → Nat) (L : Nat) (C : Nat × Nat) (q1 : Nat) (x2 : Int32) (x3 : Int32) (x4 : Int32) (x5 : Int32) (x6 : Int32) : am_E 56 76 [.ref 2, .ref q1, .int x2, .int x3, .int x4, .int x5, .int x6] [] (am_W I J T L C) = (some (.int 1, (am_W I J T L C))) := (am_rg [19, 25, 28, 42, 51, 52, 69, 76] 2 _ _ _ _ _).trans rfl
-- 57 ScanChart$Reader.operandsOf(LScanChart$Op;)I
theorem rg_57_0 (I : Nat → Nat → Int32) (J : Nat → Nat → Int64) (T : Nat → Nat → Nat) (L : Nat) (C : Nat × Nat) (q1 : Nat) : am_E 57 0 [.ref 2, .ref q1] [] (am_W I J T L C) = (cond (Nat.beq (am_SF L q1).1 30) (if (am_cI q1 1) = 0 then (some (.int 3711, (am_W I J T L C))) else (if (am_cI q1 1) = 0 + 1 then (some (.int 3711, (am_W I J T L C))) else (if (am_cI q1 1) = 0 + 1 + 1 then (some (.int 70, (am_W I J T L C))) else (if (am_cI q1 1) = 0 + 1 + 1 + 1 then (some (.int 6, (am_W I J T L C))) else (if (am_cI q1 1) = 0 + 1 + 1 + 1 + 1 then (some (.int 0, (am_W I J T L C))) else (if (am_cI q1 1) = 0 + 1 + 1 + 1 + 1 + 1 then (some (.int 0, (am_W I J T L C))) else (if (am_cI q1 1) = 0 + 1 + 1 + 1 + 1 + 1 + 1 then (some (.int 128, (am_W I J T L C))) else (if (am_cI q1 1) = 0 + 1 + 1 + 1 + 1 + 1 + 1 + 1 then (some (.int 0, (am_W I J T L C))) else (if (am_cI q1 1) = 0 + 1 + 1 + 1 + 1 + 1 + 1 + 1 + 1 then (some (.int 16, (am_W I J T L C))) else (if (am_cI q1 1) = 0 + 1 + 1 + 1 + 1 + 1 + 1 + 1 + 1 + 1 then (some (.int 32, (am_W I J T L C))) else (if (am_cI q1 1) = 0 + 1 + 1 + 1 + 1 + 1 + 1 + 1 + 1 + 1 + 1 then (some (.int 32, (am_W I J T L C))) else (if (am_cI q1 1) = 0 + 1 + 1 + 1 + 1 + 1 + 1 + 1 + 1 + 1 + 1 + 1 then (some (.int 256, (am_W I J T L C))) else (some (.int 0, (am_W I J T L C))))))))))))))) none) := (am_rg [] 5 _ _ _ _ _).trans rfl
-- 58 ScanChart$Reader.kindOfWord()I
theorem rg_58_0 (I : Nat → Nat → Int32) (J : Nat → Nat → Int64) (T : Nat → Nat → Nat) (L : Nat) (C : Nat × Nat) : am_E 58 0 [.ref 2, .null] [] (am_W I J T L C) = (if (I 2 4) = 2 then (if (I 2 7) = (I 2 6) then (some (.int (-1), (am_W I J T L C))) else (if (I 2 7) = (I 2 5) then (some (.int 11, (am_W I J T L C))) else (if ((I 2 7) - (I 2 5)) = 1 then ((am_E 69 0 [.ref 3, .int (I 2 5)] [] (am_W I J T L C)).bind (fun z2 => am_vI z2.1 fun u2 => (am_E 58 30 [.ref 2, .null] [.int u2] z2.2))) else ((am_E 70 0 [.ref 3, .ref 2043, .int (I 2 5), .int (I 2 7), .null] [] (am_W I J T L C)).bind (fun z1 => am_vI z1.1 fun u1 => (am_E 58 49 [.ref 2, .null] [.int u1] z1.2)))))) else (some (.int (-1), (am_W I J T L C)))) := (am_rg [30, 40, 49, 60] 29 _ _ _ _ _).trans rfl
theorem rg_58_30 (I : Nat → Nat → Int32) (J : Nat → Nat → Int64) (T : Nat → Nat → Nat) (L : Nat) (C : Nat × Nat) (v1 : Value) (xs0 : Int32) : am_E 58 30 [.ref 2, v1] [.int xs0] (am_W I J T L C) = (if xs0 = 45 then (am_E 58 40 [.ref 2, .int xs0] [.int 11] (am_W I J T L C)) else ((am_E 167 0 [.ref 2042, .int ((Int32.toUInt32 xs0 % 65536).toInt32)] [] (am_W I J T L C)).bind (fun z1 => am_vI z1.1 fun u1 => (am_E 58 40 [.ref 2, .int xs0] [.int u1] z1.2)))) := (am_rg [30, 40, 49, 60] 8 _ _ _ _ _).trans rfl
theorem rg_58_40 (I : Nat → Nat → Int32) (J : Nat → Nat → Int64) (T : Nat → Nat → Nat) (L : Nat) (C : Nat × Nat) (x1 : Int32) (xs0 : Int32) : am_E 58 40 [.ref 2, .int x1] [.int xs0] (am_W I J T L C) = (some (.int xs0, (am_W I J T L C))) := (am_rg [30, 40, 49, 60] 1 _ _ _ _ _).trans rfl
theorem rg_58_49 (I : Nat → Nat → Int32) (J : Nat → Nat → Int64) (T : Nat → Nat → Nat) (L : Nat) (C : Nat × Nat) (v1 : Value) (xs0 : Int32) : am_E 58 49 [.ref 2, v1] [.int xs0] (am_W I J T L C) = (if xs0 = 0 then ((am_E 70 0 [.ref 3, .ref 2044, .int (I 2 5), .int (I 2 7), .null] [] (am_W I J T L C)).bind (fun z1 => am_vI z1.1 fun u1 => (am_E 58 60 [.ref 2, v1] [.int u1] z1.2))) else (some (.int 9, (am_W I J T L C)))) := (am_rg [30, 40, 49, 60] 9 _ _ _ _ _).trans rfl
theorem rg_58_60 (I : Nat → Nat → Int32) (J : Nat → Nat → Int64) (T : Nat → Nat → Nat) (L : Nat) (C : Nat × Nat) (v1 : Value) (xs0 : Int32) : am_E 58 60 [.ref 2, v1] [.int xs0] (am_W I J T L C) = (if xs0 = 0 then (some (.int (-1), (am_W I J T L C))) else (some (.int 10, (am_W I J T L C)))) := (am_rg [30, 40, 49, 60] 4 _ _ _ _ _).trans rfl
-- 59 ScanChart$Reader.readCell(I)Z
theorem rg_59_0 (I : Nat → Nat → Int32) (J : Nat → Nat → Int64) (T : Nat → Nat → Nat) (L : Nat) (C : Nat × Nat) (x1 : Int32) : am_E 59 0 [.ref 2, .int x1, .null, .null, .null] [] (am_W I J T L C) = ((am_E 58 0 [.ref 2, .null] [] (am_W I J T L C)).bind (fun z1 => am_vI z1.1 fun u1 => (am_E 59 2 [.ref 2, .int x1, .null, .null, .null] [.int u1] z1.2))) := (am_rg [2, 9, 10, 13, 21, 34, 43, 46, 58, 61, 64, 65, 74] 2 _ _ _ _ _).trans rfl
theorem rg_59_2 (I : Nat → Nat → Int32) (J : Nat → Nat → Int64) (T : Nat → Nat → Nat) (L : Nat) (C : Nat × Nat) (x1 : Int32) (v2 : Value) (v3 : Value) (v4 : Value) (xs0 : Int32) : am_E 59 2 [.ref 2, .int x1, v2, v3, v4] [.int xs0] (am_W I J T L C) = (if xs0 = (-1) then (am_E 59 10 [.ref 2, .int x1, .int xs0, v3, v4] [] (am_W I J T L C)) else ((am_E 91 0 [.int x1, .int xs0] [] (am_W I J T L C)).bind (fun z1 => am_vI z1.1 fun u1 => (am_E 59 9 [.ref 2, .int x1, .int xs0, v3, v4] [.int u1] z1.2)))) := (am_rg [2, 9, 10, 13, 21, 34, 43, 46, 58, 61, 64, 65, 74] 7 _ _ _ _ _).trans rfl
theorem rg_59_9 (I : Nat → Nat → Int32) (J : Nat → Nat → Int64) (T : Nat → Nat → Nat) (L : Nat) (C : Nat × Nat) (x1 : Int32) (x2 : Int32) (v3 : Value) (v4 : Value) (xs0 : Int32) : am_E 59 9 [.ref 2, .int x1, .int x2, v3, v4] [.int xs0] (am_W I J T L C) = (if xs0 = 0 then (am_E 59 10 [.ref 2, .int x1, .int x2, v3, v4] [] (am_W I J T L C)) else ((am_E 71 0 [.ref 3, .int (I 2 7), .int (I 2 6), .null, .null, .null, .null] [] (am_W I J T L C)).bind (fun z1 => am_vJ z1.1 fun u1 => (am_E 59 21 [.ref 2, .int x1, .int x2, v3, v4] [.long u1] z1.2)))) := (am_rg [2, 9, 10, 13, 21, 34, 43, 46, 58, 61, 64, 65, 74] 8 _ _ _ _ _).trans rfl
theorem rg_59_10 (I : Nat → Nat → Int32) (J : Nat → Nat → Int64) (T : Nat → Nat → Nat) (L : Nat) (C : Nat × Nat) (x1 : Int32) (x2 : Int32) (v3 : Value) (v4 : Value) : am_E 59 10 [.ref 2, .int x1, .int x2, v3, v4] [] (am_W I J T L C) = ((am_E 45 0 [.ref 2, .int 1] [] (am_W I J T L C)).bind (fun z1 => am_vI z1.1 fun u1 => (am_E 59 13 [.ref 2, .int x1, .int x2, v3, v4] [.int u1] z1.2))) := (am_rg [2, 9, 10, 13, 21, 34, 43, 46, 58, 61, 64, 65, 74] 3 _ _ _ _ _).trans rfl
theorem rg_59_13 (I : Nat → Nat → Int32) (J : Nat → Nat → Int64) (T : Nat → Nat → Nat) (L : Nat) (C : Nat × Nat) (x1 : Int32) (x2 : Int32) (v3 : Value) (v4 : Value) (xs0 : Int32) : am_E 59 13 [.ref 2, .int x1, .int x2, v3, v4] [.int xs0] (am_W I J T L C) = (cond (am_bit xs0) (some (.int xs0, (am_W I J T L C))) none) := (am_rg [2, 9, 10, 13, 21, 34, 43, 46, 58, 61, 64, 65, 74] 1 _ _ _ _ _).trans rfl
theorem rg_59_21 (I : Nat → Nat → Int32) (J : Nat → Nat → Int64) (T : Nat → Nat → Nat) (L : Nat) (C : Nat × Nat) (x1 : Int32) (x2 : Int32) (v3 : Value) (v4 : Value) (ys0 : Int64) : am_E 59 21 [.ref 2, .int x1, .int x2, v3, v4] [.long ys0] (am_W I J T L C) = (if x2 = 11 then (if (I 2 7) ≤ (I 2 5) then (am_E 59 34 [.ref 2, .int x1, .int x2, .long ys0, .null] [.long ys0] (am_W I J T L C)) else (am_E 59 34 [.ref 2, .int x1, .int x2, .long ys0, .null] [.long (-ys0)] (am_W I J T L C))) else (if 2 < ((I 2 6) - (I 2 7)) then (am_E 59 61 [.ref 2, .int x1, .int x2, .long ys0, .null] [] (am_W I J T L C)) else ((am_E 89 0 [.ref 4002, .int x2] [] (am_W I J T L C)).bind (fun z1 => am_vI z1.1 fun u1 => (am_E 59 58 [.ref 2, .int x1, .int x2, .long ys0, .null] [.int u1, .long ys0] z1.2))))) := (am_rg [2, 9, 10, 13, 21, 34, 43, 46, 58, 61, 64, 65, 74] 15 _ _ _ _ _).trans rfl
theorem rg_59_34 (I : Nat → Nat → Int32) (J : Nat → Nat → Int64) (T : Nat → Nat → Nat) (L : Nat) (C : Nat × Nat) (x1 : Int32) (x2 : Int32) (y3 : Int64) (ys0 : Int64) : am_E 59 34 [.ref 2, .int x1, .int x2, .long y3, .null] [.long ys0] (am_W I J T L C) = (if (lg_cmp ys0 (-2147483648)) < 0 then (am_E 59 43 [.ref 2, .int x1, .int x2, .long ys0, .null] [] (am_W I J T L C)) else (if (lg_cmp ys0 2147483647) ≤ 0 then (am_E 59 65 [.ref 2, .int x1, .int x2, .long ys0, .null] [] (am_W I J T L C)) else (am_E 59 43 [.ref 2, .int x1, .int x2, .long ys0, .null] [] (am_W I J T L C)))) := (am_rg [2, 9, 10, 13, 21, 34, 43, 46, 58, 61, 64, 65, 74] 9 _ _ _ _ _).trans rfl
theorem rg_59_43 (I : Nat → Nat → Int32) (J : Nat → Nat → Int64) (T : Nat → Nat → Nat) (L : Nat) (C : Nat × Nat) (x1 : Int32) (x2 : Int32) (y3 : Int64) : am_E 59 43 [.ref 2, .int x1, .int x2, .long y3, .null] [] (am_W I J T L C) = ((am_E 45 0 [.ref 2, .int 2] [] (am_W I J T L C)).bind (fun z1 => am_vI z1.1 fun u1 => (am_E 59 46 [.ref 2, .int x1, .int x2, .long y3, .null] [.int u1] z1.2))) := (am_rg [2, 9, 10, 13, 21, 34, 43, 46, 58, 61, 64, 65, 74] 3 _ _ _ _ _).trans rfl
theorem rg_59_46 (I : Nat → Nat → Int32) (J : Nat → Nat → Int64) (T : Nat → Nat → Nat) (L : Nat) (C : Nat × Nat) (x1 : Int32) (x2 : Int32) (y3 : Int64) (xs0 : Int32) : am_E 59 46 [.ref 2, .int x1, .int x2, .long y3, .null] [.int xs0] (am_W I J T L C) = (cond (am_bit xs0) (some (.int xs0, (am_W I J T L C))) none) := (am_rg [2, 9, 10, 13, 21, 34, 43, 46, 58, 61, 64, 65, 74] 1 _ _ _ _ _).trans rfl
theorem rg_59_58 (I : Nat → Nat → Int32) (J : Nat → Nat → Int64) (T : Nat → Nat → Nat) (L : Nat) (C : Nat × Nat) (x1 : Int32) (x2 : Int32) (y3 : Int64) (ys0 : Int64) (xs1 : Int32) : am_E 59 58 [.ref 2, .int x1, .int x2, .long y3, .null] [.int xs1, .long ys0] (am_W I J T L C) = (if (lg_cmp ys0 (Int32.toInt64 xs1)) < 0 then (am_E 59 65 [.ref 2, .int x1, .int x2, .long y3, .null] [] (am_W I J T L C)) else (am_E 59 61 [.ref 2, .int x1, .int x2, .long y3, .null] [] (am_W I J T L C))) := (am_rg [2, 9, 10, 13, 21, 34, 43, 46, 58, 61, 64, 65, 74] 3 _ _ _ _ _).trans rfl
theorem rg_59_61 (I : Nat → Nat → Int32) (J : Nat → Nat → Int64) (T : Nat → Nat → Nat) (L : Nat) (C : Nat × Nat) (x1 : Int32) (x2 : Int32) (y3 : Int64) : am_E 59 61 [.ref 2, .int x1, .int x2, .long y3, .null] [] (am_W I J T L C) = ((am_E 45 0 [.ref 2, .int 2] [] (am_W I J T L C)).bind (fun z1 => am_vI z1.1 fun u1 => (am_E 59 64 [.ref 2, .int x1, .int x2, .long y3, .null] [.int u1] z1.2))) := (am_rg [2, 9, 10, 13, 21, 34, 43, 46, 58, 61, 64, 65, 74] 3 _ _ _ _ _).trans rfl
theorem rg_59_64 (I : Nat → Nat → Int32) (J : Nat → Nat → Int64) (T : Nat → Nat → Nat) (L : Nat) (C : Nat × Nat) (x1 : Int32) (x2 : Int32) (y3 : Int64) (xs0 : Int32) : am_E 59 64 [.ref 2, .int x1, .int x2, .long y3, .null] [.int xs0] (am_W I J T L C) = (cond (am_bit xs0) (some (.int xs0, (am_W I J T L C))) none) := (am_rg [2, 9, 10, 13, 21, 34, 43, 46, 58, 61, 64, 65, 74] 1 _ _ _ _ _).trans rfl
theorem rg_59_65 (I : Nat → Nat → Int32) (J : Nat → Nat → Int64) (T : Nat → Nat → Nat) (L : Nat) (C : Nat × Nat) (x1 : Int32) (x2 : Int32) (y3 : Int64) : am_E 59 65 [.ref 2, .int x1, .int x2, .long y3, .null] [] (am_W I J T L C) = ((am_E 47 0 [.ref 2] [] (am_W (am_up (am_up I 2 10 x2) 2 11 (Int64.toInt32 y3)) J T L C)).bind (fun z1 => (am_E 59 74 [.ref 2, .int x1, .int x2, .long y3, .null] [] z1.2))) := (am_rg [2, 9, 10, 13, 21, 34, 43, 46, 58, 61, 64, 65, 74] 9 _ _ _ _ _).trans rfl
theorem rg_59_74 (I : Nat → Nat → Int32) (J : Nat → Nat → Int64) (T : Nat → Nat → Nat) (L : Nat) (C : Nat × Nat) (x1 : Int32) (x2 : Int32) (y3 : Int64) : am_E 59 74 [.ref 2, .int x1, .int x2, .long y3, .null] [] (am_W I J T L C) = (some (.int 1, (am_W I J T L C))) := (am_rg [2, 9, 10, 13, 21, 34, 43, 46, 58, 61, 64, 65, 74] 2 _ _ _ _ _).trans rfl
-- 60 ScanChart$Reader.readFigures(II)Z
theorem rg_60_0 (I : Nat → Nat → Int32) (J : Nat → Nat → Int64) (T : Nat → Nat → Nat) (L : Nat) (C : Nat × Nat) (x1 : Int32) (x2 : Int32) : am_E 60 0 [.ref 2, .int x1, .int x2, .null, .null] [] (am_W I J T L C) = ((am_E 49 0 [.ref 2] [] (am_W I J T L C)).bind (fun z1 => am_vI z1.1 fun u1 => (am_E 60 2 [.ref 2, .int x1, .int x2, .null, .null] [.int u1] z1.2))) := (am_rg [2, 6, 14, 27, 30, 37] 2 _ _ _ _ _).trans rfl
theorem rg_60_2 (I : Nat → Nat → Int32) (J : Nat → Nat → Int64) (T : Nat → Nat → Nat) (L : Nat) (C : Nat × Nat) (x1 : Int32) (x2 : Int32) (v3 : Value) (v4 : Value) (xs0 : Int32) : am_E 60 2 [.ref 2, .int x1, .int x2, v3, v4] [.int xs0] (am_W I J T L C) = (if xs0 = 0 then ((am_E 45 0 [.ref 2, .int 1] [] (am_W I J T L C)).bind (fun z2 => am_vI z2.1 fun u2 => (am_E 60 6 [.ref 2, .int x1, .int x2, v3, v4] [.int u2] z2.2))) else ((am_E 71 0 [.ref 3, .int (I 2 5), .int (I 2 6), .null, .null, .null, .null] [] (am_W I J T L C)).bind (fun z1 => am_vJ z1.1 fun u1 => (am_E 60 14 [.ref 2, .int x1, .int x2, v3, v4] [.long u1] z1.2)))) := (am_rg [2, 6, 14, 27, 30, 37] 8 _ _ _ _ _).trans rfl
theorem rg_60_6 (I : Nat → Nat → Int32) (J : Nat → Nat → Int64) (T : Nat → Nat → Nat) (L : Nat) (C : Nat × Nat) (x1 : Int32) (x2 : Int32) (v3 : Value) (v4 : Value) (xs0 : Int32) : am_E 60 6 [.ref 2, .int x1, .int x2, v3, v4] [.int xs0] (am_W I J T L C) = (cond (am_bit xs0) (some (.int xs0, (am_W I J T L C))) none) := (am_rg [2, 6, 14, 27, 30, 37] 1 _ _ _ _ _).trans rfl
theorem rg_60_14 (I : Nat → Nat → Int32) (J : Nat → Nat → Int64) (T : Nat → Nat → Nat) (L : Nat) (C : Nat × Nat) (x1 : Int32) (x2 : Int32) (v3 : Value) (v4 : Value) (ys0 : Int64) : am_E 60 14 [.ref 2, .int x1, .int x2, v3, v4] [.long ys0] (am_W I J T L C) = (if x1 < ((I 2 6) - (I 2 5)) then (am_E 60 27 [.ref 2, .int x1, .int x2, .long ys0, .null] [] (am_W I J T L C)) else (if (lg_cmp ys0 (Int32.toInt64 x2)) ≤ 0 then ((am_E 47 0 [.ref 2] [] (am_W (am_up I 2 11 (Int64.toInt32 ys0)) J T L C)).bind (fun z1 => (am_E 60 37 [.ref 2, .int x1, .int x2, .long ys0, .null] [] z1.2))) else (am_E 60 27 [.ref 2, .int x1, .int x2, .long ys0, .null] [] (am_W I J T L C)))) := (am_rg [2, 6, 14, 27, 30, 37] 19 _ _ _ _ _).trans rfl
theorem rg_60_27 (I : Nat → Nat → Int32) (J : Nat → Nat → Int64) (T : Nat → Nat → Nat) (L : Nat) (C : Nat × Nat) (x1 : Int32) (x2 : Int32) (y3 : Int64) : am_E 60 27 [.ref 2, .int x1, .int x2, .long y3, .null] [] (am_W I J T L C) = ((am_E 45 0 [.ref 2, .int 2] [] (am_W I J T L C)).bind (fun z1 => am_vI z1.1 fun u1 => (am_E 60 30 [.ref 2, .int x1, .int x2, .long y3, .null] [.int u1] z1.2))) := (am_rg [2, 6, 14, 27, 30, 37] 3 _ _ _ _ _).trans rfl
theorem rg_60_30 (I : Nat → Nat → Int32) (J : Nat → Nat → Int64) (T : Nat → Nat → Nat) (L : Nat) (C : Nat × Nat) (x1 : Int32) (x2 : Int32) (y3 : Int64) (xs0 : Int32) : am_E 60 30 [.ref 2, .int x1, .int x2, .long y3, .null] [.int xs0] (am_W I J T L C) = (cond (am_bit xs0) (some (.int xs0, (am_W I J T L C))) none) := (am_rg [2, 6, 14, 27, 30, 37] 1 _ _ _ _ _).trans rfl
theorem rg_60_37 (I : Nat → Nat → Int32) (J : Nat → Nat → Int64) (T : Nat → Nat → Nat) (L : Nat) (C : Nat × Nat) (x1 : Int32) (x2 : Int32) (y3 : Int64) : am_E 60 37 [.ref 2, .int x1, .int x2, .long y3, .null] [] (am_W I J T L C) = (some (.int 1, (am_W I J T L C))) := (am_rg [2, 6, 14, 27, 30, 37] 2 _ _ _ _ _).trans rfl
-- 61 ScanChart$Reader.readStep()Z
theorem rg_61_0 (I : Nat → Nat → Int32) (J : Nat → Nat → Int64) (T : Nat → Nat → Nat) (L : Nat) (C : Nat × Nat) : am_E 61 0 [.ref 2, .null, .null, .null, .null] [] (am_W I J T L C) = ((am_E 60 0 [.ref 2, .int 2, .int 15, .null, .null] [] (am_W I J T L C)).bind (fun z1 => am_vI z1.1 fun u1 => (am_E 61 7 [.ref 2, .int (I 2 5), .null, .null, .null] [.int u1] z1.2))) := (am_rg [7, 17, 22, 38, 43, 50, 53, 67] 7 _ _ _ _ _).trans rfl
theorem rg_61_7 (I : Nat → Nat → Int32) (J : Nat → Nat → Int64) (T : Nat → Nat → Nat) (L : Nat) (C : Nat × Nat) (x1 : Int32) (v2 : Value) (v3 : Value) (v4 : Value) (xs0 : Int32) : am_E 61 7 [.ref 2, .int x1, v2, v3, v4] [.int xs0] (am_W I J T L C) = (if xs0 = 0 then (some (.int 0, (am_W I J T L C))) else ((am_E 91 0 [.int (I 6 9), .int (I 2 11)] [] (am_W I J T L C)).bind (fun z1 => am_vI z1.1 fun u1 => (am_E 61 17 [.ref 2, .int x1, v2, v3, v4] [.int u1] z1.2)))) := (am_rg [7, 17, 22, 38, 43, 50, 53, 67] 8 _ _ _ _ _).trans rfl
theorem rg_61_17 (I : Nat → Nat → Int32) (J : Nat → Nat → Int64) (T : Nat → Nat → Nat) (L : Nat) (C : Nat × Nat) (x1 : Int32) (v2 : Value) (v3 : Value) (v4 : Value) (xs0 : Int32) : am_E 61 17 [.ref 2, .int x1, v2, v3, v4] [.int xs0] (am_W I J T L C) = (if xs0 = 0 then (am_E 61 38 [.ref 2, .int x1, .int (I 2 11), .int 0, v4] [] (am_W (am_up I 6 9 ((I 6 9) ||| (1 <<< ((I 2 11) &&& 31)))) J T L C)) else ((am_E 46 0 [.ref 2, .int 4, .int x1] [] (am_W I J T L C)).bind (fun z1 => am_vI z1.1 fun u1 => (am_E 61 22 [.ref 2, .int x1, v2, v3, v4] [.int u1] z1.2)))) := (am_rg [7, 17, 22, 38, 43, 50, 53, 67] 16 _ _ _ _ _).trans rfl
theorem rg_61_22 (I : Nat → Nat → Int32) (J : Nat → Nat → Int64) (T : Nat → Nat → Nat) (L : Nat) (C : Nat × Nat) (x1 : Int32) (v2 : Value) (v3 : Value) (v4 : Value) (xs0 : Int32) : am_E 61 22 [.ref 2, .int x1, v2, v3, v4] [.int xs0] (am_W I J T L C) = (cond (am_bit xs0) (some (.int xs0, (am_W I J T L C))) none) := (am_rg [7, 17, 22, 38, 43, 50, 53, 67] 1 _ _ _ _ _).trans rfl
theorem rg_61_38 (I : Nat → Nat → Int32) (J : Nat → Nat → Int64) (T : Nat → Nat → Nat) (L : Nat) (C : Nat × Nat) (x1 : Int32) (x2 : Int32) (x3 : Int32) (v4 : Value) : am_E 61 38 [.ref 2, .int x1, .int x2, .int x3, v4] [] (am_W I J T L C) = (if 3 ≤ x3 then (some (.int 1, (am_W I J T L C))) else ((am_E 62 0 [.ref 2] [] (am_W I J T L C)).bind (fun z1 => am_vI z1.1 fun u1 => (am_E 61 43 [.ref 2, .int x1, .int x2, .int x3, v4] [.int u1] z1.2)))) := (am_rg [7, 17, 22, 38, 43, 50, 53, 67] 5 _ _ _ _ _).trans rfl
theorem rg_61_43 (I : Nat → Nat → Int32) (J : Nat → Nat → Int64) (T : Nat → Nat → Nat) (L : Nat) (C : Nat × Nat) (x1 : Int32) (x2 : Int32) (x3 : Int32) (v4 : Value) (xs0 : Int32) : am_E 61 43 [.ref 2, .int x1, .int x2, .int x3, v4] [.int xs0] (am_W I J T L C) = (if xs0 = 0 then (some (.int 1, (am_W I J T L C))) else ((am_E 47 0 [.ref 2] [] (am_W I J T L C)).bind (fun z1 => (am_E 61 50 [.ref 2, .int x1, .int x2, .int x3, .int xs0] [] z1.2)))) := (am_rg [7, 17, 22, 38, 43, 50, 53, 67] 5 _ _ _ _ _).trans rfl
theorem rg_61_50 (I : Nat → Nat → Int32) (J : Nat → Nat → Int64) (T : Nat → Nat → Nat) (L : Nat) (C : Nat × Nat) (x1 : Int32) (x2 : Int32) (x3 : Int32) (x4 : Int32) : am_E 61 50 [.ref 2, .int x1, .int x2, .int x3, .int x4] [] (am_W I J T L C) = ((am_E 59 0 [.ref 2, .int 6, .null, .null, .null] [] (am_W I J T L C)).bind (fun z1 => am_vI z1.1 fun u1 => (am_E 61 53 [.ref 2, .int x1, .int x2, .int x3, .int x4] [.int u1] z1.2))) := (am_rg [7, 17, 22, 38, 43, 50, 53, 67] 3 _ _ _ _ _).trans rfl
theorem rg_61_53 (I : Nat → Nat → Int32) (J : Nat → Nat → Int64) (T : Nat → Nat → Nat) (L : Nat) (C : Nat × Nat) (x1 : Int32) (x2 : Int32) (x3 : Int32) (x4 : Int32) (xs0 : Int32) : am_E 61 53 [.ref 2, .int x1, .int x2, .int x3, .int x4] [.int xs0] (am_W I J T L C) = (if xs0 = 0 then (some (.int 0, (am_W I J T L C))) else ((am_E 10 0 [.ref 6, .int x2, .int x3, .int x4, .int (I 2 10), .int (I 2 11), .null] [] (am_W I J T L C)).bind (fun z1 => (am_E 61 67 [.ref 2, .int x1, .int x2, .int x3, .int x4] [] z1.2)))) := (am_rg [7, 17, 22, 38, 43, 50, 53, 67] 12 _ _ _ _ _).trans rfl
theorem rg_61_67 (I : Nat → Nat → Int32) (J : Nat → Nat → Int64) (T : Nat → Nat → Nat) (L : Nat) (C : Nat × Nat) (x1 : Int32) (x2 : Int32) (x3 : Int32) (x4 : Int32) : am_E 61 67 [.ref 2, .int x1, .int x2, .int x3, .int x4] [] (am_W I J T L C) = (am_E 61 38 [.ref 2, .int x1, .int x2, .int (x3 + 1), .int x4] [] (am_W I J T L C)) := (am_rg [7, 17, 22, 38, 43, 50, 53, 67] 2 _ _ _ _ _).trans rfl
-- 62 ScanChart$Reader.actionOfWord()I
theorem rg_62_0 (I : Nat → Nat → Int32) (J : Nat → Nat → Int64) (T : Nat → Nat → Nat) (L : Nat) (C : Nat × Nat) : am_E 62 0 [.ref 2] [] (am_W I J T L C) = ((am_E 48 0 [.ref 2, .ref 2045] [] (am_W I J T L C)).bind (fun z1 => am_vI z1.1 fun u1 => (am_E 62 3 [.ref 2] [.int u1] z1.2))) := (am_rg [3, 9, 15] 3 _ _ _ _ _).trans rfl
theorem rg_62_3 (I : Nat → Nat → Int32) (J : Nat → Nat → Int64) (T : Nat → Nat → Nat) (L : Nat) (C : Nat × Nat) (xs0 : Int32) : am_E 62 3 [.ref 2] [.int xs0] (am_W I J T L C) = (if xs0 = 0 then ((am_E 48 0 [.ref 2, .ref 2005] [] (am_W I J T L C)).bind (fun z1 => am_vI z1.1 fun u1 => (am_E 62 9 [.ref 2] [.int u1] z1.2))) else (some (.int 1, (am_W I J T L C)))) := (am_rg [3, 9, 15] 4 _ _ _ _ _).trans rfl
theorem rg_62_9 (I : Nat → Nat → Int32) (J : Nat → Nat → Int64) (T : Nat → Nat → Nat) (L : Nat) (C : Nat × Nat) (xs0 : Int32) : am_E 62 9 [.ref 2] [.int xs0] (am_W I J T L C) = (if xs0 = 0 then ((am_E 48 0 [.ref 2, .ref 2006] [] (am_W I J T L C)).bind (fun z1 => am_vI z1.1 fun u1 => (am_E 62 15 [.ref 2] [.int u1] z1.2))) else (some (.int 2, (am_W I J T L C)))) := (am_rg [3, 9, 15] 4 _ _ _ _ _).trans rfl
theorem rg_62_15 (I : Nat → Nat → Int32) (J : Nat → Nat → Int64) (T : Nat → Nat → Nat) (L : Nat) (C : Nat × Nat) (xs0 : Int32) : am_E 62 15 [.ref 2] [.int xs0] (am_W I J T L C) = (if xs0 = 0 then (some (.int 0, (am_W I J T L C))) else (some (.int 3, (am_W I J T L C)))) := (am_rg [3, 9, 15] 4 _ _ _ _ _).trans rfl
-- 63 ScanChart$Reader.readGo()Z
theorem rg_63_0 (I : Nat → Nat → Int32) (J : Nat → Nat → Int64) (T : Nat → Nat → Nat) (L : Nat) (C : Nat × Nat) : am_E 63 0 [.ref 2, .null, .null, .null] [] (am_W I J T L C) = ((am_E 64 0 [.ref 2, .null, .null, .null] [] (am_W I J T L C)).bind (fun z1 => am_vI z1.1 fun u1 => (am_E 63 2 [.ref 2, .null, .null, .null] [.int u1] z1.2))) := (am_rg [2, 10, 14, 17, 19, 27, 33, 37, 42, 45, 48, 59] 2 _ _ _ _ _).trans rfl
theorem rg_63_2 (I : Nat → Nat → Int32) (J : Nat → Nat → Int64) (T : Nat → Nat → Nat) (L : Nat) (C : Nat × Nat) (v1 : Value) (v2 : Value) (v3 : Value) (xs0 : Int32) : am_E 63 2 [.ref 2, v1, v2, v3] [.int xs0] (am_W I J T L C) = (if xs0 = 0 then (some (.int 0, (am_W I J T L C))) else ((am_E 48 0 [.ref 2, .ref 2046] [] (am_W I J T L C)).bind (fun z1 => am_vI z1.1 fun u1 => (am_E 63 10 [.ref 2, .int xs0, v2, v3] [.int u1] z1.2)))) := (am_rg [2, 10, 14, 17, 19, 27, 33, 37, 42, 45, 48, 59] 6 _ _ _ _ _).trans rfl
theorem rg_63_10 (I : Nat → Nat → Int32) (J : Nat → Nat → Int64) (T : Nat → Nat → Nat) (L : Nat) (C : Nat × Nat) (x1 : Int32) (v2 : Value) (v3 : Value) (xs0 : Int32) : am_E 63 10 [.ref 2, .int x1, v2, v3] [.int xs0] (am_W I J T L C) = (if xs0 = 0 then ((am_E 45 0 [.ref 2, .int 1] [] (am_W I J T L C)).bind (fun z2 => am_vI z2.1 fun u2 => (am_E 63 14 [.ref 2, .int x1, v2, v3] [.int u2] z2.2))) else ((am_E 47 0 [.ref 2] [] (am_W I J T L C)).bind (fun z1 => (am_E 63 17 [.ref 2, .int x1, v2, v3] [] z1.2)))) := (am_rg [2, 10, 14, 17, 19, 27, 33, 37, 42, 45, 48, 59] 4 _ _ _ _ _).trans rfl
theorem rg_63_14 (I : Nat → Nat → Int32) (J : Nat → Nat → Int64) (T : Nat → Nat → Nat) (L : Nat) (C : Nat × Nat) (x1 : Int32) (v2 : Value) (v3 : Value) (xs0 : Int32) : am_E 63 14 [.ref 2, .int x1, v2, v3] [.int xs0] (am_W I J T L C) = (cond (am_bit xs0) (some (.int xs0, (am_W I J T L C))) none) := (am_rg [2, 10, 14, 17, 19, 27, 33, 37, 42, 45, 48, 59] 1 _ _ _ _ _).trans rfl
theorem rg_63_17 (I : Nat → Nat → Int32) (J : Nat → Nat → Int64) (T : Nat → Nat → Nat) (L : Nat) (C : Nat × Nat) (x1 : Int32) (v2 : Value) (v3 : Value) : am_E 63 17 [.ref 2, .int x1, v2, v3] [] (am_W I J T L C) = ((am_E 64 0 [.ref 2, .null, .null, .null] [] (am_W I J T L C)).bind (fun z1 => am_vI z1.1 fun u1 => (am_E 63 19 [.ref 2, .int x1, v2, v3] [.int u1] z1.2))) := (am_rg [2, 10, 14, 17, 19, 27, 33, 37, 42, 45, 48, 59] 2 _ _ _ _ _).trans rfl
theorem rg_63_19 (I : Nat → Nat → Int32) (J : Nat → Nat → Int64) (T : Nat → Nat → Nat) (L : Nat) (C : Nat × Nat) (x1 : Int32) (v2 : Value) (v3 : Value) (xs0 : Int32) : am_E 63 19 [.ref 2, .int x1, v2, v3] [.int xs0] (am_W I J T L C) = (if xs0 = 0 then (some (.int 0, (am_W I J T L C))) else ((am_E 48 0 [.ref 2, .ref 2047] [] (am_W I J T L C)).bind (fun z1 => am_vI z1.1 fun u1 => (am_E 63 27 [.ref 2, .int x1, .int xs0, v3] [.int u1] z1.2)))) := (am_rg [2, 10, 14, 17, 19, 27, 33, 37, 42, 45, 48, 59] 6 _ _ _ _ _).trans rfl
theorem rg_63_27 (I : Nat → Nat → Int32) (J : Nat → Nat → Int64) (T : Nat → Nat → Nat) (L : Nat) (C : Nat × Nat) (x1 : Int32) (x2 : Int32) (v3 : Value) (xs0 : Int32) : am_E 63 27 [.ref 2, .int x1, .int x2, v3] [.int xs0] (am_W I J T L C) = (if xs0 = 0 then ((am_E 48 0 [.ref 2, .ref 2048] [] (am_W I J T L C)).bind (fun z1 => am_vI z1.1 fun u1 => (am_E 63 33 [.ref 2, .int x1, .int x2, v3] [.int u1] z1.2))) else (am_E 63 37 [.ref 2, .int x1, .int x2, v3] [.int 1] (am_W I J T L C))) := (am_rg [2, 10, 14, 17, 19, 27, 33, 37, 42, 45, 48, 59] 4 _ _ _ _ _).trans rfl
theorem rg_63_33 (I : Nat → Nat → Int32) (J : Nat → Nat → Int64) (T : Nat → Nat → Nat) (L : Nat) (C : Nat × Nat) (x1 : Int32) (x2 : Int32) (v3 : Value) (xs0 : Int32) : am_E 63 33 [.ref 2, .int x1, .int x2, v3] [.int xs0] (am_W I J T L C) = (if xs0 = 0 then (am_E 63 37 [.ref 2, .int x1, .int x2, v3] [.int 0] (am_W I J T L C)) else (am_E 63 37 [.ref 2, .int x1, .int x2, v3] [.int 2] (am_W I J T L C))) := (am_rg [2, 10, 14, 17, 19, 27, 33, 37, 42, 45, 48, 59] 3 _ _ _ _ _).trans rfl
theorem rg_63_37 (I : Nat → Nat → Int32) (J : Nat → Nat → Int64) (T : Nat → Nat → Nat) (L : Nat) (C : Nat × Nat) (x1 : Int32) (x2 : Int32) (v3 : Value) (xs0 : Int32) : am_E 63 37 [.ref 2, .int x1, .int x2, v3] [.int xs0] (am_W I J T L C) = (if xs0 = 0 then (am_E 63 48 [.ref 2, .int x1, .int x2, .int xs0] [] (am_W I J T L C)) else ((am_E 47 0 [.ref 2] [] (am_W I J T L C)).bind (fun z1 => (am_E 63 42 [.ref 2, .int x1, .int x2, .int xs0] [] z1.2)))) := (am_rg [2, 10, 14, 17, 19, 27, 33, 37, 42, 45, 48, 59] 5 _ _ _ _ _).trans rfl
theorem rg_63_42 (I : Nat → Nat → Int32) (J : Nat → Nat → Int64) (T : Nat → Nat → Nat) (L : Nat) (C : Nat × Nat) (x1 : Int32) (x2 : Int32) (x3 : Int32) : am_E 63 42 [.ref 2, .int x1, .int x2, .int x3] [] (am_W I J T L C) = ((am_E 59 0 [.ref 2, .int 3711, .null, .null, .null] [] (am_W I J T L C)).bind (fun z1 => am_vI z1.1 fun u1 => (am_E 63 45 [.ref 2, .int x1, .int x2, .int x3] [.int u1] z1.2))) := (am_rg [2, 10, 14, 17, 19, 27, 33, 37, 42, 45, 48, 59] 3 _ _ _ _ _).trans rfl
theorem rg_63_45 (I : Nat → Nat → Int32) (J : Nat → Nat → Int64) (T : Nat → Nat → Nat) (L : Nat) (C : Nat × Nat) (x1 : Int32) (x2 : Int32) (x3 : Int32) (xs0 : Int32) : am_E 63 45 [.ref 2, .int x1, .int x2, .int x3] [.int xs0] (am_W I J T L C) = (if xs0 = 0 then (some (.int 0, (am_W I J T L C))) else (am_E 63 48 [.ref 2, .int x1, .int x2, .int x3] [] (am_W I J T L C))) := (am_rg [2, 10, 14, 17, 19, 27, 33, 37, 42, 45, 48, 59] 3 _ _ _ _ _).trans rfl
theorem rg_63_48 (I : Nat → Nat → Int32) (J : Nat → Nat → Int64) (T : Nat → Nat → Nat) (L : Nat) (C : Nat × Nat) (x1 : Int32) (x2 : Int32) (x3 : Int32) : am_E 63 48 [.ref 2, .int x1, .int x2, .int x3] [] (am_W I J T L C) = ((am_E 9 0 [.ref 6, .int x1, .int x2, .int x3, .int (I 2 10), .int (I 2 11)] [] (am_W I J T L C)).bind (fun z1 => (am_E 63 59 [.ref 2, .int x1, .int x2, .int x3] [] z1.2))) := (am_rg [2, 10, 14, 17, 19, 27, 33, 37, 42, 45, 48, 59] 11 _ _ _ _ _).trans rfl
theorem rg_63_59 (I : Nat → Nat → Int32) (J : Nat → Nat → Int64) (T : Nat → Nat → Nat) (L : Nat) (C : Nat × Nat) (x1 : Int32) (x2 : Int32) (x3 : Int32) : am_E 63 59 [.ref 2, .int x1, .int x2, .int x3] [] (am_W I J T L C) = (some (.int 1, (am_W I J T L C))) := (am_rg [2, 10, 14, 17, 19, 27, 33, 37, 42, 45, 48, 59] 2 _ _ _ _ _).trans rfl
-- 64 ScanChart$Reader.readSteps()I
theorem rg_64_0 (I : Nat → Nat → Int32) (J : Nat → Nat → Int64) (T : Nat → Nat → Nat) (L : Nat) (C : Nat × Nat) : am_E 64 0 [.ref 2, .null, .null, .null] [] (am_W I J T L C) = (am_E 64 4 [.ref 2, .int 0, .int 0, .null] [] (am_W I J T L C)) := (am_rg [4, 11, 12, 19, 29] 4 _ _ _ _ _).trans rfl
theorem rg_64_4 (I : Nat → Nat → Int32) (J : Nat → Nat → Int64) (T : Nat → Nat → Nat) (L : Nat) (C : Nat × Nat) (x1 : Int32) (x2 : Int32) (v3 : Value) : am_E 64 4 [.ref 2, .int x1, .int x2, v3] [] (am_W I J T L C) = (if 3 ≤ x2 then (some (.int x1, (am_W I J T L C))) else (if x2 = 0 then (am_E 64 12 [.ref 2, .int x1, .int x2, v3] [] (am_W I J T L C)) else ((am_E 49 0 [.ref 2] [] (am_W I J T L C)).bind (fun z1 => am_vI z1.1 fun u1 => (am_E 64 11 [.ref 2, .int x1, .int x2, v3] [.int u1] z1.2))))) := (am_rg [4, 11, 12, 19, 29] 7 _ _ _ _ _).trans rfl
theorem rg_64_11 (I : Nat → Nat → Int32) (J : Nat → Nat → Int64) (T : Nat → Nat → Nat) (L : Nat) (C : Nat × Nat) (x1 : Int32) (x2 : Int32) (v3 : Value) (xs0 : Int32) : am_E 64 11 [.ref 2, .int x1, .int x2, v3] [.int xs0] (am_W I J T L C) = (if xs0 = 0 then (some (.int x1, (am_W I J T L C))) else (am_E 64 12 [.ref 2, .int x1, .int x2, v3] [] (am_W I J T L C))) := (am_rg [4, 11, 12, 19, 29] 3 _ _ _ _ _).trans rfl
theorem rg_64_12 (I : Nat → Nat → Int32) (J : Nat → Nat → Int64) (T : Nat → Nat → Nat) (L : Nat) (C : Nat × Nat) (x1 : Int32) (x2 : Int32) (v3 : Value) : am_E 64 12 [.ref 2, .int x1, .int x2, v3] [] (am_W I J T L C) = ((am_E 60 0 [.ref 2, .int 2, .int 15, .null, .null] [] (am_W I J T L C)).bind (fun z1 => am_vI z1.1 fun u1 => (am_E 64 19 [.ref 2, .int x1, .int x2, .int (I 2 5)] [.int u1] z1.2))) := (am_rg [4, 11, 12, 19, 29] 7 _ _ _ _ _).trans rfl
theorem rg_64_19 (I : Nat → Nat → Int32) (J : Nat → Nat → Int64) (T : Nat → Nat → Nat) (L : Nat) (C : Nat × Nat) (x1 : Int32) (x2 : Int32) (x3 : Int32) (xs0 : Int32) : am_E 64 19 [.ref 2, .int x1, .int x2, .int x3] [.int xs0] (am_W I J T L C) = (if xs0 = 0 then (some (.int 0, (am_W I J T L C))) else ((am_E 65 0 [.ref 2, .ref 21, .int (I 2 11), .int x3] [] (am_W I J T L C)).bind (fun z1 => (am_E 64 29 [.ref 2, .int x1, .int x2, .int x3] [] z1.2)))) := (am_rg [4, 11, 12, 19, 29] 8 _ _ _ _ _).trans rfl
theorem rg_64_29 (I : Nat → Nat → Int32) (J : Nat → Nat → Int64) (T : Nat → Nat → Nat) (L : Nat) (C : Nat × Nat) (x1 : Int32) (x2 : Int32) (x3 : Int32) : am_E 64 29 [.ref 2, .int x1, .int x2, .int x3] [] (am_W I J T L C) = (am_E 64 4 [.ref 2, .int (x1 ||| (1 <<< ((I 2 11) &&& 31))), .int (x2 + 1), .int x3] [] (am_W I J T L C)) := (am_rg [4, 11, 12, 19, 29] 9 _ _ _ _ _).trans rfl
-- 65 ScanChart$Reader.noteNamed([III)V
theorem rg_65_0 (I : Nat → Nat → Int32) (J : Nat → Nat → Int64) (T : Nat → Nat → Nat) (L : Nat) (C : Nat × Nat) (q1 : Nat) (x2 : Int32) (x3 : Int32) : am_E 65 0 [.ref 2, .ref q1, .int x2, .int x3] [] (am_W I J T L C) = ((am_E 89 0 [.ref q1, .int x2] [] (am_W I J T L C)).bind (fun z1 => am_vI z1.1 fun u1 => (am_E 65 3 [.ref 2, .ref q1, .int x2, .int x3] [.int u1] z1.2))) := (am_rg [3, 9] 3 _ _ _ _ _).trans rfl
theorem rg_65_3 (I : Nat → Nat → Int32) (J : Nat → Nat → Int64) (T : Nat → Nat → Nat) (L : Nat) (C : Nat × Nat) (q1 : Nat) (x2 : Int32) (x3 : Int32) (xs0 : Int32) : am_E 65 3 [.ref 2, .ref q1, .int x2, .int x3] [.int xs0] (am_W I J T L C) = (if xs0 = (-1) then ((am_E 90 0 [.ref q1, .int x2, .int x3] [] (am_W I J T L C)).bind (fun z1 => (am_E 65 9 [.ref 2, .ref q1, .int x2, .int x3] [] z1.2))) else (am_E 65 9 [.ref 2, .ref q1, .int x2, .int x3] [] (am_W I J T L C))) := (am_rg [3, 9] 6 _ _ _ _ _).trans rfl
theorem rg_65_9 (I : Nat → Nat → Int32) (J : Nat → Nat → Int64) (T : Nat → Nat → Nat) (L : Nat) (C : Nat × Nat) (q1 : Nat) (x2 : Int32) (x3 : Int32) : am_E 65 9 [.ref 2, .ref q1, .int x2, .int x3] [] (am_W I J T L C) = (some (.null, (am_W I J T L C))) := (am_rg [3, 9] 1 _ _ _ _ _).trans rfl
-- 66 ScanChart$Reader.findNoneMissing()Z
theorem rg_66_0 (I : Nat → Nat → Int32) (J : Nat → Nat → Int64) (T : Nat → Nat → Nat) (L : Nat) (C : Nat × Nat) : am_E 66 0 [.ref 2, .null, .null] [] (am_W I J T L C) = (am_E 66 4 [.ref 2, .int 700, .int 0] [] (am_W I J T L C)) := (am_rg [4, 11, 18, 25, 26, 31, 38, 46, 52, 53, 63] 4 _ _ _ _ _).trans rfl
theorem rg_66_4 (I : Nat → Nat → Int32) (J : Nat → Nat → Int64) (T : Nat → Nat → Nat) (L : Nat) (C : Nat × Nat) (x1 : Int32) (x2 : Int32) : am_E 66 4 [.ref 2, .int x1, .int x2] [] (am_W I J T L C) = (if 32 ≤ x2 then (am_E 66 31 [.ref 2, .int x1, .int 0] [] (am_W I J T L C)) else ((am_E 89 0 [.ref 20, .int x2] [] (am_W I J T L C)).bind (fun z1 => am_vI z1.1 fun u1 => (am_E 66 11 [.ref 2, .int x1, .int x2] [.int u1] z1.2)))) := (am_rg [4, 11, 18, 25, 26, 31, 38, 46, 52, 53, 63] 7 _ _ _ _ _).trans rfl
theorem rg_66_11 (I : Nat → Nat → Int32) (J : Nat → Nat → Int64) (T : Nat → Nat → Nat) (L : Nat) (C : Nat × Nat) (x1 : Int32) (x2 : Int32) (xs0 : Int32) : am_E 66 11 [.ref 2, .int x1, .int x2] [.int xs0] (am_W I J T L C) = (if xs0 = (-1) then (am_E 66 4 [.ref 2, .int x1, .int (x2 + 1)] [] (am_W I J T L C)) else ((am_E 89 0 [.ref 19, .int x2] [] (am_W I J T L C)).bind (fun z1 => am_vI z1.1 fun u1 => (am_E 66 18 [.ref 2, .int x1, .int x2] [.int u1] z1.2)))) := (am_rg [4, 11, 18, 25, 26, 31, 38, 46, 52, 53, 63] 7 _ _ _ _ _).trans rfl
theorem rg_66_18 (I : Nat → Nat → Int32) (J : Nat → Nat → Int64) (T : Nat → Nat → Nat) (L : Nat) (C : Nat × Nat) (x1 : Int32) (x2 : Int32) (xs0 : Int32) : am_E 66 18 [.ref 2, .int x1, .int x2] [.int xs0] (am_W I J T L C) = (if xs0 = (-1) then ((am_E 89 0 [.ref 20, .int x2] [] (am_W I J T L C)).bind (fun z1 => am_vI z1.1 fun u1 => (am_E 66 25 [.ref 2, .int x1, .int x2] [.int u1, .int x1] z1.2))) else (am_E 66 4 [.ref 2, .int x1, .int (x2 + 1)] [] (am_W I J T L C))) := (am_rg [4, 11, 18, 25, 26, 31, 38, 46, 52, 53, 63] 7 _ _ _ _ _).trans rfl
theorem rg_66_25 (I : Nat → Nat → Int32) (J : Nat → Nat → Int64) (T : Nat → Nat → Nat) (L : Nat) (C : Nat × Nat) (x1 : Int32) (x2 : Int32) (xs0 : Int32) (xs1 : Int32) : am_E 66 25 [.ref 2, .int x1, .int x2] [.int xs1, .int xs0] (am_W I J T L C) = ((am_E 163 0 [.int xs0, .int xs1] [] (am_W I J T L C)).bind (fun z1 => am_vI z1.1 fun u1 => (am_E 66 26 [.ref 2, .int x1, .int x2] [.int u1] z1.2))) := (am_rg [4, 11, 18, 25, 26, 31, 38, 46, 52, 53, 63] 1 _ _ _ _ _).trans rfl
theorem rg_66_26 (I : Nat → Nat → Int32) (J : Nat → Nat → Int64) (T : Nat → Nat → Nat) (L : Nat) (C : Nat × Nat) (x1 : Int32) (x2 : Int32) (xs0 : Int32) : am_E 66 26 [.ref 2, .int x1, .int x2] [.int xs0] (am_W I J T L C) = (am_E 66 4 [.ref 2, .int xs0, .int (x2 + 1)] [] (am_W I J T L C)) := (am_rg [4, 11, 18, 25, 26, 31, 38, 46, 52, 53, 63] 3 _ _ _ _ _).trans rfl
theorem rg_66_31 (I : Nat → Nat → Int32) (J : Nat → Nat → Int64) (T : Nat → Nat → Nat) (L : Nat) (C : Nat × Nat) (x1 : Int32) (x2 : Int32) : am_E 66 31 [.ref 2, .int x1, .int x2] [] (am_W I J T L C) = (if 16 ≤ x2 then (if x1 = 700 then (some (.int 1, (am_W I J T L C))) else ((am_E 46 0 [.ref 2, .int 6, .int x1] [] (am_W I J T L C)).bind (fun z1 => am_vI z1.1 fun u1 => (am_E 66 63 [.ref 2, .int x1, .int x2] [.int u1] z1.2)))) else ((am_E 89 0 [.ref 21, .int x2] [] (am_W I J T L C)).bind (fun z2 => am_vI z2.1 fun u2 => (am_E 66 38 [.ref 2, .int x1, .int x2] [.int u2] z2.2)))) := (am_rg [4, 11, 18, 25, 26, 31, 38, 46, 52, 53, 63] 10 _ _ _ _ _).trans rfl
theorem rg_66_38 (I : Nat → Nat → Int32) (J : Nat → Nat → Int64) (T : Nat → Nat → Nat) (L : Nat) (C : Nat × Nat) (x1 : Int32) (x2 : Int32) (xs0 : Int32) : am_E 66 38 [.ref 2, .int x1, .int x2] [.int xs0] (am_W I J T L C) = (if xs0 = (-1) then (am_E 66 31 [.ref 2, .int x1, .int (x2 + 1)] [] (am_W I J T L C)) else ((am_E 91 0 [.int (I 6 9), .int x2] [] (am_W I J T L C)).bind (fun z1 => am_vI z1.1 fun u1 => (am_E 66 46 [.ref 2, .int x1, .int x2] [.int u1] z1.2)))) := (am_rg [4, 11, 18, 25, 26, 31, 38, 46, 52, 53, 63] 8 _ _ _ _ _).trans rfl
theorem rg_66_46 (I : Nat → Nat → Int32) (J : Nat → Nat → Int64) (T : Nat → Nat → Nat) (L : Nat) (C : Nat × Nat) (x1 : Int32) (x2 : Int32) (xs0 : Int32) : am_E 66 46 [.ref 2, .int x1, .int x2] [.int xs0] (am_W I J T L C) = (if xs0 = 0 then ((am_E 89 0 [.ref 21, .int x2] [] (am_W I J T L C)).bind (fun z1 => am_vI z1.1 fun u1 => (am_E 66 52 [.ref 2, .int x1, .int x2] [.int u1, .int x1] z1.2))) else (am_E 66 31 [.ref 2, .int x1, .int (x2 + 1)] [] (am_W I J T L C))) := (am_rg [4, 11, 18, 25, 26, 31, 38, 46, 52, 53, 63] 6 _ _ _ _ _).trans rfl
theorem rg_66_52 (I : Nat → Nat → Int32) (J : Nat → Nat → Int64) (T : Nat → Nat → Nat) (L : Nat) (C : Nat × Nat) (x1 : Int32) (x2 : Int32) (xs0 : Int32) (xs1 : Int32) : am_E 66 52 [.ref 2, .int x1, .int x2] [.int xs1, .int xs0] (am_W I J T L C) = ((am_E 163 0 [.int xs0, .int xs1] [] (am_W I J T L C)).bind (fun z1 => am_vI z1.1 fun u1 => (am_E 66 53 [.ref 2, .int x1, .int x2] [.int u1] z1.2))) := (am_rg [4, 11, 18, 25, 26, 31, 38, 46, 52, 53, 63] 1 _ _ _ _ _).trans rfl
theorem rg_66_53 (I : Nat → Nat → Int32) (J : Nat → Nat → Int64) (T : Nat → Nat → Nat) (L : Nat) (C : Nat × Nat) (x1 : Int32) (x2 : Int32) (xs0 : Int32) : am_E 66 53 [.ref 2, .int x1, .int x2] [.int xs0] (am_W I J T L C) = (am_E 66 31 [.ref 2, .int xs0, .int (x2 + 1)] [] (am_W I J T L C)) := (am_rg [4, 11, 18, 25, 26, 31, 38, 46, 52, 53, 63] 3 _ _ _ _ _).trans rfl
theorem rg_66_63 (I : Nat → Nat → Int32) (J : Nat → Nat → Int64) (T : Nat → Nat → Nat) (L : Nat) (C : Nat × Nat) (x1 : Int32) (x2 : Int32) (xs0 : Int32) : am_E 66 63 [.ref 2, .int x1, .int x2] [.int xs0] (am_W I J T L C) = (if xs0 = 0 then (some (.int 0, (am_W I J T L C))) else (some (.int 1, (am_W I J T L C)))) := (am_rg [4, 11, 18, 25, 26, 31, 38, 46, 52, 53, 63] 4 _ _ _ _ _).trans rfl
-- 68 ScanChart$Text.append(IJ)I
theorem rg_68_0 (I : Nat → Nat → Int32) (J : Nat → Nat → Int64) (T : Nat → Nat → Nat) (L : Nat) (C : Nat × Nat) (x1 : Int32) (y2 : Int64) : am_E 68 0 [.ref 3, .int x1, .long y2, .null, .null] [] (am_W I J T L C) = (if ((I 3 1) + x1) ≤ 700 then (am_E 68 10 [.ref 3, .int x1, .long y2, .null, .int 0] [] (am_W I J T L C)) else (some (.int (-1), (am_W I J T L C)))) := (am_rg [10, 28] 8 _ _ _ _ _).trans rfl
theorem rg_68_10 (I : Nat → Nat → Int32) (J : Nat → Nat → Int64) (T : Nat → Nat → Nat) (L : Nat) (C : Nat × Nat) (x1 : Int32) (y2 : Int64) (x4 : Int32) : am_E 68 10 [.ref 3, .int x1, .long y2, .null, .int x4] [] (am_W I J T L C) = (if x1 ≤ x4 then (some (.int ((I 3 1) + x1), (am_W (am_up I 3 1 ((I 3 1) + x1)) J T L C))) else ((am_E 90 0 [.ref 4, .int ((I 3 1) + x4), .int (Int64.toInt32 ((Int64.toUInt64 y2 >>> ((Int32.toInt64 (8 * x4)).toUInt64 &&& Int64.toUInt64 63)).toInt64 &&& 255))] [] (am_W I J T L C)).bind (fun z1 => (am_E 68 28 [.ref 3, .int x1, .long y2, .null, .int x4] [] z1.2)))) := (am_rg [10, 28] 18 _ _ _ _ _).trans rfl
theorem rg_68_28 (I : Nat → Nat → Int32) (J : Nat → Nat → Int64) (T : Nat → Nat → Nat) (L : Nat) (C : Nat × Nat) (x1 : Int32) (y2 : Int64) (x4 : Int32) : am_E 68 28 [.ref 3, .int x1, .long y2, .null, .int x4] [] (am_W I J T L C) = (am_E 68 10 [.ref 3, .int x1, .long y2, .null, .int (x4 + 1)] [] (am_W I J T L C)) := (am_rg [10, 28] 2 _ _ _ _ _).trans rfl
-- 69 ScanChart$Text.byteAt(I)I
theorem rg_69_0 (I : Nat → Nat → Int32) (J : Nat → Nat → Int64) (T : Nat → Nat → Nat) (L : Nat) (C : Nat × Nat) (x1 : Int32) : am_E 69 0 [.ref 3, .int x1] [] (am_W I J T L C) = (if x1 < 0 then (some (.int 0, (am_W I J T L C))) else (if (I 3 1) ≤ x1 then (some (.int 0, (am_W I J T L C))) else (if (nI 700) ≤ x1 then (some (.int 0, (am_W I J T L C))) else (am_inb x1 700 (some (.int (I 4 (Int32.toNatClampNeg x1)), (am_W I J T L C))))))) := (am_rg [] 17 _ _ _ _ _).trans rfl
-- 70 ScanChart$Text.spells(Ljava/lang/String;II)Z
theorem rg_70_0 (I : Nat → Nat → Int32) (J : Nat → Nat → Int64) (T : Nat → Nat → Nat) (L : Nat) (C : Nat × Nat) (q1 : Nat) (x2 : Int32) (x3 : Int32) : am_E 70 0 [.ref 3, .ref q1, .int x2, .int x3, .null] [] (am_W I J T L C) = (cond (Nat.beq (am_SF L q1).1 31) ((am_E 165 0 [.ref q1] [] (am_W I J T L C)).bind (fun z1 => am_vI z1.1 fun u1 => (am_E 70 2 [.ref 3, .ref q1, .int x2, .int x3, .null] [.int u1] z1.2))) none) := (am_rg [2, 10, 13, 19, 22] 2 _ _ _ _ _).trans rfl
theorem rg_70_2 (I : Nat → Nat → Int32) (J : Nat → Nat → Int64) (T : Nat → Nat → Nat) (L : Nat) (C : Nat × Nat) (q1 : Nat) (x2 : Int32) (x3 : Int32) (v4 : Value) (xs0 : Int32) : am_E 70 2 [.ref 3, .ref q1, .int x2, .int x3, v4] [.int xs0] (am_W I J T L C) = (if xs0 = (x3 - x2) then (am_E 70 10 [.ref 3, .ref q1, .int x2, .int x3, .int 0] [] (am_W I J T L C)) else (some (.int 0, (am_W I J T L C)))) := (am_rg [2, 10, 13, 19, 22] 6 _ _ _ _ _).trans rfl
theorem rg_70_10 (I : Nat → Nat → Int32) (J : Nat → Nat → Int64) (T : Nat → Nat → Nat) (L : Nat) (C : Nat × Nat) (q1 : Nat) (x2 : Int32) (x3 : Int32) (x4 : Int32) : am_E 70 10 [.ref 3, .ref q1, .int x2, .int x3, .int x4] [] (am_W I J T L C) = (cond (Nat.beq (am_SF L q1).1 31) ((am_E 165 0 [.ref q1] [] (am_W I J T L C)).bind (fun z1 => am_vI z1.1 fun u1 => (am_E 70 13 [.ref 3, .ref q1, .int x2, .int x3, .int x4] [.int u1, .int x4] z1.2))) none) := (am_rg [2, 10, 13, 19, 22] 3 _ _ _ _ _).trans rfl
theorem rg_70_13 (I : Nat → Nat → Int32) (J : Nat → Nat → Int64) (T : Nat → Nat → Nat) (L : Nat) (C : Nat × Nat) (q1 : Nat) (x2 : Int32) (x3 : Int32) (x4 : Int32) (xs0 : Int32) (xs1 : Int32) : am_E 70 13 [.ref 3, .ref q1, .int x2, .int x3, .int x4] [.int xs1, .int xs0] (am_W I J T L C) = (if xs1 ≤ xs0 then (some (.int 1, (am_W I J T L C))) else ((am_E 69 0 [.ref 3, .int (x2 + x4)] [] (am_W I J T L C)).bind (fun z1 => am_vI z1.1 fun u1 => (am_E 70 19 [.ref 3, .ref q1, .int x2, .int x3, .int x4] [.int u1] z1.2)))) := (am_rg [2, 10, 13, 19, 22] 6 _ _ _ _ _).trans rfl
theorem rg_70_19 (I : Nat → Nat → Int32) (J : Nat → Nat → Int64) (T : Nat → Nat → Nat) (L : Nat) (C : Nat × Nat) (q1 : Nat) (x2 : Int32) (x3 : Int32) (x4 : Int32) (xs0 : Int32) : am_E 70 19 [.ref 3, .ref q1, .int x2, .int x3, .int x4] [.int xs0] (am_W I J T L C) = (cond (Nat.beq (am_SF L q1).1 31) ((am_E 166 0 [.ref q1, .int x4] [] (am_W I J T L C)).bind (fun z1 => am_vI z1.1 fun u1 => (am_E 70 22 [.ref 3, .ref q1, .int x2, .int x3, .int x4] [.int u1, .int xs0] z1.2))) none) := (am_rg [2, 10, 13, 19, 22] 3 _ _ _ _ _).trans rfl
theorem rg_70_22 (I : Nat → Nat → Int32) (J : Nat → Nat → Int64) (T : Nat → Nat → Nat) (L : Nat) (C : Nat × Nat) (q1 : Nat) (x2 : Int32) (x3 : Int32) (x4 : Int32) (xs0 : Int32) (xs1 : Int32) : am_E 70 22 [.ref 3, .ref q1, .int x2, .int x3, .int x4] [.int xs1, .int xs0] (am_W I J T L C) = (if xs0 = xs1 then (am_E 70 10 [.ref 3, .ref q1, .int x2, .int x3, .int (x4 + 1)] [] (am_W I J T L C)) else (some (.int 0, (am_W I J T L C)))) := (am_rg [2, 10, 13, 19, 22] 3 _ _ _ _ _).trans rfl
-- 71 ScanChart$Text.numberIn(II)J
theorem rg_71_0 (I : Nat → Nat → Int32) (J : Nat → Nat → Int64) (T : Nat → Nat → Nat) (L : Nat) (C : Nat × Nat) (x1 : Int32) (x2 : Int32) : am_E 71 0 [.ref 3, .int x1, .int x2, .null, .null, .null, .null] [] (am_W I J T L C) = (if x1 < x2 then (am_E 71 9 [.ref 3, .int x1, .int x2, .long 0, .null, .int x1, .null] [] (am_W I J T L C)) else (some (.long (-1), (am_W I J T L C)))) := (am_rg [9, 15, 33] 7 _ _ _ _ _).trans rfl
theorem rg_71_9 (I : Nat → Nat → Int32) (J : Nat → Nat → Int64) (T : Nat → Nat → Nat) (L : Nat) (C : Nat × Nat) (x1 : Int32) (x2 : Int32) (y3 : Int64) (x5 : Int32) (v6 : Value) : am_E 71 9 [.ref 3, .int x1, .int x2, .long y3, .null, .int x5, v6] [] (am_W I J T L C) = (if x2 ≤ x5 then (some (.long y3, (am_W I J T L C))) else ((am_E 69 0 [.ref 3, .int x5] [] (am_W I J T L C)).bind (fun z1 => am_vI z1.1 fun u1 => (am_E 71 15 [.ref 3, .int x1, .int x2, .long y3, .null, .int x5, v6] [.int u1] z1.2)))) := (am_rg [9, 15, 33] 6 _ _ _ _ _).trans rfl
theorem rg_71_15 (I : Nat → Nat → Int32) (J : Nat → Nat → Int64) (T : Nat → Nat → Nat) (L : Nat) (C : Nat × Nat) (x1 : Int32) (x2 : Int32) (y3 : Int64) (x5 : Int32) (v6 : Value) (xs0 : Int32) : am_E 71 15 [.ref 3, .int x1, .int x2, .long y3, .null, .int x5, v6] [.int xs0] (am_W I J T L C) = (if (xs0 - 48) < 0 then (some (.long (-1), (am_W I J T L C))) else (if (xs0 - 48) ≤ 9 then ((am_E 164 0 [.long ((y3 * 10) + (Int32.toInt64 (xs0 - 48))), .null, .long 10000000000, .null] [] (am_W I J T L C)).bind (fun z1 => am_vJ z1.1 fun u1 => (am_E 71 33 [.ref 3, .int x1, .int x2, .long y3, .null, .int x5, .int (xs0 - 48)] [.long u1] z1.2))) else (some (.long (-1), (am_W I J T L C))))) := (am_rg [9, 15, 33] 16 _ _ _ _ _).trans rfl
theorem rg_71_33 (I : Nat → Nat → Int32) (J : Nat → Nat → Int64) (T : Nat → Nat → Nat) (L : Nat) (C : Nat × Nat) (x1 : Int32) (x2 : Int32) (y3 : Int64) (x5 : Int32) (x6 : Int32) (ys0 : Int64) : am_E 71 33 [.ref 3, .int x1, .int x2, .long y3, .null, .int x5, .int x6] [.long ys0] (am_W I J T L C) = (am_E 71 9 [.ref 3, .int x1, .int x2, .long ys0, .null, .int (x5 + 1), .int x6] [] (am_W I J T L C)) := (am_rg [9, 15, 33] 3 _ _ _ _ _).trans rfl
-- 73 ScanChart.feed(IJ)I
theorem rg_73_0 (I : Nat → Nat → Int32) (J : Nat → Nat → Int64) (T : Nat → Nat → Nat) (L : Nat) (C : Nat × Nat) (x1 : Int32) (y2 : Int64) : am_E 73 0 [.ref 1, .int x1, .long y2, .null] [] (am_W I J T L C) = (if x1 < 1 then none else (if x1 ≤ 8 then ((am_E 68 0 [.ref 3, .int x1, .long y2, .null, .null] [] (am_W I J T L C)).bind (fun z1 => am_vI z1.1 fun u1 => (am_E 73 17 [.ref 1, .int x1, .long y2, .null] [.int u1] z1.2))) else none)) := (am_rg [17] 12 _ _ _ _ _).trans rfl
theorem rg_73_17 (I : Nat → Nat → Int32) (J : Nat → Nat → Int64) (T : Nat → Nat → Nat) (L : Nat) (C : Nat × Nat) (x1 : Int32) (y2 : Int64) (xs0 : Int32) : am_E 73 17 [.ref 1, .int x1, .long y2, .null] [.int xs0] (am_W I J T L C) = (some (.int xs0, (am_W I J T L C))) := (am_rg [17] 1 _ _ _ _ _).trans rfl
-- 74 ScanChart.wipe()I
theorem rg_74_0 (I : Nat → Nat → Int32) (J : Nat → Nat → Int64) (T : Nat → Nat → Nat) (L : Nat) (C : Nat × Nat) : am_E 74 0 [.ref 1, .null] [] (am_W I J T L C) = (some (.int (I 3 1), (am_W (am_up I 3 1 0) J T L C))) := (am_rg [] 12 _ _ _ _ _).trans rfl
-- 75 ScanChart.load()I
theorem rg_75_0 (I : Nat → Nat → Int32) (J : Nat → Nat → Int64) (T : Nat → Nat → Nat) (L : Nat) (C : Nat × Nat) : am_E 75 0 [.ref 1, .null] [] (am_W I J T L C) = ((am_E 44 0 [.ref 2, .null, .null, .null] [] (am_W I J T L C)).bind (fun z1 => am_vI z1.1 fun u1 => (am_E 75 3 [.ref 1, .null] [.int u1] z1.2))) := (am_rg [3, 21] 3 _ _ _ _ _).trans rfl
theorem rg_75_21 (I : Nat → Nat → Int32) (J : Nat → Nat → Int64) (T : Nat → Nat → Nat) (L : Nat) (C : Nat × Nat) : am_E 75 21 [.ref 1, .ref 5] [] (am_W I J T L C) = (some (.int (I 34 6), (am_W I J T L C))) := (am_rg [3, 21] 4 _ _ _ _ _).trans rfl
-- 76 ScanChart.fault()I
theorem rg_76_0 (I : Nat → Nat → Int32) (J : Nat → Nat → Int64) (T : Nat → Nat → Nat) (L : Nat) (C : Nat × Nat) : am_E 76 0 [.ref 1] [] (am_W I J T L C) = (some (.int (I 2 2), (am_W I J T L C))) := (am_rg [] 4 _ _ _ _ _).trans rfl
-- 77 ScanChart.place()I
theorem rg_77_0 (I : Nat → Nat → Int32) (J : Nat → Nat → Int64) (T : Nat → Nat → Nat) (L : Nat) (C : Nat × Nat) : am_E 77 0 [.ref 1] [] (am_W I J T L C) = (some (.int (I 2 3), (am_W I J T L C))) := (am_rg [] 4 _ _ _ _ _).trans rfl
-- 78 ScanChart.reset()V
theorem rg_78_0 (I : Nat → Nat → Int32) (J : Nat → Nat → Int64) (T : Nat → Nat → Nat) (L : Nat) (C : Nat × Nat) : am_E 78 0 [.ref 1] [] (am_W I J T L C) = ((am_E 12 0 [.ref 22] [] (am_W I J T L C)).bind (fun z1 => (am_E 78 3 [.ref 1] [] z1.2))) := (am_rg [3] 3 _ _ _ _ _).trans rfl
theorem rg_78_3 (I : Nat → Nat → Int32) (J : Nat → Nat → Int64) (T : Nat → Nat → Nat) (L : Nat) (C : Nat × Nat) : am_E 78 3 [.ref 1] [] (am_W I J T L C) = (some (.null, (am_W I J T L C))) := (am_rg [3] 1 _ _ _ _ _).trans rfl
-- 79 ScanChart.input(IZ)V
theorem rg_79_0 (I : Nat → Nat → Int32) (J : Nat → Nat → Int64) (T : Nat → Nat → Nat) (L : Nat) (C : Nat × Nat) (x1 : Int32) (x2 : Int32) : am_E 79 0 [.ref 1, .int x1, .int x2] [] (am_W I J T L C) = (if x1 < 0 then none else (if x1 < 32 then ((am_E 92 0 [.int (I 1 3), .int x1, .int x2] [] (am_W I J T L C)).bind (fun z1 => am_vI z1.1 fun u1 => (am_E 79 16 [.ref 1, .int x1, .int x2] [.int u1, .ref 1] z1.2))) else none)) := (am_rg [16] 11 _ _ _ _ _).trans rfl
theorem rg_79_16 (I : Nat → Nat → Int32) (J : Nat → Nat → Int64) (T : Nat → Nat → Nat) (L : Nat) (C : Nat × Nat) (x1 : Int32) (x2 : Int32) (xs1 : Int32) : am_E 79 16 [.ref 1, .int x1, .int x2] [.int xs1, .ref 1] (am_W I J T L C) = (some (.null, (am_W (am_up I 1 3 xs1) J T L C))) := (am_rg [16] 2 _ _ _ _ _).trans rfl
-- 80 ScanChart.scan(I)I
theorem rg_80_0 (I : Nat → Nat → Int32) (J : Nat → Nat → Int64) (T : Nat → Nat → Nat) (L : Nat) (C : Nat × Nat) (x1 : Int32) : am_E 80 0 [.ref 1, .int x1] [] (am_W I J T L C) = (if x1 < 0 then none else (if x1 ≤ 1000000 then (if (I 22 3) = 0 then ((am_E 13 0 [.ref 22, .ref 34, .int (I 1 3), .int x1] [] (am_W I J T L C)).bind (fun z1 => (am_E 80 24 [.ref 1, .int x1] [] z1.2))) else (some (.int (-1), (am_W I J T L C)))) else none)) := (am_rg [24] 17 _ _ _ _ _).trans rfl
theorem rg_80_24 (I : Nat → Nat → Int32) (J : Nat → Nat → Int64) (T : Nat → Nat → Nat) (L : Nat) (C : Nat × Nat) (x1 : Int32) : am_E 80 24 [.ref 1, .int x1] [] (am_W I J T L C) = (some (.int (I 22 3), (am_W I J T L C))) := (am_rg [24] 4 _ _ _ _ _).trans rfl
-- 81 ScanChart.run(II)I
theorem rg_81_0 (I : Nat → Nat → Int32) (J : Nat → Nat → Int64) (T : Nat → Nat → Nat) (L : Nat) (C : Nat × Nat) (x1 : Int32) (x2 : Int32) : am_E 81 0 [.ref 1, .int x1, .int x2, .null, .null] [] (am_W I J T L C) = (if x1 < 0 then none else (if x1 ≤ 100 then (if x2 < 0 then none else (if x2 ≤ 1000000 then (am_E 81 24 [.ref 1, .int x1, .int x2, .int 0, .int 0] [] (am_W I J T L C)) else none)) else none)) := (am_rg [24, 39] 14 _ _ _ _ _).trans rfl
theorem rg_81_24 (I : Nat → Nat → Int32) (J : Nat → Nat → Int64) (T : Nat → Nat → Nat) (L : Nat) (C : Nat × Nat) (x1 : Int32) (x2 : Int32) (x3 : Int32) (x4 : Int32) : am_E 81 24 [.ref 1, .int x1, .int x2, .int x3, .int x4] [] (am_W I J T L C) = (if x1 ≤ x4 then (some (.int x3, (am_W I J T L C))) else (if (I 22 3) = 0 then ((am_E 13 0 [.ref 22, .ref 34, .int (I 1 3), .int x2] [] (am_W I J T L C)).bind (fun z1 => (am_E 81 39 [.ref 1, .int x1, .int x2, .int x3, .int x4] [] z1.2))) else (some (.int x3, (am_W I J T L C))))) := (am_rg [24, 39] 15 _ _ _ _ _).trans rfl
theorem rg_81_39 (I : Nat → Nat → Int32) (J : Nat → Nat → Int64) (T : Nat → Nat → Nat) (L : Nat) (C : Nat × Nat) (x1 : Int32) (x2 : Int32) (x3 : Int32) (x4 : Int32) : am_E 81 39 [.ref 1, .int x1, .int x2, .int x3, .int x4] [] (am_W I J T L C) = (if (I 22 3) = 0 then (am_E 81 24 [.ref 1, .int x1, .int x2, .int (x3 + 1), .int (x4 + 1)] [] (am_W I J T L C)) else (am_E 81 24 [.ref 1, .int x1, .int x2, .int x3, .int (x4 + 1)] [] (am_W I J T L C))) := (am_rg [24, 39] 7 _ _ _ _ _).trans rfl
-- 82 ScanChart.output(I)Z
theorem rg_82_0 (I : Nat → Nat → Int32) (J : Nat → Nat → Int64) (T : Nat → Nat → Nat) (L : Nat) (C : Nat × Nat) (x1 : Int32) : am_E 82 0 [.ref 1, .int x1] [] (am_W I J T L C) = (if x1 < 0 then none else (if x1 < 32 then ((am_E 91 0 [.int (I 22 2), .int x1] [] (am_W I J T L C)).bind (fun z1 => am_vI z1.1 fun u1 => (am_E 82 15 [.ref 1, .int x1] [.int u1] z1.2))) else none)) := (am_rg [15] 10 _ _ _ _ _).trans rfl
theorem rg_82_15 (I : Nat → Nat → Int32) (J : Nat → Nat → Int64) (T : Nat → Nat → Nat) (L : Nat) (C : Nat × Nat) (x1 : Int32) (xs0 : Int32) : am_E 82 15 [.ref 1, .int x1] [.int xs0] (am_W I J T L C) = (cond (am_bit xs0) (some (.int xs0, (am_W I J T L C))) none) := (am_rg [15] 1 _ _ _ _ _).trans rfl
-- 83 ScanChart.bits(I)I
theorem rg_83_0 (I : Nat → Nat → Int32) (J : Nat → Nat → Int64) (T : Nat → Nat → Nat) (L : Nat) (C : Nat × Nat) (x1 : Int32) : am_E 83 0 [.ref 1, .int x1] [] (am_W I J T L C) = (if x1 < 0 then none else (if x1 ≤ 4 then (if x1 = 4 then (am_E 83 23 [.ref 1, .int x1] [.int (I 22 2)] (am_W I J T L C)) else ((am_E 89 0 [.ref 24, .int x1] [] (am_W I J T L C)).bind (fun z1 => am_vI z1.1 fun u1 => (am_E 83 23 [.ref 1, .int x1] [.int u1] z1.2)))) else none)) := (am_rg [23] 14 _ _ _ _ _).trans rfl
theorem rg_83_23 (I : Nat → Nat → Int32) (J : Nat → Nat → Int64) (T : Nat → Nat → Nat) (L : Nat) (C : Nat × Nat) (x1 : Int32) (xs0 : Int32) : am_E 83 23 [.ref 1, .int x1] [.int xs0] (am_W I J T L C) = (some (.int xs0, (am_W I J T L C))) := (am_rg [23] 1 _ _ _ _ _).trans rfl
-- 84 ScanChart.word(I)I
theorem rg_84_0 (I : Nat → Nat → Int32) (J : Nat → Nat → Int64) (T : Nat → Nat → Nat) (L : Nat) (C : Nat × Nat) (x1 : Int32) : am_E 84 0 [.ref 1, .int x1] [] (am_W I J T L C) = (if x1 < 0 then none else (if x1 < 32 then ((am_E 2 0 [.ref 23, .int 6, .int x1] [] (am_W I J T L C)).bind (fun z1 => am_vI z1.1 fun u1 => (am_E 84 16 [.ref 1, .int x1] [.int u1] z1.2))) else none)) := (am_rg [16] 11 _ _ _ _ _).trans rfl
theorem rg_84_16 (I : Nat → Nat → Int32) (J : Nat → Nat → Int64) (T : Nat → Nat → Nat) (L : Nat) (C : Nat × Nat) (x1 : Int32) (xs0 : Int32) : am_E 84 16 [.ref 1, .int x1] [.int xs0] (am_W I J T L C) = (some (.int xs0, (am_W I J T L C))) := (am_rg [16] 1 _ _ _ _ _).trans rfl
-- 85 ScanChart.block(II)I
theorem rg_85_0 (I : Nat → Nat → Int32) (J : Nat → Nat → Int64) (T : Nat → Nat → Nat) (L : Nat) (C : Nat × Nat) (x1 : Int32) (x2 : Int32) : am_E 85 0 [.ref 1, .int x1, .int x2] [] (am_W I J T L C) = (if x1 < 0 then none else (if x1 < 8 then (if x2 = 0 then ((am_E 2 0 [.ref 23, .int 4, .int x1] [] (am_W I J T L C)).bind (fun z4 => am_vI z4.1 fun u4 => (am_E 85 18 [.ref 1, .int x1, .int x2] [.int u4] z4.2))) else (if x2 = 0 + 1 then ((am_E 2 0 [.ref 23, .int 9, .int x1] [] (am_W I J T L C)).bind (fun z3 => am_vI z3.1 fun u3 => (am_E 85 25 [.ref 1, .int x1, .int x2] [.int u3] z3.2))) else (if x2 = 0 + 1 + 1 then ((am_E 2 0 [.ref 23, .int 5, .int x1] [] (am_W I J T L C)).bind (fun z2 => am_vI z2.1 fun u2 => (am_E 85 32 [.ref 1, .int x1, .int x2] [.int u2] z2.2))) else (if x2 = 0 + 1 + 1 + 1 then ((am_E 2 0 [.ref 23, .int 10, .int x1] [] (am_W I J T L C)).bind (fun z1 => am_vI z1.1 fun u1 => (am_E 85 39 [.ref 1, .int x1, .int x2] [.int u1] z1.2))) else none)))) else none)) := (am_rg [18, 25, 32, 39] 13 _ _ _ _ _).trans rfl
theorem rg_85_18 (I : Nat → Nat → Int32) (J : Nat → Nat → Int64) (T : Nat → Nat → Nat) (L : Nat) (C : Nat × Nat) (x1 : Int32) (x2 : Int32) (xs0 : Int32) : am_E 85 18 [.ref 1, .int x1, .int x2] [.int xs0] (am_W I J T L C) = (some (.int xs0, (am_W I J T L C))) := (am_rg [18, 25, 32, 39] 1 _ _ _ _ _).trans rfl
theorem rg_85_25 (I : Nat → Nat → Int32) (J : Nat → Nat → Int64) (T : Nat → Nat → Nat) (L : Nat) (C : Nat × Nat) (x1 : Int32) (x2 : Int32) (xs0 : Int32) : am_E 85 25 [.ref 1, .int x1, .int x2] [.int xs0] (am_W I J T L C) = (some (.int xs0, (am_W I J T L C))) := (am_rg [18, 25, 32, 39] 1 _ _ _ _ _).trans rfl
theorem rg_85_32 (I : Nat → Nat → Int32) (J : Nat → Nat → Int64) (T : Nat → Nat → Nat) (L : Nat) (C : Nat × Nat) (x1 : Int32) (x2 : Int32) (xs0 : Int32) : am_E 85 32 [.ref 1, .int x1, .int x2] [.int xs0] (am_W I J T L C) = (some (.int xs0, (am_W I J T L C))) := (am_rg [18, 25, 32, 39] 1 _ _ _ _ _).trans rfl
theorem rg_85_39 (I : Nat → Nat → Int32) (J : Nat → Nat → Int64) (T : Nat → Nat → Nat) (L : Nat) (C : Nat × Nat) (x1 : Int32) (x2 : Int32) (xs0 : Int32) : am_E 85 39 [.ref 1, .int x1, .int x2] [.int xs0] (am_W I J T L C) = (some (.int xs0, (am_W I J T L C))) := (am_rg [18, 25, 32, 39] 1 _ _ _ _ _).trans rfl
-- 86 ScanChart.done()I
theorem rg_86_0 (I : Nat → Nat → Int32) (J : Nat → Nat → Int64) (T : Nat → Nat → Nat) (L : Nat) (C : Nat × Nat) : am_E 86 0 [.ref 1] [] (am_W I J T L C) = (some (.int (I 22 4), (am_W I J T L C))) := (am_rg [] 4 _ _ _ _ _).trans rfl
-- 87 ScanChart.fired()I
theorem rg_87_0 (I : Nat → Nat → Int32) (J : Nat → Nat → Int64) (T : Nat → Nat → Nat) (L : Nat) (C : Nat × Nat) : am_E 87 0 [.ref 1] [] (am_W I J T L C) = (some (.int (I 22 5), (am_W I J T L C))) := (am_rg [] 4 _ _ _ _ _).trans rfl
-- 88 ScanChart.time()J
theorem rg_88_0 (I : Nat → Nat → Int32) (J : Nat → Nat → Int64) (T : Nat → Nat → Nat) (L : Nat) (C : Nat × Nat) : am_E 88 0 [.ref 1] [] (am_W I J T L C) = (some (.long (J 22 1), (am_W I J T L C))) := (am_rg [] 4 _ _ _ _ _).trans rfl
-- 89 ScanChart.at([II)I
theorem rg_89_0 (I : Nat → Nat → Int32) (J : Nat → Nat → Int64) (T : Nat → Nat → Nat) (L : Nat) (C : Nat × Nat) (q0 : Nat) (x1 : Int32) : am_E 89 0 [.ref q0, .int x1] [] (am_W I J T L C) = (if x1 < 0 then (some (.int 0, (am_W I J T L C))) else (cond (Nat.ble 20 (am_SF L q0).1 && Nat.ble (am_SF L q0).1 27) (if (nI (am_SF L q0).2) ≤ x1 then (some (.int 0, (am_W I J T L C))) else (cond (Nat.beq (am_SF L q0).1 20 || Nat.beq (am_SF L q0).1 24) (am_inb x1 (am_SF L q0).2 (some (.int (I q0 (Int32.toNatClampNeg x1)), (am_W I J T L C)))) (cond (Nat.beq (am_SF L q0).1 26) (am_inb x1 (am_SF L q0).2 (some (.int (am_cI q0 (Int32.toNatClampNeg x1)), (am_W I J T L C)))) none))) none)) := (am_rg [] 11 _ _ _ _ _).trans rfl
-- 90 ScanChart.put([III)V
theorem rg_90_0 (I : Nat → Nat → Int32) (J : Nat → Nat → Int64) (T : Nat → Nat → Nat) (L : Nat) (C : Nat × Nat) (q0 : Nat) (x1 : Int32) (x2 : Int32) : am_E 90 0 [.ref q0, .int x1, .int x2] [] (am_W I J T L C) = (if x1 < 0 then (some (.null, (am_W I J T L C))) else (cond (Nat.ble 20 (am_SF L q0).1 && Nat.ble (am_SF L q0).1 27) (if (nI (am_SF L q0).2) ≤ x1 then (some (.null, (am_W I J T L C))) else (cond (Nat.beq (am_SF L q0).1 20) (am_inb x1 (am_SF L q0).2 (some (.null, (am_W (am_up I q0 (Int32.toNatClampNeg x1) x2) J T L C)))) none)) none)) := (am_rg [] 11 _ _ _ _ _).trans rfl
-- 91 ScanChart.isSet(II)Z
theorem rg_91_0 (I : Nat → Nat → Int32) (J : Nat → Nat → Int64) (T : Nat → Nat → Nat) (L : Nat) (C : Nat × Nat) (x0 : Int32) (x1 : Int32) : am_E 91 0 [.int x0, .int x1] [] (am_W I J T L C) = (if ((Int32.toUInt32 x0 >>> (Int32.toUInt32 x1 &&& Int32.toUInt32 31)).toInt32 &&& 1) = 0 then (some (.int 0, (am_W I J T L C))) else (some (.int 1, (am_W I J T L C)))) := (am_rg [] 9 _ _ _ _ _).trans rfl
-- 92 ScanChart.withBit(IIZ)I
theorem rg_92_0 (I : Nat → Nat → Int32) (J : Nat → Nat → Int64) (T : Nat → Nat → Nat) (L : Nat) (C : Nat × Nat) (x0 : Int32) (x1 : Int32) (x2 : Int32) : am_E 92 0 [.int x0, .int x1, .int x2] [] (am_W I J T L C) = (if x2 = 0 then (some (.int (x0 &&& ((1 <<< (x1 &&& 31)) ^^^ (-1))), (am_W I J T L C))) else (some (.int (x0 ||| (1 <<< (x1 &&& 31))), (am_W I J T L C)))) := (am_rg [] 10 _ _ _ _ _).trans rfl
-- 93 ScanChart.fill([II)V
theorem rg_93_0 (I : Nat → Nat → Int32) (J : Nat → Nat → Int64) (T : Nat → Nat → Nat) (L : Nat) (C : Nat × Nat) (q0 : Nat) (x1 : Int32) : am_E 93 0 [.ref q0, .int x1, .null] [] (am_W I J T L C) = (am_E 93 2 [.ref q0, .int x1, .int 0] [] (am_W I J T L C)) := (am_rg [2] 2 _ _ _ _ _).trans rfl
theorem rg_93_2 (I : Nat → Nat → Int32) (J : Nat → Nat → Int64) (T : Nat → Nat → Nat) (L : Nat) (C : Nat × Nat) (q0 : Nat) (x1 : Int32) (x2 : Int32) : am_E 93 2 [.ref q0, .int x1, .int x2] [] (am_W I J T L C) = (cond (Nat.ble 20 (am_SF L q0).1 && Nat.ble (am_SF L q0).1 27) (if (nI (am_SF L q0).2) ≤ x2 then (some (.null, (am_W I J T L C))) else (cond (Nat.beq (am_SF L q0).1 20) (am_inb x2 (am_SF L q0).2 (am_E 93 2 [.ref q0, .int x1, .int (x2 + 1)] [] (am_W (am_up I q0 (Int32.toNatClampNeg x2) x1) J T L C))) none)) none) := (am_rg [2] 10 _ _ _ _ _).trans rfl
end
