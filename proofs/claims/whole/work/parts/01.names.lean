-- ===== PART A: goes FIRST, ahead of the names: the tables' words, and 'selects' of the private methods out of them =====
/-- a private method of a class that the tables say can be made, by its rows of tables_1 -/
def lw_okq (q : MethodName × Nat) : Prop := (q.1.cls ≠ "java/lang/invoke/MethodHandle" ∧ q.1.cls ≠ "java/lang/invoke/VarHandle") ∧ Cond.instantiable q.1.cls q.2 ∈ tables_1 ∧ Cond.privateMethod q.1 ∈ tables_1 ∧ Cond.instanceMethod q.1 ∈ tables_1
theorem lw_p0 : lw_okq (⟨"ScanChart$Reader", "advance", "()V"⟩, 14) := ⟨⟨by decide +kernel, by decide +kernel⟩, List.mem_of_getElem? (i := 33) (by decide +kernel), List.mem_of_getElem? (i := 345) (by decide +kernel), List.mem_of_getElem? (i := 346) (by decide +kernel)⟩
theorem lw_p1 : lw_okq (⟨"ScanChart$Reader", "isLabel", "()Z"⟩, 14) := ⟨⟨by decide +kernel, by decide +kernel⟩, List.mem_of_getElem? (i := 33) (by decide +kernel), List.mem_of_getElem? (i := 353) (by decide +kernel), List.mem_of_getElem? (i := 354) (by decide +kernel)⟩
theorem lw_p2 : lw_okq (⟨"ScanChart$Reader", "readLabel", "()Z"⟩, 14) := ⟨⟨by decide +kernel, by decide +kernel⟩, List.mem_of_getElem? (i := 33) (by decide +kernel), List.mem_of_getElem? (i := 369) (by decide +kernel), List.mem_of_getElem? (i := 370) (by decide +kernel)⟩
theorem lw_p3 : lw_okq (⟨"ScanChart$Reader", "fail", "(I)Z"⟩, 14) := ⟨⟨by decide +kernel, by decide +kernel⟩, List.mem_of_getElem? (i := 33) (by decide +kernel), List.mem_of_getElem? (i := 374) (by decide +kernel), List.mem_of_getElem? (i := 375) (by decide +kernel)⟩
theorem lw_p4 : lw_okq (⟨"ScanChart$Reader", "readOp", "()LScanChart$Op;"⟩, 14) := ⟨⟨by decide +kernel, by decide +kernel⟩, List.mem_of_getElem? (i := 33) (by decide +kernel), List.mem_of_getElem? (i := 382) (by decide +kernel), List.mem_of_getElem? (i := 383) (by decide +kernel)⟩
theorem lw_p5 : lw_okq (⟨"ScanChart$Reader", "opSpelled", "(II)LScanChart$Op;"⟩, 14) := ⟨⟨by decide +kernel, by decide +kernel⟩, List.mem_of_getElem? (i := 33) (by decide +kernel), List.mem_of_getElem? (i := 386) (by decide +kernel), List.mem_of_getElem? (i := 387) (by decide +kernel)⟩
theorem lw_p6 : lw_okq (⟨"ScanChart$Reader", "isFull", "(LScanChart$Op;)Z"⟩, 14) := ⟨⟨by decide +kernel, by decide +kernel⟩, List.mem_of_getElem? (i := 33) (by decide +kernel), List.mem_of_getElem? (i := 444) (by decide +kernel), List.mem_of_getElem? (i := 445) (by decide +kernel)⟩
theorem lw_p7 : lw_okq (⟨"ScanChart$Reader", "isAllowedByBrackets", "(LScanChart$Op;)Z"⟩, 14) := ⟨⟨by decide +kernel, by decide +kernel⟩, List.mem_of_getElem? (i := 33) (by decide +kernel), List.mem_of_getElem? (i := 448) (by decide +kernel), List.mem_of_getElem? (i := 449) (by decide +kernel)⟩
theorem lw_p8 : lw_okq (⟨"ScanChart$Reader", "readGo", "()Z"⟩, 14) := ⟨⟨by decide +kernel, by decide +kernel⟩, List.mem_of_getElem? (i := 33) (by decide +kernel), List.mem_of_getElem? (i := 452) (by decide +kernel), List.mem_of_getElem? (i := 453) (by decide +kernel)⟩
theorem lw_p9 : lw_okq (⟨"ScanChart$Reader", "readSteps", "()I"⟩, 14) := ⟨⟨by decide +kernel, by decide +kernel⟩, List.mem_of_getElem? (i := 33) (by decide +kernel), List.mem_of_getElem? (i := 456) (by decide +kernel), List.mem_of_getElem? (i := 457) (by decide +kernel)⟩
theorem lw_p10 : lw_okq (⟨"ScanChart$Reader", "isFigures", "()Z"⟩, 14) := ⟨⟨by decide +kernel, by decide +kernel⟩, List.mem_of_getElem? (i := 33) (by decide +kernel), List.mem_of_getElem? (i := 460) (by decide +kernel), List.mem_of_getElem? (i := 461) (by decide +kernel)⟩
theorem lw_p11 : lw_okq (⟨"ScanChart$Reader", "readFigures", "(II)Z"⟩, 14) := ⟨⟨by decide +kernel, by decide +kernel⟩, List.mem_of_getElem? (i := 33) (by decide +kernel), List.mem_of_getElem? (i := 464) (by decide +kernel), List.mem_of_getElem? (i := 465) (by decide +kernel)⟩
theorem lw_p12 : lw_okq (⟨"ScanChart$Reader", "noteNamed", "([III)V"⟩, 14) := ⟨⟨by decide +kernel, by decide +kernel⟩, List.mem_of_getElem? (i := 33) (by decide +kernel), List.mem_of_getElem? (i := 468) (by decide +kernel), List.mem_of_getElem? (i := 469) (by decide +kernel)⟩
theorem lw_p13 : lw_okq (⟨"ScanChart$Reader", "isWord", "(Ljava/lang/String;)Z"⟩, 14) := ⟨⟨by decide +kernel, by decide +kernel⟩, List.mem_of_getElem? (i := 33) (by decide +kernel), List.mem_of_getElem? (i := 473) (by decide +kernel), List.mem_of_getElem? (i := 474) (by decide +kernel)⟩
theorem lw_p14 : lw_okq (⟨"ScanChart$Reader", "readCell", "(I)Z"⟩, 14) := ⟨⟨by decide +kernel, by decide +kernel⟩, List.mem_of_getElem? (i := 33) (by decide +kernel), List.mem_of_getElem? (i := 479) (by decide +kernel), List.mem_of_getElem? (i := 480) (by decide +kernel)⟩
theorem lw_p15 : lw_okq (⟨"ScanChart$Reader", "kindOfWord", "()I"⟩, 14) := ⟨⟨by decide +kernel, by decide +kernel⟩, List.mem_of_getElem? (i := 33) (by decide +kernel), List.mem_of_getElem? (i := 483) (by decide +kernel), List.mem_of_getElem? (i := 484) (by decide +kernel)⟩
def lw_privs_1 : List (MethodName × Nat) := [(⟨"ScanChart$Reader", "advance", "()V"⟩, 14), (⟨"ScanChart$Reader", "isLabel", "()Z"⟩, 14), (⟨"ScanChart$Reader", "readLabel", "()Z"⟩, 14), (⟨"ScanChart$Reader", "fail", "(I)Z"⟩, 14), (⟨"ScanChart$Reader", "readOp", "()LScanChart$Op;"⟩, 14), (⟨"ScanChart$Reader", "opSpelled", "(II)LScanChart$Op;"⟩, 14), (⟨"ScanChart$Reader", "isFull", "(LScanChart$Op;)Z"⟩, 14), (⟨"ScanChart$Reader", "isAllowedByBrackets", "(LScanChart$Op;)Z"⟩, 14), (⟨"ScanChart$Reader", "readGo", "()Z"⟩, 14), (⟨"ScanChart$Reader", "readSteps", "()I"⟩, 14), (⟨"ScanChart$Reader", "isFigures", "()Z"⟩, 14), (⟨"ScanChart$Reader", "readFigures", "(II)Z"⟩, 14), (⟨"ScanChart$Reader", "noteNamed", "([III)V"⟩, 14), (⟨"ScanChart$Reader", "isWord", "(Ljava/lang/String;)Z"⟩, 14), (⟨"ScanChart$Reader", "readCell", "(I)Z"⟩, 14), (⟨"ScanChart$Reader", "kindOfWord", "()I"⟩, 14)]
theorem lw_r1 : ∀ q ∈ lw_privs_1, lw_okq q := List.forall_mem_cons.mpr ⟨lw_p0, List.forall_mem_cons.mpr ⟨lw_p1, List.forall_mem_cons.mpr ⟨lw_p2, List.forall_mem_cons.mpr ⟨lw_p3, List.forall_mem_cons.mpr ⟨lw_p4, List.forall_mem_cons.mpr ⟨lw_p5, List.forall_mem_cons.mpr ⟨lw_p6, List.forall_mem_cons.mpr ⟨lw_p7, List.forall_mem_cons.mpr ⟨lw_p8, List.forall_mem_cons.mpr ⟨lw_p9, List.forall_mem_cons.mpr ⟨lw_p10, List.forall_mem_cons.mpr ⟨lw_p11, List.forall_mem_cons.mpr ⟨lw_p12, List.forall_mem_cons.mpr ⟨lw_p13, List.forall_mem_cons.mpr ⟨lw_p14, List.forall_mem_cons.mpr ⟨lw_p15, fun _ h => absurd h List.not_mem_nil⟩⟩⟩⟩⟩⟩⟩⟩⟩⟩⟩⟩⟩⟩⟩⟩
theorem lw_p16 : lw_okq (⟨"ScanChart$Reader", "readStep", "()Z"⟩, 14) := ⟨⟨by decide +kernel, by decide +kernel⟩, List.mem_of_getElem? (i := 33) (by decide +kernel), List.mem_of_getElem? (i := 561) (by decide +kernel), List.mem_of_getElem? (i := 562) (by decide +kernel)⟩
theorem lw_p17 : lw_okq (⟨"ScanChart$Reader", "failAt", "(II)Z"⟩, 14) := ⟨⟨by decide +kernel, by decide +kernel⟩, List.mem_of_getElem? (i := 33) (by decide +kernel), List.mem_of_getElem? (i := 565) (by decide +kernel), List.mem_of_getElem? (i := 566) (by decide +kernel)⟩
theorem lw_p18 : lw_okq (⟨"ScanChart$Reader", "actionOfWord", "()I"⟩, 14) := ⟨⟨by decide +kernel, by decide +kernel⟩, List.mem_of_getElem? (i := 33) (by decide +kernel), List.mem_of_getElem? (i := 569) (by decide +kernel), List.mem_of_getElem? (i := 570) (by decide +kernel)⟩
theorem lw_p19 : lw_okq (⟨"ScanChart$Reader", "readOperands", "(LScanChart$Op;)Z"⟩, 14) := ⟨⟨by decide +kernel, by decide +kernel⟩, List.mem_of_getElem? (i := 33) (by decide +kernel), List.mem_of_getElem? (i := 580) (by decide +kernel), List.mem_of_getElem? (i := 581) (by decide +kernel)⟩
theorem lw_p20 : lw_okq (⟨"ScanChart$Reader", "operandsOf", "(LScanChart$Op;)I"⟩, 14) := ⟨⟨by decide +kernel, by decide +kernel⟩, List.mem_of_getElem? (i := 33) (by decide +kernel), List.mem_of_getElem? (i := 584) (by decide +kernel), List.mem_of_getElem? (i := 585) (by decide +kernel)⟩
theorem lw_p21 : lw_okq (⟨"ScanChart$Reader", "findNoneMissing", "()Z"⟩, 14) := ⟨⟨by decide +kernel, by decide +kernel⟩, List.mem_of_getElem? (i := 33) (by decide +kernel), List.mem_of_getElem? (i := 594) (by decide +kernel), List.mem_of_getElem? (i := 595) (by decide +kernel)⟩
theorem lw_p22 : lw_okq (⟨"java/lang/Throwable", "fillInStackTrace", "(I)Ljava/lang/Throwable;"⟩, 6) := ⟨⟨by decide +kernel, by decide +kernel⟩, List.mem_of_getElem? (i := 682) (by decide +kernel), List.mem_of_getElem? (i := 680) (by decide +kernel), List.mem_of_getElem? (i := 681) (by decide +kernel)⟩
theorem lw_p23 : lw_okq (⟨"ScanChart$Machine", "performList", "(LScanChart$Program;)V"⟩, 12) := ⟨⟨by decide +kernel, by decide +kernel⟩, List.mem_of_getElem? (i := 190) (by decide +kernel), List.mem_of_getElem? (i := 758) (by decide +kernel), List.mem_of_getElem? (i := 759) (by decide +kernel)⟩
theorem lw_p24 : lw_okq (⟨"ScanChart$Machine", "performBlock", "(LScanChart$Op;II)V"⟩, 12) := ⟨⟨by decide +kernel, by decide +kernel⟩, List.mem_of_getElem? (i := 190) (by decide +kernel), List.mem_of_getElem? (i := 771) (by decide +kernel), List.mem_of_getElem? (i := 772) (by decide +kernel)⟩
theorem lw_p25 : lw_okq (⟨"ScanChart$Machine", "perform", "(LScanChart$Op;LScanChart$Program;I)V"⟩, 12) := ⟨⟨by decide +kernel, by decide +kernel⟩, List.mem_of_getElem? (i := 190) (by decide +kernel), List.mem_of_getElem? (i := 840) (by decide +kernel), List.mem_of_getElem? (i := 841) (by decide +kernel)⟩
theorem lw_p26 : lw_okq (⟨"ScanChart$Machine", "putAside", "(LScanChart$Op;)V"⟩, 12) := ⟨⟨by decide +kernel, by decide +kernel⟩, List.mem_of_getElem? (i := 190) (by decide +kernel), List.mem_of_getElem? (i := 848) (by decide +kernel), List.mem_of_getElem? (i := 849) (by decide +kernel)⟩
theorem lw_p27 : lw_okq (⟨"ScanChart$Machine", "calculate", "(LScanChart$Op;II)I"⟩, 12) := ⟨⟨by decide +kernel, by decide +kernel⟩, List.mem_of_getElem? (i := 190) (by decide +kernel), List.mem_of_getElem? (i := 852) (by decide +kernel), List.mem_of_getElem? (i := 853) (by decide +kernel)⟩
theorem lw_p28 : lw_okq (⟨"ScanChart$Machine", "compare", "(LScanChart$Op;II)Z"⟩, 12) := ⟨⟨by decide +kernel, by decide +kernel⟩, List.mem_of_getElem? (i := 190) (by decide +kernel), List.mem_of_getElem? (i := 858) (by decide +kernel), List.mem_of_getElem? (i := 859) (by decide +kernel)⟩
theorem lw_p29 : lw_okq (⟨"ScanChart$Machine", "takeBack", "()V"⟩, 12) := ⟨⟨by decide +kernel, by decide +kernel⟩, List.mem_of_getElem? (i := 190) (by decide +kernel), List.mem_of_getElem? (i := 870) (by decide +kernel), List.mem_of_getElem? (i := 871) (by decide +kernel)⟩
theorem lw_p30 : lw_okq (⟨"ScanChart$Machine", "goOn", "(LScanChart$Chart;)V"⟩, 12) := ⟨⟨by decide +kernel, by decide +kernel⟩, List.mem_of_getElem? (i := 190) (by decide +kernel), List.mem_of_getElem? (i := 878) (by decide +kernel), List.mem_of_getElem? (i := 879) (by decide +kernel)⟩
theorem lw_p31 : lw_okq (⟨"ScanChart$Machine", "isOpen", "(LScanChart$Chart;I)Z"⟩, 12) := ⟨⟨by decide +kernel, by decide +kernel⟩, List.mem_of_getElem? (i := 190) (by decide +kernel), List.mem_of_getElem? (i := 882) (by decide +kernel), List.mem_of_getElem? (i := 883) (by decide +kernel)⟩
def lw_privs_2 : List (MethodName × Nat) := [(⟨"ScanChart$Reader", "readStep", "()Z"⟩, 14), (⟨"ScanChart$Reader", "failAt", "(II)Z"⟩, 14), (⟨"ScanChart$Reader", "actionOfWord", "()I"⟩, 14), (⟨"ScanChart$Reader", "readOperands", "(LScanChart$Op;)Z"⟩, 14), (⟨"ScanChart$Reader", "operandsOf", "(LScanChart$Op;)I"⟩, 14), (⟨"ScanChart$Reader", "findNoneMissing", "()Z"⟩, 14), (⟨"java/lang/Throwable", "fillInStackTrace", "(I)Ljava/lang/Throwable;"⟩, 6), (⟨"ScanChart$Machine", "performList", "(LScanChart$Program;)V"⟩, 12), (⟨"ScanChart$Machine", "performBlock", "(LScanChart$Op;II)V"⟩, 12), (⟨"ScanChart$Machine", "perform", "(LScanChart$Op;LScanChart$Program;I)V"⟩, 12), (⟨"ScanChart$Machine", "putAside", "(LScanChart$Op;)V"⟩, 12), (⟨"ScanChart$Machine", "calculate", "(LScanChart$Op;II)I"⟩, 12), (⟨"ScanChart$Machine", "compare", "(LScanChart$Op;II)Z"⟩, 12), (⟨"ScanChart$Machine", "takeBack", "()V"⟩, 12), (⟨"ScanChart$Machine", "goOn", "(LScanChart$Chart;)V"⟩, 12), (⟨"ScanChart$Machine", "isOpen", "(LScanChart$Chart;I)Z"⟩, 12)]
theorem lw_r2 : ∀ q ∈ lw_privs_2, lw_okq q := List.forall_mem_cons.mpr ⟨lw_p16, List.forall_mem_cons.mpr ⟨lw_p17, List.forall_mem_cons.mpr ⟨lw_p18, List.forall_mem_cons.mpr ⟨lw_p19, List.forall_mem_cons.mpr ⟨lw_p20, List.forall_mem_cons.mpr ⟨lw_p21, List.forall_mem_cons.mpr ⟨lw_p22, List.forall_mem_cons.mpr ⟨lw_p23, List.forall_mem_cons.mpr ⟨lw_p24, List.forall_mem_cons.mpr ⟨lw_p25, List.forall_mem_cons.mpr ⟨lw_p26, List.forall_mem_cons.mpr ⟨lw_p27, List.forall_mem_cons.mpr ⟨lw_p28, List.forall_mem_cons.mpr ⟨lw_p29, List.forall_mem_cons.mpr ⟨lw_p30, List.forall_mem_cons.mpr ⟨lw_p31, fun _ h => absurd h List.not_mem_nil⟩⟩⟩⟩⟩⟩⟩⟩⟩⟩⟩⟩⟩⟩⟩⟩
theorem lw_p32 : lw_okq (⟨"ScanChart$Machine", "act", "(LScanChart$Chart;)V"⟩, 12) := ⟨⟨by decide +kernel, by decide +kernel⟩, List.mem_of_getElem? (i := 190) (by decide +kernel), List.mem_of_getElem? (i := 886) (by decide +kernel), List.mem_of_getElem? (i := 887) (by decide +kernel)⟩
theorem lw_p33 : lw_okq (⟨"ScanChart$Machine", "actAs", "(LScanChart$Chart;IIZ)V"⟩, 12) := ⟨⟨by decide +kernel, by decide +kernel⟩, List.mem_of_getElem? (i := 190) (by decide +kernel), List.mem_of_getElem? (i := 891) (by decide +kernel), List.mem_of_getElem? (i := 892) (by decide +kernel)⟩
theorem lw_p34 : lw_okq (⟨"ScanChartModel", "resetAll", "()V"⟩, 61) := ⟨⟨by decide +kernel, by decide +kernel⟩, List.mem_of_getElem? (i := 938) (by decide +kernel), List.mem_of_getElem? (i := 944) (by decide +kernel), List.mem_of_getElem? (i := 945) (by decide +kernel)⟩
theorem lw_p35 : lw_okq (⟨"ScanChartModel", "begin", "()V"⟩, 61) := ⟨⟨by decide +kernel, by decide +kernel⟩, List.mem_of_getElem? (i := 938) (by decide +kernel), List.mem_of_getElem? (i := 1151) (by decide +kernel), List.mem_of_getElem? (i := 1152) (by decide +kernel)⟩
theorem lw_p36 : lw_okq (⟨"ScanChartModel", "next", "()V"⟩, 61) := ⟨⟨by decide +kernel, by decide +kernel⟩, List.mem_of_getElem? (i := 938) (by decide +kernel), List.mem_of_getElem? (i := 1155) (by decide +kernel), List.mem_of_getElem? (i := 1156) (by decide +kernel)⟩
theorem lw_p37 : lw_okq (⟨"ScanChartModel", "isEnd", "()Z"⟩, 61) := ⟨⟨by decide +kernel, by decide +kernel⟩, List.mem_of_getElem? (i := 938) (by decide +kernel), List.mem_of_getElem? (i := 1159) (by decide +kernel), List.mem_of_getElem? (i := 1160) (by decide +kernel)⟩
theorem lw_p38 : lw_okq (⟨"ScanChartModel", "isLineEnd", "()Z"⟩, 61) := ⟨⟨by decide +kernel, by decide +kernel⟩, List.mem_of_getElem? (i := 938) (by decide +kernel), List.mem_of_getElem? (i := 1163) (by decide +kernel), List.mem_of_getElem? (i := 1164) (by decide +kernel)⟩
theorem lw_p39 : lw_okq (⟨"ScanChartModel", "line", "()V"⟩, 61) := ⟨⟨by decide +kernel, by decide +kernel⟩, List.mem_of_getElem? (i := 938) (by decide +kernel), List.mem_of_getElem? (i := 1167) (by decide +kernel), List.mem_of_getElem? (i := 1168) (by decide +kernel)⟩
theorem lw_p40 : lw_okq (⟨"ScanChartModel", "byteAt", "(I)I"⟩, 61) := ⟨⟨by decide +kernel, by decide +kernel⟩, List.mem_of_getElem? (i := 938) (by decide +kernel), List.mem_of_getElem? (i := 1171) (by decide +kernel), List.mem_of_getElem? (i := 1172) (by decide +kernel)⟩
theorem lw_p41 : lw_okq (⟨"ScanChartModel", "labelWord", "(I)I"⟩, 61) := ⟨⟨by decide +kernel, by decide +kernel⟩, List.mem_of_getElem? (i := 938) (by decide +kernel), List.mem_of_getElem? (i := 1175) (by decide +kernel), List.mem_of_getElem? (i := 1176) (by decide +kernel)⟩
theorem lw_p42 : lw_okq (⟨"ScanChartModel", "fail", "(II)V"⟩, 61) := ⟨⟨by decide +kernel, by decide +kernel⟩, List.mem_of_getElem? (i := 938) (by decide +kernel), List.mem_of_getElem? (i := 1179) (by decide +kernel), List.mem_of_getElem? (i := 1180) (by decide +kernel)⟩
theorem lw_p43 : lw_okq (⟨"ScanChartModel", "small", "(III)I"⟩, 61) := ⟨⟨by decide +kernel, by decide +kernel⟩, List.mem_of_getElem? (i := 938) (by decide +kernel), List.mem_of_getElem? (i := 1183) (by decide +kernel), List.mem_of_getElem? (i := 1184) (by decide +kernel)⟩
theorem lw_p44 : lw_okq (⟨"ScanChartModel", "areFigures", "(II)Z"⟩, 61) := ⟨⟨by decide +kernel, by decide +kernel⟩, List.mem_of_getElem? (i := 938) (by decide +kernel), List.mem_of_getElem? (i := 1187) (by decide +kernel), List.mem_of_getElem? (i := 1188) (by decide +kernel)⟩
theorem lw_p45 : lw_okq (⟨"ScanChartModel", "value", "(II)J"⟩, 61) := ⟨⟨by decide +kernel, by decide +kernel⟩, List.mem_of_getElem? (i := 938) (by decide +kernel), List.mem_of_getElem? (i := 1194) (by decide +kernel), List.mem_of_getElem? (i := 1195) (by decide +kernel)⟩
theorem lw_p46 : lw_okq (⟨"ScanChartModel", "code", "()J"⟩, 61) := ⟨⟨by decide +kernel, by decide +kernel⟩, List.mem_of_getElem? (i := 938) (by decide +kernel), List.mem_of_getElem? (i := 1201) (by decide +kernel), List.mem_of_getElem? (i := 1202) (by decide +kernel)⟩
theorem lw_p47 : lw_okq (⟨"ScanChartModel", "step", "()V"⟩, 61) := ⟨⟨by decide +kernel, by decide +kernel⟩, List.mem_of_getElem? (i := 938) (by decide +kernel), List.mem_of_getElem? (i := 1206) (by decide +kernel), List.mem_of_getElem? (i := 1207) (by decide +kernel)⟩
def lw_privs_3 : List (MethodName × Nat) := [(⟨"ScanChart$Machine", "act", "(LScanChart$Chart;)V"⟩, 12), (⟨"ScanChart$Machine", "actAs", "(LScanChart$Chart;IIZ)V"⟩, 12), (⟨"ScanChartModel", "resetAll", "()V"⟩, 61), (⟨"ScanChartModel", "begin", "()V"⟩, 61), (⟨"ScanChartModel", "next", "()V"⟩, 61), (⟨"ScanChartModel", "isEnd", "()Z"⟩, 61), (⟨"ScanChartModel", "isLineEnd", "()Z"⟩, 61), (⟨"ScanChartModel", "line", "()V"⟩, 61), (⟨"ScanChartModel", "byteAt", "(I)I"⟩, 61), (⟨"ScanChartModel", "labelWord", "(I)I"⟩, 61), (⟨"ScanChartModel", "fail", "(II)V"⟩, 61), (⟨"ScanChartModel", "small", "(III)I"⟩, 61), (⟨"ScanChartModel", "areFigures", "(II)Z"⟩, 61), (⟨"ScanChartModel", "value", "(II)J"⟩, 61), (⟨"ScanChartModel", "code", "()J"⟩, 61), (⟨"ScanChartModel", "step", "()V"⟩, 61)]
theorem lw_r3 : ∀ q ∈ lw_privs_3, lw_okq q := List.forall_mem_cons.mpr ⟨lw_p32, List.forall_mem_cons.mpr ⟨lw_p33, List.forall_mem_cons.mpr ⟨lw_p34, List.forall_mem_cons.mpr ⟨lw_p35, List.forall_mem_cons.mpr ⟨lw_p36, List.forall_mem_cons.mpr ⟨lw_p37, List.forall_mem_cons.mpr ⟨lw_p38, List.forall_mem_cons.mpr ⟨lw_p39, List.forall_mem_cons.mpr ⟨lw_p40, List.forall_mem_cons.mpr ⟨lw_p41, List.forall_mem_cons.mpr ⟨lw_p42, List.forall_mem_cons.mpr ⟨lw_p43, List.forall_mem_cons.mpr ⟨lw_p44, List.forall_mem_cons.mpr ⟨lw_p45, List.forall_mem_cons.mpr ⟨lw_p46, List.forall_mem_cons.mpr ⟨lw_p47, fun _ h => absurd h List.not_mem_nil⟩⟩⟩⟩⟩⟩⟩⟩⟩⟩⟩⟩⟩⟩⟩⟩
theorem lw_p48 : lw_okq (⟨"ScanChartModel", "actions", "(I)V"⟩, 61) := ⟨⟨by decide +kernel, by decide +kernel⟩, List.mem_of_getElem? (i := 938) (by decide +kernel), List.mem_of_getElem? (i := 1210) (by decide +kernel), List.mem_of_getElem? (i := 1211) (by decide +kernel)⟩
theorem lw_p49 : lw_okq (⟨"ScanChartModel", "operand", "(I)V"⟩, 61) := ⟨⟨by decide +kernel, by decide +kernel⟩, List.mem_of_getElem? (i := 938) (by decide +kernel), List.mem_of_getElem? (i := 1217) (by decide +kernel), List.mem_of_getElem? (i := 1218) (by decide +kernel)⟩
theorem lw_p50 : lw_okq (⟨"ScanChartModel", "cellKind", "()I"⟩, 61) := ⟨⟨by decide +kernel, by decide +kernel⟩, List.mem_of_getElem? (i := 938) (by decide +kernel), List.mem_of_getElem? (i := 1221) (by decide +kernel), List.mem_of_getElem? (i := 1222) (by decide +kernel)⟩
theorem lw_p51 : lw_okq (⟨"ScanChartModel", "go", "()V"⟩, 61) := ⟨⟨by decide +kernel, by decide +kernel⟩, List.mem_of_getElem? (i := 938) (by decide +kernel), List.mem_of_getElem? (i := 1231) (by decide +kernel), List.mem_of_getElem? (i := 1232) (by decide +kernel)⟩
theorem lw_p52 : lw_okq (⟨"ScanChartModel", "some", "()I"⟩, 61) := ⟨⟨by decide +kernel, by decide +kernel⟩, List.mem_of_getElem? (i := 938) (by decide +kernel), List.mem_of_getElem? (i := 1235) (by decide +kernel), List.mem_of_getElem? (i := 1236) (by decide +kernel)⟩
theorem lw_p53 : lw_okq (⟨"ScanChartModel", "names", "(I)V"⟩, 61) := ⟨⟨by decide +kernel, by decide +kernel⟩, List.mem_of_getElem? (i := 938) (by decide +kernel), List.mem_of_getElem? (i := 1239) (by decide +kernel), List.mem_of_getElem? (i := 1240) (by decide +kernel)⟩
theorem lw_p54 : lw_okq (⟨"ScanChartModel", "isMove", "(J)Z"⟩, 61) := ⟨⟨by decide +kernel, by decide +kernel⟩, List.mem_of_getElem? (i := 938) (by decide +kernel), List.mem_of_getElem? (i := 1246) (by decide +kernel), List.mem_of_getElem? (i := 1247) (by decide +kernel)⟩
theorem lw_p55 : lw_okq (⟨"ScanChartModel", "mayComeNow", "()Z"⟩, 61) := ⟨⟨by decide +kernel, by decide +kernel⟩, List.mem_of_getElem? (i := 938) (by decide +kernel), List.mem_of_getElem? (i := 1254) (by decide +kernel), List.mem_of_getElem? (i := 1255) (by decide +kernel)⟩
theorem lw_p56 : lw_okq (⟨"ScanChartModel", "add", "(IIIII)V"⟩, 61) := ⟨⟨by decide +kernel, by decide +kernel⟩, List.mem_of_getElem? (i := 938) (by decide +kernel), List.mem_of_getElem? (i := 1258) (by decide +kernel), List.mem_of_getElem? (i := 1259) (by decide +kernel)⟩
theorem lw_p57 : lw_okq (⟨"ScanChartModel", "isSign", "(J)Z"⟩, 61) := ⟨⟨by decide +kernel, by decide +kernel⟩, List.mem_of_getElem? (i := 938) (by decide +kernel), List.mem_of_getElem? (i := 1262) (by decide +kernel), List.mem_of_getElem? (i := 1263) (by decide +kernel)⟩
theorem lw_p58 : lw_okq (⟨"ScanChartModel", "isJump", "(J)Z"⟩, 61) := ⟨⟨by decide +kernel, by decide +kernel⟩, List.mem_of_getElem? (i := 938) (by decide +kernel), List.mem_of_getElem? (i := 1283) (by decide +kernel), List.mem_of_getElem? (i := 1284) (by decide +kernel)⟩
theorem lw_p59 : lw_okq (⟨"ScanChartModel", "isBlock", "(J)Z"⟩, 61) := ⟨⟨by decide +kernel, by decide +kernel⟩, List.mem_of_getElem? (i := 938) (by decide +kernel), List.mem_of_getElem? (i := 1293) (by decide +kernel), List.mem_of_getElem? (i := 1294) (by decide +kernel)⟩
theorem lw_p60 : lw_okq (⟨"ScanChartModel", "lettered", "(II)I"⟩, 61) := ⟨⟨by decide +kernel, by decide +kernel⟩, List.mem_of_getElem? (i := 938) (by decide +kernel), List.mem_of_getElem? (i := 1305) (by decide +kernel), List.mem_of_getElem? (i := 1306) (by decide +kernel)⟩
theorem lw_p61 : lw_okq (⟨"ScanChartModel", "great", "(II)I"⟩, 61) := ⟨⟨by decide +kernel, by decide +kernel⟩, List.mem_of_getElem? (i := 938) (by decide +kernel), List.mem_of_getElem? (i := 1310) (by decide +kernel), List.mem_of_getElem? (i := 1311) (by decide +kernel)⟩
theorem lw_p62 : lw_okq (⟨"ScanChartModel", "isAlone", "(J)Z"⟩, 61) := ⟨⟨by decide +kernel, by decide +kernel⟩, List.mem_of_getElem? (i := 938) (by decide +kernel), List.mem_of_getElem? (i := 1314) (by decide +kernel), List.mem_of_getElem? (i := 1315) (by decide +kernel)⟩
theorem lw_p63 : lw_okq (⟨"ScanChartModel", "scanOnce", "(I)I"⟩, 61) := ⟨⟨by decide +kernel, by decide +kernel⟩, List.mem_of_getElem? (i := 938) (by decide +kernel), List.mem_of_getElem? (i := 1336) (by decide +kernel), List.mem_of_getElem? (i := 1337) (by decide +kernel)⟩
def lw_privs_4 : List (MethodName × Nat) := [(⟨"ScanChartModel", "actions", "(I)V"⟩, 61), (⟨"ScanChartModel", "operand", "(I)V"⟩, 61), (⟨"ScanChartModel", "cellKind", "()I"⟩, 61), (⟨"ScanChartModel", "go", "()V"⟩, 61), (⟨"ScanChartModel", "some", "()I"⟩, 61), (⟨"ScanChartModel", "names", "(I)V"⟩, 61), (⟨"ScanChartModel", "isMove", "(J)Z"⟩, 61), (⟨"ScanChartModel", "mayComeNow", "()Z"⟩, 61), (⟨"ScanChartModel", "add", "(IIIII)V"⟩, 61), (⟨"ScanChartModel", "isSign", "(J)Z"⟩, 61), (⟨"ScanChartModel", "isJump", "(J)Z"⟩, 61), (⟨"ScanChartModel", "isBlock", "(J)Z"⟩, 61), (⟨"ScanChartModel", "lettered", "(II)I"⟩, 61), (⟨"ScanChartModel", "great", "(II)I"⟩, 61), (⟨"ScanChartModel", "isAlone", "(J)Z"⟩, 61), (⟨"ScanChartModel", "scanOnce", "(I)I"⟩, 61)]
theorem lw_r4 : ∀ q ∈ lw_privs_4, lw_okq q := List.forall_mem_cons.mpr ⟨lw_p48, List.forall_mem_cons.mpr ⟨lw_p49, List.forall_mem_cons.mpr ⟨lw_p50, List.forall_mem_cons.mpr ⟨lw_p51, List.forall_mem_cons.mpr ⟨lw_p52, List.forall_mem_cons.mpr ⟨lw_p53, List.forall_mem_cons.mpr ⟨lw_p54, List.forall_mem_cons.mpr ⟨lw_p55, List.forall_mem_cons.mpr ⟨lw_p56, List.forall_mem_cons.mpr ⟨lw_p57, List.forall_mem_cons.mpr ⟨lw_p58, List.forall_mem_cons.mpr ⟨lw_p59, List.forall_mem_cons.mpr ⟨lw_p60, List.forall_mem_cons.mpr ⟨lw_p61, List.forall_mem_cons.mpr ⟨lw_p62, List.forall_mem_cons.mpr ⟨lw_p63, fun _ h => absurd h List.not_mem_nil⟩⟩⟩⟩⟩⟩⟩⟩⟩⟩⟩⟩⟩⟩⟩⟩
theorem lw_p64 : lw_okq (⟨"ScanChartModel", "list", "()I"⟩, 61) := ⟨⟨by decide +kernel, by decide +kernel⟩, List.mem_of_getElem? (i := 938) (by decide +kernel), List.mem_of_getElem? (i := 1343) (by decide +kernel), List.mem_of_getElem? (i := 1344) (by decide +kernel)⟩
theorem lw_p65 : lw_okq (⟨"ScanChartModel", "act", "(I)I"⟩, 61) := ⟨⟨by decide +kernel, by decide +kernel⟩, List.mem_of_getElem? (i := 938) (by decide +kernel), List.mem_of_getElem? (i := 1347) (by decide +kernel), List.mem_of_getElem? (i := 1348) (by decide +kernel)⟩
theorem lw_p66 : lw_okq (⟨"ScanChartModel", "signed", "(I)I"⟩, 61) := ⟨⟨by decide +kernel, by decide +kernel⟩, List.mem_of_getElem? (i := 938) (by decide +kernel), List.mem_of_getElem? (i := 1351) (by decide +kernel), List.mem_of_getElem? (i := 1352) (by decide +kernel)⟩
theorem lw_p67 : lw_okq (⟨"ScanChartModel", "cell", "(II)I"⟩, 61) := ⟨⟨by decide +kernel, by decide +kernel⟩, List.mem_of_getElem? (i := 938) (by decide +kernel), List.mem_of_getElem? (i := 1355) (by decide +kernel), List.mem_of_getElem? (i := 1356) (by decide +kernel)⟩
theorem lw_p68 : lw_okq (⟨"ScanChartModel", "join", "(III)I"⟩, 61) := ⟨⟨by decide +kernel, by decide +kernel⟩, List.mem_of_getElem? (i := 938) (by decide +kernel), List.mem_of_getElem? (i := 1359) (by decide +kernel), List.mem_of_getElem? (i := 1360) (by decide +kernel)⟩
theorem lw_p69 : lw_okq (⟨"ScanChartModel", "store", "(I)V"⟩, 61) := ⟨⟨by decide +kernel, by decide +kernel⟩, List.mem_of_getElem? (i := 938) (by decide +kernel), List.mem_of_getElem? (i := 1366) (by decide +kernel), List.mem_of_getElem? (i := 1367) (by decide +kernel)⟩
theorem lw_p70 : lw_okq (⟨"ScanChartModel", "setBit", "(III)V"⟩, 61) := ⟨⟨by decide +kernel, by decide +kernel⟩, List.mem_of_getElem? (i := 938) (by decide +kernel), List.mem_of_getElem? (i := 1370) (by decide +kernel), List.mem_of_getElem? (i := 1371) (by decide +kernel)⟩
theorem lw_p71 : lw_okq (⟨"ScanChartModel", "close", "()I"⟩, 61) := ⟨⟨by decide +kernel, by decide +kernel⟩, List.mem_of_getElem? (i := 938) (by decide +kernel), List.mem_of_getElem? (i := 1374) (by decide +kernel), List.mem_of_getElem? (i := 1375) (by decide +kernel)⟩
theorem lw_p72 : lw_okq (⟨"ScanChartModel", "timer", "(III)V"⟩, 61) := ⟨⟨by decide +kernel, by decide +kernel⟩, List.mem_of_getElem? (i := 938) (by decide +kernel), List.mem_of_getElem? (i := 1378) (by decide +kernel), List.mem_of_getElem? (i := 1379) (by decide +kernel)⟩
theorem lw_p73 : lw_okq (⟨"ScanChartModel", "past", "(JI)I"⟩, 61) := ⟨⟨by decide +kernel, by decide +kernel⟩, List.mem_of_getElem? (i := 938) (by decide +kernel), List.mem_of_getElem? (i := 1382) (by decide +kernel), List.mem_of_getElem? (i := 1383) (by decide +kernel)⟩
theorem lw_p74 : lw_okq (⟨"ScanChartModel", "counter", "(III)V"⟩, 61) := ⟨⟨by decide +kernel, by decide +kernel⟩, List.mem_of_getElem? (i := 938) (by decide +kernel), List.mem_of_getElem? (i := 1386) (by decide +kernel), List.mem_of_getElem? (i := 1387) (by decide +kernel)⟩
theorem lw_p75 : lw_okq (⟨"ScanChartModel", "edge", "(II)V"⟩, 61) := ⟨⟨by decide +kernel, by decide +kernel⟩, List.mem_of_getElem? (i := 938) (by decide +kernel), List.mem_of_getElem? (i := 1390) (by decide +kernel), List.mem_of_getElem? (i := 1391) (by decide +kernel)⟩
theorem lw_p76 : lw_okq (⟨"ScanChartModel", "chart", "()V"⟩, 61) := ⟨⟨by decide +kernel, by decide +kernel⟩, List.mem_of_getElem? (i := 938) (by decide +kernel), List.mem_of_getElem? (i := 1394) (by decide +kernel), List.mem_of_getElem? (i := 1395) (by decide +kernel)⟩
def lw_privs_5 : List (MethodName × Nat) := [(⟨"ScanChartModel", "list", "()I"⟩, 61), (⟨"ScanChartModel", "act", "(I)I"⟩, 61), (⟨"ScanChartModel", "signed", "(I)I"⟩, 61), (⟨"ScanChartModel", "cell", "(II)I"⟩, 61), (⟨"ScanChartModel", "join", "(III)I"⟩, 61), (⟨"ScanChartModel", "store", "(I)V"⟩, 61), (⟨"ScanChartModel", "setBit", "(III)V"⟩, 61), (⟨"ScanChartModel", "close", "()I"⟩, 61), (⟨"ScanChartModel", "timer", "(III)V"⟩, 61), (⟨"ScanChartModel", "past", "(JI)I"⟩, 61), (⟨"ScanChartModel", "counter", "(III)V"⟩, 61), (⟨"ScanChartModel", "edge", "(II)V"⟩, 61), (⟨"ScanChartModel", "chart", "()V"⟩, 61)]
theorem lw_r5 : ∀ q ∈ lw_privs_5, lw_okq q := List.forall_mem_cons.mpr ⟨lw_p64, List.forall_mem_cons.mpr ⟨lw_p65, List.forall_mem_cons.mpr ⟨lw_p66, List.forall_mem_cons.mpr ⟨lw_p67, List.forall_mem_cons.mpr ⟨lw_p68, List.forall_mem_cons.mpr ⟨lw_p69, List.forall_mem_cons.mpr ⟨lw_p70, List.forall_mem_cons.mpr ⟨lw_p71, List.forall_mem_cons.mpr ⟨lw_p72, List.forall_mem_cons.mpr ⟨lw_p73, List.forall_mem_cons.mpr ⟨lw_p74, List.forall_mem_cons.mpr ⟨lw_p75, List.forall_mem_cons.mpr ⟨lw_p76, fun _ h => absurd h List.not_mem_nil⟩⟩⟩⟩⟩⟩⟩⟩⟩⟩⟩⟩⟩
def lw_privs : List (MethodName × Nat) := lw_privs_1 ++ (lw_privs_2 ++ (lw_privs_3 ++ (lw_privs_4 ++ (lw_privs_5))))
def lw_tbl : List Cond := k2_sels lw_privs ++ tables_1
theorem lw_privs_ok : ∀ q ∈ lw_privs, lw_okq q := by
  show ∀ q ∈ lw_privs_1 ++ (lw_privs_2 ++ (lw_privs_3 ++ (lw_privs_4 ++ (lw_privs_5)))), lw_okq q
  exact List.forall_mem_append.mpr ⟨lw_r1, List.forall_mem_append.mpr ⟨lw_r2, List.forall_mem_append.mpr ⟨lw_r3, List.forall_mem_append.mpr ⟨lw_r4, lw_r5⟩⟩⟩⟩
/-! ===== BEGIN printed: names, fields, word lists, decode rows ===== -/
def RX0 : String := "ScanChart$1"
def TX0 : u_T := fun k => match k with
  | _ => ("", "", "", false)
def tyX0 : Nat → FieldType := fun k => match k with
  | _ => .int
abbrev wsX00 : List Cond := u_ws RX0 TX0 0
theorem nmX0 : ∀ a, a < 0 → ∀ b, b < 0 → a ≠ b → (TX0 a).2.1 ≠ (TX0 b).2.1 := by decide +kernel
theorem tyX0_ok : ∀ k, k < 0 → parseFieldDescriptor (TX0 k).2.2.1 = some (tyX0 k) := by decide +kernel
def RX1 : String := "ScanChart$Cells"
def TX1 : u_T := fun k => match k with
  | 0 => ("ScanChart$Cells", "masks", "[I", true)
  | 1 => ("ScanChart$Cells", "words", "[I", true)
  | 2 => ("ScanChart$Cells", "elapsed", "[I", true)
  | _ => ("ScanChart$Cells", "counts", "[I", true)
def tyX1 : Nat → FieldType := fun k => match k with
  | 0 => .array .int
  | 1 => .array .int
  | 2 => .array .int
  | _ => .array .int
abbrev wsX10 : List Cond := u_ws RX1 TX1 4
theorem nmX1 : ∀ a, a < 4 → ∀ b, b < 4 → a ≠ b → (TX1 a).2.1 ≠ (TX1 b).2.1 := by decide +kernel
theorem tyX1_ok : ∀ k, k < 4 → parseFieldDescriptor (TX1 k).2.2.1 = some (tyX1 k) := by decide +kernel
abbrev cX1_init : ByteArray := prog_3_method_1_code
def yX1_init : MethodName := ⟨RX1, "<init>", "()V"⟩
abbrev cX1_clear : ByteArray := prog_3_method_2_code
def yX1_clear : MethodName := ⟨RX1, "clear", "()V"⟩
abbrev cX1_valueOf : ByteArray := prog_3_method_3_code
def yX1_valueOf : MethodName := ⟨RX1, "valueOf", "(II)I"⟩
abbrev cX1_setBit : ByteArray := prog_3_method_4_code
def yX1_setBit : MethodName := ⟨RX1, "setBit", "(IIZ)V"⟩
abbrev cX1_store : ByteArray := prog_3_method_5_code
def yX1_store : MethodName := ⟨RX1, "store", "(III)V"⟩
abbrev cX1_setTimer : ByteArray := prog_3_method_6_code
def yX1_setTimer : MethodName := ⟨RX1, "setTimer", "(IZI)V"⟩
abbrev cX1_setCount : ByteArray := prog_3_method_7_code
def yX1_setCount : MethodName := ⟨RX1, "setCount", "(II)V"⟩
def RX2 : String := "ScanChart$Chart"
def TX2 : u_T := fun k => match k with
  | 0 => ("ScanChart$Chart", "goBefore", "[I", true)
  | 1 => ("ScanChart$Chart", "goBehind", "[I", true)
  | 2 => ("ScanChart$Chart", "goConditions", "[I", true)
  | 3 => ("ScanChart$Chart", "goKinds", "[I", true)
  | 4 => ("ScanChart$Chart", "goNumbers", "[I", true)
  | 5 => ("ScanChart$Chart", "goCount", "I", false)
  | 6 => ("ScanChart$Chart", "actions", "[I", true)
  | 7 => ("ScanChart$Chart", "actionKinds", "[I", true)
  | 8 => ("ScanChart$Chart", "actionNumbers", "[I", true)
  | _ => ("ScanChart$Chart", "steps", "I", false)
def tyX2 : Nat → FieldType := fun k => match k with
  | 0 => .array .int
  | 1 => .array .int
  | 2 => .array .int
  | 3 => .array .int
  | 4 => .array .int
  | 5 => .int
  | 6 => .array .int
  | 7 => .array .int
  | 8 => .array .int
  | _ => .int
abbrev wsX20 : List Cond := u_ws RX2 TX2 10
theorem nmX2 : ∀ a, a < 10 → ∀ b, b < 10 → a ≠ b → (TX2 a).2.1 ≠ (TX2 b).2.1 := by decide +kernel
theorem tyX2_ok : ∀ k, k < 10 → parseFieldDescriptor (TX2 k).2.2.1 = some (tyX2 k) := by decide +kernel
abbrev cX2_init : ByteArray := prog_4_method_1_code
def yX2_init : MethodName := ⟨RX2, "<init>", "()V"⟩
abbrev cX2_clear : ByteArray := prog_4_method_2_code
def yX2_clear : MethodName := ⟨RX2, "clear", "()V"⟩
abbrev cX2_addGo : ByteArray := prog_4_method_3_code
def yX2_addGo : MethodName := ⟨RX2, "addGo", "(IIIII)V"⟩
abbrev cX2_addAction : ByteArray := prog_4_method_4_code
def yX2_addAction : MethodName := ⟨RX2, "addAction", "(IIIII)V"⟩
def RX3 : String := "ScanChart$Machine"
def TX3 : u_T := fun k => match k with
  | 0 => ("ScanChart$Machine", "cells", "LScanChart$Cells;", true)
  | 1 => ("ScanChart$Machine", "now", "J", false)
  | 2 => ("ScanChart$Machine", "outputs", "I", false)
  | 3 => ("ScanChart$Machine", "stop", "I", false)
  | 4 => ("ScanChart$Machine", "performed", "I", false)
  | 5 => ("ScanChart$Machine", "gosFired", "I", false)
  | 6 => ("ScanChart$Machine", "past", "LScanChart$Past;", true)
  | 7 => ("ScanChart$Machine", "result", "I", false)
  | 8 => ("ScanChart$Machine", "next", "I", false)
  | 9 => ("ScanChart$Machine", "open", "I", false)
  | 10 => ("ScanChart$Machine", "asideResults", "[I", true)
  | _ => ("ScanChart$Machine", "asideOps", "[LScanChart$Op;", true)
def tyX3 : Nat → FieldType := fun k => match k with
  | 0 => .object "ScanChart$Cells"
  | 1 => .long
  | 2 => .int
  | 3 => .int
  | 4 => .int
  | 5 => .int
  | 6 => .object "ScanChart$Past"
  | 7 => .int
  | 8 => .int
  | 9 => .int
  | 10 => .array .int
  | _ => .array (.object "ScanChart$Op")
abbrev wsX30 : List Cond := u_ws RX3 TX3 12
theorem nmX3 : ∀ a, a < 12 → ∀ b, b < 12 → a ≠ b → (TX3 a).2.1 ≠ (TX3 b).2.1 := by decide +kernel
theorem tyX3_ok : ∀ k, k < 12 → parseFieldDescriptor (TX3 k).2.2.1 = some (tyX3 k) := by decide +kernel
abbrev cX3_init : ByteArray := prog_5_method_1_code
def yX3_init : MethodName := ⟨RX3, "<init>", "()V"⟩
abbrev cX3_startAgain : ByteArray := prog_5_method_2_code
def yX3_startAgain : MethodName := ⟨RX3, "startAgain", "()V"⟩
abbrev cX3_goRound : ByteArray := prog_5_method_3_code
def yX3_goRound : MethodName := ⟨RX3, "goRound", "(LScanChart$Program;II)V"⟩
abbrev cX3_performList : ByteArray := prog_5_method_4_code
def yX3_performList : MethodName := ⟨RX3, "performList", "(LScanChart$Program;)V"⟩
abbrev cX3_perform : ByteArray := prog_5_method_5_code
def yX3_perform : MethodName := ⟨RX3, "perform", "(LScanChart$Op;LScanChart$Program;I)V"⟩
abbrev cX3_performBlock : ByteArray := prog_5_method_6_code
def yX3_performBlock : MethodName := ⟨RX3, "performBlock", "(LScanChart$Op;II)V"⟩
abbrev cX3_putAside : ByteArray := prog_5_method_7_code
def yX3_putAside : MethodName := ⟨RX3, "putAside", "(LScanChart$Op;)V"⟩
abbrev cX3_takeBack : ByteArray := prog_5_method_8_code
def yX3_takeBack : MethodName := ⟨RX3, "takeBack", "()V"⟩
abbrev cX3_calculate : ByteArray := prog_5_method_9_code
def yX3_calculate : MethodName := ⟨RX3, "calculate", "(LScanChart$Op;II)I"⟩
abbrev cX3_compare : ByteArray := prog_5_method_10_code
def yX3_compare : MethodName := ⟨RX3, "compare", "(LScanChart$Op;II)Z"⟩
abbrev cX3_goOn : ByteArray := prog_5_method_11_code
def yX3_goOn : MethodName := ⟨RX3, "goOn", "(LScanChart$Chart;)V"⟩
abbrev cX3_isOpen : ByteArray := prog_5_method_12_code
def yX3_isOpen : MethodName := ⟨RX3, "isOpen", "(LScanChart$Chart;I)Z"⟩
abbrev cX3_act : ByteArray := prog_5_method_13_code
def yX3_act : MethodName := ⟨RX3, "act", "(LScanChart$Chart;)V"⟩
abbrev cX3_actAs : ByteArray := prog_5_method_14_code
def yX3_actAs : MethodName := ⟨RX3, "actAs", "(LScanChart$Chart;IIZ)V"⟩
def RX4 : String := "ScanChart$Op"
def TX4 : u_T := fun k => match k with
  | _ => ("", "", "", false)
def tyX4 : Nat → FieldType := fun k => match k with
  | _ => .int
abbrev wsX40 : List Cond := u_ws RX4 TX4 0
theorem nmX4 : ∀ a, a < 0 → ∀ b, b < 0 → a ≠ b → (TX4 a).2.1 ≠ (TX4 b).2.1 := by decide +kernel
theorem tyX4_ok : ∀ k, k < 0 → parseFieldDescriptor (TX4 k).2.2.1 = some (tyX4 k) := by decide +kernel
abbrev cX4_counts : ByteArray := prog_6_method_4_code
def yX4_counts : MethodName := ⟨RX4, "counts", "(I)I"⟩
abbrev cX4_isBlock : ByteArray := prog_6_method_5_code
def yX4_isBlock : MethodName := ⟨RX4, "isBlock", "()Z"⟩
abbrev cX4_isTaken : ByteArray := prog_6_method_6_code
def yX4_isTaken : MethodName := ⟨RX4, "isTaken", "(I)Z"⟩
def RX5 : String := "ScanChart$Past"
def TX5 : u_T := fun k => match k with
  | 0 => ("ScanChart$Past", "onRuns", "I", false)
  | 1 => ("ScanChart$Past", "onBegan", "[J", true)
  | 2 => ("ScanChart$Past", "offHadIt", "I", false)
  | 3 => ("ScanChart$Past", "offRuns", "I", false)
  | 4 => ("ScanChart$Past", "offBegan", "[J", true)
  | 5 => ("ScanChart$Past", "pulseRuns", "I", false)
  | 6 => ("ScanChart$Past", "pulseBegan", "[J", true)
  | 7 => ("ScanChart$Past", "upHadIt", "I", false)
  | 8 => ("ScanChart$Past", "downHadIt", "I", false)
  | 9 => ("ScanChart$Past", "riseHadIt", "I", false)
  | _ => ("ScanChart$Past", "fallHadIt", "I", false)
def tyX5 : Nat → FieldType := fun k => match k with
  | 0 => .int
  | 1 => .array .long
  | 2 => .int
  | 3 => .int
  | 4 => .array .long
  | 5 => .int
  | 6 => .array .long
  | 7 => .int
  | 8 => .int
  | 9 => .int
  | _ => .int
abbrev wsX50 : List Cond := u_ws RX5 TX5 11
theorem nmX5 : ∀ a, a < 11 → ∀ b, b < 11 → a ≠ b → (TX5 a).2.1 ≠ (TX5 b).2.1 := by decide +kernel
theorem tyX5_ok : ∀ k, k < 11 → parseFieldDescriptor (TX5 k).2.2.1 = some (tyX5 k) := by decide +kernel
abbrev cX5_init : ByteArray := prog_7_method_1_code
def yX5_init : MethodName := ⟨RX5, "<init>", "()V"⟩
abbrev cX5_clear : ByteArray := prog_7_method_2_code
def yX5_clear : MethodName := ⟨RX5, "clear", "()V"⟩
abbrev cX5_begin : ByteArray := prog_7_method_3_code
def yX5_begin : MethodName := ⟨RX5, "begin", "([JIJ)V"⟩
abbrev cX5_goneSince : ByteArray := prog_7_method_4_code
def yX5_goneSince : MethodName := ⟨RX5, "goneSince", "([JIJI)I"⟩
abbrev cX5_delayOn : ByteArray := prog_7_method_5_code
def yX5_delayOn : MethodName := ⟨RX5, "delayOn", "(LScanChart$Cells;IZIJ)V"⟩
abbrev cX5_delayOff : ByteArray := prog_7_method_6_code
def yX5_delayOff : MethodName := ⟨RX5, "delayOff", "(LScanChart$Cells;IZIJ)V"⟩
abbrev cX5_pulse : ByteArray := prog_7_method_7_code
def yX5_pulse : MethodName := ⟨RX5, "pulse", "(LScanChart$Cells;IZIJ)V"⟩
abbrev cX5_countUp : ByteArray := prog_7_method_8_code
def yX5_countUp : MethodName := ⟨RX5, "countUp", "(LScanChart$Cells;IZI)V"⟩
abbrev cX5_countDown : ByteArray := prog_7_method_9_code
def yX5_countDown : MethodName := ⟨RX5, "countDown", "(LScanChart$Cells;IZ)V"⟩
abbrev cX5_rises : ByteArray := prog_7_method_10_code
def yX5_rises : MethodName := ⟨RX5, "rises", "(IZ)Z"⟩
abbrev cX5_falls : ByteArray := prog_7_method_11_code
def yX5_falls : MethodName := ⟨RX5, "falls", "(IZ)Z"⟩
def RX6 : String := "ScanChart$Program"
def TX6 : u_T := fun k => match k with
  | 0 => ("ScanChart$Program", "chart", "LScanChart$Chart;", true)
  | 1 => ("ScanChart$Program", "ops", "[LScanChart$Op;", true)
  | 2 => ("ScanChart$Program", "kinds", "[I", true)
  | 3 => ("ScanChart$Program", "numbers", "[I", true)
  | 4 => ("ScanChart$Program", "limits", "[I", true)
  | 5 => ("ScanChart$Program", "labels", "[I", true)
  | _ => ("ScanChart$Program", "count", "I", false)
def tyX6 : Nat → FieldType := fun k => match k with
  | 0 => .object "ScanChart$Chart"
  | 1 => .array (.object "ScanChart$Op")
  | 2 => .array .int
  | 3 => .array .int
  | 4 => .array .int
  | 5 => .array .int
  | _ => .int
abbrev wsX60 : List Cond := u_ws RX6 TX6 7
theorem nmX6 : ∀ a, a < 7 → ∀ b, b < 7 → a ≠ b → (TX6 a).2.1 ≠ (TX6 b).2.1 := by decide +kernel
theorem tyX6_ok : ∀ k, k < 7 → parseFieldDescriptor (TX6 k).2.2.1 = some (tyX6 k) := by decide +kernel
abbrev cX6_init : ByteArray := prog_8_method_1_code
def yX6_init : MethodName := ⟨RX6, "<init>", "()V"⟩
abbrev cX6_clear : ByteArray := prog_8_method_2_code
def yX6_clear : MethodName := ⟨RX6, "clear", "()V"⟩
abbrev cX6_add : ByteArray := prog_8_method_3_code
def yX6_add : MethodName := ⟨RX6, "add", "(LScanChart$Op;III)V"⟩
abbrev cX6_opAt : ByteArray := prog_8_method_4_code
def yX6_opAt : MethodName := ⟨RX6, "opAt", "(I)LScanChart$Op;"⟩
def RX7 : String := "ScanChart$Reader"
def TX7 : u_T := fun k => match k with
  | 0 => ("ScanChart$Reader", "text", "LScanChart$Text;", true)
  | 1 => ("ScanChart$Reader", "program", "LScanChart$Program;", false)
  | 2 => ("ScanChart$Reader", "faultMet", "I", false)
  | 3 => ("ScanChart$Reader", "faultPlace", "I", false)
  | 4 => ("ScanChart$Reader", "token", "I", false)
  | 5 => ("ScanChart$Reader", "from", "I", false)
  | 6 => ("ScanChart$Reader", "to", "I", false)
  | 7 => ("ScanChart$Reader", "figures", "I", false)
  | 8 => ("ScanChart$Reader", "opens", "Z", false)
  | 9 => ("ScanChart$Reader", "open", "I", false)
  | 10 => ("ScanChart$Reader", "gotKind", "I", false)
  | 11 => ("ScanChart$Reader", "gotNumber", "I", false)
  | 12 => ("ScanChart$Reader", "labelNamed", "[I", true)
  | _ => ("ScanChart$Reader", "stepNamed", "[I", true)
def tyX7 : Nat → FieldType := fun k => match k with
  | 0 => .object "ScanChart$Text"
  | 1 => .object "ScanChart$Program"
  | 2 => .int
  | 3 => .int
  | 4 => .int
  | 5 => .int
  | 6 => .int
  | 7 => .int
  | 8 => .boolean
  | 9 => .int
  | 10 => .int
  | 11 => .int
  | 12 => .array .int
  | _ => .array .int
abbrev wsX70 : List Cond := u_ws RX7 TX7 14
theorem nmX7 : ∀ a, a < 14 → ∀ b, b < 14 → a ≠ b → (TX7 a).2.1 ≠ (TX7 b).2.1 := by decide +kernel
theorem tyX7_ok : ∀ k, k < 14 → parseFieldDescriptor (TX7 k).2.2.1 = some (tyX7 k) := by decide +kernel
abbrev cX7_init : ByteArray := prog_9_method_1_code
def yX7_init : MethodName := ⟨RX7, "<init>", "()V"⟩
abbrev cX7_readText : ByteArray := prog_9_method_2_code
def yX7_readText : MethodName := ⟨RX7, "readText", "()Z"⟩
abbrev cX7_fail : ByteArray := prog_9_method_3_code
def yX7_fail : MethodName := ⟨RX7, "fail", "(I)Z"⟩
abbrev cX7_failAt : ByteArray := prog_9_method_4_code
def yX7_failAt : MethodName := ⟨RX7, "failAt", "(II)Z"⟩
abbrev cX7_advance : ByteArray := prog_9_method_5_code
def yX7_advance : MethodName := ⟨RX7, "advance", "()V"⟩
abbrev cX7_isWord : ByteArray := prog_9_method_6_code
def yX7_isWord : MethodName := ⟨RX7, "isWord", "(Ljava/lang/String;)Z"⟩
abbrev cX7_isFigures : ByteArray := prog_9_method_7_code
def yX7_isFigures : MethodName := ⟨RX7, "isFigures", "()Z"⟩
abbrev cX7_isLabel : ByteArray := prog_9_method_8_code
def yX7_isLabel : MethodName := ⟨RX7, "isLabel", "()Z"⟩
abbrev cX7_readLabel : ByteArray := prog_9_method_9_code
def yX7_readLabel : MethodName := ⟨RX7, "readLabel", "()Z"⟩
abbrev cX7_readOp : ByteArray := prog_9_method_10_code
def yX7_readOp : MethodName := ⟨RX7, "readOp", "()LScanChart$Op;"⟩
abbrev cX7_opSpelled : ByteArray := prog_9_method_11_code
def yX7_opSpelled : MethodName := ⟨RX7, "opSpelled", "(II)LScanChart$Op;"⟩
abbrev cX7_isFull : ByteArray := prog_9_method_12_code
def yX7_isFull : MethodName := ⟨RX7, "isFull", "(LScanChart$Op;)Z"⟩
abbrev cX7_isAllowedByBrackets : ByteArray := prog_9_method_13_code
def yX7_isAllowedByBrackets : MethodName := ⟨RX7, "isAllowedByBrackets", "(LScanChart$Op;)Z"⟩
abbrev cX7_readOperands : ByteArray := prog_9_method_14_code
def yX7_readOperands : MethodName := ⟨RX7, "readOperands", "(LScanChart$Op;)Z"⟩
abbrev cX7_operandsOf : ByteArray := prog_9_method_15_code
def yX7_operandsOf : MethodName := ⟨RX7, "operandsOf", "(LScanChart$Op;)I"⟩
abbrev cX7_kindOfWord : ByteArray := prog_9_method_16_code
def yX7_kindOfWord : MethodName := ⟨RX7, "kindOfWord", "()I"⟩
abbrev cX7_readCell : ByteArray := prog_9_method_17_code
def yX7_readCell : MethodName := ⟨RX7, "readCell", "(I)Z"⟩
abbrev cX7_readFigures : ByteArray := prog_9_method_18_code
def yX7_readFigures : MethodName := ⟨RX7, "readFigures", "(II)Z"⟩
abbrev cX7_readStep : ByteArray := prog_9_method_19_code
def yX7_readStep : MethodName := ⟨RX7, "readStep", "()Z"⟩
abbrev cX7_actionOfWord : ByteArray := prog_9_method_20_code
def yX7_actionOfWord : MethodName := ⟨RX7, "actionOfWord", "()I"⟩
abbrev cX7_readGo : ByteArray := prog_9_method_21_code
def yX7_readGo : MethodName := ⟨RX7, "readGo", "()Z"⟩
abbrev cX7_readSteps : ByteArray := prog_9_method_22_code
def yX7_readSteps : MethodName := ⟨RX7, "readSteps", "()I"⟩
abbrev cX7_noteNamed : ByteArray := prog_9_method_23_code
def yX7_noteNamed : MethodName := ⟨RX7, "noteNamed", "([III)V"⟩
abbrev cX7_findNoneMissing : ByteArray := prog_9_method_24_code
def yX7_findNoneMissing : MethodName := ⟨RX7, "findNoneMissing", "()Z"⟩
def RX8 : String := "ScanChart$Text"
def TX8 : u_T := fun k => match k with
  | 0 => ("ScanChart$Text", "bytes", "[I", true)
  | _ => ("ScanChart$Text", "length", "I", false)
def tyX8 : Nat → FieldType := fun k => match k with
  | 0 => .array .int
  | _ => .int
abbrev wsX80 : List Cond := u_ws RX8 TX8 2
theorem nmX8 : ∀ a, a < 2 → ∀ b, b < 2 → a ≠ b → (TX8 a).2.1 ≠ (TX8 b).2.1 := by decide +kernel
theorem tyX8_ok : ∀ k, k < 2 → parseFieldDescriptor (TX8 k).2.2.1 = some (tyX8 k) := by decide +kernel
abbrev cX8_init : ByteArray := prog_10_method_1_code
def yX8_init : MethodName := ⟨RX8, "<init>", "()V"⟩
abbrev cX8_append : ByteArray := prog_10_method_2_code
def yX8_append : MethodName := ⟨RX8, "append", "(IJ)I"⟩
abbrev cX8_byteAt : ByteArray := prog_10_method_3_code
def yX8_byteAt : MethodName := ⟨RX8, "byteAt", "(I)I"⟩
abbrev cX8_spells : ByteArray := prog_10_method_4_code
def yX8_spells : MethodName := ⟨RX8, "spells", "(Ljava/lang/String;II)Z"⟩
abbrev cX8_numberIn : ByteArray := prog_10_method_5_code
def yX8_numberIn : MethodName := ⟨RX8, "numberIn", "(II)J"⟩
def RX9 : String := "ScanChart"
def TX9 : u_T := fun k => match k with
  | 0 => ("ScanChart", "reader", "LScanChart$Reader;", true)
  | 1 => ("ScanChart", "machine", "LScanChart$Machine;", true)
  | 2 => ("ScanChart", "program", "LScanChart$Program;", false)
  | _ => ("ScanChart", "inputs", "I", false)
def tyX9 : Nat → FieldType := fun k => match k with
  | 0 => .object "ScanChart$Reader"
  | 1 => .object "ScanChart$Machine"
  | 2 => .object "ScanChart$Program"
  | _ => .int
abbrev wsX90 : List Cond := u_ws RX9 TX9 4
theorem nmX9 : ∀ a, a < 4 → ∀ b, b < 4 → a ≠ b → (TX9 a).2.1 ≠ (TX9 b).2.1 := by decide +kernel
theorem tyX9_ok : ∀ k, k < 4 → parseFieldDescriptor (TX9 k).2.2.1 = some (tyX9 k) := by decide +kernel
abbrev cX9_init : ByteArray := prog_1_method_1_code
def yX9_init : MethodName := ⟨RX9, "<init>", "()V"⟩
abbrev cX9_feed : ByteArray := prog_1_method_2_code
def yX9_feed : MethodName := ⟨RX9, "feed", "(IJ)I"⟩
abbrev cX9_wipe : ByteArray := prog_1_method_3_code
def yX9_wipe : MethodName := ⟨RX9, "wipe", "()I"⟩
abbrev cX9_load : ByteArray := prog_1_method_4_code
def yX9_load : MethodName := ⟨RX9, "load", "()I"⟩
abbrev cX9_fault : ByteArray := prog_1_method_5_code
def yX9_fault : MethodName := ⟨RX9, "fault", "()I"⟩
abbrev cX9_place : ByteArray := prog_1_method_6_code
def yX9_place : MethodName := ⟨RX9, "place", "()I"⟩
abbrev cX9_reset : ByteArray := prog_1_method_7_code
def yX9_reset : MethodName := ⟨RX9, "reset", "()V"⟩
abbrev cX9_input : ByteArray := prog_1_method_8_code
def yX9_input : MethodName := ⟨RX9, "input", "(IZ)V"⟩
abbrev cX9_scan : ByteArray := prog_1_method_9_code
def yX9_scan : MethodName := ⟨RX9, "scan", "(I)I"⟩
abbrev cX9_run : ByteArray := prog_1_method_10_code
def yX9_run : MethodName := ⟨RX9, "run", "(II)I"⟩
abbrev cX9_output : ByteArray := prog_1_method_11_code
def yX9_output : MethodName := ⟨RX9, "output", "(I)Z"⟩
abbrev cX9_bits : ByteArray := prog_1_method_12_code
def yX9_bits : MethodName := ⟨RX9, "bits", "(I)I"⟩
abbrev cX9_word : ByteArray := prog_1_method_13_code
def yX9_word : MethodName := ⟨RX9, "word", "(I)I"⟩
abbrev cX9_block : ByteArray := prog_1_method_14_code
def yX9_block : MethodName := ⟨RX9, "block", "(II)I"⟩
abbrev cX9_done : ByteArray := prog_1_method_15_code
def yX9_done : MethodName := ⟨RX9, "done", "()I"⟩
abbrev cX9_fired : ByteArray := prog_1_method_16_code
def yX9_fired : MethodName := ⟨RX9, "fired", "()I"⟩
abbrev cX9_time : ByteArray := prog_1_method_17_code
def yX9_time : MethodName := ⟨RX9, "time", "()J"⟩
abbrev cX9_at : ByteArray := prog_1_method_18_code
def yX9_at : MethodName := ⟨RX9, "at", "([II)I"⟩
abbrev cX9_put : ByteArray := prog_1_method_19_code
def yX9_put : MethodName := ⟨RX9, "put", "([III)V"⟩
abbrev cX9_isSet : ByteArray := prog_1_method_20_code
def yX9_isSet : MethodName := ⟨RX9, "isSet", "(II)Z"⟩
abbrev cX9_withBit : ByteArray := prog_1_method_21_code
def yX9_withBit : MethodName := ⟨RX9, "withBit", "(IIZ)I"⟩
abbrev cX9_fill : ByteArray := prog_1_method_22_code
def yX9_fill : MethodName := ⟨RX9, "fill", "([II)V"⟩
def RX10 : String := "ScanChartModel"
def TX10 : u_T := fun k => match k with
  | 0 => ("ScanChartModel", "thrown", "I", false)
  | 1 => ("ScanChartModel", "text", "[I", true)
  | 2 => ("ScanChartModel", "size", "I", false)
  | 3 => ("ScanChartModel", "wrong", "I", false)
  | 4 => ("ScanChartModel", "wrongAt", "I", false)
  | 5 => ("ScanChartModel", "what", "[I", true)
  | 6 => ("ScanChartModel", "how", "[I", true)
  | 7 => ("ScanChartModel", "kind", "[I", true)
  | 8 => ("ScanChartModel", "number", "[I", true)
  | 9 => ("ScanChartModel", "more", "[I", true)
  | 10 => ("ScanChartModel", "lines", "[I", true)
  | 11 => ("ScanChartModel", "labels", "[I", true)
  | 12 => ("ScanChartModel", "steps", "[Z", true)
  | 13 => ("ScanChartModel", "actHow", "[I", true)
  | 14 => ("ScanChartModel", "actKind", "[I", true)
  | 15 => ("ScanChartModel", "actNumber", "[I", true)
  | 16 => ("ScanChartModel", "goFrom", "[I", true)
  | 17 => ("ScanChartModel", "goTo", "[I", true)
  | 18 => ("ScanChartModel", "goIf", "[I", true)
  | 19 => ("ScanChartModel", "goKind", "[I", true)
  | 20 => ("ScanChartModel", "goNumber", "[I", true)
  | 21 => ("ScanChartModel", "goes", "[I", true)
  | 22 => ("ScanChartModel", "own", "I", false)
  | 23 => ("ScanChartModel", "half", "I", false)
  | 24 => ("ScanChartModel", "at", "I", false)
  | 25 => ("ScanChartModel", "from", "I", false)
  | 26 => ("ScanChartModel", "to", "I", false)
  | 27 => ("ScanChartModel", "open", "I", false)
  | 28 => ("ScanChartModel", "first", "I", false)
  | 29 => ("ScanChartModel", "second", "I", false)
  | 30 => ("ScanChartModel", "named", "[I", true)
  | 31 => ("ScanChartModel", "namedAt", "[I", true)
  | 32 => ("ScanChartModel", "namedCount", "I", false)
  | 33 => ("ScanChartModel", "given", "[Z", true)
  | 34 => ("ScanChartModel", "inputs", "[I", true)
  | 35 => ("ScanChartModel", "outs", "[I", true)
  | 36 => ("ScanChartModel", "marks", "[I", true)
  | 37 => ("ScanChartModel", "words", "[I", true)
  | 38 => ("ScanChartModel", "times", "[I", true)
  | 39 => ("ScanChartModel", "timerBits", "[I", true)
  | 40 => ("ScanChartModel", "counts", "[I", true)
  | 41 => ("ScanChartModel", "counterBits", "[I", true)
  | 42 => ("ScanChartModel", "active", "[I", true)
  | 43 => ("ScanChartModel", "shown", "[I", true)
  | 44 => ("ScanChartModel", "clock", "J", false)
  | 45 => ("ScanChartModel", "stopped", "I", false)
  | 46 => ("ScanChartModel", "lastDone", "I", false)
  | 47 => ("ScanChartModel", "lastFired", "I", false)
  | 48 => ("ScanChartModel", "onSince", "[J", true)
  | 49 => ("ScanChartModel", "hadIt", "[Z", true)
  | 50 => ("ScanChartModel", "offSince", "[J", true)
  | 51 => ("ScanChartModel", "pulseSince", "[J", true)
  | 52 => ("ScanChartModel", "pulseLast", "[Z", true)
  | 53 => ("ScanChartModel", "upLast", "[Z", true)
  | 54 => ("ScanChartModel", "downLast", "[Z", true)
  | 55 => ("ScanChartModel", "riseLast", "[Z", true)
  | 56 => ("ScanChartModel", "fallLast", "[Z", true)
  | 57 => ("ScanChartModel", "aside", "[I", true)
  | 58 => ("ScanChartModel", "asideBy", "[I", true)
  | 59 => ("ScanChartModel", "depth", "I", false)
  | _ => ("ScanChartModel", "result", "I", false)
def tyX10 : Nat → FieldType := fun k => match k with
  | 0 => .int
  | 1 => .array .int
  | 2 => .int
  | 3 => .int
  | 4 => .int
  | 5 => .array .int
  | 6 => .array .int
  | 7 => .array .int
  | 8 => .array .int
  | 9 => .array .int
  | 10 => .array .int
  | 11 => .array .int
  | 12 => .array .boolean
  | 13 => .array .int
  | 14 => .array .int
  | 15 => .array .int
  | 16 => .array .int
  | 17 => .array .int
  | 18 => .array .int
  | 19 => .array .int
  | 20 => .array .int
  | 21 => .array .int
  | 22 => .int
  | 23 => .int
  | 24 => .int
  | 25 => .int
  | 26 => .int
  | 27 => .int
  | 28 => .int
  | 29 => .int
  | 30 => .array .int
  | 31 => .array .int
  | 32 => .int
  | 33 => .array .boolean
  | 34 => .array .int
  | 35 => .array .int
  | 36 => .array .int
  | 37 => .array .int
  | 38 => .array .int
  | 39 => .array .int
  | 40 => .array .int
  | 41 => .array .int
  | 42 => .array .int
  | 43 => .array .int
  | 44 => .long
  | 45 => .int
  | 46 => .int
  | 47 => .int
  | 48 => .array .long
  | 49 => .array .boolean
  | 50 => .array .long
  | 51 => .array .long
  | 52 => .array .boolean
  | 53 => .array .boolean
  | 54 => .array .boolean
  | 55 => .array .boolean
  | 56 => .array .boolean
  | 57 => .array .int
  | 58 => .array .int
  | 59 => .int
  | _ => .int
abbrev wsX100 : List Cond := u_ws RX10 TX10 61
theorem nmX10 : ∀ a, a < 61 → ∀ b, b < 61 → a ≠ b → (TX10 a).2.1 ≠ (TX10 b).2.1 := by decide +kernel
theorem tyX10_ok : ∀ k, k < 61 → parseFieldDescriptor (TX10 k).2.2.1 = some (tyX10 k) := by decide +kernel
abbrev cX10_init : ByteArray := prog_12_method_1_code
def yX10_init : MethodName := ⟨RX10, "<init>", "()V"⟩
abbrev cX10_thrown : ByteArray := prog_12_method_2_code
def yX10_thrown : MethodName := ⟨RX10, "thrown", "()I"⟩
abbrev cX10_feed : ByteArray := prog_12_method_3_code
def yX10_feed : MethodName := ⟨RX10, "feed", "(IJ)I"⟩
abbrev cX10_wipe : ByteArray := prog_12_method_4_code
def yX10_wipe : MethodName := ⟨RX10, "wipe", "()I"⟩
abbrev cX10_fail : ByteArray := prog_12_method_5_code
def yX10_fail : MethodName := ⟨RX10, "fail", "(II)V"⟩
abbrev cX10_next : ByteArray := prog_12_method_6_code
def yX10_next : MethodName := ⟨RX10, "next", "()V"⟩
abbrev cX10_isEnd : ByteArray := prog_12_method_7_code
def yX10_isEnd : MethodName := ⟨RX10, "isEnd", "()Z"⟩
abbrev cX10_isLineEnd : ByteArray := prog_12_method_8_code
def yX10_isLineEnd : MethodName := ⟨RX10, "isLineEnd", "()Z"⟩
abbrev cX10_code : ByteArray := prog_12_method_9_code
def yX10_code : MethodName := ⟨RX10, "code", "()J"⟩
abbrev cX10_isFigure : ByteArray := prog_12_method_10_code
def yX10_isFigure : MethodName := ⟨RX10, "isFigure", "(I)Z"⟩
abbrev cX10_areFigures : ByteArray := prog_12_method_11_code
def yX10_areFigures : MethodName := ⟨RX10, "areFigures", "(II)Z"⟩
abbrev cX10_value : ByteArray := prog_12_method_12_code
def yX10_value : MethodName := ⟨RX10, "value", "(II)J"⟩
abbrev cX10_small : ByteArray := prog_12_method_13_code
def yX10_small : MethodName := ⟨RX10, "small", "(III)I"⟩
abbrev cX10_great : ByteArray := prog_12_method_14_code
def yX10_great : MethodName := ⟨RX10, "great", "(II)I"⟩
abbrev cX10_byteAt : ByteArray := prog_12_method_15_code
def yX10_byteAt : MethodName := ⟨RX10, "byteAt", "(I)I"⟩
abbrev cX10_cellKind : ByteArray := prog_12_method_16_code
def yX10_cellKind : MethodName := ⟨RX10, "cellKind", "()I"⟩
abbrev cX10_mostOf : ByteArray := prog_12_method_17_code
def yX10_mostOf : MethodName := ⟨RX10, "mostOf", "(I)I"⟩
abbrev cX10_operand : ByteArray := prog_12_method_18_code
def yX10_operand : MethodName := ⟨RX10, "operand", "(I)V"⟩
abbrev cX10_sign : ByteArray := prog_12_method_19_code
def yX10_sign : MethodName := ⟨RX10, "sign", "(J)I"⟩
abbrev cX10_add : ByteArray := prog_12_method_20_code
def yX10_add : MethodName := ⟨RX10, "add", "(IIIII)V"⟩
abbrev cX10_isSign : ByteArray := prog_12_method_21_code
def yX10_isSign : MethodName := ⟨RX10, "isSign", "(J)Z"⟩
abbrev cX10_mayComeNow : ByteArray := prog_12_method_22_code
def yX10_mayComeNow : MethodName := ⟨RX10, "mayComeNow", "()Z"⟩
abbrev cX10_isMove : ByteArray := prog_12_method_23_code
def yX10_isMove : MethodName := ⟨RX10, "isMove", "(J)Z"⟩
abbrev cX10_isJump : ByteArray := prog_12_method_24_code
def yX10_isJump : MethodName := ⟨RX10, "isJump", "(J)Z"⟩
abbrev cX10_labelWord : ByteArray := prog_12_method_25_code
def yX10_labelWord : MethodName := ⟨RX10, "labelWord", "(I)I"⟩
abbrev cX10_names : ByteArray := prog_12_method_26_code
def yX10_names : MethodName := ⟨RX10, "names", "(I)V"⟩
abbrev cX10_lettered : ByteArray := prog_12_method_27_code
def yX10_lettered : MethodName := ⟨RX10, "lettered", "(II)I"⟩
abbrev cX10_isBlock : ByteArray := prog_12_method_28_code
def yX10_isBlock : MethodName := ⟨RX10, "isBlock", "(J)Z"⟩
abbrev cX10_isAlone : ByteArray := prog_12_method_29_code
def yX10_isAlone : MethodName := ⟨RX10, "isAlone", "(J)Z"⟩
abbrev cX10_actions : ByteArray := prog_12_method_30_code
def yX10_actions : MethodName := ⟨RX10, "actions", "(I)V"⟩
abbrev cX10_step : ByteArray := prog_12_method_31_code
def yX10_step : MethodName := ⟨RX10, "step", "()V"⟩
abbrev cX10_some : ByteArray := prog_12_method_32_code
def yX10_some : MethodName := ⟨RX10, "some", "()I"⟩
abbrev cX10_go : ByteArray := prog_12_method_33_code
def yX10_go : MethodName := ⟨RX10, "go", "()V"⟩
abbrev cX10_line : ByteArray := prog_12_method_34_code
def yX10_line : MethodName := ⟨RX10, "line", "()V"⟩
abbrev cX10_begin : ByteArray := prog_12_method_35_code
def yX10_begin : MethodName := ⟨RX10, "begin", "()V"⟩
abbrev cX10_load : ByteArray := prog_12_method_36_code
def yX10_load : MethodName := ⟨RX10, "load", "()I"⟩
abbrev cX10_fault : ByteArray := prog_12_method_37_code
def yX10_fault : MethodName := ⟨RX10, "fault", "()I"⟩
abbrev cX10_place : ByteArray := prog_12_method_38_code
def yX10_place : MethodName := ⟨RX10, "place", "()I"⟩
abbrev cX10_resetAll : ByteArray := prog_12_method_39_code
def yX10_resetAll : MethodName := ⟨RX10, "resetAll", "()V"⟩
abbrev cX10_reset : ByteArray := prog_12_method_40_code
def yX10_reset : MethodName := ⟨RX10, "reset", "()V"⟩
abbrev cX10_cell : ByteArray := prog_12_method_41_code
def yX10_cell : MethodName := ⟨RX10, "cell", "(II)I"⟩
abbrev cX10_setBit : ByteArray := prog_12_method_42_code
def yX10_setBit : MethodName := ⟨RX10, "setBit", "(III)V"⟩
abbrev cX10_past : ByteArray := prog_12_method_43_code
def yX10_past : MethodName := ⟨RX10, "past", "(JI)I"⟩
abbrev cX10_timer : ByteArray := prog_12_method_44_code
def yX10_timer : MethodName := ⟨RX10, "timer", "(III)V"⟩
abbrev cX10_counter : ByteArray := prog_12_method_45_code
def yX10_counter : MethodName := ⟨RX10, "counter", "(III)V"⟩
abbrev cX10_edge : ByteArray := prog_12_method_46_code
def yX10_edge : MethodName := ⟨RX10, "edge", "(II)V"⟩
abbrev cX10_truth : ByteArray := prog_12_method_47_code
def yX10_truth : MethodName := ⟨RX10, "truth", "(Z)I"⟩
abbrev cX10_made : ByteArray := prog_12_method_48_code
def yX10_made : MethodName := ⟨RX10, "made", "(III)I"⟩
abbrev cX10_join : ByteArray := prog_12_method_49_code
def yX10_join : MethodName := ⟨RX10, "join", "(III)I"⟩
abbrev cX10_signed : ByteArray := prog_12_method_50_code
def yX10_signed : MethodName := ⟨RX10, "signed", "(I)I"⟩
abbrev cX10_close : ByteArray := prog_12_method_51_code
def yX10_close : MethodName := ⟨RX10, "close", "()I"⟩
abbrev cX10_store : ByteArray := prog_12_method_52_code
def yX10_store : MethodName := ⟨RX10, "store", "(I)V"⟩
abbrev cX10_act : ByteArray := prog_12_method_53_code
def yX10_act : MethodName := ⟨RX10, "act", "(I)I"⟩
abbrev cX10_list : ByteArray := prog_12_method_54_code
def yX10_list : MethodName := ⟨RX10, "list", "()I"⟩
abbrev cX10_chart : ByteArray := prog_12_method_55_code
def yX10_chart : MethodName := ⟨RX10, "chart", "()V"⟩
abbrev cX10_scanOnce : ByteArray := prog_12_method_56_code
def yX10_scanOnce : MethodName := ⟨RX10, "scanOnce", "(I)I"⟩
abbrev cX10_scan : ByteArray := prog_12_method_57_code
def yX10_scan : MethodName := ⟨RX10, "scan", "(I)I"⟩
abbrev cX10_run : ByteArray := prog_12_method_58_code
def yX10_run : MethodName := ⟨RX10, "run", "(II)I"⟩
abbrev cX10_noPlace : ByteArray := prog_12_method_59_code
def yX10_noPlace : MethodName := ⟨RX10, "noPlace", "(II)Z"⟩
abbrev cX10_input : ByteArray := prog_12_method_60_code
def yX10_input : MethodName := ⟨RX10, "input", "(IZ)V"⟩
abbrev cX10_output : ByteArray := prog_12_method_61_code
def yX10_output : MethodName := ⟨RX10, "output", "(I)Z"⟩
abbrev cX10_bits : ByteArray := prog_12_method_62_code
def yX10_bits : MethodName := ⟨RX10, "bits", "(I)I"⟩
abbrev cX10_word : ByteArray := prog_12_method_63_code
def yX10_word : MethodName := ⟨RX10, "word", "(I)I"⟩
abbrev cX10_block : ByteArray := prog_12_method_64_code
def yX10_block : MethodName := ⟨RX10, "block", "(II)I"⟩
abbrev cX10_done : ByteArray := prog_12_method_65_code
def yX10_done : MethodName := ⟨RX10, "done", "()I"⟩
abbrev cX10_fired : ByteArray := prog_12_method_66_code
def yX10_fired : MethodName := ⟨RX10, "fired", "()I"⟩
abbrev cX10_time : ByteArray := prog_12_method_67_code
def yX10_time : MethodName := ⟨RX10, "time", "()J"⟩
def RJ11 : String := "java/lang/Character"
def TJ11 : u_T := fun k => match k with
  | _ => ("", "", "", false)
def tyJ11 : Nat → FieldType := fun k => match k with
  | _ => .int
abbrev wsJ110 : List Cond := u_ws RJ11 TJ11 0
theorem nmJ11 : ∀ a, a < 0 → ∀ b, b < 0 → a ≠ b → (TJ11 a).2.1 ≠ (TJ11 b).2.1 := by decide +kernel
theorem tyJ11_ok : ∀ k, k < 0 → parseFieldDescriptor (TJ11 k).2.2.1 = some (tyJ11 k) := by decide +kernel
abbrev cJ11_isValidCodePoint_9a6ad : ByteArray := prog_13_method_11_code
def yJ11_isValidCodePoint_9a6ad : MethodName := ⟨RJ11, "isValidCodePoint", "(I)Z"⟩
abbrev cJ11_highSurrogate_5068e : ByteArray := prog_13_method_28_code
def yJ11_highSurrogate_5068e : MethodName := ⟨RJ11, "highSurrogate", "(I)C"⟩
abbrev cJ11_lowSurrogate_5068e : ByteArray := prog_13_method_29_code
def yJ11_lowSurrogate_5068e : MethodName := ⟨RJ11, "lowSurrogate", "(I)C"⟩
def RJx29ce0 : String := "java/lang/Enum"
def TJx29ce0 : u_T := fun k => match k with
  | _ => ("", "", "", false)
def tyJx29ce0 : Nat → FieldType := fun k => match k with
  | _ => .int
abbrev wsJx29ce00 : List Cond := u_ws RJx29ce0 TJx29ce0 0
theorem nmJx29ce0 : ∀ a, a < 0 → ∀ b, b < 0 → a ≠ b → (TJx29ce0 a).2.1 ≠ (TJx29ce0 b).2.1 := by decide +kernel
theorem tyJx29ce0_ok : ∀ k, k < 0 → parseFieldDescriptor (TJx29ce0 k).2.2.1 = some (tyJx29ce0 k) := by decide +kernel
abbrev cJx29ce0_ordinal_8abf5 : ByteArray := prog_14_method_2_code
def yJx29ce0_ordinal_8abf5 : MethodName := ⟨RJx29ce0, "ordinal", "()I"⟩
def RJ9 : String := "java/lang/Math"
def TJ9 : u_T := fun k => match k with
  | _ => ("", "", "", false)
def tyJ9 : Nat → FieldType := fun k => match k with
  | _ => .int
abbrev wsJ90 : List Cond := u_ws RJ9 TJ9 0
theorem nmJ9 : ∀ a, a < 0 → ∀ b, b < 0 → a ≠ b → (TJ9 a).2.1 ≠ (TJ9 b).2.1 := by decide +kernel
theorem tyJ9_ok : ∀ k, k < 0 → parseFieldDescriptor (TJ9 k).2.2.1 = some (tyJ9 k) := by decide +kernel
abbrev cJ9_max_7cf53 : ByteArray := prog_18_method_65_code
def yJ9_max_7cf53 : MethodName := ⟨RJ9, "max", "(II)I"⟩
abbrev cJ9_min_7cf53 : ByteArray := prog_18_method_69_code
def yJ9_min_7cf53 : MethodName := ⟨RJ9, "min", "(II)I"⟩
abbrev cJ9_min_f86c9 : ByteArray := prog_18_method_70_code
def yJ9_min_f86c9 : MethodName := ⟨RJ9, "min", "(JJ)J"⟩
def RJ0 : String := "java/lang/String"
def TJ0 : u_T := fun k => match k with
  | _ => ("", "", "", false)
def tyJ0 : Nat → FieldType := fun k => match k with
  | _ => .int
abbrev wsJ00 : List Cond := u_ws RJ0 TJ0 0
theorem nmJ0 : ∀ a, a < 0 → ∀ b, b < 0 → a ≠ b → (TJ0 a).2.1 ≠ (TJ0 b).2.1 := by decide +kernel
theorem tyJ0_ok : ∀ k, k < 0 → parseFieldDescriptor (TJ0 k).2.2.1 = some (tyJ0 k) := by decide +kernel
abbrev cJ0_length_8abf5 : ByteArray := prog_20_method_54_code
def yJ0_length_8abf5 : MethodName := ⟨RJ0, "length", "()I"⟩
abbrev cJ0_charAt_5068e : ByteArray := prog_20_method_56_code
def yJ0_charAt_5068e : MethodName := ⟨RJ0, "charAt", "(I)C"⟩
abbrev cJ0_indexOf_0f7a4 : ByteArray := prog_20_method_79_code
def yJ0_indexOf_0f7a4 : MethodName := ⟨RJ0, "indexOf", "(I)I"⟩
abbrev cJ0_indexOf_7cf53 : ByteArray := prog_20_method_80_code
def yJ0_indexOf_7cf53 : MethodName := ⟨RJ0, "indexOf", "(II)I"⟩
abbrev cJ0_coder_7d493 : ByteArray := prog_20_method_152_code
def yJ0_coder_7d493 : MethodName := ⟨RJ0, "coder", "()B"⟩
abbrev cJ0_isLatin1_aae02 : ByteArray := prog_20_method_154_code
def yJ0_isLatin1_aae02 : MethodName := ⟨RJ0, "isLatin1", "()Z"⟩
abbrev cJ0_checkIndex_df160 : ByteArray := prog_20_method_155_code
def yJ0_checkIndex_df160 : MethodName := ⟨RJ0, "checkIndex", "(II)V"⟩
abbrev cJ0_checkBoundsBeginEnd_23922 : ByteArray := prog_20_method_158_code
def yJ0_checkBoundsBeginEnd_23922 : MethodName := ⟨RJ0, "checkBoundsBeginEnd", "(III)V"⟩
def RJ1 : String := "java/lang/StringLatin1"
def TJ1 : u_T := fun k => match k with
  | _ => ("", "", "", false)
def tyJ1 : Nat → FieldType := fun k => match k with
  | _ => .int
abbrev wsJ10 : List Cond := u_ws RJ1 TJ1 0
theorem nmJ1 : ∀ a, a < 0 → ∀ b, b < 0 → a ≠ b → (TJ1 a).2.1 ≠ (TJ1 b).2.1 := by decide +kernel
theorem tyJ1_ok : ∀ k, k < 0 → parseFieldDescriptor (TJ1 k).2.2.1 = some (tyJ1 k) := by decide +kernel
abbrev cJ1_charAt_3b067 : ByteArray := prog_21_method_2_code
def yJ1_charAt_3b067 : MethodName := ⟨RJ1, "charAt", "([BI)C"⟩
abbrev cJ1_canEncode_9a6ad : ByteArray := prog_21_method_4_code
def yJ1_canEncode_9a6ad : MethodName := ⟨RJ1, "canEncode", "(I)Z"⟩
abbrev cJ1_indexOf_4cfef : ByteArray := prog_21_method_22_code
def yJ1_indexOf_4cfef : MethodName := ⟨RJ1, "indexOf", "([BIII)I"⟩
abbrev cJ1_indexOfChar_4cfef : ByteArray := prog_21_method_23_code
def yJ1_indexOfChar_4cfef : MethodName := ⟨RJ1, "indexOfChar", "([BIII)I"⟩
def RJ2 : String := "java/lang/StringUTF16"
def TJ2 : u_T := fun k => match k with
  | _ => ("", "", "", false)
def tyJ2 : Nat → FieldType := fun k => match k with
  | _ => .int
abbrev wsJ20 : List Cond := u_ws RJ2 TJ2 0
theorem nmJ2 : ∀ a, a < 0 → ∀ b, b < 0 → a ≠ b → (TJ2 a).2.1 ≠ (TJ2 b).2.1 := by decide +kernel
theorem tyJ2_ok : ∀ k, k < 0 → parseFieldDescriptor (TJ2 k).2.2.1 = some (tyJ2 k) := by decide +kernel
abbrev cJ2_getChar_3b067 : ByteArray := prog_22_method_5_code
def yJ2_getChar_3b067 : MethodName := ⟨RJ2, "getChar", "([BI)C"⟩
abbrev cJ2_length_9d52b : ByteArray := prog_22_method_6_code
def yJ2_length_9d52b : MethodName := ⟨RJ2, "length", "([B)I"⟩
abbrev cJ2_indexOf_4cfef : ByteArray := prog_22_method_40_code
def yJ2_indexOf_4cfef : MethodName := ⟨RJ2, "indexOf", "([BIII)I"⟩
abbrev cJ2_indexOfChar_4cfef : ByteArray := prog_22_method_47_code
def yJ2_indexOfChar_4cfef : MethodName := ⟨RJ2, "indexOfChar", "([BIII)I"⟩
abbrev cJ2_indexOfCharUnsafe_4cfef : ByteArray := prog_22_method_48_code
def yJ2_indexOfCharUnsafe_4cfef : MethodName := ⟨RJ2, "indexOfCharUnsafe", "([BIII)I"⟩
abbrev cJ2_indexOfSupplementary_4cfef : ByteArray := prog_22_method_49_code
def yJ2_indexOfSupplementary_4cfef : MethodName := ⟨RJ2, "indexOfSupplementary", "([BIII)I"⟩
abbrev cJ2_charAt_3b067 : ByteArray := prog_22_method_83_code
def yJ2_charAt_3b067 : MethodName := ⟨RJ2, "charAt", "([BI)C"⟩
abbrev cJ2_checkIndex_2214a : ByteArray := prog_22_method_91_code
def yJ2_checkIndex_2214a : MethodName := ⟨RJ2, "checkIndex", "(I[B)V"⟩
abbrev cJ2_checkBoundsBeginEnd_d044e : ByteArray := prog_22_method_93_code
def yJ2_checkBoundsBeginEnd_d044e : MethodName := ⟨RJ2, "checkBoundsBeginEnd", "(II[B)V"⟩
def RJ3 : String := "jdk/internal/util/Preconditions"
def TJ3 : u_T := fun k => match k with
  | _ => ("", "", "", false)
def tyJ3 : Nat → FieldType := fun k => match k with
  | _ => .int
abbrev wsJ30 : List Cond := u_ws RJ3 TJ3 0
theorem nmJ3 : ∀ a, a < 0 → ∀ b, b < 0 → a ≠ b → (TJ3 a).2.1 ≠ (TJ3 b).2.1 := by decide +kernel
theorem tyJ3_ok : ∀ k, k < 0 → parseFieldDescriptor (TJ3 k).2.2.1 = some (tyJ3 k) := by decide +kernel
abbrev cJ3_checkIndex_8e157 : ByteArray := prog_24_method_11_code
def yJ3_checkIndex_8e157 : MethodName := ⟨RJ3, "checkIndex", "(IILjava/util/function/BiFunction;)I"⟩
abbrev cJ3_checkFromToIndex_8c36e : ByteArray := prog_24_method_12_code
def yJ3_checkFromToIndex_8c36e : MethodName := ⟨RJ3, "checkFromToIndex", "(IIILjava/util/function/BiFunction;)I"⟩
def RL : String := "ScanChartLaw"
abbrev cL_feed : ByteArray := method_3_code
def yL_feed : MethodName := ⟨RL, "feed", "(LScanChart;IJ[J)I"⟩
abbrev cL_input : ByteArray := method_4_code
def yL_input : MethodName := ⟨RL, "input", "(LScanChart;IZ)I"⟩
abbrev cL_scan : ByteArray := method_5_code
def yL_scan : MethodName := ⟨RL, "scan", "(LScanChart;I[J)I"⟩
abbrev cL_run : ByteArray := method_6_code
def yL_run : MethodName := ⟨RL, "run", "(LScanChart;II[J)I"⟩
abbrev cL_output : ByteArray := method_7_code
def yL_output : MethodName := ⟨RL, "output", "(LScanChart;I[J)I"⟩
abbrev cL_bits : ByteArray := method_8_code
def yL_bits : MethodName := ⟨RL, "bits", "(LScanChart;I[J)I"⟩
abbrev cL_word : ByteArray := method_9_code
def yL_word : MethodName := ⟨RL, "word", "(LScanChart;I[J)I"⟩
abbrev cL_block : ByteArray := method_10_code
def yL_block : MethodName := ⟨RL, "block", "(LScanChart;II[J)I"⟩
abbrev cL_law : ByteArray := code
def yL_law : MethodName := ⟨RL, "law", "([I)Z"⟩
abbrev vwCl : List vw_C := [(RX1, TX1, 4), (RX2, TX2, 10), (RX3, TX3, 12), (RX5, TX5, 11), (RX6, TX6, 7), (RX7, TX7, 14), (RX8, TX8, 2), (RX9, TX9, 4), (RX10, TX10, 61)]
