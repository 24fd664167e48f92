section
-- ===== PART A: goes FIRST, ahead of the names: the tables' words, and 'selects' of the private methods out of them =====
/-- a private method of a class that the tables say can be made, by its rows of tables_1 -/
def lw_okq (q : MethodName × Nat) : Prop := (q.1.cls ≠ "java/lang/invoke/MethodHandle" ∧ q.1.cls ≠ "java/lang/invoke/VarHandle") ∧ Cond.instantiable q.1.cls q.2 ∈ tables_1 ∧ Cond.privateMethod q.1 ∈ tables_1 ∧ Cond.instanceMethod q.1 ∈ tables_1
theorem lw_p0 : lw_okq (⟨"ScanChart$Reader", "advance", "()V"⟩, 14) := ⟨⟨by decide +kernel, by decide +kernel⟩, List.mem_of_getElem? (i := 33) (by decide +kernel), List.mem_of_getElem? (i := 345) (by decide +kernel), List.mem_of_getElem? (i := 346) (by decide +kernel)⟩
theorem lw_p1 : lw_okq (⟨"ScanChart$Reader", "isLabel", "()Z"⟩, 14) := ⟨⟨by decide +kernel, by decide +kernel⟩, List.mem_of_getElem? (i := 33) (by decide +kernel), List.mem_of_getElem? (i := 353) (by decide +kernel), List.mem_of_getElem? (i := 354) (by decide +kernel)⟩
theorem lw_p2 : lw_okq (⟨"ScanChart$Reader", "readLabel", "()Z"⟩, 14) := ⟨⟨by decide +kernel, by decide +kernel⟩, List.mem_of_getElem? (i := 33) (by decide +kernel), List.mem_of_getElem? (i := 369) (by decide +kernel), List.mem_of_getElem? (i := 370) (by decide +kernel)⟩
theorem lw_p3 : lw_okq (⟨"ScanChart$Reader", "fail", "(I)Z"⟩, 14) := ⟨⟨by decide +kernel, by decide +kernel⟩, List.mem_of_getElem? (i := 33) (by decide +kernel), List.mem_of_getElem? (i := 374) (by decide +kernel), List.mem_of_getElem? (i := 375) (by decide +kernel)⟩
theorem lw_p4 : lw_okq (⟨"ScanChart$Reader", "readOp", "()LScanChart$Op;"⟩, 14) := ⟨⟨by decide +kernel, by decide +kernel⟩, List.mem_of_getElem? (i := 33) (by decide +kernel), List.mem_of_getElem? (i := 382) (by decide +kernel), List.mem_of_getElem? (i := 383) (by decide +kernel)⟩
theorem lw_p5 : lw_okq (⟨"ScanChart$Reader", "opSpelled", "(II)LScanChart$Op;"⟩, 14) := ⟨⟨by decide +kernel, by decide +kernel⟩, List.mem_of_getElem? (i := 33) (by decide +kernel), List.mem_of_getElem? (i := 386) (by decide +kernel), List.mem_of_getElem? (i := 387) (by decide +kernel)⟩
theorem lw_p6 : lw_okq (⟨"ScanChart$Reader", "isFull", "(LScanChart$Op;)Z"⟩, 14) := ⟨⟨by decide +kernel, by decide +kernel⟩, List.mem_of_getElem? (i := 33) (by decide +kernel), List.mem_of_getElem? (i := 444) (by decide +kernel), List.mem_of_getElem? (i := 445) (by decide +kernel)⟩
theorem lw_p7 : lw_okq (⟨"ScanChart$Reader", "isAllowedByBrackets", "(LScanChart$Op;)Z"⟩, 14) := ⟨⟨by decide +kernel, by decide +kernel⟩, List.mem_of_getElem? (i := 33) (by decide +kernel), List.mem_of_getElem? (i := 448) (by decide +kernel), List.mem_of_getElem? (i := 449) (by decide +kernel)⟩
theorem lw_p8 : lw_okq (⟨"ScanChart$Reader", "readGo", "()Z"⟩, 14) := ⟨⟨by decide +kernel, by decide +kernel⟩, List.mem_of_getElem? (i := 33) (by decide +kernel), List.mem_of_getElem? (i := 452) (by decide +kernel), List.mem_of_getElem? (i := 453) (by decide +kernel)⟩
theorem lw_p9 : lw_okq (⟨"ScanChart$Reader", "readSteps", "()I"⟩, 14) := ⟨⟨by decide +kernel, by decide +kernel⟩, List.mem_of_getElem? (i := 33) (by decide +kernel), List.mem_of_getElem? (i := 456) (by decide +kernel), List.mem_of_getElem? (i := 457) (by decide +kernel)⟩
theorem lw_p10 : lw_okq (⟨"ScanChart$Reader", "isFigures", "()Z"⟩, 14) := ⟨⟨by decide +kernel, by decide +kernel⟩, List.mem_of_getElem? (i := 33) (by decide +kernel), List.mem_of_getElem? (i := 460) (by decide +kernel), List.mem_of_getElem? (i := 461) (by decide +kernel)⟩
theorem lw_p11 : lw_okq (⟨"ScanChart$Reader", "readFigures", "(II)Z"⟩, 14) := ⟨⟨by decide +kernel, by decide +kernel⟩, List.mem_of_getElem? (i := 33) (by decide +kernel), List.mem_of_getElem? (i := 464) (by decide +kernel), List.mem_of_getElem? (i := 465) (by decide +kernel)⟩
theorem lw_p12 : lw_okq (⟨"ScanChart$Reader", "noteNamed", "([III)V"⟩, 14) := ⟨⟨by decide +kernel, by decide +kernel⟩, List.mem_of_getElem? (i := 33) (by decide +kernel), List.mem_of_getElem? (i := 468) (by decide +kernel), List.mem_of_getElem? (i := 469) (by decide +kernel)⟩
theorem lw_p13 : lw_okq (⟨"ScanChart$Reader", "isWord", "(Ljava/lang/String;)Z"⟩, 14) := ⟨⟨by decide +kernel, by decide +kernel⟩, List.mem_of_getElem? (i := 33) (by decide +kernel), List.mem_of_getElem? (i := 473) (by decide +kernel), List.mem_of_getElem? (i := 474) (by decide +kernel)⟩
theorem lw_p14 : lw_okq (⟨"ScanChart$Reader", "readCell", "(I)Z"⟩, 14) := ⟨⟨by decide +kernel, by decide +kernel⟩, List.mem_of_getElem? (i := 33) (by decide +kernel), List.mem_of_getElem? (i := 479) (by decide +kernel), List.mem_of_getElem? (i := 480) (by decide +kernel)⟩
theorem lw_p15 : lw_okq (⟨"ScanChart$Reader", "kindOfWord", "()I"⟩, 14) := ⟨⟨by decide +kernel, by decide +kernel⟩, List.mem_of_getElem? (i := 33) (by decide +kernel), List.mem_of_getElem? (i := 483) (by decide +kernel), List.mem_of_getElem? (i := 484) (by decide +kernel)⟩
def lw_privs_1 : List (MethodName × Nat) := [(⟨"ScanChart$Reader", "advance", "()V"⟩, 14), (⟨"ScanChart$Reader", "isLabel", "()Z"⟩, 14), (⟨"ScanChart$Reader", "readLabel", "()Z"⟩, 14), (⟨"ScanChart$Reader", "fail", "(I)Z"⟩, 14), (⟨"ScanChart$Reader", "readOp", "()LScanChart$Op;"⟩, 14), (⟨"ScanChart$Reader", "opSpelled", "(II)LScanChart$Op;"⟩, 14), (⟨"ScanChart$Reader", "isFull", "(LScanChart$Op;)Z"⟩, 14), (⟨"ScanChart$Reader", "isAllowedByBrackets", "(LScanChart$Op;)Z"⟩, 14), (⟨"ScanChart$Reader", "readGo", "()Z"⟩, 14), (⟨"ScanChart$Reader", "readSteps", "()I"⟩, 14), (⟨"ScanChart$Reader", "isFigures", "()Z"⟩, 14), (⟨"ScanChart$Reader", "readFigures", "(II)Z"⟩, 14), (⟨"ScanChart$Reader", "noteNamed", "([III)V"⟩, 14), (⟨"ScanChart$Reader", "isWord", "(Ljava/lang/String;)Z"⟩, 14), (⟨"ScanChart$Reader", "readCell", "(I)Z"⟩, 14), (⟨"ScanChart$Reader", "kindOfWord", "()I"⟩, 14)]
theorem lw_r1 : ∀ q ∈ lw_privs_1, lw_okq q := List.forall_mem_cons.mpr ⟨lw_p0, List.forall_mem_cons.mpr ⟨lw_p1, List.forall_mem_cons.mpr ⟨lw_p2, List.forall_mem_cons.mpr ⟨lw_p3, List.forall_mem_cons.mpr ⟨lw_p4, List.forall_mem_cons.mpr ⟨lw_p5, List.forall_mem_cons.mpr ⟨lw_p6, List.forall_mem_cons.mpr ⟨lw_p7, List.forall_mem_cons.mpr ⟨lw_p8, List.forall_mem_cons.mpr ⟨lw_p9, List.forall_mem_cons.mpr ⟨lw_p10, List.forall_mem_cons.mpr ⟨lw_p11, List.forall_mem_cons.mpr ⟨lw_p12, List.forall_mem_cons.mpr ⟨lw_p13, List.forall_mem_cons.mpr ⟨lw_p14, List.forall_mem_cons.mpr ⟨lw_p15, fun _ h => absurd h List.not_mem_nil⟩⟩⟩⟩⟩⟩⟩⟩⟩⟩⟩⟩⟩⟩⟩⟩
theorem lw_p16 : lw_okq (⟨"ScanChart$Reader", "readStep", "()Z"⟩, 14) := ⟨⟨by decide +kernel, by decide +kernel⟩, List.mem_of_getElem? (i := 33) (by decide +kernel), List.mem_of_getElem? (i := 561) (by decide +kernel), List.mem_of_getElem? (i := 562) (by decide +kernel)⟩
theorem lw_p17 : lw_okq (⟨"ScanChart$Reader", "failAt", "(II)Z"⟩, 14) := ⟨⟨by decide +kernel, by decide +kernel⟩, List.mem_of_getElem? (i := 33) (by decide +kernel), List.mem_of_getElem? (i := 565) (by decide +kernel), List.mem_of_getElem? (i := 566) (by decide +kernel)⟩
theorem lw_p18 : lw_okq (⟨"ScanChart$Reader", "actionOfWord", "()I"⟩, 14) := ⟨⟨by decide +kernel, by decide +kernel⟩, List.mem_of_getElem? (i := 33) (by decide +kernel), List.mem_of_getElem? (i := 569) (by decide +kernel), List.mem_of_getElem? (i := 570) (by decide +kernel)⟩
theorem lw_p19 : lw_okq (⟨"ScanChart$Reader", "readOperands", "(LScanChart$Op;)Z"⟩, 14) := ⟨⟨by decide +kernel, by decide +kernel⟩, List.mem_of_getElem? (i := 33) (by decide +kernel), List.mem_of_getElem? (i := 580) (by decide +kernel), List.mem_of_getElem? (i := 581) (by decide +kernel)⟩
theorem lw_p20 : lw_okq (⟨"ScanChart$Reader", "operandsOf", "(LScanChart$Op;)I"⟩, 14) := ⟨⟨by decide +kernel, by decide +kernel⟩, List.mem_of_getElem? (i := 33) (by decide +kernel), List.mem_of_getElem? (i := 584) (by decide +kernel), List.mem_of_getElem? (i := 585) (by decide +kernel)⟩
theorem lw_p21 : lw_okq (⟨"ScanChart$Reader", "findNoneMissing", "()Z"⟩, 14) := ⟨⟨by decide +kernel, by decide +kernel⟩, List.mem_of_getElem? (i := 33) (by decide +kernel), List.mem_of_getElem? (i := 594) (by decide +kernel), List.mem_of_getElem? (i := 595) (by decide +kernel)⟩
theorem lw_p22 : lw_okq (⟨"java/lang/Throwable", "fillInStackTrace", "(I)Ljava/lang/Throwable;"⟩, 6) := ⟨⟨by decide +kernel, by decide +kernel⟩, List.mem_of_getElem? (i := 682) (by decide +kernel), List.mem_of_getElem? (i := 680) (by decide +kernel), List.mem_of_getElem? (i := 681) (by decide +kernel)⟩
theorem lw_p23 : lw_okq (⟨"ScanChart$Machine", "performList", "(LScanChart$Program;)V"⟩, 12) := ⟨⟨by decide +kernel, by decide +kernel⟩, List.mem_of_getElem? (i := 190) (by decide +kernel), List.mem_of_getElem? (i := 758) (by decide +kernel), List.mem_of_getElem? (i := 759) (by decide +kernel)⟩
theorem lw_p24 : lw_okq (⟨"ScanChart$Machine", "performBlock", "(LScanChart$Op;II)V"⟩, 12) := ⟨⟨by decide +kernel, by decide +kernel⟩, List.mem_of_getElem? (i := 190) (by decide +kernel), List.mem_of_getElem? (i := 771) (by decide +kernel), List.mem_of_getElem? (i := 772) (by decide +kernel)⟩
theorem lw_p25 : lw_okq (⟨"ScanChart$Machine", "perform", "(LScanChart$Op;LScanChart$Program;I)V"⟩, 12) := ⟨⟨by decide +kernel, by decide +kernel⟩, List.mem_of_getElem? (i := 190) (by decide +kernel), List.mem_of_getElem? (i := 840) (by decide +kernel), List.mem_of_getElem? (i := 841) (by decide +kernel)⟩
theorem lw_p26 : lw_okq (⟨"ScanChart$Machine", "putAside", "(LScanChart$Op;)V"⟩, 12) := ⟨⟨by decide +kernel, by decide +kernel⟩, List.mem_of_getElem? (i := 190) (by decide +kernel), List.mem_of_getElem? (i := 848) (by decide +kernel), List.mem_of_getElem? (i := 849) (by decide +kernel)⟩
theorem lw_p27 : lw_okq (⟨"ScanChart$Machine", "calculate", "(LScanChart$Op;II)I"⟩, 12) := ⟨⟨by decide +kernel, by decide +kernel⟩, List.mem_of_getElem? (i := 190) (by decide +kernel), List.mem_of_getElem? (i := 852) (by decide +kernel), List.mem_of_getElem? (i := 853) (by decide +kernel)⟩
theorem lw_p28 : lw_okq (⟨"ScanChart$Machine", "compare", "(LScanChart$Op;II)Z"⟩, 12) := ⟨⟨by decide +kernel, by decide +kernel⟩, List.mem_of_getElem? (i := 190) (by decide +kernel), List.mem_of_getElem? (i := 858) (by decide +kernel), List.mem_of_getElem? (i := 859) (by decide +kernel)⟩
theorem lw_p29 : lw_okq (⟨"ScanChart$Machine", "takeBack", "()V"⟩, 12) := ⟨⟨by decide +kernel, by decide +kernel⟩, List.mem_of_getElem? (i := 190) (by decide +kernel), List.mem_of_getElem? (i := 870) (by decide +kernel), List.mem_of_getElem? (i := 871) (by decide +kernel)⟩
theorem lw_p30 : lw_okq (⟨"ScanChart$Machine", "goOn", "(LScanChart$Chart;)V"⟩, 12) := ⟨⟨by decide +kernel, by decide +kernel⟩, List.mem_of_getElem? (i := 190) (by decide +kernel), List.mem_of_getElem? (i := 878) (by decide +kernel), List.mem_of_getElem? (i := 879) (by decide +kernel)⟩
theorem lw_p31 : lw_okq (⟨"ScanChart$Machine", "isOpen", "(LScanChart$Chart;I)Z"⟩, 12) := ⟨⟨by decide +kernel, by decide +kernel⟩, List.mem_of_getElem? (i := 190) (by decide +kernel), List.mem_of_getElem? (i := 882) (by decide +kernel), List.mem_of_getElem? (i := 883) (by decide +kernel)⟩
def lw_privs_2 : List (MethodName × Nat) := [(⟨"ScanChart$Reader", "readStep", "()Z"⟩, 14), (⟨"ScanChart$Reader", "failAt", "(II)Z"⟩, 14), (⟨"ScanChart$Reader", "actionOfWord", "()I"⟩, 14), (⟨"ScanChart$Reader", "readOperands", "(LScanChart$Op;)Z"⟩, 14), (⟨"ScanChart$Reader", "operandsOf", "(LScanChart$Op;)I"⟩, 14), (⟨"ScanChart$Reader", "findNoneMissing", "()Z"⟩, 14), (⟨"java/lang/Throwable", "fillInStackTrace", "(I)Ljava/lang/Throwable;"⟩, 6), (⟨"ScanChart$Machine", "performList", "(LScanChart$Program;)V"⟩, 12), (⟨"ScanChart$Machine", "performBlock", "(LScanChart$Op;II)V"⟩, 12), (⟨"ScanChart$Machine", "perform", "(LScanChart$Op;LScanChart$Program;I)V"⟩, 12), (⟨"ScanChart$Machine", "putAside", "(LScanChart$Op;)V"⟩, 12), (⟨"ScanChart$Machine", "calculate", "(LScanChart$Op;II)I"⟩, 12), (⟨"ScanChart$Machine", "compare", "(LScanChart$Op;II)Z"⟩, 12), (⟨"ScanChart$Machine", "takeBack", "()V"⟩, 12), (⟨"ScanChart$Machine", "goOn", "(LScanChart$Chart;)V"⟩, 12), (⟨"ScanChart$Machine", "isOpen", "(LScanChart$Chart;I)Z"⟩, 12)]
theorem lw_r2 : ∀ q ∈ lw_privs_2, lw_okq q := List.forall_mem_cons.mpr ⟨lw_p16, List.forall_mem_cons.mpr ⟨lw_p17, List.forall_mem_cons.mpr ⟨lw_p18, List.forall_mem_cons.mpr ⟨lw_p19, List.forall_mem_cons.mpr ⟨lw_p20, List.forall_mem_cons.mpr ⟨lw_p21, List.forall_mem_cons.mpr ⟨lw_p22, List.forall_mem_cons.mpr ⟨lw_p23, List.forall_mem_cons.mpr ⟨lw_p24, List.forall_mem_cons.mpr ⟨lw_p25, List.forall_mem_cons.mpr ⟨lw_p26, List.forall_mem_cons.mpr ⟨lw_p27, List.forall_mem_cons.mpr ⟨lw_p28, List.forall_mem_cons.mpr ⟨lw_p29, List.forall_mem_cons.mpr ⟨lw_p30, List.forall_mem_cons.mpr ⟨lw_p31, fun _ h => absurd h List.not_mem_nil⟩⟩⟩⟩⟩⟩⟩⟩⟩⟩⟩⟩⟩⟩⟩⟩
theorem lw_p32 : lw_okq (⟨"ScanChart$Machine", "act", "(LScanChart$Chart;)V"⟩, 12) := ⟨⟨by decide +kernel, by decide +kernel⟩, List.mem_of_getElem? (i := 190) (by decide +kernel), List.mem_of_getElem? (i := 886) (by decide +kernel), List.mem_of_getElem? (i := 887) (by decide +kernel)⟩
theorem lw_p33 : lw_okq (⟨"ScanChart$Machine", "actAs", "(LScanChart$Chart;IIZ)V"⟩, 12) := ⟨⟨by decide +kernel, by decide +kernel⟩, List.mem_of_getElem? (i := 190) (by decide +kernel), List.mem_of_getElem? (i := 891) (by decide +kernel), List.mem_of_getElem? (i := 892) (by decide +kernel)⟩
theorem lw_p34 : lw_okq (⟨"ScanChartModel", "resetAll", "()V"⟩, 61) := ⟨⟨by decide +kernel, by decide +kernel⟩, List.mem_of_getElem? (i := 938) (by decide +kernel), List.mem_of_getElem? (i := 944) (by decide +kernel), List.mem_of_getElem? (i := 945) (by decide +kernel)⟩
theorem lw_p35 : lw_okq (⟨"ScanChartModel", "begin", "()V"⟩, 61) := ⟨⟨by decide +kernel, by decide +kernel⟩, List.mem_of_getElem? (i := 938) (by decide +kernel), List.mem_of_getElem? (i := 1151) (by decide +kernel), List.mem_of_getElem? (i := 1152) (by decide +kernel)⟩
theorem lw_p36 : lw_okq (⟨"ScanChartModel", "next", "()V"⟩, 61) := ⟨⟨by decide +kernel, by decide +kernel⟩, List.mem_of_getElem? (i := 938) (by decide +kernel), List.mem_of_getElem? (i := 1155) (by decide +kernel), List.mem_of_getElem? (i := 1156) (by decide +kernel)⟩
theorem lw_p37 : lw_okq (⟨"ScanChartModel", "isEnd", "()Z"⟩, 61) := ⟨⟨by decide +kernel, by decide +kernel⟩, List.mem_of_getElem? (i := 938) (by decide +kernel), List.mem_of_getElem? (i := 1159) (by decide +kernel), List.mem_of_getElem? (i := 1160) (by decide +kernel)⟩
theorem lw_p38 : lw_okq (⟨"ScanChartModel", "isLineEnd", "()Z"⟩, 61) := ⟨⟨by decide +kernel, by decide +kernel⟩, List.mem_of_getElem? (i := 938) (by decide +kernel), List.mem_of_getElem? (i := 1163) (by decide +kernel), List.mem_of_getElem? (i := 1164) (by decide +kernel)⟩
theorem lw_p39 : lw_okq (⟨"ScanChartModel", "line", "()V"⟩, 61) := ⟨⟨by decide +kernel, by decide +kernel⟩, List.mem_of_getElem? (i := 938) (by decide +kernel), List.mem_of_getElem? (i := 1167) (by decide +kernel), List.mem_of_getElem? (i := 1168) (by decide +kernel)⟩
theorem lw_p40 : lw_okq (⟨"ScanChartModel", "byteAt", "(I)I"⟩, 61) := ⟨⟨by decide +kernel, by decide +kernel⟩, List.mem_of_getElem? (i := 938) (by decide +kernel), List.mem_of_getElem? (i := 1171) (by decide +kernel), List.mem_of_getElem? (i := 1172) (by decide +kernel)⟩
theorem lw_p41 : lw_okq (⟨"ScanChartModel", "labelWord", "(I)I"⟩, 61) := ⟨⟨by decide +kernel, by decide +kernel⟩, List.mem_of_getElem? (i := 938) (by decide +kernel), List.mem_of_getElem? (i := 1175) (by decide +kernel), List.mem_of_getElem? (i := 1176) (by decide +kernel)⟩
theorem lw_p42 : lw_okq (⟨"ScanChartModel", "fail", "(II)V"⟩, 61) := ⟨⟨by decide +kernel, by decide +kernel⟩, List.mem_of_getElem? (i := 938) (by decide +kernel), List.mem_of_getElem? (i := 1179) (by decide +kernel), List.mem_of_getElem? (i := 1180) (by decide +kernel)⟩
theorem lw_p43 : lw_okq (⟨"ScanChartModel", "small", "(III)I"⟩, 61) := ⟨⟨by decide +kernel, by decide +kernel⟩, List.mem_of_getElem? (i := 938) (by decide +kernel), List.mem_of_getElem? (i := 1183) (by decide +kernel), List.mem_of_getElem? (i := 1184) (by decide +kernel)⟩
theorem lw_p44 : lw_okq (⟨"ScanChartModel", "areFigures", "(II)Z"⟩, 61) := ⟨⟨by decide +kernel, by decide +kernel⟩, List.mem_of_getElem? (i := 938) (by decide +kernel), List.mem_of_getElem? (i := 1187) (by decide +kernel), List.mem_of_getElem? (i := 1188) (by decide +kernel)⟩
theorem lw_p45 : lw_okq (⟨"ScanChartModel", "value", "(II)J"⟩, 61) := ⟨⟨by decide +kernel, by decide +kernel⟩, List.mem_of_getElem? (i := 938) (by decide +kernel), List.mem_of_getElem? (i := 1194) (by decide +kernel), List.mem_of_getElem? (i := 1195) (by decide +kernel)⟩
theorem lw_p46 : lw_okq (⟨"ScanChartModel", "code", "()J"⟩, 61) := ⟨⟨by decide +kernel, by decide +kernel⟩, List.mem_of_getElem? (i := 938) (by decide +kernel), List.mem_of_getElem? (i := 1201) (by decide +kernel), List.mem_of_getElem? (i := 1202) (by decide +kernel)⟩
theorem lw_p47 : lw_okq (⟨"ScanChartModel", "step", "()V"⟩, 61) := ⟨⟨by decide +kernel, by decide +kernel⟩, List.mem_of_getElem? (i := 938) (by decide +kernel), List.mem_of_getElem? (i := 1206) (by decide +kernel), List.mem_of_getElem? (i := 1207) (by decide +kernel)⟩
def lw_privs_3 : List (MethodName × Nat) := [(⟨"ScanChart$Machine", "act", "(LScanChart$Chart;)V"⟩, 12), (⟨"ScanChart$Machine", "actAs", "(LScanChart$Chart;IIZ)V"⟩, 12), (⟨"ScanChartModel", "resetAll", "()V"⟩, 61), (⟨"ScanChartModel", "begin", "()V"⟩, 61), (⟨"ScanChartModel", "next", "()V"⟩, 61), (⟨"ScanChartModel", "isEnd", "()Z"⟩, 61), (⟨"ScanChartModel", "isLineEnd", "()Z"⟩, 61), (⟨"ScanChartModel", "line", "()V"⟩, 61), (⟨"ScanChartModel", "byteAt", "(I)I"⟩, 61), (⟨"ScanChartModel", "labelWord", "(I)I"⟩, 61), (⟨"ScanChartModel", "fail", "(II)V"⟩, 61), (⟨"ScanChartModel", "small", "(III)I"⟩, 61), (⟨"ScanChartModel", "areFigures", "(II)Z"⟩, 61), (⟨"ScanChartModel", "value", "(II)J"⟩, 61), (⟨"ScanChartModel", "code", "()J"⟩, 61), (⟨"ScanChartModel", "step", "()V"⟩, 61)]
theorem lw_r3 : ∀ q ∈ lw_privs_3, lw_okq q := List.forall_mem_cons.mpr ⟨lw_p32, List.forall_mem_cons.mpr ⟨lw_p33, List.forall_mem_cons.mpr ⟨lw_p34, List.forall_mem_cons.mpr ⟨lw_p35, List.forall_mem_cons.mpr ⟨lw_p36, List.forall_mem_cons.mpr ⟨lw_p37, List.forall_mem_cons.mpr ⟨lw_p38, List.forall_mem_cons.mpr ⟨lw_p39, List.forall_mem_cons.mpr ⟨lw_p40, List.forall_mem_cons.mpr ⟨lw_p41, List.forall_mem_cons.mpr ⟨lw_p42, List.forall_mem_cons.mpr ⟨lw_p43, List.forall_mem_cons.mpr ⟨lw_p44, List.forall_mem_cons.mpr ⟨lw_p45, List.forall_mem_cons.mpr ⟨lw_p46, List.forall_mem_cons.mpr ⟨lw_p47, fun _ h => absurd h List.not_mem_nil⟩⟩⟩⟩⟩⟩⟩⟩⟩⟩⟩⟩⟩⟩⟩⟩
theorem lw_p48 : lw_okq (⟨"ScanChartModel", "actions", "(I)V"⟩, 61) := ⟨⟨by decide +kernel, by decide +kernel⟩, List.mem_of_getElem? (i := 938) (by decide +kernel), List.mem_of_getElem? (i := 1210) (by decide +kernel), List.mem_of_getElem? (i := 1211) (by decide +kernel)⟩
theorem lw_p49 : lw_okq (⟨"ScanChartModel", "operand", "(I)V"⟩, 61) := ⟨⟨by decide +kernel, by decide +kernel⟩, List.mem_of_getElem? (i := 938) (by decide +kernel), List.mem_of_getElem? (i := 1217) (by decide +kernel), List.mem_of_getElem? (i := 1218) (by decide +kernel)⟩
theorem lw_p50 : lw_okq (⟨"ScanChartModel", "cellKind", "()I"⟩, 61) := ⟨⟨by decide +kernel, by decide +kernel⟩, List.mem_of_getElem? (i := 938) (by decide +kernel), List.mem_of_getElem? (i := 1221) (by decide +kernel), List.mem_of_getElem? (i := 1222) (by decide +kernel)⟩
theorem lw_p51 : lw_okq (⟨"ScanChartModel", "go", "()V"⟩, 61) := ⟨⟨by decide +kernel, by decide +kernel⟩, List.mem_of_getElem? (i := 938) (by decide +kernel), List.mem_of_getElem? (i := 1231) (by decide +kernel), List.mem_of_getElem? (i := 1232) (by decide +kernel)⟩
theorem lw_p52 : lw_okq (⟨"ScanChartModel", "some", "()I"⟩, 61) := ⟨⟨by decide +kernel, by decide +kernel⟩, List.mem_of_getElem? (i := 938) (by decide +kernel), List.mem_of_getElem? (i := 1235) (by decide +kernel), List.mem_of_getElem? (i := 1236) (by decide +kernel)⟩
theorem lw_p53 : lw_okq (⟨"ScanChartModel", "names", "(I)V"⟩, 61) := ⟨⟨by decide +kernel, by decide +kernel⟩, List.mem_of_getElem? (i := 938) (by decide +kernel), List.mem_of_getElem? (i := 1239) (by decide +kernel), List.mem_of_getElem? (i := 1240) (by decide +kernel)⟩
theorem lw_p54 : lw_okq (⟨"ScanChartModel", "isMove", "(J)Z"⟩, 61) := ⟨⟨by decide +kernel, by decide +kernel⟩, List.mem_of_getElem? (i := 938) (by decide +kernel), List.mem_of_getElem? (i := 1246) (by decide +kernel), List.mem_of_getElem? (i := 1247) (by decide +kernel)⟩
theorem lw_p55 : lw_okq (⟨"ScanChartModel", "mayComeNow", "()Z"⟩, 61) := ⟨⟨by decide +kernel, by decide +kernel⟩, List.mem_of_getElem? (i := 938) (by decide +kernel), List.mem_of_getElem? (i := 1254) (by decide +kernel), List.mem_of_getElem? (i := 1255) (by decide +kernel)⟩
theorem lw_p56 : lw_okq (⟨"ScanChartModel", "add", "(IIIII)V"⟩, 61) := ⟨⟨by decide +kernel, by decide +kernel⟩, List.mem_of_getElem? (i := 938) (by decide +kernel), List.mem_of_getElem? (i := 1258) (by decide +kernel), List.mem_of_getElem? (i := 1259) (by decide +kernel)⟩
theorem lw_p57 : lw_okq (⟨"ScanChartModel", "isSign", "(J)Z"⟩, 61) := ⟨⟨by decide +kernel, by decide +kernel⟩, List.mem_of_getElem? (i := 938) (by decide +kernel), List.mem_of_getElem? (i := 1262) (by decide +kernel), List.mem_of_getElem? (i := 1263) (by decide +kernel)⟩
theorem lw_p58 : lw_okq (⟨"ScanChartModel", "isJump", "(J)Z"⟩, 61) := ⟨⟨by decide +kernel, by decide +kernel⟩, List.mem_of_getElem? (i := 938) (by decide +kernel), List.mem_of_getElem? (i := 1283) (by decide +kernel), List.mem_of_getElem? (i := 1284) (by decide +kernel)⟩
theorem lw_p59 : lw_okq (⟨"ScanChartModel", "isBlock", "(J)Z"⟩, 61) := ⟨⟨by decide +kernel, by decide +kernel⟩, List.mem_of_getElem? (i := 938) (by decide +kernel), List.mem_of_getElem? (i := 1293) (by decide +kernel), List.mem_of_getElem? (i := 1294) (by decide +kernel)⟩
theorem lw_p60 : lw_okq (⟨"ScanChartModel", "lettered", "(II)I"⟩, 61) := ⟨⟨by decide +kernel, by decide +kernel⟩, List.mem_of_getElem? (i := 938) (by decide +kernel), List.mem_of_getElem? (i := 1305) (by decide +kernel), List.mem_of_getElem? (i := 1306) (by decide +kernel)⟩
theorem lw_p61 : lw_okq (⟨"ScanChartModel", "great", "(II)I"⟩, 61) := ⟨⟨by decide +kernel, by decide +kernel⟩, List.mem_of_getElem? (i := 938) (by decide +kernel), List.mem_of_getElem? (i := 1310) (by decide +kernel), List.mem_of_getElem? (i := 1311) (by decide +kernel)⟩
theorem lw_p62 : lw_okq (⟨"ScanChartModel", "isAlone", "(J)Z"⟩, 61) := ⟨⟨by decide +kernel, by decide +kernel⟩, List.mem_of_getElem? (i := 938) (by decide +kernel), List.mem_of_getElem? (i := 1314) (by decide +kernel), List.mem_of_getElem? (i := 1315) (by decide +kernel)⟩
theorem lw_p63 : lw_okq (⟨"ScanChartModel", "scanOnce", "(I)I"⟩, 61) := ⟨⟨by decide +kernel, by decide +kernel⟩, List.mem_of_getElem? (i := 938) (by decide +kernel), List.mem_of_getElem? (i := 1336) (by decide +kernel), List.mem_of_getElem? (i := 1337) (by decide +kernel)⟩
def lw_privs_4 : List (MethodName × Nat) := [(⟨"ScanChartModel", "actions", "(I)V"⟩, 61), (⟨"ScanChartModel", "operand", "(I)V"⟩, 61), (⟨"ScanChartModel", "cellKind", "()I"⟩, 61), (⟨"ScanChartModel", "go", "()V"⟩, 61), (⟨"ScanChartModel", "some", "()I"⟩, 61), (⟨"ScanChartModel", "names", "(I)V"⟩, 61), (⟨"ScanChartModel", "isMove", "(J)Z"⟩, 61), (⟨"ScanChartModel", "mayComeNow", "()Z"⟩, 61), (⟨"ScanChartModel", "add", "(IIIII)V"⟩, 61), (⟨"ScanChartModel", "isSign", "(J)Z"⟩, 61), (⟨"ScanChartModel", "isJump", "(J)Z"⟩, 61), (⟨"ScanChartModel", "isBlock", "(J)Z"⟩, 61), (⟨"ScanChartModel", "lettered", "(II)I"⟩, 61), (⟨"ScanChartModel", "great", "(II)I"⟩, 61), (⟨"ScanChartModel", "isAlone", "(J)Z"⟩, 61), (⟨"ScanChartModel", "scanOnce", "(I)I"⟩, 61)]
theorem lw_r4 : ∀ q ∈ lw_privs_4, lw_okq q := List.forall_mem_cons.mpr ⟨lw_p48, List.forall_mem_cons.mpr ⟨lw_p49, List.forall_mem_cons.mpr ⟨lw_p50, List.forall_mem_cons.mpr ⟨lw_p51, List.forall_mem_cons.mpr ⟨lw_p52, List.forall_mem_cons.mpr ⟨lw_p53, List.forall_mem_cons.mpr ⟨lw_p54, List.forall_mem_cons.mpr ⟨lw_p55, List.forall_mem_cons.mpr ⟨lw_p56, List.forall_mem_cons.mpr ⟨lw_p57, List.forall_mem_cons.mpr ⟨lw_p58, List.forall_mem_cons.mpr ⟨lw_p59, List.forall_mem_cons.mpr ⟨lw_p60, List.forall_mem_cons.mpr ⟨lw_p61, List.forall_mem_cons.mpr ⟨lw_p62, List.forall_mem_cons.mpr ⟨lw_p63, fun _ h => absurd h List.not_mem_nil⟩⟩⟩⟩⟩⟩⟩⟩⟩⟩⟩⟩⟩⟩⟩⟩
theorem lw_p64 : lw_okq (⟨"ScanChartModel", "list", "()I"⟩, 61) := ⟨⟨by decide +kernel, by decide +kernel⟩, List.mem_of_getElem? (i := 938) (by decide +kernel), List.mem_of_getElem? (i := 1343) (by decide +kernel), List.mem_of_getElem? (i := 1344) (by decide +kernel)⟩
theorem lw_p65 : lw_okq (⟨"ScanChartModel", "act", "(I)I"⟩, 61) := ⟨⟨by decide +kernel, by decide +kernel⟩, List.mem_of_getElem? (i := 938) (by decide +kernel), List.mem_of_getElem? (i := 1347) (by decide +kernel), List.mem_of_getElem? (i := 1348) (by decide +kernel)⟩
theorem lw_p66 : lw_okq (⟨"ScanChartModel", "signed", "(I)I"⟩, 61) := ⟨⟨by decide +kernel, by decide +kernel⟩, List.mem_of_getElem? (i := 938) (by decide +kernel), List.mem_of_getElem? (i := 1351) (by decide +kernel), List.mem_of_getElem? (i := 1352) (by decide +kernel)⟩
theorem lw_p67 : lw_okq (⟨"ScanChartModel", "cell", "(II)I"⟩, 61) := ⟨⟨by decide +kernel, by decide +kernel⟩, List.mem_of_getElem? (i := 938) (by decide +kernel), List.mem_of_getElem? (i := 1355) (by decide +kernel), List.mem_of_getElem? (i := 1356) (by decide +kernel)⟩
theorem lw_p68 : lw_okq (⟨"ScanChartModel", "join", "(III)I"⟩, 61) := ⟨⟨by decide +kernel, by decide +kernel⟩, List.mem_of_getElem? (i := 938) (by decide +kernel), List.mem_of_getElem? (i := 1359) (by decide +kernel), List.mem_of_getElem? (i := 1360) (by decide +kernel)⟩
theorem lw_p69 : lw_okq (⟨"ScanChartModel", "store", "(I)V"⟩, 61) := ⟨⟨by decide +kernel, by decide +kernel⟩, List.mem_of_getElem? (i := 938) (by decide +kernel), List.mem_of_getElem? (i := 1366) (by decide +kernel), List.mem_of_getElem? (i := 1367) (by decide +kernel)⟩
theorem lw_p70 : lw_okq (⟨"ScanChartModel", "setBit", "(III)V"⟩, 61) := ⟨⟨by decide +kernel, by decide +kernel⟩, List.mem_of_getElem? (i := 938) (by decide +kernel), List.mem_of_getElem? (i := 1370) (by decide +kernel), List.mem_of_getElem? (i := 1371) (by decide +kernel)⟩
theorem lw_p71 : lw_okq (⟨"ScanChartModel", "close", "()I"⟩, 61) := ⟨⟨by decide +kernel, by decide +kernel⟩, List.mem_of_getElem? (i := 938) (by decide +kernel), List.mem_of_getElem? (i := 1374) (by decide +kernel), List.mem_of_getElem? (i := 1375) (by decide +kernel)⟩
theorem lw_p72 : lw_okq (⟨"ScanChartModel", "timer", "(III)V"⟩, 61) := ⟨⟨by decide +kernel, by decide +kernel⟩, List.mem_of_getElem? (i := 938) (by decide +kernel), List.mem_of_getElem? (i := 1378) (by decide +kernel), List.mem_of_getElem? (i := 1379) (by decide +kernel)⟩
theorem lw_p73 : lw_okq (⟨"ScanChartModel", "past", "(JI)I"⟩, 61) := ⟨⟨by decide +kernel, by decide +kernel⟩, List.mem_of_getElem? (i := 938) (by decide +kernel), List.mem_of_getElem? (i := 1382) (by decide +kernel), List.mem_of_getElem? (i := 1383) (by decide +kernel)⟩
theorem lw_p74 : lw_okq (⟨"ScanChartModel", "counter", "(III)V"⟩, 61) := ⟨⟨by decide +kernel, by decide +kernel⟩, List.mem_of_getElem? (i := 938) (by decide +kernel), List.mem_of_getElem? (i := 1386) (by decide +kernel), List.mem_of_getElem? (i := 1387) (by decide +kernel)⟩
theorem lw_p75 : lw_okq (⟨"ScanChartModel", "edge", "(II)V"⟩, 61) := ⟨⟨by decide +kernel, by decide +kernel⟩, List.mem_of_getElem? (i := 938) (by decide +kernel), List.mem_of_getElem? (i := 1390) (by decide +kernel), List.mem_of_getElem? (i := 1391) (by decide +kernel)⟩
theorem lw_p76 : lw_okq (⟨"ScanChartModel", "chart", "()V"⟩, 61) := ⟨⟨by decide +kernel, by decide +kernel⟩, List.mem_of_getElem? (i := 938) (by decide +kernel), List.mem_of_getElem? (i := 1394) (by decide +kernel), List.mem_of_getElem? (i := 1395) (by decide +kernel)⟩
def lw_privs_5 : List (MethodName × Nat) := [(⟨"ScanChartModel", "list", "()I"⟩, 61), (⟨"ScanChartModel", "act", "(I)I"⟩, 61), (⟨"ScanChartModel", "signed", "(I)I"⟩, 61), (⟨"ScanChartModel", "cell", "(II)I"⟩, 61), (⟨"ScanChartModel", "join", "(III)I"⟩, 61), (⟨"ScanChartModel", "store", "(I)V"⟩, 61), (⟨"ScanChartModel", "setBit", "(III)V"⟩, 61), (⟨"ScanChartModel", "close", "()I"⟩, 61), (⟨"ScanChartModel", "timer", "(III)V"⟩, 61), (⟨"ScanChartModel", "past", "(JI)I"⟩, 61), (⟨"ScanChartModel", "counter", "(III)V"⟩, 61), (⟨"ScanChartModel", "edge", "(II)V"⟩, 61), (⟨"ScanChartModel", "chart", "()V"⟩, 61)]
theorem lw_r5 : ∀ q ∈ lw_privs_5, lw_okq q := List.forall_mem_cons.mpr ⟨lw_p64, List.forall_mem_cons.mpr ⟨lw_p65, List.forall_mem_cons.mpr ⟨lw_p66, List.forall_mem_cons.mpr ⟨lw_p67, List.forall_mem_cons.mpr ⟨lw_p68, List.forall_mem_cons.mpr ⟨lw_p69, List.forall_mem_cons.mpr ⟨lw_p70, List.forall_mem_cons.mpr ⟨lw_p71, List.forall_mem_cons.mpr ⟨lw_p72, List.forall_mem_cons.mpr ⟨lw_p73, List.forall_mem_cons.mpr ⟨lw_p74, List.forall_mem_cons.mpr ⟨lw_p75, List.forall_mem_cons.mpr ⟨lw_p76, fun _ h => absurd h List.not_mem_nil⟩⟩⟩⟩⟩⟩⟩⟩⟩⟩⟩⟩⟩
def lw_privs : List (MethodName × Nat) := lw_privs_1 ++ (lw_privs_2 ++ (lw_privs_3 ++ (lw_privs_4 ++ (lw_privs_5))))
def lw_tbl : List Cond := k2_sels lw_privs ++ tables_1
theorem lw_privs_ok : ∀ q ∈ lw_privs, lw_okq q := by
  show ∀ q ∈ lw_privs_1 ++ (lw_privs_2 ++ (lw_privs_3 ++ (lw_privs_4 ++ (lw_privs_5)))), lw_okq q
  exact List.forall_mem_append.mpr ⟨lw_r1, List.forall_mem_append.mpr ⟨lw_r2, List.forall_mem_append.mpr ⟨lw_r3, List.forall_mem_append.mpr ⟨lw_r4, lw_r5⟩⟩⟩⟩
/-! ===== BEGIN printed: names, fields, word lists, decode rows ===== -/
def RX0 : String := "ScanChart$1"
def TX0 : u_T := fun k => match k with
  | _ => ("", "", "", false)
def tyX0 : Nat → FieldType := fun k => match k with
  | _ => .int
abbrev wsX00 : List Cond := u_ws RX0 TX0 0
theorem nmX0 : ∀ a, a < 0 → ∀ b, b < 0 → a ≠ b → (TX0 a).2.1 ≠ (TX0 b).2.1 := by decide +kernel
theorem tyX0_ok : ∀ k, k < 0 → parseFieldDescriptor (TX0 k).2.2.1 = some (tyX0 k) := by decide +kernel
def RX1 : String := "ScanChart$Cells"
def TX1 : u_T := fun k => match k with
  | 0 => ("ScanChart$Cells", "masks", "[I", true)
  | 1 => ("ScanChart$Cells", "words", "[I", true)
  | 2 => ("ScanChart$Cells", "elapsed", "[I", true)
  | _ => ("ScanChart$Cells", "counts", "[I", true)
def tyX1 : Nat → FieldType := fun k => match k with
  | 0 => .array .int
  | 1 => .array .int
  | 2 => .array .int
  | _ => .array .int
abbrev wsX10 : List Cond := u_ws RX1 TX1 4
theorem nmX1 : ∀ a, a < 4 → ∀ b, b < 4 → a ≠ b → (TX1 a).2.1 ≠ (TX1 b).2.1 := by decide +kernel
theorem tyX1_ok : ∀ k, k < 4 → parseFieldDescriptor (TX1 k).2.2.1 = some (tyX1 k) := by decide +kernel
abbrev cX1_init : ByteArray := prog_3_method_1_code
def yX1_init : MethodName := ⟨RX1, "<init>", "()V"⟩
abbrev cX1_clear : ByteArray := prog_3_method_2_code
def yX1_clear : MethodName := ⟨RX1, "clear", "()V"⟩
abbrev cX1_valueOf : ByteArray := prog_3_method_3_code
def yX1_valueOf : MethodName := ⟨RX1, "valueOf", "(II)I"⟩
abbrev cX1_setBit : ByteArray := prog_3_method_4_code
def yX1_setBit : MethodName := ⟨RX1, "setBit", "(IIZ)V"⟩
abbrev cX1_store : ByteArray := prog_3_method_5_code
def yX1_store : MethodName := ⟨RX1, "store", "(III)V"⟩
abbrev cX1_setTimer : ByteArray := prog_3_method_6_code
def yX1_setTimer : MethodName := ⟨RX1, "setTimer", "(IZI)V"⟩
abbrev cX1_setCount : ByteArray := prog_3_method_7_code
def yX1_setCount : MethodName := ⟨RX1, "setCount", "(II)V"⟩
def RX2 : String := "ScanChart$Chart"
def TX2 : u_T := fun k => match k with
  | 0 => ("ScanChart$Chart", "goBefore", "[I", true)
  | 1 => ("ScanChart$Chart", "goBehind", "[I", true)
  | 2 => ("ScanChart$Chart", "goConditions", "[I", true)
  | 3 => ("ScanChart$Chart", "goKinds", "[I", true)
  | 4 => ("ScanChart$Chart", "goNumbers", "[I", true)
  | 5 => ("ScanChart$Chart", "goCount", "I", false)
  | 6 => ("ScanChart$Chart", "actions", "[I", true)
  | 7 => ("ScanChart$Chart", "actionKinds", "[I", true)
  | 8 => ("ScanChart$Chart", "actionNumbers", "[I", true)
  | _ => ("ScanChart$Chart", "steps", "I", false)
def tyX2 : Nat → FieldType := fun k => match k with
  | 0 => .array .int
  | 1 => .array .int
  | 2 => .array .int
  | 3 => .array .int
  | 4 => .array .int
  | 5 => .int
  | 6 => .array .int
  | 7 => .array .int
  | 8 => .array .int
  | _ => .int
abbrev wsX20 : List Cond := u_ws RX2 TX2 10
theorem nmX2 : ∀ a, a < 10 → ∀ b, b < 10 → a ≠ b → (TX2 a).2.1 ≠ (TX2 b).2.1 := by decide +kernel
theorem tyX2_ok : ∀ k, k < 10 → parseFieldDescriptor (TX2 k).2.2.1 = some (tyX2 k) := by decide +kernel
abbrev cX2_init : ByteArray := prog_4_method_1_code
def yX2_init : MethodName := ⟨RX2, "<init>", "()V"⟩
abbrev cX2_clear : ByteArray := prog_4_method_2_code
def yX2_clear : MethodName := ⟨RX2, "clear", "()V"⟩
abbrev cX2_addGo : ByteArray := prog_4_method_3_code
def yX2_addGo : MethodName := ⟨RX2, "addGo", "(IIIII)V"⟩
abbrev cX2_addAction : ByteArray := prog_4_method_4_code
def yX2_addAction : MethodName := ⟨RX2, "addAction", "(IIIII)V"⟩
def RX3 : String := "ScanChart$Machine"
def TX3 : u_T := fun k => match k with
  | 0 => ("ScanChart$Machine", "cells", "LScanChart$Cells;", true)
  | 1 => ("ScanChart$Machine", "now", "J", false)
  | 2 => ("ScanChart$Machine", "outputs", "I", false)
  | 3 => ("ScanChart$Machine", "stop", "I", false)
  | 4 => ("ScanChart$Machine", "performed", "I", false)
  | 5 => ("ScanChart$Machine", "gosFired", "I", false)
  | 6 => ("ScanChart$Machine", "past", "LScanChart$Past;", true)
  | 7 => ("ScanChart$Machine", "result", "I", false)
  | 8 => ("ScanChart$Machine", "next", "I", false)
  | 9 => ("ScanChart$Machine", "open", "I", false)
  | 10 => ("ScanChart$Machine", "asideResults", "[I", true)
  | _ => ("ScanChart$Machine", "asideOps", "[LScanChart$Op;", true)
def tyX3 : Nat → FieldType := fun k => match k with
  | 0 => .object "ScanChart$Cells"
  | 1 => .long
  | 2 => .int
  | 3 => .int
  | 4 => .int
  | 5 => .int
  | 6 => .object "ScanChart$Past"
  | 7 => .int
  | 8 => .int
  | 9 => .int
  | 10 => .array .int
  | _ => .array (.object "ScanChart$Op")
abbrev wsX30 : List Cond := u_ws RX3 TX3 12
theorem nmX3 : ∀ a, a < 12 → ∀ b, b < 12 → a ≠ b → (TX3 a).2.1 ≠ (TX3 b).2.1 := by decide +kernel
theorem tyX3_ok : ∀ k, k < 12 → parseFieldDescriptor (TX3 k).2.2.1 = some (tyX3 k) := by decide +kernel
abbrev cX3_init : ByteArray := prog_5_method_1_code
def yX3_init : MethodName := ⟨RX3, "<init>", "()V"⟩
abbrev cX3_startAgain : ByteArray := prog_5_method_2_code
def yX3_startAgain : MethodName := ⟨RX3, "startAgain", "()V"⟩
abbrev cX3_goRound : ByteArray := prog_5_method_3_code
def yX3_goRound : MethodName := ⟨RX3, "goRound", "(LScanChart$Program;II)V"⟩
abbrev cX3_performList : ByteArray := prog_5_method_4_code
def yX3_performList : MethodName := ⟨RX3, "performList", "(LScanChart$Program;)V"⟩
abbrev cX3_perform : ByteArray := prog_5_method_5_code
def yX3_perform : MethodName := ⟨RX3, "perform", "(LScanChart$Op;LScanChart$Program;I)V"⟩
abbrev cX3_performBlock : ByteArray := prog_5_method_6_code
def yX3_performBlock : MethodName := ⟨RX3, "performBlock", "(LScanChart$Op;II)V"⟩
abbrev cX3_putAside : ByteArray := prog_5_method_7_code
def yX3_putAside : MethodName := ⟨RX3, "putAside", "(LScanChart$Op;)V"⟩
abbrev cX3_takeBack : ByteArray := prog_5_method_8_code
def yX3_takeBack : MethodName := ⟨RX3, "takeBack", "()V"⟩
abbrev cX3_calculate : ByteArray := prog_5_method_9_code
def yX3_calculate : MethodName := ⟨RX3, "calculate", "(LScanChart$Op;II)I"⟩
abbrev cX3_compare : ByteArray := prog_5_method_10_code
def yX3_compare : MethodName := ⟨RX3, "compare", "(LScanChart$Op;II)Z"⟩
abbrev cX3_goOn : ByteArray := prog_5_method_11_code
def yX3_goOn : MethodName := ⟨RX3, "goOn", "(LScanChart$Chart;)V"⟩
abbrev cX3_isOpen : ByteArray := prog_5_method_12_code
def yX3_isOpen : MethodName := ⟨RX3, "isOpen", "(LScanChart$Chart;I)Z"⟩
abbrev cX3_act : ByteArray := prog_5_method_13_code
def yX3_act : MethodName := ⟨RX3, "act", "(LScanChart$Chart;)V"⟩
abbrev cX3_actAs : ByteArray := prog_5_method_14_code
def yX3_actAs : MethodName := ⟨RX3, "actAs", "(LScanChart$Chart;IIZ)V"⟩
def RX4 : String := "ScanChart$Op"
def TX4 : u_T := fun k => match k with
  | _ => ("", "", "", false)
def tyX4 : Nat → FieldType := fun k => match k with
  | _ => .int
abbrev wsX40 : List Cond := u_ws RX4 TX4 0
theorem nmX4 : ∀ a, a < 0 → ∀ b, b < 0 → a ≠ b → (TX4 a).2.1 ≠ (TX4 b).2.1 := by decide +kernel
theorem tyX4_ok : ∀ k, k < 0 → parseFieldDescriptor (TX4 k).2.2.1 = some (tyX4 k) := by decide +kernel
abbrev cX4_counts : ByteArray := prog_6_method_4_code
def yX4_counts : MethodName := ⟨RX4, "counts", "(I)I"⟩
abbrev cX4_isBlock : ByteArray := prog_6_method_5_code
def yX4_isBlock : MethodName := ⟨RX4, "isBlock", "()Z"⟩
abbrev cX4_isTaken : ByteArray := prog_6_method_6_code
def yX4_isTaken : MethodName := ⟨RX4, "isTaken", "(I)Z"⟩
def RX5 : String := "ScanChart$Past"
def TX5 : u_T := fun k => match k with
  | 0 => ("ScanChart$Past", "onRuns", "I", false)
  | 1 => ("ScanChart$Past", "onBegan", "[J", true)
  | 2 => ("ScanChart$Past", "offHadIt", "I", false)
  | 3 => ("ScanChart$Past", "offRuns", "I", false)
  | 4 => ("ScanChart$Past", "offBegan", "[J", true)
  | 5 => ("ScanChart$Past", "pulseRuns", "I", false)
  | 6 => ("ScanChart$Past", "pulseBegan", "[J", true)
  | 7 => ("ScanChart$Past", "upHadIt", "I", false)
  | 8 => ("ScanChart$Past", "downHadIt", "I", false)
  | 9 => ("ScanChart$Past", "riseHadIt", "I", false)
  | _ => ("ScanChart$Past", "fallHadIt", "I", false)
def tyX5 : Nat → FieldType := fun k => match k with
  | 0 => .int
  | 1 => .array .long
  | 2 => .int
  | 3 => .int
  | 4 => .array .long
  | 5 => .int
  | 6 => .array .long
  | 7 => .int
  | 8 => .int
  | 9 => .int
  | _ => .int
abbrev wsX50 : List Cond := u_ws RX5 TX5 11
theorem nmX5 : ∀ a, a < 11 → ∀ b, b < 11 → a ≠ b → (TX5 a).2.1 ≠ (TX5 b).2.1 := by decide +kernel
theorem tyX5_ok : ∀ k, k < 11 → parseFieldDescriptor (TX5 k).2.2.1 = some (tyX5 k) := by decide +kernel
abbrev cX5_init : ByteArray := prog_7_method_1_code
def yX5_init : MethodName := ⟨RX5, "<init>", "()V"⟩
abbrev cX5_clear : ByteArray := prog_7_method_2_code
def yX5_clear : MethodName := ⟨RX5, "clear", "()V"⟩
abbrev cX5_begin : ByteArray := prog_7_method_3_code
def yX5_begin : MethodName := ⟨RX5, "begin", "([JIJ)V"⟩
abbrev cX5_goneSince : ByteArray := prog_7_method_4_code
def yX5_goneSince : MethodName := ⟨RX5, "goneSince", "([JIJI)I"⟩
abbrev cX5_delayOn : ByteArray := prog_7_method_5_code
def yX5_delayOn : MethodName := ⟨RX5, "delayOn", "(LScanChart$Cells;IZIJ)V"⟩
abbrev cX5_delayOff : ByteArray := prog_7_method_6_code
def yX5_delayOff : MethodName := ⟨RX5, "delayOff", "(LScanChart$Cells;IZIJ)V"⟩
abbrev cX5_pulse : ByteArray := prog_7_method_7_code
def yX5_pulse : MethodName := ⟨RX5, "pulse", "(LScanChart$Cells;IZIJ)V"⟩
abbrev cX5_countUp : ByteArray := prog_7_method_8_code
def yX5_countUp : MethodName := ⟨RX5, "countUp", "(LScanChart$Cells;IZI)V"⟩
abbrev cX5_countDown : ByteArray := prog_7_method_9_code
def yX5_countDown : MethodName := ⟨RX5, "countDown", "(LScanChart$Cells;IZ)V"⟩
abbrev cX5_rises : ByteArray := prog_7_method_10_code
def yX5_rises : MethodName := ⟨RX5, "rises", "(IZ)Z"⟩
abbrev cX5_falls : ByteArray := prog_7_method_11_code
def yX5_falls : MethodName := ⟨RX5, "falls", "(IZ)Z"⟩
def RX6 : String := "ScanChart$Program"
def TX6 : u_T := fun k => match k with
  | 0 => ("ScanChart$Program", "chart", "LScanChart$Chart;", true)
  | 1 => ("ScanChart$Program", "ops", "[LScanChart$Op;", true)
  | 2 => ("ScanChart$Program", "kinds", "[I", true)
  | 3 => ("ScanChart$Program", "numbers", "[I", true)
  | 4 => ("ScanChart$Program", "limits", "[I", true)
  | 5 => ("ScanChart$Program", "labels", "[I", true)
  | _ => ("ScanChart$Program", "count", "I", false)
def tyX6 : Nat → FieldType := fun k => match k with
  | 0 => .object "ScanChart$Chart"
  | 1 => .array (.object "ScanChart$Op")
  | 2 => .array .int
  | 3 => .array .int
  | 4 => .array .int
  | 5 => .array .int
  | _ => .int
abbrev wsX60 : List Cond := u_ws RX6 TX6 7
theorem nmX6 : ∀ a, a < 7 → ∀ b, b < 7 → a ≠ b → (TX6 a).2.1 ≠ (TX6 b).2.1 := by decide +kernel
theorem tyX6_ok : ∀ k, k < 7 → parseFieldDescriptor (TX6 k).2.2.1 = some (tyX6 k) := by decide +kernel
abbrev cX6_init : ByteArray := prog_8_method_1_code
def yX6_init : MethodName := ⟨RX6, "<init>", "()V"⟩
abbrev cX6_clear : ByteArray := prog_8_method_2_code
def yX6_clear : MethodName := ⟨RX6, "clear", "()V"⟩
abbrev cX6_add : ByteArray := prog_8_method_3_code
def yX6_add : MethodName := ⟨RX6, "add", "(LScanChart$Op;III)V"⟩
abbrev cX6_opAt : ByteArray := prog_8_method_4_code
def yX6_opAt : MethodName := ⟨RX6, "opAt", "(I)LScanChart$Op;"⟩
def RX7 : String := "ScanChart$Reader"
def TX7 : u_T := fun k => match k with
  | 0 => ("ScanChart$Reader", "text", "LScanChart$Text;", true)
  | 1 => ("ScanChart$Reader", "program", "LScanChart$Program;", false)
  | 2 => ("ScanChart$Reader", "faultMet", "I", false)
  | 3 => ("ScanChart$Reader", "faultPlace", "I", false)
  | 4 => ("ScanChart$Reader", "token", "I", false)
  | 5 => ("ScanChart$Reader", "from", "I", false)
  | 6 => ("ScanChart$Reader", "to", "I", false)
  | 7 => ("ScanChart$Reader", "figures", "I", false)
  | 8 => ("ScanChart$Reader", "opens", "Z", false)
  | 9 => ("ScanChart$Reader", "open", "I", false)
  | 10 => ("ScanChart$Reader", "gotKind", "I", false)
  | 11 => ("ScanChart$Reader", "gotNumber", "I", false)
  | 12 => ("ScanChart$Reader", "labelNamed", "[I", true)
  | _ => ("ScanChart$Reader", "stepNamed", "[I", true)
def tyX7 : Nat → FieldType := fun k => match k with
  | 0 => .object "ScanChart$Text"
  | 1 => .object "ScanChart$Program"
  | 2 => .int
  | 3 => .int
  | 4 => .int
  | 5 => .int
  | 6 => .int
  | 7 => .int
  | 8 => .boolean
  | 9 => .int
  | 10 => .int
  | 11 => .int
  | 12 => .array .int
  | _ => .array .int
abbrev wsX70 : List Cond := u_ws RX7 TX7 14
theorem nmX7 : ∀ a, a < 14 → ∀ b, b < 14 → a ≠ b → (TX7 a).2.1 ≠ (TX7 b).2.1 := by decide +kernel
theorem tyX7_ok : ∀ k, k < 14 → parseFieldDescriptor (TX7 k).2.2.1 = some (tyX7 k) := by decide +kernel
abbrev cX7_init : ByteArray := prog_9_method_1_code
def yX7_init : MethodName := ⟨RX7, "<init>", "()V"⟩
abbrev cX7_readText : ByteArray := prog_9_method_2_code
def yX7_readText : MethodName := ⟨RX7, "readText", "()Z"⟩
abbrev cX7_fail : ByteArray := prog_9_method_3_code
def yX7_fail : MethodName := ⟨RX7, "fail", "(I)Z"⟩
abbrev cX7_failAt : ByteArray := prog_9_method_4_code
def yX7_failAt : MethodName := ⟨RX7, "failAt", "(II)Z"⟩
abbrev cX7_advance : ByteArray := prog_9_method_5_code
def yX7_advance : MethodName := ⟨RX7, "advance", "()V"⟩
abbrev cX7_isWord : ByteArray := prog_9_method_6_code
def yX7_isWord : MethodName := ⟨RX7, "isWord", "(Ljava/lang/String;)Z"⟩
abbrev cX7_isFigures : ByteArray := prog_9_method_7_code
def yX7_isFigures : MethodName := ⟨RX7, "isFigures", "()Z"⟩
abbrev cX7_isLabel : ByteArray := prog_9_method_8_code
def yX7_isLabel : MethodName := ⟨RX7, "isLabel", "()Z"⟩
abbrev cX7_readLabel : ByteArray := prog_9_method_9_code
def yX7_readLabel : MethodName := ⟨RX7, "readLabel", "()Z"⟩
abbrev cX7_readOp : ByteArray := prog_9_method_10_code
def yX7_readOp : MethodName := ⟨RX7, "readOp", "()LScanChart$Op;"⟩
abbrev cX7_opSpelled : ByteArray := prog_9_method_11_code
def yX7_opSpelled : MethodName := ⟨RX7, "opSpelled", "(II)LScanChart$Op;"⟩
abbrev cX7_isFull : ByteArray := prog_9_method_12_code
def yX7_isFull : MethodName := ⟨RX7, "isFull", "(LScanChart$Op;)Z"⟩
abbrev cX7_isAllowedByBrackets : ByteArray := prog_9_method_13_code
def yX7_isAllowedByBrackets : MethodName := ⟨RX7, "isAllowedByBrackets", "(LScanChart$Op;)Z"⟩
abbrev cX7_readOperands : ByteArray := prog_9_method_14_code
def yX7_readOperands : MethodName := ⟨RX7, "readOperands", "(LScanChart$Op;)Z"⟩
abbrev cX7_operandsOf : ByteArray := prog_9_method_15_code
def yX7_operandsOf : MethodName := ⟨RX7, "operandsOf", "(LScanChart$Op;)I"⟩
abbrev cX7_kindOfWord : ByteArray := prog_9_method_16_code
def yX7_kindOfWord : MethodName := ⟨RX7, "kindOfWord", "()I"⟩
abbrev cX7_readCell : ByteArray := prog_9_method_17_code
def yX7_readCell : MethodName := ⟨RX7, "readCell", "(I)Z"⟩
abbrev cX7_readFigures : ByteArray := prog_9_method_18_code
def yX7_readFigures : MethodName := ⟨RX7, "readFigures", "(II)Z"⟩
abbrev cX7_readStep : ByteArray := prog_9_method_19_code
def yX7_readStep : MethodName := ⟨RX7, "readStep", "()Z"⟩
abbrev cX7_actionOfWord : ByteArray := prog_9_method_20_code
def yX7_actionOfWord : MethodName := ⟨RX7, "actionOfWord", "()I"⟩
abbrev cX7_readGo : ByteArray := prog_9_method_21_code
def yX7_readGo : MethodName := ⟨RX7, "readGo", "()Z"⟩
abbrev cX7_readSteps : ByteArray := prog_9_method_22_code
def yX7_readSteps : MethodName := ⟨RX7, "readSteps", "()I"⟩
abbrev cX7_noteNamed : ByteArray := prog_9_method_23_code
def yX7_noteNamed : MethodName := ⟨RX7, "noteNamed", "([III)V"⟩
abbrev cX7_findNoneMissing : ByteArray := prog_9_method_24_code
def yX7_findNoneMissing : MethodName := ⟨RX7, "findNoneMissing", "()Z"⟩
def RX8 : String := "ScanChart$Text"
def TX8 : u_T := fun k => match k with
  | 0 => ("ScanChart$Text", "bytes", "[I", true)
  | _ => ("ScanChart$Text", "length", "I", false)
def tyX8 : Nat → FieldType := fun k => match k with
  | 0 => .array .int
  | _ => .int
abbrev wsX80 : List Cond := u_ws RX8 TX8 2
theorem nmX8 : ∀ a, a < 2 → ∀ b, b < 2 → a ≠ b → (TX8 a).2.1 ≠ (TX8 b).2.1 := by decide +kernel
theorem tyX8_ok : ∀ k, k < 2 → parseFieldDescriptor (TX8 k).2.2.1 = some (tyX8 k) := by decide +kernel
abbrev cX8_init : ByteArray := prog_10_method_1_code
def yX8_init : MethodName := ⟨RX8, "<init>", "()V"⟩
abbrev cX8_append : ByteArray := prog_10_method_2_code
def yX8_append : MethodName := ⟨RX8, "append", "(IJ)I"⟩
abbrev cX8_byteAt : ByteArray := prog_10_method_3_code
def yX8_byteAt : MethodName := ⟨RX8, "byteAt", "(I)I"⟩
abbrev cX8_spells : ByteArray := prog_10_method_4_code
def yX8_spells : MethodName := ⟨RX8, "spells", "(Ljava/lang/String;II)Z"⟩
abbrev cX8_numberIn : ByteArray := prog_10_method_5_code
def yX8_numberIn : MethodName := ⟨RX8, "numberIn", "(II)J"⟩
def RX9 : String := "ScanChart"
def TX9 : u_T := fun k => match k with
  | 0 => ("ScanChart", "reader", "LScanChart$Reader;", true)
  | 1 => ("ScanChart", "machine", "LScanChart$Machine;", true)
  | 2 => ("ScanChart", "program", "LScanChart$Program;", false)
  | _ => ("ScanChart", "inputs", "I", false)
def tyX9 : Nat → FieldType := fun k => match k with
  | 0 => .object "ScanChart$Reader"
  | 1 => .object "ScanChart$Machine"
  | 2 => .object "ScanChart$Program"
  | _ => .int
abbrev wsX90 : List Cond := u_ws RX9 TX9 4
theorem nmX9 : ∀ a, a < 4 → ∀ b, b < 4 → a ≠ b → (TX9 a).2.1 ≠ (TX9 b).2.1 := by decide +kernel
theorem tyX9_ok : ∀ k, k < 4 → parseFieldDescriptor (TX9 k).2.2.1 = some (tyX9 k) := by decide +kernel
abbrev cX9_init : ByteArray := prog_1_method_1_code
def yX9_init : MethodName := ⟨RX9, "<init>", "()V"⟩
abbrev cX9_feed : ByteArray := prog_1_method_2_code
def yX9_feed : MethodName := ⟨RX9, "feed", "(IJ)I"⟩
abbrev cX9_wipe : ByteArray := prog_1_method_3_code
def yX9_wipe : MethodName := ⟨RX9, "wipe", "()I"⟩
abbrev cX9_load : ByteArray := prog_1_method_4_code
def yX9_load : MethodName := ⟨RX9, "load", "()I"⟩
abbrev cX9_fault : ByteArray := prog_1_method_5_code
def yX9_fault : MethodName := ⟨RX9, "fault", "()I"⟩
abbrev cX9_place : ByteArray := prog_1_method_6_code
def yX9_place : MethodName := ⟨RX9, "place", "()I"⟩
abbrev cX9_reset : ByteArray := prog_1_method_7_code
def yX9_reset : MethodName := ⟨RX9, "reset", "()V"⟩
abbrev cX9_input : ByteArray := prog_1_method_8_code
def yX9_input : MethodName := ⟨RX9, "input", "(IZ)V"⟩
abbrev cX9_scan : ByteArray := prog_1_method_9_code
def yX9_scan : MethodName := ⟨RX9, "scan", "(I)I"⟩
abbrev cX9_run : ByteArray := prog_1_method_10_code
def yX9_run : MethodName := ⟨RX9, "run", "(II)I"⟩
abbrev cX9_output : ByteArray := prog_1_method_11_code
def yX9_output : MethodName := ⟨RX9, "output", "(I)Z"⟩
abbrev cX9_bits : ByteArray := prog_1_method_12_code
def yX9_bits : MethodName := ⟨RX9, "bits", "(I)I"⟩
abbrev cX9_word : ByteArray := prog_1_method_13_code
def yX9_word : MethodName := ⟨RX9, "word", "(I)I"⟩
abbrev cX9_block : ByteArray := prog_1_method_14_code
def yX9_block : MethodName := ⟨RX9, "block", "(II)I"⟩
abbrev cX9_done : ByteArray := prog_1_method_15_code
def yX9_done : MethodName := ⟨RX9, "done", "()I"⟩
abbrev cX9_fired : ByteArray := prog_1_method_16_code
def yX9_fired : MethodName := ⟨RX9, "fired", "()I"⟩
abbrev cX9_time : ByteArray := prog_1_method_17_code
def yX9_time : MethodName := ⟨RX9, "time", "()J"⟩
abbrev cX9_at : ByteArray := prog_1_method_18_code
def yX9_at : MethodName := ⟨RX9, "at", "([II)I"⟩
abbrev cX9_put : ByteArray := prog_1_method_19_code
def yX9_put : MethodName := ⟨RX9, "put", "([III)V"⟩
abbrev cX9_isSet : ByteArray := prog_1_method_20_code
def yX9_isSet : MethodName := ⟨RX9, "isSet", "(II)Z"⟩
abbrev cX9_withBit : ByteArray := prog_1_method_21_code
def yX9_withBit : MethodName := ⟨RX9, "withBit", "(IIZ)I"⟩
abbrev cX9_fill : ByteArray := prog_1_method_22_code
def yX9_fill : MethodName := ⟨RX9, "fill", "([II)V"⟩
def RX10 : String := "ScanChartModel"
def TX10 : u_T := fun k => match k with
  | 0 => ("ScanChartModel", "thrown", "I", false)
  | 1 => ("ScanChartModel", "text", "[I", true)
  | 2 => ("ScanChartModel", "size", "I", false)
  | 3 => ("ScanChartModel", "wrong", "I", false)
  | 4 => ("ScanChartModel", "wrongAt", "I", false)
  | 5 => ("ScanChartModel", "what", "[I", true)
  | 6 => ("ScanChartModel", "how", "[I", true)
  | 7 => ("ScanChartModel", "kind", "[I", true)
  | 8 => ("ScanChartModel", "number", "[I", true)
  | 9 => ("ScanChartModel", "more", "[I", true)
  | 10 => ("ScanChartModel", "lines", "[I", true)
  | 11 => ("ScanChartModel", "labels", "[I", true)
  | 12 => ("ScanChartModel", "steps", "[Z", true)
  | 13 => ("ScanChartModel", "actHow", "[I", true)
  | 14 => ("ScanChartModel", "actKind", "[I", true)
  | 15 => ("ScanChartModel", "actNumber", "[I", true)
  | 16 => ("ScanChartModel", "goFrom", "[I", true)
  | 17 => ("ScanChartModel", "goTo", "[I", true)
  | 18 => ("ScanChartModel", "goIf", "[I", true)
  | 19 => ("ScanChartModel", "goKind", "[I", true)
  | 20 => ("ScanChartModel", "goNumber", "[I", true)
  | 21 => ("ScanChartModel", "goes", "[I", true)
  | 22 => ("ScanChartModel", "own", "I", false)
  | 23 => ("ScanChartModel", "half", "I", false)
  | 24 => ("ScanChartModel", "at", "I", false)
  | 25 => ("ScanChartModel", "from", "I", false)
  | 26 => ("ScanChartModel", "to", "I", false)
  | 27 => ("ScanChartModel", "open", "I", false)
  | 28 => ("ScanChartModel", "first", "I", false)
  | 29 => ("ScanChartModel", "second", "I", false)
  | 30 => ("ScanChartModel", "named", "[I", true)
  | 31 => ("ScanChartModel", "namedAt", "[I", true)
  | 32 => ("ScanChartModel", "namedCount", "I", false)
  | 33 => ("ScanChartModel", "given", "[Z", true)
  | 34 => ("ScanChartModel", "inputs", "[I", true)
  | 35 => ("ScanChartModel", "outs", "[I", true)
  | 36 => ("ScanChartModel", "marks", "[I", true)
  | 37 => ("ScanChartModel", "words", "[I", true)
  | 38 => ("ScanChartModel", "times", "[I", true)
  | 39 => ("ScanChartModel", "timerBits", "[I", true)
  | 40 => ("ScanChartModel", "counts", "[I", true)
  | 41 => ("ScanChartModel", "counterBits", "[I", true)
  | 42 => ("ScanChartModel", "active", "[I", true)
  | 43 => ("ScanChartModel", "shown", "[I", true)
  | 44 => ("ScanChartModel", "clock", "J", false)
  | 45 => ("ScanChartModel", "stopped", "I", false)
  | 46 => ("ScanChartModel", "lastDone", "I", false)
  | 47 => ("ScanChartModel", "lastFired", "I", false)
  | 48 => ("ScanChartModel", "onSince", "[J", true)
  | 49 => ("ScanChartModel", "hadIt", "[Z", true)
  | 50 => ("ScanChartModel", "offSince", "[J", true)
  | 51 => ("ScanChartModel", "pulseSince", "[J", true)
  | 52 => ("ScanChartModel", "pulseLast", "[Z", true)
  | 53 => ("ScanChartModel", "upLast", "[Z", true)
  | 54 => ("ScanChartModel", "downLast", "[Z", true)
  | 55 => ("ScanChartModel", "riseLast", "[Z", true)
  | 56 => ("ScanChartModel", "fallLast", "[Z", true)
  | 57 => ("ScanChartModel", "aside", "[I", true)
  | 58 => ("ScanChartModel", "asideBy", "[I", true)
  | 59 => ("ScanChartModel", "depth", "I", false)
  | _ => ("ScanChartModel", "result", "I", false)
def tyX10 : Nat → FieldType := fun k => match k with
  | 0 => .int
  | 1 => .array .int
  | 2 => .int
  | 3 => .int
  | 4 => .int
  | 5 => .array .int
  | 6 => .array .int
  | 7 => .array .int
  | 8 => .array .int
  | 9 => .array .int
  | 10 => .array .int
  | 11 => .array .int
  | 12 => .array .boolean
  | 13 => .array .int
  | 14 => .array .int
  | 15 => .array .int
  | 16 => .array .int
  | 17 => .array .int
  | 18 => .array .int
  | 19 => .array .int
  | 20 => .array .int
  | 21 => .array .int
  | 22 => .int
  | 23 => .int
  | 24 => .int
  | 25 => .int
  | 26 => .int
  | 27 => .int
  | 28 => .int
  | 29 => .int
  | 30 => .array .int
  | 31 => .array .int
  | 32 => .int
  | 33 => .array .boolean
  | 34 => .array .int
  | 35 => .array .int
  | 36 => .array .int
  | 37 => .array .int
  | 38 => .array .int
  | 39 => .array .int
  | 40 => .array .int
  | 41 => .array .int
  | 42 => .array .int
  | 43 => .array .int
  | 44 => .long
  | 45 => .int
  | 46 => .int
  | 47 => .int
  | 48 => .array .long
  | 49 => .array .boolean
  | 50 => .array .long
  | 51 => .array .long
  | 52 => .array .boolean
  | 53 => .array .boolean
  | 54 => .array .boolean
  | 55 => .array .boolean
  | 56 => .array .boolean
  | 57 => .array .int
  | 58 => .array .int
  | 59 => .int
  | _ => .int
abbrev wsX100 : List Cond := u_ws RX10 TX10 61
theorem nmX10 : ∀ a, a < 61 → ∀ b, b < 61 → a ≠ b → (TX10 a).2.1 ≠ (TX10 b).2.1 := by decide +kernel
theorem tyX10_ok : ∀ k, k < 61 → parseFieldDescriptor (TX10 k).2.2.1 = some (tyX10 k) := by decide +kernel
abbrev cX10_init : ByteArray := prog_12_method_1_code
def yX10_init : MethodName := ⟨RX10, "<init>", "()V"⟩
abbrev cX10_thrown : ByteArray := prog_12_method_2_code
def yX10_thrown : MethodName := ⟨RX10, "thrown", "()I"⟩
abbrev cX10_feed : ByteArray := prog_12_method_3_code
def yX10_feed : MethodName := ⟨RX10, "feed", "(IJ)I"⟩
abbrev cX10_wipe : ByteArray := prog_12_method_4_code
def yX10_wipe : MethodName := ⟨RX10, "wipe", "()I"⟩
abbrev cX10_fail : ByteArray := prog_12_method_5_code
def yX10_fail : MethodName := ⟨RX10, "fail", "(II)V"⟩
abbrev cX10_next : ByteArray := prog_12_method_6_code
def yX10_next : MethodName := ⟨RX10, "next", "()V"⟩
abbrev cX10_isEnd : ByteArray := prog_12_method_7_code
def yX10_isEnd : MethodName := ⟨RX10, "isEnd", "()Z"⟩
abbrev cX10_isLineEnd : ByteArray := prog_12_method_8_code
def yX10_isLineEnd : MethodName := ⟨RX10, "isLineEnd", "()Z"⟩
abbrev cX10_code : ByteArray := prog_12_method_9_code
def yX10_code : MethodName := ⟨RX10, "code", "()J"⟩
abbrev cX10_isFigure : ByteArray := prog_12_method_10_code
def yX10_isFigure : MethodName := ⟨RX10, "isFigure", "(I)Z"⟩
abbrev cX10_areFigures : ByteArray := prog_12_method_11_code
def yX10_areFigures : MethodName := ⟨RX10, "areFigures", "(II)Z"⟩
abbrev cX10_value : ByteArray := prog_12_method_12_code
def yX10_value : MethodName := ⟨RX10, "value", "(II)J"⟩
abbrev cX10_small : ByteArray := prog_12_method_13_code
def yX10_small : MethodName := ⟨RX10, "small", "(III)I"⟩
abbrev cX10_great : ByteArray := prog_12_method_14_code
def yX10_great : MethodName := ⟨RX10, "great", "(II)I"⟩
abbrev cX10_byteAt : ByteArray := prog_12_method_15_code
def yX10_byteAt : MethodName := ⟨RX10, "byteAt", "(I)I"⟩
abbrev cX10_cellKind : ByteArray := prog_12_method_16_code
def yX10_cellKind : MethodName := ⟨RX10, "cellKind", "()I"⟩
abbrev cX10_mostOf : ByteArray := prog_12_method_17_code
def yX10_mostOf : MethodName := ⟨RX10, "mostOf", "(I)I"⟩
abbrev cX10_operand : ByteArray := prog_12_method_18_code
def yX10_operand : MethodName := ⟨RX10, "operand", "(I)V"⟩
abbrev cX10_sign : ByteArray := prog_12_method_19_code
def yX10_sign : MethodName := ⟨RX10, "sign", "(J)I"⟩
abbrev cX10_add : ByteArray := prog_12_method_20_code
def yX10_add : MethodName := ⟨RX10, "add", "(IIIII)V"⟩
abbrev cX10_isSign : ByteArray := prog_12_method_21_code
def yX10_isSign : MethodName := ⟨RX10, "isSign", "(J)Z"⟩
abbrev cX10_mayComeNow : ByteArray := prog_12_method_22_code
def yX10_mayComeNow : MethodName := ⟨RX10, "mayComeNow", "()Z"⟩
abbrev cX10_isMove : ByteArray := prog_12_method_23_code
def yX10_isMove : MethodName := ⟨RX10, "isMove", "(J)Z"⟩
abbrev cX10_isJump : ByteArray := prog_12_method_24_code
def yX10_isJump : MethodName := ⟨RX10, "isJump", "(J)Z"⟩
abbrev cX10_labelWord : ByteArray := prog_12_method_25_code
def yX10_labelWord : MethodName := ⟨RX10, "labelWord", "(I)I"⟩
abbrev cX10_names : ByteArray := prog_12_method_26_code
def yX10_names : MethodName := ⟨RX10, "names", "(I)V"⟩
abbrev cX10_lettered : ByteArray := prog_12_method_27_code
def yX10_lettered : MethodName := ⟨RX10, "lettered", "(II)I"⟩
abbrev cX10_isBlock : ByteArray := prog_12_method_28_code
def yX10_isBlock : MethodName := ⟨RX10, "isBlock", "(J)Z"⟩
abbrev cX10_isAlone : ByteArray := prog_12_method_29_code
def yX10_isAlone : MethodName := ⟨RX10, "isAlone", "(J)Z"⟩
abbrev cX10_actions : ByteArray := prog_12_method_30_code
def yX10_actions : MethodName := ⟨RX10, "actions", "(I)V"⟩
abbrev cX10_step : ByteArray := prog_12_method_31_code
def yX10_step : MethodName := ⟨RX10, "step", "()V"⟩
abbrev cX10_some : ByteArray := prog_12_method_32_code
def yX10_some : MethodName := ⟨RX10, "some", "()I"⟩
abbrev cX10_go : ByteArray := prog_12_method_33_code
def yX10_go : MethodName := ⟨RX10, "go", "()V"⟩
abbrev cX10_line : ByteArray := prog_12_method_34_code
def yX10_line : MethodName := ⟨RX10, "line", "()V"⟩
abbrev cX10_begin : ByteArray := prog_12_method_35_code
def yX10_begin : MethodName := ⟨RX10, "begin", "()V"⟩
abbrev cX10_load : ByteArray := prog_12_method_36_code
def yX10_load : MethodName := ⟨RX10, "load", "()I"⟩
abbrev cX10_fault : ByteArray := prog_12_method_37_code
def yX10_fault : MethodName := ⟨RX10, "fault", "()I"⟩
abbrev cX10_place : ByteArray := prog_12_method_38_code
def yX10_place : MethodName := ⟨RX10, "place", "()I"⟩
abbrev cX10_resetAll : ByteArray := prog_12_method_39_code
def yX10_resetAll : MethodName := ⟨RX10, "resetAll", "()V"⟩
abbrev cX10_reset : ByteArray := prog_12_method_40_code
def yX10_reset : MethodName := ⟨RX10, "reset", "()V"⟩
abbrev cX10_cell : ByteArray := prog_12_method_41_code
def yX10_cell : MethodName := ⟨RX10, "cell", "(II)I"⟩
abbrev cX10_setBit : ByteArray := prog_12_method_42_code
def yX10_setBit : MethodName := ⟨RX10, "setBit", "(III)V"⟩
abbrev cX10_past : ByteArray := prog_12_method_43_code
def yX10_past : MethodName := ⟨RX10, "past", "(JI)I"⟩
abbrev cX10_timer : ByteArray := prog_12_method_44_code
def yX10_timer : MethodName := ⟨RX10, "timer", "(III)V"⟩
abbrev cX10_counter : ByteArray := prog_12_method_45_code
def yX10_counter : MethodName := ⟨RX10, "counter", "(III)V"⟩
abbrev cX10_edge : ByteArray := prog_12_method_46_code
def yX10_edge : MethodName := ⟨RX10, "edge", "(II)V"⟩
abbrev cX10_truth : ByteArray := prog_12_method_47_code
def yX10_truth : MethodName := ⟨RX10, "truth", "(Z)I"⟩
abbrev cX10_made : ByteArray := prog_12_method_48_code
def yX10_made : MethodName := ⟨RX10, "made", "(III)I"⟩
abbrev cX10_join : ByteArray := prog_12_method_49_code
def yX10_join : MethodName := ⟨RX10, "join", "(III)I"⟩
abbrev cX10_signed : ByteArray := prog_12_method_50_code
def yX10_signed : MethodName := ⟨RX10, "signed", "(I)I"⟩
abbrev cX10_close : ByteArray := prog_12_method_51_code
def yX10_close : MethodName := ⟨RX10, "close", "()I"⟩
abbrev cX10_store : ByteArray := prog_12_method_52_code
def yX10_store : MethodName := ⟨RX10, "store", "(I)V"⟩
abbrev cX10_act : ByteArray := prog_12_method_53_code
def yX10_act : MethodName := ⟨RX10, "act", "(I)I"⟩
abbrev cX10_list : ByteArray := prog_12_method_54_code
def yX10_list : MethodName := ⟨RX10, "list", "()I"⟩
abbrev cX10_chart : ByteArray := prog_12_method_55_code
def yX10_chart : MethodName := ⟨RX10, "chart", "()V"⟩
abbrev cX10_scanOnce : ByteArray := prog_12_method_56_code
def yX10_scanOnce : MethodName := ⟨RX10, "scanOnce", "(I)I"⟩
abbrev cX10_scan : ByteArray := prog_12_method_57_code
def yX10_scan : MethodName := ⟨RX10, "scan", "(I)I"⟩
abbrev cX10_run : ByteArray := prog_12_method_58_code
def yX10_run : MethodName := ⟨RX10, "run", "(II)I"⟩
abbrev cX10_noPlace : ByteArray := prog_12_method_59_code
def yX10_noPlace : MethodName := ⟨RX10, "noPlace", "(II)Z"⟩
abbrev cX10_input : ByteArray := prog_12_method_60_code
def yX10_input : MethodName := ⟨RX10, "input", "(IZ)V"⟩
abbrev cX10_output : ByteArray := prog_12_method_61_code
def yX10_output : MethodName := ⟨RX10, "output", "(I)Z"⟩
abbrev cX10_bits : ByteArray := prog_12_method_62_code
def yX10_bits : MethodName := ⟨RX10, "bits", "(I)I"⟩
abbrev cX10_word : ByteArray := prog_12_method_63_code
def yX10_word : MethodName := ⟨RX10, "word", "(I)I"⟩
abbrev cX10_block : ByteArray := prog_12_method_64_code
def yX10_block : MethodName := ⟨RX10, "block", "(II)I"⟩
abbrev cX10_done : ByteArray := prog_12_method_65_code
def yX10_done : MethodName := ⟨RX10, "done", "()I"⟩
abbrev cX10_fired : ByteArray := prog_12_method_66_code
def yX10_fired : MethodName := ⟨RX10, "fired", "()I"⟩
abbrev cX10_time : ByteArray := prog_12_method_67_code
def yX10_time : MethodName := ⟨RX10, "time", "()J"⟩
def RJ11 : String := "java/lang/Character"
def TJ11 : u_T := fun k => match k with
  | _ => ("", "", "", false)
def tyJ11 : Nat → FieldType := fun k => match k with
  | _ => .int
abbrev wsJ110 : List Cond := u_ws RJ11 TJ11 0
theorem nmJ11 : ∀ a, a < 0 → ∀ b, b < 0 → a ≠ b → (TJ11 a).2.1 ≠ (TJ11 b).2.1 := by decide +kernel
theorem tyJ11_ok : ∀ k, k < 0 → parseFieldDescriptor (TJ11 k).2.2.1 = some (tyJ11 k) := by decide +kernel
abbrev cJ11_isValidCodePoint_9a6ad : ByteArray := prog_13_method_11_code
def yJ11_isValidCodePoint_9a6ad : MethodName := ⟨RJ11, "isValidCodePoint", "(I)Z"⟩
abbrev cJ11_highSurrogate_5068e : ByteArray := prog_13_method_28_code
def yJ11_highSurrogate_5068e : MethodName := ⟨RJ11, "highSurrogate", "(I)C"⟩
abbrev cJ11_lowSurrogate_5068e : ByteArray := prog_13_method_29_code
def yJ11_lowSurrogate_5068e : MethodName := ⟨RJ11, "lowSurrogate", "(I)C"⟩
def RJx29ce0 : String := "java/lang/Enum"
def TJx29ce0 : u_T := fun k => match k with
  | _ => ("", "", "", false)
def tyJx29ce0 : Nat → FieldType := fun k => match k with
  | _ => .int
abbrev wsJx29ce00 : List Cond := u_ws RJx29ce0 TJx29ce0 0
theorem nmJx29ce0 : ∀ a, a < 0 → ∀ b, b < 0 → a ≠ b → (TJx29ce0 a).2.1 ≠ (TJx29ce0 b).2.1 := by decide +kernel
theorem tyJx29ce0_ok : ∀ k, k < 0 → parseFieldDescriptor (TJx29ce0 k).2.2.1 = some (tyJx29ce0 k) := by decide +kernel
abbrev cJx29ce0_ordinal_8abf5 : ByteArray := prog_14_method_2_code
def yJx29ce0_ordinal_8abf5 : MethodName := ⟨RJx29ce0, "ordinal", "()I"⟩
def RJ9 : String := "java/lang/Math"
def TJ9 : u_T := fun k => match k with
  | _ => ("", "", "", false)
def tyJ9 : Nat → FieldType := fun k => match k with
  | _ => .int
abbrev wsJ90 : List Cond := u_ws RJ9 TJ9 0
theorem nmJ9 : ∀ a, a < 0 → ∀ b, b < 0 → a ≠ b → (TJ9 a).2.1 ≠ (TJ9 b).2.1 := by decide +kernel
theorem tyJ9_ok : ∀ k, k < 0 → parseFieldDescriptor (TJ9 k).2.2.1 = some (tyJ9 k) := by decide +kernel
abbrev cJ9_max_7cf53 : ByteArray := prog_18_method_65_code
def yJ9_max_7cf53 : MethodName := ⟨RJ9, "max", "(II)I"⟩
abbrev cJ9_min_7cf53 : ByteArray := prog_18_method_69_code
def yJ9_min_7cf53 : MethodName := ⟨RJ9, "min", "(II)I"⟩
abbrev cJ9_min_f86c9 : ByteArray := prog_18_method_70_code
def yJ9_min_f86c9 : MethodName := ⟨RJ9, "min", "(JJ)J"⟩
def RJ0 : String := "java/lang/String"
def TJ0 : u_T := fun k => match k with
  | _ => ("", "", "", false)
def tyJ0 : Nat → FieldType := fun k => match k with
  | _ => .int
abbrev wsJ00 : List Cond := u_ws RJ0 TJ0 0
theorem nmJ0 : ∀ a, a < 0 → ∀ b, b < 0 → a ≠ b → (TJ0 a).2.1 ≠ (TJ0 b).2.1 := by decide +kernel
theorem tyJ0_ok : ∀ k, k < 0 → parseFieldDescriptor (TJ0 k).2.2.1 = some (tyJ0 k) := by decide +kernel
abbrev cJ0_length_8abf5 : ByteArray := prog_20_method_54_code
def yJ0_length_8abf5 : MethodName := ⟨RJ0, "length", "()I"⟩
abbrev cJ0_charAt_5068e : ByteArray := prog_20_method_56_code
def yJ0_charAt_5068e : MethodName := ⟨RJ0, "charAt", "(I)C"⟩
abbrev cJ0_indexOf_0f7a4 : ByteArray := prog_20_method_79_code
def yJ0_indexOf_0f7a4 : MethodName := ⟨RJ0, "indexOf", "(I)I"⟩
abbrev cJ0_indexOf_7cf53 : ByteArray := prog_20_method_80_code
def yJ0_indexOf_7cf53 : MethodName := ⟨RJ0, "indexOf", "(II)I"⟩
abbrev cJ0_coder_7d493 : ByteArray := prog_20_method_152_code
def yJ0_coder_7d493 : MethodName := ⟨RJ0, "coder", "()B"⟩
abbrev cJ0_isLatin1_aae02 : ByteArray := prog_20_method_154_code
def yJ0_isLatin1_aae02 : MethodName := ⟨RJ0, "isLatin1", "()Z"⟩
abbrev cJ0_checkIndex_df160 : ByteArray := prog_20_method_155_code
def yJ0_checkIndex_df160 : MethodName := ⟨RJ0, "checkIndex", "(II)V"⟩
abbrev cJ0_checkBoundsBeginEnd_23922 : ByteArray := prog_20_method_158_code
def yJ0_checkBoundsBeginEnd_23922 : MethodName := ⟨RJ0, "checkBoundsBeginEnd", "(III)V"⟩
def RJ1 : String := "java/lang/StringLatin1"
def TJ1 : u_T := fun k => match k with
  | _ => ("", "", "", false)
def tyJ1 : Nat → FieldType := fun k => match k with
  | _ => .int
abbrev wsJ10 : List Cond := u_ws RJ1 TJ1 0
theorem nmJ1 : ∀ a, a < 0 → ∀ b, b < 0 → a ≠ b → (TJ1 a).2.1 ≠ (TJ1 b).2.1 := by decide +kernel
theorem tyJ1_ok : ∀ k, k < 0 → parseFieldDescriptor (TJ1 k).2.2.1 = some (tyJ1 k) := by decide +kernel
abbrev cJ1_charAt_3b067 : ByteArray := prog_21_method_2_code
def yJ1_charAt_3b067 : MethodName := ⟨RJ1, "charAt", "([BI)C"⟩
abbrev cJ1_canEncode_9a6ad : ByteArray := prog_21_method_4_code
def yJ1_canEncode_9a6ad : MethodName := ⟨RJ1, "canEncode", "(I)Z"⟩
abbrev cJ1_indexOf_4cfef : ByteArray := prog_21_method_22_code
def yJ1_indexOf_4cfef : MethodName := ⟨RJ1, "indexOf", "([BIII)I"⟩
abbrev cJ1_indexOfChar_4cfef : ByteArray := prog_21_method_23_code
def yJ1_indexOfChar_4cfef : MethodName := ⟨RJ1, "indexOfChar", "([BIII)I"⟩
def RJ2 : String := "java/lang/StringUTF16"
def TJ2 : u_T := fun k => match k with
  | _ => ("", "", "", false)
def tyJ2 : Nat → FieldType := fun k => match k with
  | _ => .int
abbrev wsJ20 : List Cond := u_ws RJ2 TJ2 0
theorem nmJ2 : ∀ a, a < 0 → ∀ b, b < 0 → a ≠ b → (TJ2 a).2.1 ≠ (TJ2 b).2.1 := by decide +kernel
theorem tyJ2_ok : ∀ k, k < 0 → parseFieldDescriptor (TJ2 k).2.2.1 = some (tyJ2 k) := by decide +kernel
abbrev cJ2_getChar_3b067 : ByteArray := prog_22_method_5_code
def yJ2_getChar_3b067 : MethodName := ⟨RJ2, "getChar", "([BI)C"⟩
abbrev cJ2_length_9d52b : ByteArray := prog_22_method_6_code
def yJ2_length_9d52b : MethodName := ⟨RJ2, "length", "([B)I"⟩
abbrev cJ2_indexOf_4cfef : ByteArray := prog_22_method_40_code
def yJ2_indexOf_4cfef : MethodName := ⟨RJ2, "indexOf", "([BIII)I"⟩
abbrev cJ2_indexOfChar_4cfef : ByteArray := prog_22_method_47_code
def yJ2_indexOfChar_4cfef : MethodName := ⟨RJ2, "indexOfChar", "([BIII)I"⟩
abbrev cJ2_indexOfCharUnsafe_4cfef : ByteArray := prog_22_method_48_code
def yJ2_indexOfCharUnsafe_4cfef : MethodName := ⟨RJ2, "indexOfCharUnsafe", "([BIII)I"⟩
abbrev cJ2_indexOfSupplementary_4cfef : ByteArray := prog_22_method_49_code
def yJ2_indexOfSupplementary_4cfef : MethodName := ⟨RJ2, "indexOfSupplementary", "([BIII)I"⟩
abbrev cJ2_charAt_3b067 : ByteArray := prog_22_method_83_code
def yJ2_charAt_3b067 : MethodName := ⟨RJ2, "charAt", "([BI)C"⟩
abbrev cJ2_checkIndex_2214a : ByteArray := prog_22_method_91_code
def yJ2_checkIndex_2214a : MethodName := ⟨RJ2, "checkIndex", "(I[B)V"⟩
abbrev cJ2_checkBoundsBeginEnd_d044e : ByteArray := prog_22_method_93_code
def yJ2_checkBoundsBeginEnd_d044e : MethodName := ⟨RJ2, "checkBoundsBeginEnd", "(II[B)V"⟩
def RJ3 : String := "jdk/internal/util/Preconditions"
def TJ3 : u_T := fun k => match k with
  | _ => ("", "", "", false)
def tyJ3 : Nat → FieldType := fun k => match k with
  | _ => .int
abbrev wsJ30 : List Cond := u_ws RJ3 TJ3 0
theorem nmJ3 : ∀ a, a < 0 → ∀ b, b < 0 → a ≠ b → (TJ3 a).2.1 ≠ (TJ3 b).2.1 := by decide +kernel
theorem tyJ3_ok : ∀ k, k < 0 → parseFieldDescriptor (TJ3 k).2.2.1 = some (tyJ3 k) := by decide +kernel
abbrev cJ3_checkIndex_8e157 : ByteArray := prog_24_method_11_code
def yJ3_checkIndex_8e157 : MethodName := ⟨RJ3, "checkIndex", "(IILjava/util/function/BiFunction;)I"⟩
abbrev cJ3_checkFromToIndex_8c36e : ByteArray := prog_24_method_12_code
def yJ3_checkFromToIndex_8c36e : MethodName := ⟨RJ3, "checkFromToIndex", "(IIILjava/util/function/BiFunction;)I"⟩
def RL : String := "ScanChartLaw"
abbrev cL_feed : ByteArray := method_3_code
def yL_feed : MethodName := ⟨RL, "feed", "(LScanChart;IJ[J)I"⟩
abbrev cL_input : ByteArray := method_4_code
def yL_input : MethodName := ⟨RL, "input", "(LScanChart;IZ)I"⟩
abbrev cL_scan : ByteArray := method_5_code
def yL_scan : MethodName := ⟨RL, "scan", "(LScanChart;I[J)I"⟩
abbrev cL_run : ByteArray := method_6_code
def yL_run : MethodName := ⟨RL, "run", "(LScanChart;II[J)I"⟩
abbrev cL_output : ByteArray := method_7_code
def yL_output : MethodName := ⟨RL, "output", "(LScanChart;I[J)I"⟩
abbrev cL_bits : ByteArray := method_8_code
def yL_bits : MethodName := ⟨RL, "bits", "(LScanChart;I[J)I"⟩
abbrev cL_word : ByteArray := method_9_code
def yL_word : MethodName := ⟨RL, "word", "(LScanChart;I[J)I"⟩
abbrev cL_block : ByteArray := method_10_code
def yL_block : MethodName := ⟨RL, "block", "(LScanChart;II[J)I"⟩
abbrev cL_law : ByteArray := code
def yL_law : MethodName := ⟨RL, "law", "([I)Z"⟩
abbrev vwCl : List vw_C := [(RX1, TX1, 4), (RX2, TX2, 10), (RX3, TX3, 12), (RX5, TX5, 11), (RX6, TX6, 7), (RX7, TX7, 14), (RX8, TX8, 2), (RX9, TX9, 4), (RX10, TX10, 61)]
end
section
/-! TABLES OF THE ABSTRACT MACHINE, written by wip/whole/gen/tables.py out of the printed names. Instruction: (instr, a, b, c), a b c what its pool index or its target resolves to. -/
abbrev am_Ins : Type := Instr × Nat × Nat × Nat
def am_kI : List (List Int32) := [[6, 32, 8, 3, 1, 0, 4, 16, 48, 500, 12, 9, 5, 2, 20, (-1)], [65535, 10, 11, 32767, (-32768), 80, 700, 13, 59, 57, 76, 58, 40, 1000000, 3711, 70], [128, 256, 45, 15, 100, 160, 64, 96, 400, 84, 69, 67, 86, 7, 73, 81], [77, 87, 88, 31, 78, 1023, 14, 17, 28, 21, 22, 23, 24, 25, 26, 27], [29, 18, 19, 255]]
def am_kJ : List (List Int64) := [[0, (-1), 32, (-2147483648), 2147483647, 255, 10, 10000000000, 48, 4476481, 21071, 5394264, 4473921, 4347219, 5002573, 5654852], [4476749, 21575, 17735, 20805, 17742, 17740, 21580, 1, 17484, 5129292, 21587, 5133395, 83, 82, 5262666, 1129336138], [336136785226, 5522770, 1129596242, 336137045330, 5132116, 4607828, 20564, 5592131, 4478019, 5393475, 1163086162, 1280065862, 41, 5525326, 78, 20308], [17993, 5129801, 1346720851, 20295, 4294967295]]
def am_gI (k : Nat) : Int32 := (am_kI.getD (k / 16) []).getD (k % 16) 0
def am_gJ (k : Nat) : Int64 := (am_kJ.getD (k / 16) []).getD (k % 16) 0
def am_sw : List (List Nat) := [[19, 4, 19, 19, 9, 14, 2], [102, 13, 23, 43, 53, 68, 71, 80, 92], [94, 12, 23, 34, 45, 54, 62, 70, 82], [51, 9, 9, 13, 13, 17, 17, 21, 25, 29, 33, 33], [40, 5, 12, 19, 26, 33], [28, 3, 28, 28, 14, 28, 21, 21, 28, 28, 28, 28, 21, 21], [17, 3, 3, 5, 7, 17, 17, 9, 17, 11, 13, 13, 15], [40, 12, 19, 26, 33], [44, 2, 4, 9, 14, 19, 24, 29, 34, 39], [74, 2, 6, 10, 14, 18, 22, 26, 30, 34, 42, 50, 58, 66], [422, 25, 94, 101, 108, 115, 122, 127, 167, 202, 247, 285, 320, 355, 400, 407, 414]]
/-- 0: ScanChart$Cells.<init>()V -/
def am_c0 : List (List am_Ins) := [[(.aload_n 0, 0, 0, 0), (.invokespecial 3, 0, 1, 99), (.aload_n 0, 0, 0, 0), (.bipush 6, 0, 0, 0), (.newarray .int, 20, 0, 0), (.putfield 9, 0, 1, 2), (.aload_n 0, 0, 0, 0), (.bipush 32, 1, 0, 0), (.newarray .int, 20, 0, 0), (.putfield 15, 1, 1, 2), (.aload_n 0, 0, 0, 0), (.bipush 8, 2, 0, 0), (.newarray .int, 20, 0, 0), (.putfield 18, 2, 1, 2), (.aload_n 0, 0, 0, 0), (.bipush 8, 2, 0, 0)], [(.newarray .int, 20, 0, 0), (.putfield 21, 3, 1, 2), (.aload_n 0, 0, 0, 0), (.getfield 9, 0, 1, 2), (.iconst 3, 3, 0, 0), (.iconst 1, 4, 0, 0), (.invokestatic 24, 90, 3, 0), (.return_, 0, 0, 0)]]
/-- 1: ScanChart$Cells.clear()V -/
def am_c1 : List (List am_Ins) := [[(.aload_n 0, 0, 0, 0), (.getfield 9, 0, 1, 2), (.iconst 0, 5, 0, 0), (.invokestatic 28, 93, 2, 0), (.aload_n 0, 0, 0, 0), (.getfield 15, 1, 1, 2), (.iconst 0, 5, 0, 0), (.invokestatic 28, 93, 2, 0), (.aload_n 0, 0, 0, 0), (.getfield 18, 2, 1, 2), (.iconst 0, 5, 0, 0), (.invokestatic 28, 93, 2, 0), (.aload_n 0, 0, 0, 0), (.getfield 21, 3, 1, 2), (.iconst 0, 5, 0, 0), (.invokestatic 28, 93, 2, 0)], [(.aload_n 0, 0, 0, 0), (.getfield 9, 0, 1, 2), (.iconst 3, 3, 0, 0), (.iconst 1, 4, 0, 0), (.invokestatic 24, 90, 3, 0), (.return_, 0, 0, 0)]]
/-- 2: ScanChart$Cells.valueOf(II)I -/
def am_c2 : List (List am_Ins) := [[(.iload_n 1, 1, 0, 0), (.tableswitch 68 6 11 #[41, 68, 68, 50, 59, 39], 0, 0, 0), (.iload_n 2, 2, 0, 0), (.ireturn, 0, 0, 0), (.aload_n 0, 0, 0, 0), (.getfield 15, 1, 1, 2), (.iload_n 2, 2, 0, 0), (.invokestatic 32, 89, 2, 0), (.ireturn, 0, 0, 0), (.aload_n 0, 0, 0, 0), (.getfield 18, 2, 1, 2), (.iload_n 2, 2, 0, 0), (.invokestatic 32, 89, 2, 0), (.ireturn, 0, 0, 0), (.aload_n 0, 0, 0, 0), (.getfield 21, 3, 1, 2)], [(.iload_n 2, 2, 0, 0), (.invokestatic 32, 89, 2, 0), (.ireturn, 0, 0, 0), (.aload_n 0, 0, 0, 0), (.getfield 9, 0, 1, 2), (.iload_n 1, 1, 0, 0), (.invokestatic 32, 89, 2, 0), (.iload_n 2, 2, 0, 0), (.iushr, 0, 0, 0), (.iconst 1, 4, 0, 0), (.iand, 0, 0, 0), (.ireturn, 0, 0, 0)]]
/-- 3: ScanChart$Cells.setBit(IIZ)V -/
def am_c3 : List (List am_Ins) := [[(.aload_n 0, 0, 0, 0), (.getfield 9, 0, 1, 2), (.iload_n 1, 1, 0, 0), (.aload_n 0, 0, 0, 0), (.getfield 9, 0, 1, 2), (.iload_n 1, 1, 0, 0), (.invokestatic 32, 89, 2, 0), (.iload_n 2, 2, 0, 0), (.iload_n 3, 3, 0, 0), (.invokestatic 36, 92, 3, 0), (.invokestatic 24, 90, 3, 0), (.return_, 0, 0, 0)]]
/-- 4: ScanChart$Cells.store(III)V -/
def am_c4 : List (List am_Ins) := [[(.iload_n 1, 1, 0, 0), (.bipush 6, 0, 0, 0), (.if_icmp .ne 15, 9, 0, 0), (.aload_n 0, 0, 0, 0), (.getfield 15, 1, 1, 2), (.iload_n 2, 2, 0, 0), (.iload_n 3, 3, 0, 0), (.invokestatic 24, 90, 3, 0), (.goto 18, 18, 0, 0), (.aload_n 0, 0, 0, 0), (.iload_n 1, 1, 0, 0), (.iload_n 2, 2, 0, 0), (.iload_n 3, 3, 0, 0), (.ifCond .eq 7, 16, 0, 0), (.iconst 1, 4, 0, 0), (.goto 4, 17, 0, 0)], [(.iconst 0, 5, 0, 0), (.invokevirtual 40, 3, 4, 1), (.return_, 0, 0, 0)]]
/-- 5: ScanChart$Cells.setTimer(IZI)V -/
def am_c5 : List (List am_Ins) := [[(.aload_n 0, 0, 0, 0), (.getfield 9, 0, 1, 2), (.iconst 4, 6, 0, 0), (.aload_n 0, 0, 0, 0), (.getfield 9, 0, 1, 2), (.iconst 4, 6, 0, 0), (.invokestatic 32, 89, 2, 0), (.iload_n 1, 1, 0, 0), (.iload_n 2, 2, 0, 0), (.invokestatic 36, 92, 3, 0), (.invokestatic 24, 90, 3, 0), (.aload_n 0, 0, 0, 0), (.getfield 18, 2, 1, 2), (.iload_n 1, 1, 0, 0), (.iload_n 3, 3, 0, 0), (.invokestatic 24, 90, 3, 0)], [(.return_, 0, 0, 0)]]
/-- 6: ScanChart$Cells.setCount(II)V -/
def am_c6 : List (List am_Ins) := [[(.aload_n 0, 0, 0, 0), (.getfield 21, 3, 1, 2), (.iload_n 1, 1, 0, 0), (.iload_n 2, 2, 0, 0), (.invokestatic 24, 90, 3, 0), (.return_, 0, 0, 0)]]
/-- 7: ScanChart$Chart.<init>()V -/
def am_c7 : List (List am_Ins) := [[(.aload_n 0, 0, 0, 0), (.invokespecial 3, 0, 1, 99), (.aload_n 0, 0, 0, 0), (.bipush 16, 7, 0, 0), (.newarray .int, 20, 0, 0), (.putfield 9, 0, 2, 2), (.aload_n 0, 0, 0, 0), (.bipush 16, 7, 0, 0), (.newarray .int, 20, 0, 0), (.putfield 15, 1, 2, 2), (.aload_n 0, 0, 0, 0), (.bipush 16, 7, 0, 0), (.newarray .int, 20, 0, 0), (.putfield 18, 2, 2, 2), (.aload_n 0, 0, 0, 0), (.bipush 16, 7, 0, 0)], [(.newarray .int, 20, 0, 0), (.putfield 21, 3, 2, 2), (.aload_n 0, 0, 0, 0), (.bipush 16, 7, 0, 0), (.newarray .int, 20, 0, 0), (.putfield 24, 4, 2, 2), (.aload_n 0, 0, 0, 0), (.iconst 0, 5, 0, 0), (.putfield 27, 5, 2, 0), (.aload_n 0, 0, 0, 0), (.bipush 48, 8, 0, 0), (.newarray .int, 20, 0, 0), (.putfield 31, 6, 2, 2), (.aload_n 0, 0, 0, 0), (.bipush 48, 8, 0, 0), (.newarray .int, 20, 0, 0)], [(.putfield 34, 7, 2, 2), (.aload_n 0, 0, 0, 0), (.bipush 48, 8, 0, 0), (.newarray .int, 20, 0, 0), (.putfield 37, 8, 2, 2), (.aload_n 0, 0, 0, 0), (.iconst 0, 5, 0, 0), (.putfield 40, 9, 2, 0), (.return_, 0, 0, 0)]]
/-- 8: ScanChart$Chart.clear()V -/
def am_c8 : List (List am_Ins) := [[(.aload_n 0, 0, 0, 0), (.iconst 0, 5, 0, 0), (.putfield 27, 5, 2, 0), (.aload_n 0, 0, 0, 0), (.iconst 0, 5, 0, 0), (.putfield 40, 9, 2, 0), (.aload_n 0, 0, 0, 0), (.getfield 31, 6, 2, 2), (.iconst 0, 5, 0, 0), (.invokestatic 43, 93, 2, 0), (.return_, 0, 0, 0)]]
/-- 9: ScanChart$Chart.addGo(IIIII)V -/
def am_c9 : List (List am_Ins) := [[(.aload_n 0, 0, 0, 0), (.getfield 9, 0, 2, 2), (.aload_n 0, 0, 0, 0), (.getfield 27, 5, 2, 0), (.iload_n 1, 1, 0, 0), (.invokestatic 47, 90, 3, 0), (.aload_n 0, 0, 0, 0), (.getfield 15, 1, 2, 2), (.aload_n 0, 0, 0, 0), (.getfield 27, 5, 2, 0), (.iload_n 2, 2, 0, 0), (.invokestatic 47, 90, 3, 0), (.aload_n 0, 0, 0, 0), (.getfield 18, 2, 2, 2), (.aload_n 0, 0, 0, 0), (.getfield 27, 5, 2, 0)], [(.iload_n 3, 3, 0, 0), (.invokestatic 47, 90, 3, 0), (.aload_n 0, 0, 0, 0), (.getfield 21, 3, 2, 2), (.aload_n 0, 0, 0, 0), (.getfield 27, 5, 2, 0), (.iload 4, 4, 0, 0), (.invokestatic 47, 90, 3, 0), (.aload_n 0, 0, 0, 0), (.getfield 24, 4, 2, 2), (.aload_n 0, 0, 0, 0), (.getfield 27, 5, 2, 0), (.iload 5, 5, 0, 0), (.invokestatic 47, 90, 3, 0), (.aload_n 0, 0, 0, 0), (.dup, 0, 0, 0)], [(.getfield 27, 5, 2, 0), (.iconst 1, 4, 0, 0), (.iadd, 0, 0, 0), (.putfield 27, 5, 2, 0), (.return_, 0, 0, 0)]]
/-- 10: ScanChart$Chart.addAction(IIIII)V -/
def am_c10 : List (List am_Ins) := [[(.iload_n 1, 1, 0, 0), (.iconst 3, 3, 0, 0), (.imul, 0, 0, 0), (.iload_n 2, 2, 0, 0), (.iadd, 0, 0, 0), (.istore 6, 6, 0, 0), (.aload_n 0, 0, 0, 0), (.getfield 31, 6, 2, 2), (.iload 6, 6, 0, 0), (.iload_n 3, 3, 0, 0), (.invokestatic 47, 90, 3, 0), (.aload_n 0, 0, 0, 0), (.getfield 34, 7, 2, 2), (.iload 6, 6, 0, 0), (.iload 4, 4, 0, 0), (.invokestatic 47, 90, 3, 0)], [(.aload_n 0, 0, 0, 0), (.getfield 37, 8, 2, 2), (.iload 6, 6, 0, 0), (.iload 5, 5, 0, 0), (.invokestatic 47, 90, 3, 0), (.return_, 0, 0, 0)]]
/-- 11: ScanChart$Machine.<init>()V -/
def am_c11 : List (List am_Ins) := [[(.aload_n 0, 0, 0, 0), (.invokespecial 3, 0, 1, 99), (.aload_n 0, 0, 0, 0), (.new 9, 1, 4, 0), (.dup, 0, 0, 0), (.invokespecial 11, 0, 1, 1), (.putfield 12, 0, 3, 2), (.aload_n 0, 0, 0, 0), (.lconst 0, 0, 0, 0), (.putfield 18, 1, 3, 1), (.aload_n 0, 0, 0, 0), (.iconst 0, 5, 0, 0), (.putfield 22, 2, 3, 0), (.aload_n 0, 0, 0, 0), (.iconst 0, 5, 0, 0), (.putfield 26, 3, 3, 0)], [(.aload_n 0, 0, 0, 0), (.iconst 0, 5, 0, 0), (.putfield 29, 4, 3, 0), (.aload_n 0, 0, 0, 0), (.iconst 0, 5, 0, 0), (.putfield 32, 5, 3, 0), (.aload_n 0, 0, 0, 0), (.new 35, 4, 11, 0), (.dup, 0, 0, 0), (.invokespecial 37, 28, 1, 4), (.putfield 38, 6, 3, 2), (.aload_n 0, 0, 0, 0), (.iconst 0, 5, 0, 0), (.putfield 42, 7, 3, 0), (.aload_n 0, 0, 0, 0), (.iconst 0, 5, 0, 0)], [(.putfield 45, 8, 3, 0), (.aload_n 0, 0, 0, 0), (.iconst 0, 5, 0, 0), (.putfield 48, 9, 3, 0), (.aload_n 0, 0, 0, 0), (.bipush 8, 2, 0, 0), (.newarray .int, 20, 0, 0), (.putfield 51, 10, 3, 2), (.aload_n 0, 0, 0, 0), (.bipush 8, 2, 0, 0), (.anewarray 55, 23, 0, 0), (.putfield 57, 11, 3, 2), (.return_, 0, 0, 0)]]
/-- 12: ScanChart$Machine.startAgain()V -/
def am_c12 : List (List am_Ins) := [[(.aload_n 0, 0, 0, 0), (.getfield 12, 0, 3, 2), (.invokevirtual 61, 1, 1, 1), (.aload_n 0, 0, 0, 0), (.getfield 38, 6, 3, 2), (.invokevirtual 64, 29, 1, 4), (.aload_n 0, 0, 0, 0), (.lconst 0, 0, 0, 0), (.putfield 18, 1, 3, 1), (.aload_n 0, 0, 0, 0), (.iconst 0, 5, 0, 0), (.putfield 22, 2, 3, 0), (.aload_n 0, 0, 0, 0), (.iconst 0, 5, 0, 0), (.putfield 26, 3, 3, 0), (.aload_n 0, 0, 0, 0)], [(.iconst 0, 5, 0, 0), (.putfield 29, 4, 3, 0), (.aload_n 0, 0, 0, 0), (.iconst 0, 5, 0, 0), (.putfield 32, 5, 3, 0), (.return_, 0, 0, 0)]]
/-- 13: ScanChart$Machine.goRound(LScanChart$Program;II)V -/
def am_c13 : List (List am_Ins) := [[(.aload_n 0, 0, 0, 0), (.dup, 0, 0, 0), (.getfield 18, 1, 3, 1), (.iload_n 3, 3, 0, 0), (.i2l, 0, 0, 0), (.ladd, 0, 0, 0), (.putfield 18, 1, 3, 1), (.aload_n 0, 0, 0, 0), (.getfield 12, 0, 3, 2), (.getfield 65, 0, 1, 2), (.iconst 0, 5, 0, 0), (.iload_n 2, 2, 0, 0), (.invokestatic 68, 90, 3, 0), (.aload_n 0, 0, 0, 0), (.iconst 0, 5, 0, 0), (.putfield 32, 5, 3, 0)], [(.aload_n 0, 0, 0, 0), (.aload_n 1, 1, 0, 0), (.invokevirtual 72, 14, 2, 3), (.aload_n 0, 0, 0, 0), (.getfield 26, 3, 3, 0), (.ifCond .eq 4, 23, 0, 0), (.return_, 0, 0, 0), (.aload_n 0, 0, 0, 0), (.aload_n 1, 1, 0, 0), (.getfield 76, 0, 5, 2), (.invokevirtual 82, 21, 2, 3), (.aload_n 0, 0, 0, 0), (.aload_n 1, 1, 0, 0), (.getfield 76, 0, 5, 2), (.invokevirtual 86, 23, 2, 3), (.aload_n 0, 0, 0, 0)], [(.aload_n 0, 0, 0, 0), (.getfield 12, 0, 3, 2), (.getfield 65, 0, 1, 2), (.iconst 1, 4, 0, 0), (.invokestatic 89, 89, 2, 0), (.putfield 22, 2, 3, 0), (.return_, 0, 0, 0)]]
/-- 14: ScanChart$Machine.performList(LScanChart$Program;)V -/
def am_c14 : List (List am_Ins) := [[(.aload_n 0, 0, 0, 0), (.iconst 0, 5, 0, 0), (.putfield 42, 7, 3, 0), (.aload_n 0, 0, 0, 0), (.iconst 0, 5, 0, 0), (.putfield 45, 8, 3, 0), (.aload_n 0, 0, 0, 0), (.iconst 0, 5, 0, 0), (.putfield 48, 9, 3, 0), (.aload_n 0, 0, 0, 0), (.iconst 0, 5, 0, 0), (.putfield 29, 4, 3, 0), (.iconst 0, 5, 0, 0), (.istore_n 2, 2, 0, 0), (.iload_n 2, 2, 0, 0), (.sipush 500, 9, 0, 0)], [(.if_icmp .ge 104, 69, 0, 0), (.aload_n 0, 0, 0, 0), (.getfield 45, 8, 3, 0), (.aload_n 1, 1, 0, 0), (.getfield 93, 6, 5, 0), (.if_icmp .ge 93, 69, 0, 0), (.aload_n 0, 0, 0, 0), (.getfield 45, 8, 3, 0), (.istore_n 3, 3, 0, 0), (.aload_n 0, 0, 0, 0), (.iload_n 3, 3, 0, 0), (.iconst 1, 4, 0, 0), (.iadd, 0, 0, 0), (.putfield 45, 8, 3, 0), (.aload_n 1, 1, 0, 0), (.iload_n 3, 3, 0, 0)], [(.invokevirtual 96, 42, 2, 5), (.astore 4, 4, 0, 0), (.aload 4, 4, 0, 0), (.ifnonnull 4, 37, 0, 0), (.return_, 0, 0, 0), (.aload 4, 4, 0, 0), (.invokevirtual 100, 26, 1, 30), (.ifCond .eq 28, 52, 0, 0), (.aload_n 0, 0, 0, 0), (.aload 4, 4, 0, 0), (.aload_n 1, 1, 0, 0), (.getfield 104, 3, 5, 2), (.iload_n 3, 3, 0, 0), (.invokestatic 89, 89, 2, 0), (.aload_n 1, 1, 0, 0), (.getfield 107, 4, 5, 2)], [(.iload_n 3, 3, 0, 0), (.invokestatic 89, 89, 2, 0), (.invokevirtual 110, 16, 4, 3), (.goto 11, 57, 0, 0), (.aload_n 0, 0, 0, 0), (.aload 4, 4, 0, 0), (.aload_n 1, 1, 0, 0), (.iload_n 3, 3, 0, 0), (.invokevirtual 114, 15, 4, 3), (.aload_n 0, 0, 0, 0), (.getfield 26, 3, 3, 0), (.ifCond .eq 4, 61, 0, 0), (.return_, 0, 0, 0), (.aload_n 0, 0, 0, 0), (.dup, 0, 0, 0), (.getfield 29, 4, 3, 0)], [(.iconst 1, 4, 0, 0), (.iadd, 0, 0, 0), (.putfield 29, 4, 3, 0), (.iinc 2 1, 2, 4, 0), (.goto (-105), 14, 0, 0), (.aload_n 0, 0, 0, 0), (.getfield 45, 8, 3, 0), (.aload_n 1, 1, 0, 0), (.getfield 93, 6, 5, 0), (.if_icmp .ge 8, 77, 0, 0), (.aload_n 0, 0, 0, 0), (.iconst 3, 3, 0, 0), (.putfield 26, 3, 3, 0), (.return_, 0, 0, 0)]]
/-- 15: ScanChart$Machine.perform(LScanChart$Op;LScanChart$Program;I)V -/
def am_c15 : List (List am_Ins) := [[(.aload_n 2, 2, 0, 0), (.getfield 118, 2, 5, 2), (.iload_n 3, 3, 0, 0), (.invokestatic 89, 89, 2, 0), (.istore 4, 4, 0, 0), (.aload_n 2, 2, 0, 0), (.getfield 104, 3, 5, 2), (.iload_n 3, 3, 0, 0), (.invokestatic 89, 89, 2, 0), (.istore 5, 5, 0, 0), (.aload_n 1, 1, 0, 0), (.getfield 121, 1, 30, 3), (.tableswitch 242 0 7 #[48, 70, 112, 134, 167, 174, 193, 220], 1, 5, 0), (.aload_n 0, 0, 0, 0), (.aload_n 1, 1, 0, 0), (.aload_n 0, 0, 0, 0)], [(.getfield 12, 0, 3, 2), (.iload 4, 4, 0, 0), (.iload 5, 5, 0, 0), (.invokevirtual 124, 2, 3, 1), (.invokevirtual 128, 25, 2, 30), (.putfield 42, 7, 3, 0), (.goto 175, 102, 0, 0), (.iload 4, 4, 0, 0), (.bipush 12, 10, 0, 0), (.if_icmp .ne 11, 30, 0, 0), (.aload_n 0, 0, 0, 0), (.aload_n 1, 1, 0, 0), (.invokevirtual 132, 17, 2, 3), (.goto 160, 102, 0, 0), (.aload_n 0, 0, 0, 0), (.aload_n 0, 0, 0, 0)], [(.aload_n 1, 1, 0, 0), (.aload_n 0, 0, 0, 0), (.getfield 42, 7, 3, 0), (.aload_n 0, 0, 0, 0), (.getfield 12, 0, 3, 2), (.iload 4, 4, 0, 0), (.iload 5, 5, 0, 0), (.invokevirtual 124, 2, 3, 1), (.invokevirtual 136, 19, 4, 3), (.putfield 42, 7, 3, 0), (.goto 133, 102, 0, 0), (.aload_n 0, 0, 0, 0), (.getfield 12, 0, 3, 2), (.iload 4, 4, 0, 0), (.iload 5, 5, 0, 0), (.aload_n 1, 1, 0, 0)], [(.aload_n 0, 0, 0, 0), (.getfield 42, 7, 3, 0), (.invokevirtual 128, 25, 2, 30), (.invokevirtual 140, 4, 4, 1), (.goto 111, 102, 0, 0), (.aload_n 0, 0, 0, 0), (.getfield 42, 7, 3, 0), (.ifCond .eq 104, 102, 0, 0), (.aload_n 0, 0, 0, 0), (.getfield 12, 0, 3, 2), (.iload 4, 4, 0, 0), (.iload 5, 5, 0, 0), (.aload_n 1, 1, 0, 0), (.getstatic 144, 1005, 0, 0), (.if_acmp .ne 7, 65, 0, 0), (.iconst 1, 4, 0, 0)], [(.goto 4, 66, 0, 0), (.iconst 0, 5, 0, 0), (.invokevirtual 148, 3, 4, 1), (.goto 78, 102, 0, 0), (.aload_n 0, 0, 0, 0), (.invokevirtual 152, 18, 1, 3), (.goto 71, 102, 0, 0), (.aload_n 0, 0, 0, 0), (.aload_n 0, 0, 0, 0), (.getfield 42, 7, 3, 0), (.ifCond .ne 7, 77, 0, 0), (.iconst 1, 4, 0, 0), (.goto 4, 78, 0, 0), (.iconst 0, 5, 0, 0), (.putfield 42, 7, 3, 0), (.goto 52, 102, 0, 0)], [(.aload_n 1, 1, 0, 0), (.aload_n 0, 0, 0, 0), (.getfield 42, 7, 3, 0), (.invokevirtual 155, 27, 2, 30), (.ifCond .eq 41, 102, 0, 0), (.aload_n 0, 0, 0, 0), (.aload_n 2, 2, 0, 0), (.getfield 159, 5, 5, 2), (.iload 5, 5, 0, 0), (.invokestatic 89, 89, 2, 0), (.putfield 45, 8, 3, 0), (.goto 25, 102, 0, 0), (.aload_n 1, 1, 0, 0), (.aload_n 0, 0, 0, 0), (.getfield 42, 7, 3, 0), (.invokevirtual 155, 27, 2, 30)], [(.ifCond .eq 14, 102, 0, 0), (.aload_n 0, 0, 0, 0), (.aload_n 2, 2, 0, 0), (.getfield 93, 6, 5, 0), (.putfield 45, 8, 3, 0), (.goto 3, 102, 0, 0), (.return_, 0, 0, 0)]]
/-- 16: ScanChart$Machine.performBlock(LScanChart$Op;II)V -/
def am_c16 : List (List am_Ins) := [[(.aload_n 0, 0, 0, 0), (.getfield 42, 7, 3, 0), (.ifCond .eq 7, 5, 0, 0), (.iconst 1, 4, 0, 0), (.goto 4, 6, 0, 0), (.iconst 0, 5, 0, 0), (.istore 4, 4, 0, 0), (.getstatic 162, 4003, 0, 0), (.aload_n 1, 1, 0, 0), (.invokevirtual 167, 161, 1, 30), (.iaload, 0, 0, 0), (.tableswitch 214 1 8 #[46, 68, 90, 112, 130, 147, 164, 189], 2, 4, 0), (.aload_n 0, 0, 0, 0), (.getfield 38, 6, 3, 2), (.aload_n 0, 0, 0, 0), (.getfield 12, 0, 3, 2)], [(.iload_n 2, 2, 0, 0), (.iload 4, 4, 0, 0), (.iload_n 3, 3, 0, 0), (.aload_n 0, 0, 0, 0), (.getfield 18, 1, 3, 1), (.invokevirtual 171, 32, 6, 4), (.goto 149, 94, 0, 0), (.aload_n 0, 0, 0, 0), (.getfield 38, 6, 3, 2), (.aload_n 0, 0, 0, 0), (.getfield 12, 0, 3, 2), (.iload_n 2, 2, 0, 0), (.iload 4, 4, 0, 0), (.iload_n 3, 3, 0, 0), (.aload_n 0, 0, 0, 0), (.getfield 18, 1, 3, 1)], [(.invokevirtual 175, 33, 6, 4), (.goto 127, 94, 0, 0), (.aload_n 0, 0, 0, 0), (.getfield 38, 6, 3, 2), (.aload_n 0, 0, 0, 0), (.getfield 12, 0, 3, 2), (.iload_n 2, 2, 0, 0), (.iload 4, 4, 0, 0), (.iload_n 3, 3, 0, 0), (.aload_n 0, 0, 0, 0), (.getfield 18, 1, 3, 1), (.invokevirtual 178, 34, 6, 4), (.goto 105, 94, 0, 0), (.aload_n 0, 0, 0, 0), (.getfield 38, 6, 3, 2), (.aload_n 0, 0, 0, 0)], [(.getfield 12, 0, 3, 2), (.iload_n 2, 2, 0, 0), (.iload 4, 4, 0, 0), (.iload_n 3, 3, 0, 0), (.invokevirtual 181, 35, 5, 4), (.goto 87, 94, 0, 0), (.aload_n 0, 0, 0, 0), (.getfield 38, 6, 3, 2), (.aload_n 0, 0, 0, 0), (.getfield 12, 0, 3, 2), (.iload_n 2, 2, 0, 0), (.iload 4, 4, 0, 0), (.invokevirtual 185, 36, 4, 4), (.goto 70, 94, 0, 0), (.iload 4, 4, 0, 0), (.ifCond .eq 65, 94, 0, 0)], [(.aload_n 0, 0, 0, 0), (.getfield 12, 0, 3, 2), (.iload_n 2, 2, 0, 0), (.iconst 0, 5, 0, 0), (.invokevirtual 189, 6, 3, 1), (.goto 53, 94, 0, 0), (.aload_n 0, 0, 0, 0), (.aload_n 0, 0, 0, 0), (.getfield 38, 6, 3, 2), (.iload_n 2, 2, 0, 0), (.iload 4, 4, 0, 0), (.invokevirtual 193, 37, 3, 4), (.ifCond .eq 7, 79, 0, 0), (.iconst 1, 4, 0, 0), (.goto 4, 80, 0, 0), (.iconst 0, 5, 0, 0)], [(.putfield 42, 7, 3, 0), (.goto 28, 94, 0, 0), (.aload_n 0, 0, 0, 0), (.aload_n 0, 0, 0, 0), (.getfield 38, 6, 3, 2), (.iload_n 2, 2, 0, 0), (.iload 4, 4, 0, 0), (.invokevirtual 197, 38, 3, 4), (.ifCond .eq 7, 91, 0, 0), (.iconst 1, 4, 0, 0), (.goto 4, 92, 0, 0), (.iconst 0, 5, 0, 0), (.putfield 42, 7, 3, 0), (.goto 3, 94, 0, 0), (.aload_n 1, 1, 0, 0), (.getfield 121, 1, 30, 3)], [(.bipush 8, 2, 0, 0), (.if_icmp .ne 19, 106, 0, 0), (.aload_n 0, 0, 0, 0), (.aload_n 0, 0, 0, 0), (.getfield 12, 0, 3, 2), (.iconst 4, 6, 0, 0), (.iload_n 2, 2, 0, 0), (.invokevirtual 124, 2, 3, 1), (.putfield 42, 7, 3, 0), (.goto 25, 117, 0, 0), (.aload_n 1, 1, 0, 0), (.getfield 121, 1, 30, 3), (.bipush 9, 11, 0, 0), (.if_icmp .ne 16, 117, 0, 0), (.aload_n 0, 0, 0, 0), (.aload_n 0, 0, 0, 0)], [(.getfield 12, 0, 3, 2), (.iconst 5, 12, 0, 0), (.iload_n 2, 2, 0, 0), (.invokevirtual 124, 2, 3, 1), (.putfield 42, 7, 3, 0), (.return_, 0, 0, 0)]]
/-- 17: ScanChart$Machine.putAside(LScanChart$Op;)V -/
def am_c17 : List (List am_Ins) := [[(.aload_n 0, 0, 0, 0), (.getfield 48, 9, 3, 0), (.ifCond .lt 15, 9, 0, 0), (.aload_n 0, 0, 0, 0), (.getfield 48, 9, 3, 0), (.aload_n 0, 0, 0, 0), (.getfield 57, 11, 3, 2), (.arraylength, 0, 0, 0), (.if_icmp .lt 4, 10, 0, 0), (.return_, 0, 0, 0), (.aload_n 0, 0, 0, 0), (.getfield 57, 11, 3, 2), (.aload_n 0, 0, 0, 0), (.getfield 48, 9, 3, 0), (.aload_n 1, 1, 0, 0), (.aastore, 0, 0, 0)], [(.aload_n 0, 0, 0, 0), (.getfield 51, 10, 3, 2), (.aload_n 0, 0, 0, 0), (.getfield 48, 9, 3, 0), (.aload_n 0, 0, 0, 0), (.getfield 42, 7, 3, 0), (.invokestatic 68, 90, 3, 0), (.aload_n 0, 0, 0, 0), (.dup, 0, 0, 0), (.getfield 48, 9, 3, 0), (.iconst 1, 4, 0, 0), (.iadd, 0, 0, 0), (.putfield 48, 9, 3, 0), (.aload_n 0, 0, 0, 0), (.iconst 0, 5, 0, 0), (.putfield 42, 7, 3, 0)], [(.return_, 0, 0, 0)]]
/-- 18: ScanChart$Machine.takeBack()V -/
def am_c18 : List (List am_Ins) := [[(.aload_n 0, 0, 0, 0), (.getfield 48, 9, 3, 0), (.iconst 1, 4, 0, 0), (.if_icmp .lt 15, 10, 0, 0), (.aload_n 0, 0, 0, 0), (.getfield 48, 9, 3, 0), (.aload_n 0, 0, 0, 0), (.getfield 57, 11, 3, 2), (.arraylength, 0, 0, 0), (.if_icmp .le 4, 11, 0, 0), (.return_, 0, 0, 0), (.aload_n 0, 0, 0, 0), (.dup, 0, 0, 0), (.getfield 48, 9, 3, 0), (.iconst 1, 4, 0, 0), (.isub, 0, 0, 0)], [(.putfield 48, 9, 3, 0), (.aload_n 0, 0, 0, 0), (.getfield 57, 11, 3, 2), (.aload_n 0, 0, 0, 0), (.getfield 48, 9, 3, 0), (.aaload, 0, 0, 0), (.astore_n 1, 1, 0, 0), (.aload_n 1, 1, 0, 0), (.ifnull 27, 37, 0, 0), (.aload_n 0, 0, 0, 0), (.aload_n 0, 0, 0, 0), (.aload_n 1, 1, 0, 0), (.aload_n 0, 0, 0, 0), (.getfield 51, 10, 3, 2), (.aload_n 0, 0, 0, 0), (.getfield 48, 9, 3, 0)], [(.invokestatic 89, 89, 2, 0), (.aload_n 0, 0, 0, 0), (.getfield 42, 7, 3, 0), (.invokevirtual 136, 19, 4, 3), (.putfield 42, 7, 3, 0), (.return_, 0, 0, 0)]]
/-- 19: ScanChart$Machine.calculate(LScanChart$Op;II)I -/
def am_c19 : List (List am_Ins) := [[(.aload_n 1, 1, 0, 0), (.iload_n 3, 3, 0, 0), (.invokevirtual 128, 25, 2, 30), (.istore 4, 4, 0, 0), (.getstatic 162, 4003, 0, 0), (.aload_n 1, 1, 0, 0), (.invokevirtual 167, 161, 1, 30), (.iaload, 0, 0, 0), (.tableswitch 118 9 19 #[57, 57, 62, 62, 67, 67, 72, 77, 82, 87, 87], 3, 11, 0), (.iload_n 2, 2, 0, 0), (.iload 4, 4, 0, 0), (.iand, 0, 0, 0), (.ireturn, 0, 0, 0), (.iload_n 2, 2, 0, 0), (.iload 4, 4, 0, 0), (.ior, 0, 0, 0)], [(.ireturn, 0, 0, 0), (.iload_n 2, 2, 0, 0), (.iload 4, 4, 0, 0), (.ixor, 0, 0, 0), (.ireturn, 0, 0, 0), (.iload_n 2, 2, 0, 0), (.iload 4, 4, 0, 0), (.iadd, 0, 0, 0), (.ireturn, 0, 0, 0), (.iload_n 2, 2, 0, 0), (.iload 4, 4, 0, 0), (.isub, 0, 0, 0), (.ireturn, 0, 0, 0), (.iload_n 2, 2, 0, 0), (.iload 4, 4, 0, 0), (.imul, 0, 0, 0)], [(.ireturn, 0, 0, 0), (.iload 4, 4, 0, 0), (.ifCond .ne 10, 40, 0, 0), (.aload_n 0, 0, 0, 0), (.iconst 2, 13, 0, 0), (.putfield 26, 3, 3, 0), (.iload_n 2, 2, 0, 0), (.ireturn, 0, 0, 0), (.aload_n 1, 1, 0, 0), (.getstatic 200, 1016, 0, 0), (.if_acmp .ne 10, 47, 0, 0), (.iload_n 2, 2, 0, 0), (.iload 4, 4, 0, 0), (.idiv, 0, 0, 0), (.goto 7, 50, 0, 0), (.iload_n 2, 2, 0, 0)], [(.iload 4, 4, 0, 0), (.irem, 0, 0, 0), (.ireturn, 0, 0, 0), (.aload_n 0, 0, 0, 0), (.aload_n 1, 1, 0, 0), (.iload_n 2, 2, 0, 0), (.iload 4, 4, 0, 0), (.invokevirtual 203, 20, 4, 3), (.ifCond .eq 7, 59, 0, 0), (.iconst 1, 4, 0, 0), (.goto 4, 60, 0, 0), (.iconst 0, 5, 0, 0), (.ireturn, 0, 0, 0)]]
/-- 20: ScanChart$Machine.compare(LScanChart$Op;II)Z -/
def am_c20 : List (List am_Ins) := [[(.getstatic 162, 4003, 0, 0), (.aload_n 1, 1, 0, 0), (.invokevirtual 167, 161, 1, 30), (.iaload, 0, 0, 0), (.tableswitch 91 20 24 #[36, 47, 58, 69, 80], 4, 14, 0), (.iload_n 2, 2, 0, 0), (.iload_n 3, 3, 0, 0), (.if_icmp .le 7, 10, 0, 0), (.iconst 1, 4, 0, 0), (.goto 4, 11, 0, 0), (.iconst 0, 5, 0, 0), (.ireturn, 0, 0, 0), (.iload_n 2, 2, 0, 0), (.iload_n 3, 3, 0, 0), (.if_icmp .lt 7, 17, 0, 0), (.iconst 1, 4, 0, 0)], [(.goto 4, 18, 0, 0), (.iconst 0, 5, 0, 0), (.ireturn, 0, 0, 0), (.iload_n 2, 2, 0, 0), (.iload_n 3, 3, 0, 0), (.if_icmp .ne 7, 24, 0, 0), (.iconst 1, 4, 0, 0), (.goto 4, 25, 0, 0), (.iconst 0, 5, 0, 0), (.ireturn, 0, 0, 0), (.iload_n 2, 2, 0, 0), (.iload_n 3, 3, 0, 0), (.if_icmp .eq 7, 31, 0, 0), (.iconst 1, 4, 0, 0), (.goto 4, 32, 0, 0), (.iconst 0, 5, 0, 0)], [(.ireturn, 0, 0, 0), (.iload_n 2, 2, 0, 0), (.iload_n 3, 3, 0, 0), (.if_icmp .gt 7, 38, 0, 0), (.iconst 1, 4, 0, 0), (.goto 4, 39, 0, 0), (.iconst 0, 5, 0, 0), (.ireturn, 0, 0, 0), (.iload_n 2, 2, 0, 0), (.iload_n 3, 3, 0, 0), (.if_icmp .ge 7, 45, 0, 0), (.iconst 1, 4, 0, 0), (.goto 4, 46, 0, 0), (.iconst 0, 5, 0, 0), (.ireturn, 0, 0, 0)]]
/-- 21: ScanChart$Machine.goOn(LScanChart$Chart;)V -/
def am_c21 : List (List am_Ins) := [[(.iconst 0, 5, 0, 0), (.istore_n 2, 2, 0, 0), (.iconst 0, 5, 0, 0), (.istore_n 3, 3, 0, 0), (.iload_n 3, 3, 0, 0), (.aload_n 1, 1, 0, 0), (.getfield 207, 5, 2, 0), (.if_icmp .ge 90, 54, 0, 0), (.aload_n 1, 1, 0, 0), (.getfield 212, 0, 2, 2), (.iload_n 3, 3, 0, 0), (.invokestatic 89, 89, 2, 0), (.istore 4, 4, 0, 0), (.aload_n 0, 0, 0, 0), (.getfield 12, 0, 3, 2), (.getfield 65, 0, 1, 2)], [(.iconst 3, 3, 0, 0), (.invokestatic 89, 89, 2, 0), (.istore 5, 5, 0, 0), (.iload 5, 5, 0, 0), (.iload 4, 4, 0, 0), (.iand, 0, 0, 0), (.iload 4, 4, 0, 0), (.if_icmp .ne 51, 52, 0, 0), (.aload_n 0, 0, 0, 0), (.aload_n 1, 1, 0, 0), (.iload_n 3, 3, 0, 0), (.invokevirtual 215, 22, 3, 3), (.ifCond .eq 42, 52, 0, 0), (.aload_n 0, 0, 0, 0), (.getfield 12, 0, 3, 2), (.getfield 65, 0, 1, 2)], [(.iconst 3, 3, 0, 0), (.iload 5, 5, 0, 0), (.iload 4, 4, 0, 0), (.iconst (-1), 15, 0, 0), (.ixor, 0, 0, 0), (.iand, 0, 0, 0), (.invokestatic 68, 90, 3, 0), (.iload_n 2, 2, 0, 0), (.aload_n 1, 1, 0, 0), (.getfield 219, 1, 2, 2), (.iload_n 3, 3, 0, 0), (.invokestatic 89, 89, 2, 0), (.ior, 0, 0, 0), (.istore_n 2, 2, 0, 0), (.aload_n 0, 0, 0, 0), (.dup, 0, 0, 0)], [(.getfield 32, 5, 3, 0), (.iconst 1, 4, 0, 0), (.iadd, 0, 0, 0), (.putfield 32, 5, 3, 0), (.iinc 3 1, 3, 4, 0), (.goto (-92), 4, 0, 0), (.aload_n 0, 0, 0, 0), (.getfield 12, 0, 3, 2), (.getfield 65, 0, 1, 2), (.iconst 3, 3, 0, 0), (.aload_n 0, 0, 0, 0), (.getfield 12, 0, 3, 2), (.getfield 65, 0, 1, 2), (.iconst 3, 3, 0, 0), (.invokestatic 89, 89, 2, 0), (.iload_n 2, 2, 0, 0)], [(.ior, 0, 0, 0), (.invokestatic 68, 90, 3, 0), (.return_, 0, 0, 0)]]
/-- 22: ScanChart$Machine.isOpen(LScanChart$Chart;I)Z -/
def am_c22 : List (List am_Ins) := [[(.aload_n 1, 1, 0, 0), (.getfield 222, 2, 2, 2), (.iload_n 2, 2, 0, 0), (.invokestatic 89, 89, 2, 0), (.istore_n 3, 3, 0, 0), (.iload_n 3, 3, 0, 0), (.ifCond .ne 5, 9, 0, 0), (.iconst 1, 4, 0, 0), (.ireturn, 0, 0, 0), (.aload_n 0, 0, 0, 0), (.getfield 12, 0, 3, 2), (.aload_n 1, 1, 0, 0), (.getfield 225, 3, 2, 2), (.iload_n 2, 2, 0, 0), (.invokestatic 89, 89, 2, 0), (.aload_n 1, 1, 0, 0)], [(.getfield 228, 4, 2, 2), (.iload_n 2, 2, 0, 0), (.invokestatic 89, 89, 2, 0), (.invokevirtual 124, 2, 3, 1), (.istore 4, 4, 0, 0), (.iload_n 3, 3, 0, 0), (.iconst 1, 4, 0, 0), (.if_icmp .ne 7, 26, 0, 0), (.iconst 1, 4, 0, 0), (.goto 4, 27, 0, 0), (.iconst 0, 5, 0, 0), (.iload 4, 4, 0, 0), (.ifCond .eq 7, 31, 0, 0), (.iconst 1, 4, 0, 0), (.goto 4, 32, 0, 0), (.iconst 0, 5, 0, 0)], [(.if_icmp .ne 7, 35, 0, 0), (.iconst 1, 4, 0, 0), (.goto 4, 36, 0, 0), (.iconst 0, 5, 0, 0), (.ireturn, 0, 0, 0)]]
/-- 23: ScanChart$Machine.act(LScanChart$Chart;)V -/
def am_c23 : List (List am_Ins) := [[(.aload_n 0, 0, 0, 0), (.getfield 12, 0, 3, 2), (.getfield 65, 0, 1, 2), (.iconst 3, 3, 0, 0), (.invokestatic 89, 89, 2, 0), (.istore_n 2, 2, 0, 0), (.ldc 231, 16, 1, 0), (.istore_n 3, 3, 0, 0), (.aload_n 0, 0, 0, 0), (.aload_n 1, 1, 0, 0), (.iconst 1, 4, 0, 0), (.iload_n 3, 3, 0, 0), (.iconst 0, 5, 0, 0), (.invokevirtual 232, 24, 5, 3), (.aload_n 0, 0, 0, 0), (.aload_n 1, 1, 0, 0)], [(.iconst 1, 4, 0, 0), (.iload_n 2, 2, 0, 0), (.iconst 1, 4, 0, 0), (.invokevirtual 232, 24, 5, 3), (.iconst 0, 5, 0, 0), (.istore 4, 4, 0, 0), (.iload 4, 4, 0, 0), (.bipush 48, 8, 0, 0), (.if_icmp .ge 79, 61, 0, 0), (.aload_n 1, 1, 0, 0), (.getfield 236, 6, 2, 2), (.iload 4, 4, 0, 0), (.invokestatic 89, 89, 2, 0), (.istore 5, 5, 0, 0), (.iload 5, 5, 0, 0), (.iconst 2, 13, 0, 0)], [(.if_icmp .eq 9, 36, 0, 0), (.iload 5, 5, 0, 0), (.iconst 3, 3, 0, 0), (.if_icmp .ne 50, 59, 0, 0), (.iload_n 2, 2, 0, 0), (.iload 4, 4, 0, 0), (.iconst 3, 3, 0, 0), (.idiv, 0, 0, 0), (.invokestatic 239, 91, 2, 0), (.ifCond .eq 39, 59, 0, 0), (.aload_n 0, 0, 0, 0), (.getfield 12, 0, 3, 2), (.aload_n 1, 1, 0, 0), (.getfield 243, 7, 2, 2), (.iload 4, 4, 0, 0), (.invokestatic 89, 89, 2, 0)], [(.aload_n 1, 1, 0, 0), (.getfield 246, 8, 2, 2), (.iload 4, 4, 0, 0), (.invokestatic 89, 89, 2, 0), (.iload 5, 5, 0, 0), (.iconst 2, 13, 0, 0), (.if_icmp .ne 7, 57, 0, 0), (.iconst 1, 4, 0, 0), (.goto 4, 58, 0, 0), (.iconst 0, 5, 0, 0), (.invokevirtual 148, 3, 4, 1), (.iinc 4 1, 4, 4, 0), (.goto (-80), 22, 0, 0), (.return_, 0, 0, 0)]]
/-- 24: ScanChart$Machine.actAs(LScanChart$Chart;IIZ)V -/
def am_c24 : List (List am_Ins) := [[(.iconst 0, 5, 0, 0), (.istore 5, 5, 0, 0), (.iload 5, 5, 0, 0), (.bipush 48, 8, 0, 0), (.if_icmp .ge 60, 31, 0, 0), (.aload_n 1, 1, 0, 0), (.getfield 236, 6, 2, 2), (.iload 5, 5, 0, 0), (.invokestatic 89, 89, 2, 0), (.iload_n 2, 2, 0, 0), (.if_icmp .ne 41, 29, 0, 0), (.iload_n 3, 3, 0, 0), (.iload 5, 5, 0, 0), (.iconst 3, 3, 0, 0), (.idiv, 0, 0, 0), (.invokestatic 239, 91, 2, 0)], [(.ifCond .eq 30, 29, 0, 0), (.aload_n 0, 0, 0, 0), (.getfield 12, 0, 3, 2), (.aload_n 1, 1, 0, 0), (.getfield 243, 7, 2, 2), (.iload 5, 5, 0, 0), (.invokestatic 89, 89, 2, 0), (.aload_n 1, 1, 0, 0), (.getfield 246, 8, 2, 2), (.iload 5, 5, 0, 0), (.invokestatic 89, 89, 2, 0), (.iload 4, 4, 0, 0), (.invokevirtual 148, 3, 4, 1), (.iinc 5 1, 5, 4, 0), (.goto (-61), 2, 0, 0), (.return_, 0, 0, 0)]]
/-- 25: ScanChart$Op.counts(I)I -/
def am_c25 : List (List am_Ins) := [[(.aload_n 0, 0, 0, 0), (.getfield 156, 2, 30, 3), (.iconst 1, 4, 0, 0), (.if_icmp .ne 13, 10, 0, 0), (.iload_n 1, 1, 0, 0), (.ifCond .ne 7, 8, 0, 0), (.iconst 1, 4, 0, 0), (.goto 4, 9, 0, 0), (.iconst 0, 5, 0, 0), (.ireturn, 0, 0, 0), (.iload_n 1, 1, 0, 0), (.ireturn, 0, 0, 0)]]
/-- 26: ScanChart$Op.isBlock()Z -/
def am_c26 : List (List am_Ins) := [[(.aload_n 0, 0, 0, 0), (.getfield 152, 1, 30, 3), (.bipush 8, 2, 0, 0), (.if_icmp .eq 30, 16, 0, 0), (.aload_n 0, 0, 0, 0), (.getfield 152, 1, 30, 3), (.bipush 9, 11, 0, 0), (.if_icmp .eq 21, 16, 0, 0), (.aload_n 0, 0, 0, 0), (.getfield 152, 1, 30, 3), (.bipush 10, 17, 0, 0), (.if_icmp .eq 12, 16, 0, 0), (.aload_n 0, 0, 0, 0), (.getfield 152, 1, 30, 3), (.bipush 11, 18, 0, 0), (.if_icmp .ne 7, 18, 0, 0)], [(.iconst 1, 4, 0, 0), (.goto 4, 19, 0, 0), (.iconst 0, 5, 0, 0), (.ireturn, 0, 0, 0)]]
/-- 27: ScanChart$Op.isTaken(I)Z -/
def am_c27 : List (List am_Ins) := [[(.aload_n 0, 0, 0, 0), (.getfield 156, 2, 30, 3), (.ifCond .eq 28, 16, 0, 0), (.aload_n 0, 0, 0, 0), (.getfield 156, 2, 30, 3), (.iconst 2, 13, 0, 0), (.if_icmp .ne 7, 9, 0, 0), (.iconst 1, 4, 0, 0), (.goto 4, 10, 0, 0), (.iconst 0, 5, 0, 0), (.iload_n 1, 1, 0, 0), (.ifCond .eq 7, 14, 0, 0), (.iconst 1, 4, 0, 0), (.goto 4, 15, 0, 0), (.iconst 0, 5, 0, 0), (.if_icmp .ne 7, 18, 0, 0)], [(.iconst 1, 4, 0, 0), (.goto 4, 19, 0, 0), (.iconst 0, 5, 0, 0), (.ireturn, 0, 0, 0)]]
/-- 28: ScanChart$Past.<init>()V -/
def am_c28 : List (List am_Ins) := [[(.aload_n 0, 0, 0, 0), (.invokespecial 3, 0, 1, 99), (.aload_n 0, 0, 0, 0), (.iconst 0, 5, 0, 0), (.putfield 9, 0, 4, 0), (.aload_n 0, 0, 0, 0), (.bipush 8, 2, 0, 0), (.newarray .long, 22, 0, 0), (.putfield 15, 1, 4, 2), (.aload_n 0, 0, 0, 0), (.iconst 0, 5, 0, 0), (.putfield 19, 2, 4, 0), (.aload_n 0, 0, 0, 0), (.iconst 0, 5, 0, 0), (.putfield 22, 3, 4, 0), (.aload_n 0, 0, 0, 0)], [(.bipush 8, 2, 0, 0), (.newarray .long, 22, 0, 0), (.putfield 25, 4, 4, 2), (.aload_n 0, 0, 0, 0), (.iconst 0, 5, 0, 0), (.putfield 28, 5, 4, 0), (.aload_n 0, 0, 0, 0), (.bipush 8, 2, 0, 0), (.newarray .long, 22, 0, 0), (.putfield 31, 6, 4, 2), (.aload_n 0, 0, 0, 0), (.iconst 0, 5, 0, 0), (.putfield 34, 7, 4, 0), (.aload_n 0, 0, 0, 0), (.iconst 0, 5, 0, 0), (.putfield 37, 8, 4, 0)], [(.aload_n 0, 0, 0, 0), (.iconst 0, 5, 0, 0), (.putfield 40, 9, 4, 0), (.aload_n 0, 0, 0, 0), (.iconst 0, 5, 0, 0), (.putfield 43, 10, 4, 0), (.return_, 0, 0, 0)]]
/-- 29: ScanChart$Past.clear()V -/
def am_c29 : List (List am_Ins) := [[(.aload_n 0, 0, 0, 0), (.iconst 0, 5, 0, 0), (.putfield 9, 0, 4, 0), (.aload_n 0, 0, 0, 0), (.iconst 0, 5, 0, 0), (.putfield 19, 2, 4, 0), (.aload_n 0, 0, 0, 0), (.iconst 0, 5, 0, 0), (.putfield 22, 3, 4, 0), (.aload_n 0, 0, 0, 0), (.iconst 0, 5, 0, 0), (.putfield 28, 5, 4, 0), (.aload_n 0, 0, 0, 0), (.iconst 0, 5, 0, 0), (.putfield 34, 7, 4, 0), (.aload_n 0, 0, 0, 0)], [(.iconst 0, 5, 0, 0), (.putfield 37, 8, 4, 0), (.aload_n 0, 0, 0, 0), (.iconst 0, 5, 0, 0), (.putfield 40, 9, 4, 0), (.aload_n 0, 0, 0, 0), (.iconst 0, 5, 0, 0), (.putfield 43, 10, 4, 0), (.return_, 0, 0, 0)]]
/-- 30: ScanChart$Past.begin([JIJ)V -/
def am_c30 : List (List am_Ins) := [[(.iload_n 1, 1, 0, 0), (.ifCond .lt 13, 10, 0, 0), (.iload_n 1, 1, 0, 0), (.aload_n 0, 0, 0, 0), (.arraylength, 0, 0, 0), (.if_icmp .ge 7, 10, 0, 0), (.aload_n 0, 0, 0, 0), (.iload_n 1, 1, 0, 0), (.lload_n 2, 2, 0, 0), (.lastore, 0, 0, 0), (.return_, 0, 0, 0)]]
/-- 31: ScanChart$Past.goneSince([JIJI)I -/
def am_c31 : List (List am_Ins) := [[(.iload_n 1, 1, 0, 0), (.ifCond .lt 15, 10, 0, 0), (.iload_n 1, 1, 0, 0), (.aload_n 0, 0, 0, 0), (.arraylength, 0, 0, 0), (.if_icmp .ge 9, 10, 0, 0), (.aload_n 0, 0, 0, 0), (.iload_n 1, 1, 0, 0), (.laload, 0, 0, 0), (.goto 4, 11, 0, 0), (.lload_n 2, 2, 0, 0), (.lstore 5, 5, 0, 0), (.lload_n 2, 2, 0, 0), (.lload 5, 5, 0, 0), (.lsub, 0, 0, 0), (.iload 4, 4, 0, 0)], [(.i2l, 0, 0, 0), (.invokestatic 46, 164, 2, 0), (.l2i, 0, 0, 0), (.ireturn, 0, 0, 0)]]
/-- 32: ScanChart$Past.delayOn(LScanChart$Cells;IZIJ)V -/
def am_c32 : List (List am_Ins) := [[(.iload_n 3, 3, 0, 0), (.ifCond .eq 24, 12, 0, 0), (.aload_n 0, 0, 0, 0), (.getfield 9, 0, 4, 0), (.iload_n 2, 2, 0, 0), (.invokestatic 52, 91, 2, 0), (.ifCond .ne 13, 12, 0, 0), (.aload_n 0, 0, 0, 0), (.getfield 15, 1, 4, 2), (.iload_n 2, 2, 0, 0), (.lload 5, 5, 0, 0), (.invokestatic 56, 30, 3, 0), (.aload_n 0, 0, 0, 0), (.aload_n 0, 0, 0, 0), (.getfield 9, 0, 4, 0), (.iload_n 2, 2, 0, 0)], [(.iload_n 3, 3, 0, 0), (.invokestatic 60, 92, 3, 0), (.putfield 9, 0, 4, 0), (.iload_n 3, 3, 0, 0), (.ifCond .eq 18, 28, 0, 0), (.aload_n 0, 0, 0, 0), (.getfield 15, 1, 4, 2), (.iload_n 2, 2, 0, 0), (.lload 5, 5, 0, 0), (.iload 4, 4, 0, 0), (.invokestatic 64, 31, 4, 0), (.goto 4, 29, 0, 0), (.iconst 0, 5, 0, 0), (.istore 7, 7, 0, 0), (.aload_n 1, 1, 0, 0), (.iload_n 2, 2, 0, 0)], [(.iload_n 3, 3, 0, 0), (.ifCond .eq 14, 39, 0, 0), (.iload 7, 7, 0, 0), (.iload 4, 4, 0, 0), (.if_icmp .ne 7, 39, 0, 0), (.iconst 1, 4, 0, 0), (.goto 4, 40, 0, 0), (.iconst 0, 5, 0, 0), (.iload 7, 7, 0, 0), (.invokevirtual 68, 5, 4, 1), (.return_, 0, 0, 0)]]
/-- 33: ScanChart$Past.delayOff(LScanChart$Cells;IZIJ)V -/
def am_c33 : List (List am_Ins) := [[(.iload_n 3, 3, 0, 0), (.ifCond .eq 37, 22, 0, 0), (.aload_n 0, 0, 0, 0), (.aload_n 0, 0, 0, 0), (.getfield 19, 2, 4, 0), (.iload_n 2, 2, 0, 0), (.iconst 1, 4, 0, 0), (.invokestatic 60, 92, 3, 0), (.putfield 19, 2, 4, 0), (.aload_n 0, 0, 0, 0), (.aload_n 0, 0, 0, 0), (.getfield 22, 3, 4, 0), (.iload_n 2, 2, 0, 0), (.iconst 0, 5, 0, 0), (.invokestatic 60, 92, 3, 0), (.putfield 22, 3, 4, 0)], [(.aload_n 1, 1, 0, 0), (.iload_n 2, 2, 0, 0), (.iconst 1, 4, 0, 0), (.iconst 0, 5, 0, 0), (.invokevirtual 68, 5, 4, 1), (.return_, 0, 0, 0), (.aload_n 0, 0, 0, 0), (.getfield 19, 2, 4, 0), (.iload_n 2, 2, 0, 0), (.invokestatic 52, 91, 2, 0), (.ifCond .ne 11, 33, 0, 0), (.aload_n 1, 1, 0, 0), (.iload_n 2, 2, 0, 0), (.iconst 0, 5, 0, 0), (.iconst 0, 5, 0, 0), (.invokevirtual 68, 5, 4, 1)], [(.return_, 0, 0, 0), (.aload_n 0, 0, 0, 0), (.getfield 22, 3, 4, 0), (.iload_n 2, 2, 0, 0), (.invokestatic 52, 91, 2, 0), (.ifCond .ne 26, 50, 0, 0), (.aload_n 0, 0, 0, 0), (.aload_n 0, 0, 0, 0), (.getfield 22, 3, 4, 0), (.iload_n 2, 2, 0, 0), (.iconst 1, 4, 0, 0), (.invokestatic 60, 92, 3, 0), (.putfield 22, 3, 4, 0), (.aload_n 0, 0, 0, 0), (.getfield 25, 4, 4, 2), (.iload_n 2, 2, 0, 0)], [(.lload 5, 5, 0, 0), (.invokestatic 56, 30, 3, 0), (.aload_n 0, 0, 0, 0), (.getfield 25, 4, 4, 2), (.iload_n 2, 2, 0, 0), (.lload 5, 5, 0, 0), (.iload 4, 4, 0, 0), (.invokestatic 64, 31, 4, 0), (.istore 7, 7, 0, 0), (.aload_n 1, 1, 0, 0), (.iload_n 2, 2, 0, 0), (.iload 7, 7, 0, 0), (.iload 4, 4, 0, 0), (.if_icmp .ge 7, 64, 0, 0), (.iconst 1, 4, 0, 0), (.goto 4, 65, 0, 0)], [(.iconst 0, 5, 0, 0), (.iload 7, 7, 0, 0), (.invokevirtual 68, 5, 4, 1), (.return_, 0, 0, 0)]]
/-- 34: ScanChart$Past.pulse(LScanChart$Cells;IZIJ)V -/
def am_c34 : List (List am_Ins) := [[(.iload_n 3, 3, 0, 0), (.ifCond .ne 22, 13, 0, 0), (.aload_n 0, 0, 0, 0), (.getfield 28, 5, 4, 0), (.iload_n 2, 2, 0, 0), (.invokestatic 52, 91, 2, 0), (.ifCond .ne 11, 13, 0, 0), (.aload_n 1, 1, 0, 0), (.iload_n 2, 2, 0, 0), (.iconst 0, 5, 0, 0), (.iconst 0, 5, 0, 0), (.invokevirtual 68, 5, 4, 1), (.return_, 0, 0, 0), (.aload_n 0, 0, 0, 0), (.getfield 28, 5, 4, 0), (.iload_n 2, 2, 0, 0)], [(.invokestatic 52, 91, 2, 0), (.ifCond .ne 13, 23, 0, 0), (.aload_n 0, 0, 0, 0), (.getfield 31, 6, 4, 2), (.iload_n 2, 2, 0, 0), (.lload 5, 5, 0, 0), (.invokestatic 56, 30, 3, 0), (.aload_n 0, 0, 0, 0), (.getfield 31, 6, 4, 2), (.iload_n 2, 2, 0, 0), (.lload 5, 5, 0, 0), (.iload 4, 4, 0, 0), (.invokestatic 64, 31, 4, 0), (.istore 7, 7, 0, 0), (.iload 7, 7, 0, 0), (.iload 4, 4, 0, 0)], [(.if_icmp .ne 11, 37, 0, 0), (.iload_n 3, 3, 0, 0), (.ifCond .ne 7, 37, 0, 0), (.iconst 1, 4, 0, 0), (.goto 4, 38, 0, 0), (.iconst 0, 5, 0, 0), (.istore 8, 8, 0, 0), (.aload_n 0, 0, 0, 0), (.aload_n 0, 0, 0, 0), (.getfield 28, 5, 4, 0), (.iload_n 2, 2, 0, 0), (.iload 8, 8, 0, 0), (.ifCond .ne 7, 47, 0, 0), (.iconst 1, 4, 0, 0), (.goto 4, 48, 0, 0), (.iconst 0, 5, 0, 0)], [(.invokestatic 60, 92, 3, 0), (.putfield 28, 5, 4, 0), (.aload_n 1, 1, 0, 0), (.iload_n 2, 2, 0, 0), (.iload 7, 7, 0, 0), (.iload 4, 4, 0, 0), (.if_icmp .ge 7, 57, 0, 0), (.iconst 1, 4, 0, 0), (.goto 4, 58, 0, 0), (.iconst 0, 5, 0, 0), (.iload 8, 8, 0, 0), (.ifCond .eq 7, 62, 0, 0), (.iconst 0, 5, 0, 0), (.goto 5, 63, 0, 0), (.iload 7, 7, 0, 0), (.invokevirtual 68, 5, 4, 1)], [(.return_, 0, 0, 0)]]
/-- 35: ScanChart$Past.countUp(LScanChart$Cells;IZI)V -/
def am_c35 : List (List am_Ins) := [[(.aload_n 1, 1, 0, 0), (.bipush 10, 17, 0, 0), (.iload_n 2, 2, 0, 0), (.invokevirtual 74, 2, 3, 1), (.istore 5, 5, 0, 0), (.iload_n 3, 3, 0, 0), (.ifCond .eq 25, 16, 0, 0), (.aload_n 0, 0, 0, 0), (.getfield 34, 7, 4, 0), (.iload_n 2, 2, 0, 0), (.invokestatic 52, 91, 2, 0), (.ifCond .ne 14, 16, 0, 0), (.iload 5, 5, 0, 0), (.sipush 32767, 19, 0, 0), (.if_icmp .ge 6, 16, 0, 0), (.iinc 5 1, 5, 4, 0)], [(.aload_n 0, 0, 0, 0), (.aload_n 0, 0, 0, 0), (.getfield 34, 7, 4, 0), (.iload_n 2, 2, 0, 0), (.iload_n 3, 3, 0, 0), (.invokestatic 60, 92, 3, 0), (.putfield 34, 7, 4, 0), (.aload_n 1, 1, 0, 0), (.iload_n 2, 2, 0, 0), (.iload 5, 5, 0, 0), (.invokevirtual 78, 6, 3, 1), (.aload_n 1, 1, 0, 0), (.iconst 5, 12, 0, 0), (.iload_n 2, 2, 0, 0), (.iload 5, 5, 0, 0), (.iload 4, 4, 0, 0)], [(.if_icmp .lt 7, 35, 0, 0), (.iconst 1, 4, 0, 0), (.goto 4, 36, 0, 0), (.iconst 0, 5, 0, 0), (.invokevirtual 82, 3, 4, 1), (.return_, 0, 0, 0)]]
/-- 36: ScanChart$Past.countDown(LScanChart$Cells;IZ)V -/
def am_c36 : List (List am_Ins) := [[(.aload_n 1, 1, 0, 0), (.bipush 10, 17, 0, 0), (.iload_n 2, 2, 0, 0), (.invokevirtual 74, 2, 3, 1), (.istore 4, 4, 0, 0), (.iload_n 3, 3, 0, 0), (.ifCond .eq 25, 16, 0, 0), (.aload_n 0, 0, 0, 0), (.getfield 37, 8, 4, 0), (.iload_n 2, 2, 0, 0), (.invokestatic 52, 91, 2, 0), (.ifCond .ne 14, 16, 0, 0), (.iload 4, 4, 0, 0), (.sipush (-32768), 20, 0, 0), (.if_icmp .le 6, 16, 0, 0), (.iinc 4 (-1), 4, 15, 0)], [(.aload_n 0, 0, 0, 0), (.aload_n 0, 0, 0, 0), (.getfield 37, 8, 4, 0), (.iload_n 2, 2, 0, 0), (.iload_n 3, 3, 0, 0), (.invokestatic 60, 92, 3, 0), (.putfield 37, 8, 4, 0), (.aload_n 1, 1, 0, 0), (.iload_n 2, 2, 0, 0), (.iload 4, 4, 0, 0), (.invokevirtual 78, 6, 3, 1), (.aload_n 1, 1, 0, 0), (.iconst 5, 12, 0, 0), (.iload_n 2, 2, 0, 0), (.iload 4, 4, 0, 0), (.ifCond .gt 7, 34, 0, 0)], [(.iconst 1, 4, 0, 0), (.goto 4, 35, 0, 0), (.iconst 0, 5, 0, 0), (.invokevirtual 82, 3, 4, 1), (.return_, 0, 0, 0)]]
/-- 37: ScanChart$Past.rises(IZ)Z -/
def am_c37 : List (List am_Ins) := [[(.aload_n 0, 0, 0, 0), (.getfield 40, 9, 4, 0), (.iload_n 1, 1, 0, 0), (.invokestatic 52, 91, 2, 0), (.istore_n 3, 3, 0, 0), (.aload_n 0, 0, 0, 0), (.aload_n 0, 0, 0, 0), (.getfield 40, 9, 4, 0), (.iload_n 1, 1, 0, 0), (.iload_n 2, 2, 0, 0), (.invokestatic 60, 92, 3, 0), (.putfield 40, 9, 4, 0), (.iload_n 2, 2, 0, 0), (.ifCond .eq 11, 18, 0, 0), (.iload_n 3, 3, 0, 0), (.ifCond .ne 7, 18, 0, 0)], [(.iconst 1, 4, 0, 0), (.goto 4, 19, 0, 0), (.iconst 0, 5, 0, 0), (.ireturn, 0, 0, 0)]]
/-- 38: ScanChart$Past.falls(IZ)Z -/
def am_c38 : List (List am_Ins) := [[(.aload_n 0, 0, 0, 0), (.getfield 43, 10, 4, 0), (.iload_n 1, 1, 0, 0), (.invokestatic 52, 91, 2, 0), (.istore_n 3, 3, 0, 0), (.aload_n 0, 0, 0, 0), (.aload_n 0, 0, 0, 0), (.getfield 43, 10, 4, 0), (.iload_n 1, 1, 0, 0), (.iload_n 2, 2, 0, 0), (.invokestatic 60, 92, 3, 0), (.putfield 43, 10, 4, 0), (.iload_n 2, 2, 0, 0), (.ifCond .ne 11, 18, 0, 0), (.iload_n 3, 3, 0, 0), (.ifCond .eq 7, 18, 0, 0)], [(.iconst 1, 4, 0, 0), (.goto 4, 19, 0, 0), (.iconst 0, 5, 0, 0), (.ireturn, 0, 0, 0)]]
/-- 39: ScanChart$Program.<init>()V -/
def am_c39 : List (List am_Ins) := [[(.aload_n 0, 0, 0, 0), (.invokespecial 3, 0, 1, 99), (.aload_n 0, 0, 0, 0), (.new 9, 2, 10, 0), (.dup, 0, 0, 0), (.invokespecial 11, 7, 1, 2), (.putfield 12, 0, 5, 2), (.aload_n 0, 0, 0, 0), (.bipush 80, 21, 0, 0), (.anewarray 18, 23, 0, 0), (.putfield 20, 1, 5, 2), (.aload_n 0, 0, 0, 0), (.bipush 80, 21, 0, 0), (.newarray .int, 20, 0, 0), (.putfield 24, 2, 5, 2), (.aload_n 0, 0, 0, 0)], [(.bipush 80, 21, 0, 0), (.newarray .int, 20, 0, 0), (.putfield 28, 3, 5, 2), (.aload_n 0, 0, 0, 0), (.bipush 80, 21, 0, 0), (.newarray .int, 20, 0, 0), (.putfield 31, 4, 5, 2), (.aload_n 0, 0, 0, 0), (.bipush 32, 1, 0, 0), (.newarray .int, 20, 0, 0), (.putfield 34, 5, 5, 2), (.aload_n 0, 0, 0, 0), (.iconst 0, 5, 0, 0), (.putfield 37, 6, 5, 0), (.return_, 0, 0, 0)]]
/-- 40: ScanChart$Program.clear()V -/
def am_c40 : List (List am_Ins) := [[(.aload_n 0, 0, 0, 0), (.iconst 0, 5, 0, 0), (.putfield 37, 6, 5, 0), (.aload_n 0, 0, 0, 0), (.getfield 34, 5, 5, 2), (.iconst (-1), 15, 0, 0), (.invokestatic 41, 93, 2, 0), (.aload_n 0, 0, 0, 0), (.getfield 12, 0, 5, 2), (.invokevirtual 45, 8, 1, 2), (.return_, 0, 0, 0)]]
/-- 41: ScanChart$Program.add(LScanChart$Op;III)V -/
def am_c41 : List (List am_Ins) := [[(.aload_n 0, 0, 0, 0), (.getfield 37, 6, 5, 0), (.ifCond .lt 15, 9, 0, 0), (.aload_n 0, 0, 0, 0), (.getfield 37, 6, 5, 0), (.aload_n 0, 0, 0, 0), (.getfield 20, 1, 5, 2), (.arraylength, 0, 0, 0), (.if_icmp .lt 4, 10, 0, 0), (.return_, 0, 0, 0), (.aload_n 0, 0, 0, 0), (.getfield 20, 1, 5, 2), (.aload_n 0, 0, 0, 0), (.getfield 37, 6, 5, 0), (.aload_n 1, 1, 0, 0), (.aastore, 0, 0, 0)], [(.aload_n 0, 0, 0, 0), (.getfield 24, 2, 5, 2), (.aload_n 0, 0, 0, 0), (.getfield 37, 6, 5, 0), (.iload_n 2, 2, 0, 0), (.invokestatic 48, 90, 3, 0), (.aload_n 0, 0, 0, 0), (.getfield 28, 3, 5, 2), (.aload_n 0, 0, 0, 0), (.getfield 37, 6, 5, 0), (.iload_n 3, 3, 0, 0), (.invokestatic 48, 90, 3, 0), (.aload_n 0, 0, 0, 0), (.getfield 31, 4, 5, 2), (.aload_n 0, 0, 0, 0), (.getfield 37, 6, 5, 0)], [(.iload 4, 4, 0, 0), (.invokestatic 48, 90, 3, 0), (.aload_n 0, 0, 0, 0), (.dup, 0, 0, 0), (.getfield 37, 6, 5, 0), (.iconst 1, 4, 0, 0), (.iadd, 0, 0, 0), (.putfield 37, 6, 5, 0), (.return_, 0, 0, 0)]]
/-- 42: ScanChart$Program.opAt(I)LScanChart$Op; -/
def am_c42 : List (List am_Ins) := [[(.iload_n 1, 1, 0, 0), (.ifCond .lt 21, 12, 0, 0), (.iload_n 1, 1, 0, 0), (.aload_n 0, 0, 0, 0), (.getfield 20, 1, 5, 2), (.arraylength, 0, 0, 0), (.if_icmp .ge 12, 12, 0, 0), (.aload_n 0, 0, 0, 0), (.getfield 20, 1, 5, 2), (.iload_n 1, 1, 0, 0), (.aaload, 0, 0, 0), (.goto 4, 13, 0, 0), (.aconst_null, 0, 0, 0), (.areturn, 0, 0, 0)]]
/-- 43: ScanChart$Reader.<init>()V -/
def am_c43 : List (List am_Ins) := [[(.aload_n 0, 0, 0, 0), (.invokespecial 3, 0, 1, 99), (.aload_n 0, 0, 0, 0), (.new 9, 7, 2, 0), (.dup, 0, 0, 0), (.invokespecial 11, 67, 1, 7), (.putfield 12, 0, 6, 2), (.aload_n 0, 0, 0, 0), (.new 18, 5, 7, 0), (.dup, 0, 0, 0), (.invokespecial 20, 39, 1, 5), (.putfield 21, 1, 6, 2), (.aload_n 0, 0, 0, 0), (.iconst 0, 5, 0, 0), (.putfield 25, 2, 6, 0), (.aload_n 0, 0, 0, 0)], [(.iconst (-1), 15, 0, 0), (.putfield 29, 3, 6, 0), (.aload_n 0, 0, 0, 0), (.bipush 32, 1, 0, 0), (.newarray .int, 20, 0, 0), (.putfield 32, 12, 6, 2), (.aload_n 0, 0, 0, 0), (.bipush 16, 7, 0, 0), (.newarray .int, 20, 0, 0), (.putfield 36, 13, 6, 2), (.return_, 0, 0, 0)]]
/-- 44: ScanChart$Reader.readText()Z -/
def am_c44 : List (List am_Ins) := [[(.aload_n 0, 0, 0, 0), (.getfield 21, 1, 6, 2), (.invokevirtual 39, 40, 1, 5), (.aload_n 0, 0, 0, 0), (.getfield 32, 12, 6, 2), (.iconst (-1), 15, 0, 0), (.invokestatic 42, 93, 2, 0), (.aload_n 0, 0, 0, 0), (.getfield 36, 13, 6, 2), (.iconst (-1), 15, 0, 0), (.invokestatic 42, 93, 2, 0), (.aload_n 0, 0, 0, 0), (.iconst 0, 5, 0, 0), (.putfield 25, 2, 6, 0), (.aload_n 0, 0, 0, 0), (.iconst (-1), 15, 0, 0)], [(.putfield 29, 3, 6, 0), (.aload_n 0, 0, 0, 0), (.iconst 0, 5, 0, 0), (.putfield 46, 9, 6, 0), (.aload_n 0, 0, 0, 0), (.iconst 0, 5, 0, 0), (.putfield 49, 6, 6, 0), (.aload_n 0, 0, 0, 0), (.invokevirtual 52, 47, 1, 6), (.iconst 0, 5, 0, 0), (.istore_n 1, 1, 0, 0), (.iload_n 1, 1, 0, 0), (.sipush 700, 22, 0, 0), (.if_icmp .gt 133, 94, 0, 0), (.aload_n 0, 0, 0, 0), (.getfield 55, 4, 6, 0)], [(.ifCond .eq 126, 94, 0, 0), (.aload_n 0, 0, 0, 0), (.invokevirtual 58, 50, 1, 6), (.ifCond .eq 10, 39, 0, 0), (.aload_n 0, 0, 0, 0), (.invokevirtual 62, 51, 1, 6), (.ifCond .eq 7, 41, 0, 0), (.iconst 1, 4, 0, 0), (.goto 4, 42, 0, 0), (.iconst 0, 5, 0, 0), (.istore_n 2, 2, 0, 0), (.iload_n 2, 2, 0, 0), (.ifCond .eq 72, 78, 0, 0), (.aload_n 0, 0, 0, 0), (.getfield 55, 4, 6, 0), (.iconst 2, 13, 0, 0)], [(.if_icmp .ne 64, 78, 0, 0), (.aload_n 0, 0, 0, 0), (.invokevirtual 65, 52, 1, 6), (.astore_n 3, 3, 0, 0), (.aload_n 3, 3, 0, 0), (.ifnull 53, 76, 0, 0), (.aload_n 3, 3, 0, 0), (.getfield 69, 1, 30, 3), (.bipush 13, 23, 0, 0), (.if_icmp .ne 13, 62, 0, 0), (.aload_n 0, 0, 0, 0), (.invokevirtual 74, 63, 1, 6), (.ifCond .eq 37, 76, 0, 0), (.goto 30, 74, 0, 0), (.aload_n 3, 3, 0, 0), (.getfield 69, 1, 30, 3)], [(.bipush 12, 10, 0, 0), (.if_icmp .ne 13, 70, 0, 0), (.aload_n 0, 0, 0, 0), (.invokevirtual 77, 61, 1, 6), (.ifCond .eq 18, 76, 0, 0), (.goto 11, 74, 0, 0), (.aload_n 0, 0, 0, 0), (.aload_n 3, 3, 0, 0), (.invokevirtual 80, 56, 2, 6), (.ifCond .eq 7, 76, 0, 0), (.iconst 1, 4, 0, 0), (.goto 4, 77, 0, 0), (.iconst 0, 5, 0, 0), (.istore_n 2, 2, 0, 0), (.iload_n 2, 2, 0, 0), (.ifCond .ne 5, 82, 0, 0)], [(.iconst 0, 5, 0, 0), (.ireturn, 0, 0, 0), (.aload_n 0, 0, 0, 0), (.getfield 55, 4, 6, 0), (.iconst 1, 4, 0, 0), (.if_icmp .eq 9, 90, 0, 0), (.aload_n 0, 0, 0, 0), (.iconst 1, 4, 0, 0), (.invokevirtual 84, 45, 2, 6), (.ireturn, 0, 0, 0), (.aload_n 0, 0, 0, 0), (.invokevirtual 52, 47, 1, 6), (.iinc 1 1, 1, 4, 0), (.goto (-134), 27, 0, 0), (.aload_n 0, 0, 0, 0), (.getfield 46, 9, 6, 0)], [(.ifCond .le 11, 101, 0, 0), (.aload_n 0, 0, 0, 0), (.iconst 5, 12, 0, 0), (.invokevirtual 84, 45, 2, 6), (.goto 7, 103, 0, 0), (.aload_n 0, 0, 0, 0), (.invokevirtual 88, 66, 1, 6), (.ireturn, 0, 0, 0)]]
/-- 45: ScanChart$Reader.fail(I)Z -/
def am_c45 : List (List am_Ins) := [[(.aload_n 0, 0, 0, 0), (.iload_n 1, 1, 0, 0), (.putfield 25, 2, 6, 0), (.aload_n 0, 0, 0, 0), (.aload_n 0, 0, 0, 0), (.getfield 91, 5, 6, 0), (.putfield 29, 3, 6, 0), (.iconst 0, 5, 0, 0), (.ireturn, 0, 0, 0)]]
/-- 46: ScanChart$Reader.failAt(II)Z -/
def am_c46 : List (List am_Ins) := [[(.aload_n 0, 0, 0, 0), (.iload_n 1, 1, 0, 0), (.putfield 25, 2, 6, 0), (.aload_n 0, 0, 0, 0), (.iload_n 2, 2, 0, 0), (.putfield 29, 3, 6, 0), (.iconst 0, 5, 0, 0), (.ireturn, 0, 0, 0)]]
/-- 47: ScanChart$Reader.advance()V -/
def am_c47 : List (List am_Ins) := [[(.aload_n 0, 0, 0, 0), (.aload_n 0, 0, 0, 0), (.getfield 49, 6, 6, 0), (.putfield 91, 5, 6, 0), (.aload_n 0, 0, 0, 0), (.getfield 91, 5, 6, 0), (.aload_n 0, 0, 0, 0), (.getfield 12, 0, 6, 2), (.getfield 94, 1, 7, 0), (.if_icmp .ge 32, 24, 0, 0), (.aload_n 0, 0, 0, 0), (.getfield 12, 0, 6, 2), (.aload_n 0, 0, 0, 0), (.getfield 91, 5, 6, 0), (.invokevirtual 97, 69, 2, 7), (.bipush 32, 1, 0, 0)], [(.if_icmp .gt 16, 24, 0, 0), (.aload_n 0, 0, 0, 0), (.dup, 0, 0, 0), (.getfield 91, 5, 6, 0), (.iconst 1, 4, 0, 0), (.iadd, 0, 0, 0), (.putfield 91, 5, 6, 0), (.goto (-40), 4, 0, 0), (.aload_n 0, 0, 0, 0), (.aload_n 0, 0, 0, 0), (.getfield 91, 5, 6, 0), (.putfield 49, 6, 6, 0), (.aload_n 0, 0, 0, 0), (.getfield 49, 6, 6, 0), (.aload_n 0, 0, 0, 0), (.getfield 12, 0, 6, 2)], [(.getfield 94, 1, 7, 0), (.if_icmp .ge 48, 55, 0, 0), (.aload_n 0, 0, 0, 0), (.getfield 12, 0, 6, 2), (.aload_n 0, 0, 0, 0), (.getfield 49, 6, 6, 0), (.invokevirtual 97, 69, 2, 7), (.bipush 32, 1, 0, 0), (.if_icmp .le 32, 55, 0, 0), (.aload_n 0, 0, 0, 0), (.getfield 12, 0, 6, 2), (.aload_n 0, 0, 0, 0), (.getfield 49, 6, 6, 0), (.invokevirtual 97, 69, 2, 7), (.bipush 59, 24, 0, 0), (.if_icmp .eq 16, 55, 0, 0)], [(.aload_n 0, 0, 0, 0), (.dup, 0, 0, 0), (.getfield 49, 6, 6, 0), (.iconst 1, 4, 0, 0), (.iadd, 0, 0, 0), (.putfield 49, 6, 6, 0), (.goto (-56), 28, 0, 0), (.aload_n 0, 0, 0, 0), (.getfield 49, 6, 6, 0), (.aload_n 0, 0, 0, 0), (.getfield 91, 5, 6, 0), (.if_icmp .le 11, 64, 0, 0), (.aload_n 0, 0, 0, 0), (.iconst 2, 13, 0, 0), (.putfield 55, 4, 6, 0), (.goto 40, 83, 0, 0)], [(.aload_n 0, 0, 0, 0), (.getfield 91, 5, 6, 0), (.aload_n 0, 0, 0, 0), (.getfield 12, 0, 6, 2), (.getfield 94, 1, 7, 0), (.if_icmp .ge 21, 80, 0, 0), (.aload_n 0, 0, 0, 0), (.iconst 1, 4, 0, 0), (.putfield 55, 4, 6, 0), (.aload_n 0, 0, 0, 0), (.aload_n 0, 0, 0, 0), (.getfield 91, 5, 6, 0), (.iconst 1, 4, 0, 0), (.iadd, 0, 0, 0), (.putfield 49, 6, 6, 0), (.goto 8, 83, 0, 0)], [(.aload_n 0, 0, 0, 0), (.iconst 0, 5, 0, 0), (.putfield 55, 4, 6, 0), (.aload_n 0, 0, 0, 0), (.aload_n 0, 0, 0, 0), (.getfield 49, 6, 6, 0), (.putfield 101, 7, 6, 0), (.aload_n 0, 0, 0, 0), (.getfield 101, 7, 6, 0), (.aload_n 0, 0, 0, 0), (.getfield 91, 5, 6, 0), (.if_icmp .le 52, 117, 0, 0), (.aload_n 0, 0, 0, 0), (.getfield 12, 0, 6, 2), (.aload_n 0, 0, 0, 0), (.getfield 101, 7, 6, 0)], [(.iconst 1, 4, 0, 0), (.isub, 0, 0, 0), (.invokevirtual 97, 69, 2, 7), (.bipush 48, 8, 0, 0), (.if_icmp .lt 34, 117, 0, 0), (.aload_n 0, 0, 0, 0), (.getfield 12, 0, 6, 2), (.aload_n 0, 0, 0, 0), (.getfield 101, 7, 6, 0), (.iconst 1, 4, 0, 0), (.isub, 0, 0, 0), (.invokevirtual 97, 69, 2, 7), (.bipush 57, 25, 0, 0), (.if_icmp .gt 16, 117, 0, 0), (.aload_n 0, 0, 0, 0), (.dup, 0, 0, 0)], [(.getfield 101, 7, 6, 0), (.iconst 1, 4, 0, 0), (.isub, 0, 0, 0), (.putfield 101, 7, 6, 0), (.goto (-57), 87, 0, 0), (.return_, 0, 0, 0)]]
/-- 48: ScanChart$Reader.isWord(Ljava/lang/String;)Z -/
def am_c48 : List (List am_Ins) := [[(.aload_n 0, 0, 0, 0), (.getfield 55, 4, 6, 0), (.iconst 2, 13, 0, 0), (.if_icmp .ne 26, 15, 0, 0), (.aload_n 0, 0, 0, 0), (.getfield 12, 0, 6, 2), (.aload_n 1, 1, 0, 0), (.aload_n 0, 0, 0, 0), (.getfield 91, 5, 6, 0), (.aload_n 0, 0, 0, 0), (.getfield 49, 6, 6, 0), (.invokevirtual 104, 70, 4, 7), (.ifCond .eq 7, 15, 0, 0), (.iconst 1, 4, 0, 0), (.goto 4, 16, 0, 0), (.iconst 0, 5, 0, 0)], [(.ireturn, 0, 0, 0)]]
/-- 49: ScanChart$Reader.isFigures()Z -/
def am_c49 : List (List am_Ins) := [[(.aload_n 0, 0, 0, 0), (.getfield 55, 4, 6, 0), (.iconst 2, 13, 0, 0), (.if_icmp .ne 18, 11, 0, 0), (.aload_n 0, 0, 0, 0), (.getfield 101, 7, 6, 0), (.aload_n 0, 0, 0, 0), (.getfield 91, 5, 6, 0), (.if_icmp .ne 7, 11, 0, 0), (.iconst 1, 4, 0, 0), (.goto 4, 12, 0, 0), (.iconst 0, 5, 0, 0), (.ireturn, 0, 0, 0)]]
/-- 50: ScanChart$Reader.isLabel()Z -/
def am_c50 : List (List am_Ins) := [[(.aload_n 0, 0, 0, 0), (.getfield 55, 4, 6, 0), (.iconst 2, 13, 0, 0), (.if_icmp .ne 67, 36, 0, 0), (.aload_n 0, 0, 0, 0), (.getfield 12, 0, 6, 2), (.aload_n 0, 0, 0, 0), (.getfield 91, 5, 6, 0), (.invokevirtual 97, 69, 2, 7), (.bipush 76, 26, 0, 0), (.if_icmp .ne 51, 36, 0, 0), (.aload_n 0, 0, 0, 0), (.getfield 12, 0, 6, 2), (.aload_n 0, 0, 0, 0), (.getfield 49, 6, 6, 0), (.iconst 1, 4, 0, 0)], [(.isub, 0, 0, 0), (.invokevirtual 97, 69, 2, 7), (.bipush 58, 27, 0, 0), (.if_icmp .ne 33, 36, 0, 0), (.aload_n 0, 0, 0, 0), (.getfield 12, 0, 6, 2), (.aload_n 0, 0, 0, 0), (.getfield 91, 5, 6, 0), (.iconst 1, 4, 0, 0), (.iadd, 0, 0, 0), (.aload_n 0, 0, 0, 0), (.getfield 49, 6, 6, 0), (.iconst 1, 4, 0, 0), (.isub, 0, 0, 0), (.invokevirtual 108, 71, 3, 7), (.ldc2_w 112, 1, 0, 0)], [(.lcmp, 0, 0, 0), (.ifCond .eq 7, 36, 0, 0), (.iconst 1, 4, 0, 0), (.goto 4, 37, 0, 0), (.iconst 0, 5, 0, 0), (.ireturn, 0, 0, 0)]]
/-- 51: ScanChart$Reader.readLabel()Z -/
def am_c51 : List (List am_Ins) := [[(.aload_n 0, 0, 0, 0), (.getfield 12, 0, 6, 2), (.aload_n 0, 0, 0, 0), (.getfield 91, 5, 6, 0), (.iconst 1, 4, 0, 0), (.iadd, 0, 0, 0), (.aload_n 0, 0, 0, 0), (.getfield 49, 6, 6, 0), (.iconst 1, 4, 0, 0), (.isub, 0, 0, 0), (.invokevirtual 108, 71, 3, 7), (.lstore_n 1, 1, 0, 0), (.aload_n 0, 0, 0, 0), (.getfield 49, 6, 6, 0), (.aload_n 0, 0, 0, 0), (.getfield 91, 5, 6, 0)], [(.isub, 0, 0, 0), (.iconst 2, 13, 0, 0), (.isub, 0, 0, 0), (.iconst 2, 13, 0, 0), (.if_icmp .gt 17, 29, 0, 0), (.lload_n 1, 1, 0, 0), (.lconst 0, 0, 0, 0), (.lcmp, 0, 0, 0), (.ifCond .lt 11, 29, 0, 0), (.lload_n 1, 1, 0, 0), (.ldc2_w 114, 2, 0, 0), (.lcmp, 0, 0, 0), (.ifCond .lt 9, 33, 0, 0), (.aload_n 0, 0, 0, 0), (.iconst 2, 13, 0, 0), (.invokevirtual 84, 45, 2, 6)], [(.ireturn, 0, 0, 0), (.lload_n 1, 1, 0, 0), (.l2i, 0, 0, 0), (.istore_n 3, 3, 0, 0), (.aload_n 0, 0, 0, 0), (.getfield 21, 1, 6, 2), (.getfield 116, 5, 5, 2), (.iload_n 3, 3, 0, 0), (.invokestatic 119, 89, 2, 0), (.iconst (-1), 15, 0, 0), (.if_icmp .eq 9, 47, 0, 0), (.aload_n 0, 0, 0, 0), (.iconst 4, 6, 0, 0), (.invokevirtual 84, 45, 2, 6), (.ireturn, 0, 0, 0), (.aload_n 0, 0, 0, 0)], [(.getfield 46, 9, 6, 0), (.ifCond .le 9, 54, 0, 0), (.aload_n 0, 0, 0, 0), (.iconst 5, 12, 0, 0), (.invokevirtual 84, 45, 2, 6), (.ireturn, 0, 0, 0), (.aload_n 0, 0, 0, 0), (.getfield 21, 1, 6, 2), (.getfield 116, 5, 5, 2), (.iload_n 3, 3, 0, 0), (.aload_n 0, 0, 0, 0), (.getfield 21, 1, 6, 2), (.getfield 123, 6, 5, 0), (.invokestatic 126, 90, 3, 0), (.aload_n 0, 0, 0, 0), (.invokevirtual 52, 47, 1, 6)], [(.iconst 1, 4, 0, 0), (.ireturn, 0, 0, 0)]]
/-- 52: ScanChart$Reader.readOp()LScanChart$Op; -/
def am_c52 : List (List am_Ins) := [[(.aload_n 0, 0, 0, 0), (.aload_n 0, 0, 0, 0), (.getfield 12, 0, 6, 2), (.aload_n 0, 0, 0, 0), (.getfield 49, 6, 6, 0), (.iconst 1, 4, 0, 0), (.isub, 0, 0, 0), (.invokevirtual 97, 69, 2, 7), (.bipush 40, 28, 0, 0), (.if_icmp .ne 7, 12, 0, 0), (.iconst 1, 4, 0, 0), (.goto 4, 13, 0, 0), (.iconst 0, 5, 0, 0), (.putfield 130, 8, 6, 5), (.aload_n 0, 0, 0, 0), (.aload_n 0, 0, 0, 0)], [(.getfield 91, 5, 6, 0), (.aload_n 0, 0, 0, 0), (.getfield 130, 8, 6, 5), (.ifCond .eq 12, 25, 0, 0), (.aload_n 0, 0, 0, 0), (.getfield 49, 6, 6, 0), (.iconst 1, 4, 0, 0), (.isub, 0, 0, 0), (.goto 7, 27, 0, 0), (.aload_n 0, 0, 0, 0), (.getfield 49, 6, 6, 0), (.invokevirtual 134, 53, 3, 6), (.astore_n 1, 1, 0, 0), (.aload_n 1, 1, 0, 0), (.ifnull 18, 38, 0, 0), (.aload_n 0, 0, 0, 0)], [(.getfield 130, 8, 6, 5), (.ifCond .eq 19, 44, 0, 0), (.aload_n 1, 1, 0, 0), (.getfield 69, 1, 30, 3), (.iconst 1, 4, 0, 0), (.if_icmp .eq 11, 44, 0, 0), (.aload_n 0, 0, 0, 0), (.iconst 1, 4, 0, 0), (.invokevirtual 84, 45, 2, 6), (.pop, 0, 0, 0), (.aconst_null, 0, 0, 0), (.areturn, 0, 0, 0), (.aload_n 0, 0, 0, 0), (.aload_n 1, 1, 0, 0), (.invokevirtual 138, 54, 2, 6), (.ifCond .eq 11, 54, 0, 0)], [(.aload_n 0, 0, 0, 0), (.iconst 3, 3, 0, 0), (.invokevirtual 84, 45, 2, 6), (.pop, 0, 0, 0), (.aconst_null, 0, 0, 0), (.areturn, 0, 0, 0), (.aload_n 0, 0, 0, 0), (.aload_n 1, 1, 0, 0), (.invokevirtual 141, 55, 2, 6), (.ifCond .ne 11, 64, 0, 0), (.aload_n 0, 0, 0, 0), (.iconst 5, 12, 0, 0), (.invokevirtual 84, 45, 2, 6), (.pop, 0, 0, 0), (.aconst_null, 0, 0, 0), (.areturn, 0, 0, 0)], [(.aload_n 0, 0, 0, 0), (.getfield 130, 8, 6, 5), (.ifCond .eq 16, 74, 0, 0), (.aload_n 0, 0, 0, 0), (.dup, 0, 0, 0), (.getfield 46, 9, 6, 0), (.iconst 1, 4, 0, 0), (.iadd, 0, 0, 0), (.putfield 46, 9, 6, 0), (.goto 21, 84, 0, 0), (.aload_n 1, 1, 0, 0), (.getfield 69, 1, 30, 3), (.iconst 4, 6, 0, 0), (.if_icmp .ne 13, 84, 0, 0), (.aload_n 0, 0, 0, 0), (.dup, 0, 0, 0)], [(.getfield 46, 9, 6, 0), (.iconst 1, 4, 0, 0), (.isub, 0, 0, 0), (.putfield 46, 9, 6, 0), (.aload_n 0, 0, 0, 0), (.invokevirtual 52, 47, 1, 6), (.aload_n 1, 1, 0, 0), (.areturn, 0, 0, 0)]]
/-- 53: ScanChart$Reader.opSpelled(II)LScanChart$Op; -/
def am_c53 : List (List am_Ins) := [[(.getstatic 144, 4001, 0, 0), (.astore_n 3, 3, 0, 0), (.aload_n 3, 3, 0, 0), (.arraylength, 0, 0, 0), (.istore 4, 4, 0, 0), (.iconst 0, 5, 0, 0), (.istore 5, 5, 0, 0), (.iload 5, 5, 0, 0), (.iload 4, 4, 0, 0), (.if_icmp .ge 35, 26, 0, 0), (.aload_n 3, 3, 0, 0), (.iload 5, 5, 0, 0), (.aaload, 0, 0, 0), (.astore 6, 6, 0, 0), (.aload_n 0, 0, 0, 0), (.getfield 12, 0, 6, 2)], [(.aload 6, 6, 0, 0), (.getfield 148, 0, 30, 4), (.iload_n 1, 1, 0, 0), (.iload_n 2, 2, 0, 0), (.invokevirtual 104, 70, 4, 7), (.ifCond .eq 6, 24, 0, 0), (.aload 6, 6, 0, 0), (.areturn, 0, 0, 0), (.iinc 5 1, 5, 4, 0), (.goto (-36), 7, 0, 0), (.aconst_null, 0, 0, 0), (.areturn, 0, 0, 0)]]
/-- 54: ScanChart$Reader.isFull(LScanChart$Op;)Z -/
def am_c54 : List (List am_Ins) := [[(.aload_n 1, 1, 0, 0), (.getfield 69, 1, 30, 3), (.bipush 13, 23, 0, 0), (.if_icmp .ne 24, 14, 0, 0), (.aload_n 0, 0, 0, 0), (.getfield 21, 1, 6, 2), (.getfield 152, 0, 5, 2), (.getfield 156, 5, 2, 0), (.bipush 16, 7, 0, 0), (.if_icmp .lt 7, 12, 0, 0), (.iconst 1, 4, 0, 0), (.goto 4, 13, 0, 0), (.iconst 0, 5, 0, 0), (.ireturn, 0, 0, 0), (.aload_n 1, 1, 0, 0), (.getfield 69, 1, 30, 3)], [(.bipush 12, 10, 0, 0), (.if_icmp .eq 19, 25, 0, 0), (.aload_n 0, 0, 0, 0), (.getfield 21, 1, 6, 2), (.getfield 123, 6, 5, 0), (.bipush 80, 21, 0, 0), (.if_icmp .lt 7, 25, 0, 0), (.iconst 1, 4, 0, 0), (.goto 4, 26, 0, 0), (.iconst 0, 5, 0, 0), (.ireturn, 0, 0, 0)]]
/-- 55: ScanChart$Reader.isAllowedByBrackets(LScanChart$Op;)Z -/
def am_c55 : List (List am_Ins) := [[(.aload_n 1, 1, 0, 0), (.getfield 69, 1, 30, 3), (.tableswitch 116 1 13 #[68, 116, 116, 90, 116, 103, 103, 116, 116, 116, 116, 103, 103], 5, 4, 0), (.aload_n 0, 0, 0, 0), (.getfield 130, 8, 6, 5), (.ifCond .eq 12, 10, 0, 0), (.aload_n 0, 0, 0, 0), (.getfield 46, 9, 6, 0), (.bipush 8, 2, 0, 0), (.if_icmp .ge 7, 12, 0, 0), (.iconst 1, 4, 0, 0), (.goto 4, 13, 0, 0), (.iconst 0, 5, 0, 0), (.ireturn, 0, 0, 0), (.aload_n 0, 0, 0, 0), (.getfield 46, 9, 6, 0)], [(.ifCond .le 7, 19, 0, 0), (.iconst 1, 4, 0, 0), (.goto 4, 20, 0, 0), (.iconst 0, 5, 0, 0), (.ireturn, 0, 0, 0), (.aload_n 0, 0, 0, 0), (.getfield 46, 9, 6, 0), (.ifCond .ne 7, 26, 0, 0), (.iconst 1, 4, 0, 0), (.goto 4, 27, 0, 0), (.iconst 0, 5, 0, 0), (.ireturn, 0, 0, 0), (.iconst 1, 4, 0, 0), (.ireturn, 0, 0, 0)]]
/-- 56: ScanChart$Reader.readOperands(LScanChart$Op;)Z -/
def am_c56 : List (List am_Ins) := [[(.aload_n 0, 0, 0, 0), (.getfield 91, 5, 6, 0), (.istore_n 2, 2, 0, 0), (.iconst 0, 5, 0, 0), (.istore_n 3, 3, 0, 0), (.aload_n 0, 0, 0, 0), (.bipush 12, 10, 0, 0), (.putfield 161, 10, 6, 0), (.aload_n 0, 0, 0, 0), (.iconst 0, 5, 0, 0), (.putfield 164, 11, 6, 0), (.aload_n 0, 0, 0, 0), (.getfield 130, 8, 6, 5), (.ifCond .eq 7, 16, 0, 0), (.iconst 0, 5, 0, 0), (.goto 8, 19, 0, 0)], [(.aload_n 0, 0, 0, 0), (.aload_n 1, 1, 0, 0), (.invokevirtual 167, 57, 2, 6), (.istore 4, 4, 0, 0), (.iload 4, 4, 0, 0), (.ifCond .eq 14, 28, 0, 0), (.aload_n 0, 0, 0, 0), (.iload 4, 4, 0, 0), (.invokevirtual 171, 59, 2, 6), (.ifCond .ne 5, 28, 0, 0), (.iconst 0, 5, 0, 0), (.ireturn, 0, 0, 0), (.aload_n 0, 0, 0, 0), (.getfield 161, 10, 6, 0), (.istore 5, 5, 0, 0), (.aload_n 0, 0, 0, 0)], [(.getfield 164, 11, 6, 0), (.istore 6, 6, 0, 0), (.aload_n 1, 1, 0, 0), (.getfield 69, 1, 30, 3), (.bipush 8, 2, 0, 0), (.if_icmp .eq 12, 42, 0, 0), (.aload_n 1, 1, 0, 0), (.getfield 69, 1, 30, 3), (.bipush 9, 11, 0, 0), (.if_icmp .ne 40, 59, 0, 0), (.aload_n 0, 0, 0, 0), (.sipush 700, 22, 0, 0), (.aload_n 1, 1, 0, 0), (.getfield 69, 1, 30, 3), (.bipush 8, 2, 0, 0), (.if_icmp .ne 8, 50, 0, 0)], [(.ldc 174, 29, 1, 0), (.goto 6, 51, 0, 0), (.sipush 32767, 19, 0, 0), (.invokevirtual 175, 60, 3, 6), (.ifCond .ne 5, 55, 0, 0), (.iconst 0, 5, 0, 0), (.ireturn, 0, 0, 0), (.aload_n 0, 0, 0, 0), (.getfield 164, 11, 6, 0), (.istore_n 3, 3, 0, 0), (.goto 23, 69, 0, 0), (.aload_n 1, 1, 0, 0), (.getfield 69, 1, 30, 3), (.bipush 6, 0, 0, 0), (.if_icmp .ne 14, 69, 0, 0), (.aload_n 0, 0, 0, 0)], [(.aload_n 0, 0, 0, 0), (.getfield 32, 12, 6, 2), (.iload 6, 6, 0, 0), (.iload_n 2, 2, 0, 0), (.invokevirtual 179, 65, 4, 6), (.aload_n 0, 0, 0, 0), (.getfield 21, 1, 6, 2), (.aload_n 1, 1, 0, 0), (.iload 5, 5, 0, 0), (.iload 6, 6, 0, 0), (.iload_n 3, 3, 0, 0), (.invokevirtual 182, 41, 5, 5), (.iconst 1, 4, 0, 0), (.ireturn, 0, 0, 0)]]
/-- 57: ScanChart$Reader.operandsOf(LScanChart$Op;)I -/
def am_c57 : List (List am_Ins) := [[(.aload_n 1, 1, 0, 0), (.getfield 69, 1, 30, 3), (.tableswitch 88 0 11 #[64, 64, 68, 71, 88, 88, 74, 88, 78, 81, 81, 84], 6, 5, 0), (.sipush 3711, 30, 0, 0), (.ireturn, 0, 0, 0), (.bipush 70, 31, 0, 0), (.ireturn, 0, 0, 0), (.bipush 6, 0, 0, 0), (.ireturn, 0, 0, 0), (.sipush 128, 32, 0, 0), (.ireturn, 0, 0, 0), (.bipush 16, 7, 0, 0), (.ireturn, 0, 0, 0), (.bipush 32, 1, 0, 0), (.ireturn, 0, 0, 0), (.sipush 256, 33, 0, 0)], [(.ireturn, 0, 0, 0), (.iconst 0, 5, 0, 0), (.ireturn, 0, 0, 0)]]
/-- 58: ScanChart$Reader.kindOfWord()I -/
def am_c58 : List (List am_Ins) := [[(.aload_n 0, 0, 0, 0), (.getfield 55, 4, 6, 0), (.iconst 2, 13, 0, 0), (.if_icmp .ne 14, 9, 0, 0), (.aload_n 0, 0, 0, 0), (.getfield 101, 7, 6, 0), (.aload_n 0, 0, 0, 0), (.getfield 49, 6, 6, 0), (.if_icmp .ne 5, 11, 0, 0), (.iconst (-1), 15, 0, 0), (.ireturn, 0, 0, 0), (.aload_n 0, 0, 0, 0), (.getfield 101, 7, 6, 0), (.aload_n 0, 0, 0, 0), (.getfield 91, 5, 6, 0), (.if_icmp .ne 6, 18, 0, 0)], [(.bipush 11, 18, 0, 0), (.ireturn, 0, 0, 0), (.aload_n 0, 0, 0, 0), (.getfield 101, 7, 6, 0), (.aload_n 0, 0, 0, 0), (.getfield 91, 5, 6, 0), (.isub, 0, 0, 0), (.iconst 1, 4, 0, 0), (.if_icmp .ne 34, 41, 0, 0), (.aload_n 0, 0, 0, 0), (.getfield 12, 0, 6, 2), (.aload_n 0, 0, 0, 0), (.getfield 91, 5, 6, 0), (.invokevirtual 97, 69, 2, 7), (.istore_n 1, 1, 0, 0), (.iload_n 1, 1, 0, 0)], [(.bipush 45, 34, 0, 0), (.if_icmp .ne 8, 36, 0, 0), (.bipush 11, 18, 0, 0), (.goto 10, 40, 0, 0), (.ldc 186, 2042, 0, 0), (.iload_n 1, 1, 0, 0), (.i2c, 0, 0, 0), (.invokevirtual 188, 167, 2, 31), (.ireturn, 0, 0, 0), (.aload_n 0, 0, 0, 0), (.getfield 12, 0, 6, 2), (.ldc 193, 2043, 0, 0), (.aload_n 0, 0, 0, 0), (.getfield 91, 5, 6, 0), (.aload_n 0, 0, 0, 0), (.getfield 101, 7, 6, 0)], [(.invokevirtual 104, 70, 4, 7), (.ifCond .eq 6, 52, 0, 0), (.bipush 9, 11, 0, 0), (.ireturn, 0, 0, 0), (.aload_n 0, 0, 0, 0), (.getfield 12, 0, 6, 2), (.ldc 195, 2044, 0, 0), (.aload_n 0, 0, 0, 0), (.getfield 91, 5, 6, 0), (.aload_n 0, 0, 0, 0), (.getfield 101, 7, 6, 0), (.invokevirtual 104, 70, 4, 7), (.ifCond .eq 8, 63, 0, 0), (.bipush 10, 17, 0, 0), (.goto 4, 64, 0, 0), (.iconst (-1), 15, 0, 0)], [(.ireturn, 0, 0, 0)]]
/-- 59: ScanChart$Reader.readCell(I)Z -/
def am_c59 : List (List am_Ins) := [[(.aload_n 0, 0, 0, 0), (.invokevirtual 197, 58, 1, 6), (.istore_n 2, 2, 0, 0), (.iload_n 2, 2, 0, 0), (.iconst (-1), 15, 0, 0), (.if_icmp .eq 11, 10, 0, 0), (.iload_n 1, 1, 0, 0), (.iload_n 2, 2, 0, 0), (.invokestatic 201, 91, 2, 0), (.ifCond .ne 9, 14, 0, 0), (.aload_n 0, 0, 0, 0), (.iconst 1, 4, 0, 0), (.invokevirtual 84, 45, 2, 6), (.ireturn, 0, 0, 0), (.aload_n 0, 0, 0, 0), (.getfield 12, 0, 6, 2)], [(.aload_n 0, 0, 0, 0), (.getfield 101, 7, 6, 0), (.aload_n 0, 0, 0, 0), (.getfield 49, 6, 6, 0), (.invokevirtual 108, 71, 3, 7), (.lstore_n 3, 3, 0, 0), (.iload_n 2, 2, 0, 0), (.bipush 11, 18, 0, 0), (.if_icmp .ne 43, 47, 0, 0), (.aload_n 0, 0, 0, 0), (.getfield 101, 7, 6, 0), (.aload_n 0, 0, 0, 0), (.getfield 91, 5, 6, 0), (.if_icmp .le 8, 33, 0, 0), (.lload_n 3, 3, 0, 0), (.lneg, 0, 0, 0)], [(.goto 4, 34, 0, 0), (.lload_n 3, 3, 0, 0), (.lstore_n 3, 3, 0, 0), (.lload_n 3, 3, 0, 0), (.ldc2_w 204, 3, 0, 0), (.lcmp, 0, 0, 0), (.ifCond .lt 11, 43, 0, 0), (.lload_n 3, 3, 0, 0), (.ldc2_w 206, 4, 0, 0), (.lcmp, 0, 0, 0), (.ifCond .le 41, 65, 0, 0), (.aload_n 0, 0, 0, 0), (.iconst 2, 13, 0, 0), (.invokevirtual 84, 45, 2, 6), (.ireturn, 0, 0, 0), (.aload_n 0, 0, 0, 0)], [(.getfield 49, 6, 6, 0), (.aload_n 0, 0, 0, 0), (.getfield 101, 7, 6, 0), (.isub, 0, 0, 0), (.iconst 2, 13, 0, 0), (.if_icmp .gt 16, 61, 0, 0), (.lload_n 3, 3, 0, 0), (.getstatic 208, 4002, 0, 0), (.iload_n 2, 2, 0, 0), (.invokestatic 119, 89, 2, 0), (.i2l, 0, 0, 0), (.lcmp, 0, 0, 0), (.ifCond .lt 9, 65, 0, 0), (.aload_n 0, 0, 0, 0), (.iconst 2, 13, 0, 0), (.invokevirtual 84, 45, 2, 6)], [(.ireturn, 0, 0, 0), (.aload_n 0, 0, 0, 0), (.iload_n 2, 2, 0, 0), (.putfield 161, 10, 6, 0), (.aload_n 0, 0, 0, 0), (.lload_n 3, 3, 0, 0), (.l2i, 0, 0, 0), (.putfield 164, 11, 6, 0), (.aload_n 0, 0, 0, 0), (.invokevirtual 52, 47, 1, 6), (.iconst 1, 4, 0, 0), (.ireturn, 0, 0, 0)]]
/-- 60: ScanChart$Reader.readFigures(II)Z -/
def am_c60 : List (List am_Ins) := [[(.aload_n 0, 0, 0, 0), (.invokevirtual 211, 49, 1, 6), (.ifCond .ne 9, 7, 0, 0), (.aload_n 0, 0, 0, 0), (.iconst 1, 4, 0, 0), (.invokevirtual 84, 45, 2, 6), (.ireturn, 0, 0, 0), (.aload_n 0, 0, 0, 0), (.getfield 12, 0, 6, 2), (.aload_n 0, 0, 0, 0), (.getfield 91, 5, 6, 0), (.aload_n 0, 0, 0, 0), (.getfield 49, 6, 6, 0), (.invokevirtual 108, 71, 3, 7), (.lstore_n 3, 3, 0, 0), (.aload_n 0, 0, 0, 0)], [(.getfield 49, 6, 6, 0), (.aload_n 0, 0, 0, 0), (.getfield 91, 5, 6, 0), (.isub, 0, 0, 0), (.iload_n 1, 1, 0, 0), (.if_icmp .gt 10, 27, 0, 0), (.lload_n 3, 3, 0, 0), (.iload_n 2, 2, 0, 0), (.i2l, 0, 0, 0), (.lcmp, 0, 0, 0), (.ifCond .le 9, 31, 0, 0), (.aload_n 0, 0, 0, 0), (.iconst 2, 13, 0, 0), (.invokevirtual 84, 45, 2, 6), (.ireturn, 0, 0, 0), (.aload_n 0, 0, 0, 0)], [(.lload_n 3, 3, 0, 0), (.l2i, 0, 0, 0), (.putfield 164, 11, 6, 0), (.aload_n 0, 0, 0, 0), (.invokevirtual 52, 47, 1, 6), (.iconst 1, 4, 0, 0), (.ireturn, 0, 0, 0)]]
/-- 61: ScanChart$Reader.readStep()Z -/
def am_c61 : List (List am_Ins) := [[(.aload_n 0, 0, 0, 0), (.getfield 91, 5, 6, 0), (.istore_n 1, 1, 0, 0), (.aload_n 0, 0, 0, 0), (.iconst 2, 13, 0, 0), (.bipush 15, 35, 0, 0), (.invokevirtual 175, 60, 3, 6), (.ifCond .ne 5, 10, 0, 0), (.iconst 0, 5, 0, 0), (.ireturn, 0, 0, 0), (.aload_n 0, 0, 0, 0), (.getfield 21, 1, 6, 2), (.getfield 152, 0, 5, 2), (.getfield 214, 9, 2, 0), (.aload_n 0, 0, 0, 0), (.getfield 164, 11, 6, 0)], [(.invokestatic 201, 91, 2, 0), (.ifCond .eq 10, 23, 0, 0), (.aload_n 0, 0, 0, 0), (.iconst 4, 6, 0, 0), (.iload_n 1, 1, 0, 0), (.invokevirtual 217, 46, 3, 6), (.ireturn, 0, 0, 0), (.aload_n 0, 0, 0, 0), (.getfield 164, 11, 6, 0), (.istore_n 2, 2, 0, 0), (.aload_n 0, 0, 0, 0), (.getfield 21, 1, 6, 2), (.getfield 152, 0, 5, 2), (.dup, 0, 0, 0), (.getfield 214, 9, 2, 0), (.iconst 1, 4, 0, 0)], [(.iload_n 2, 2, 0, 0), (.ishl, 0, 0, 0), (.ior, 0, 0, 0), (.putfield 214, 9, 2, 0), (.iconst 0, 5, 0, 0), (.istore_n 3, 3, 0, 0), (.iload_n 3, 3, 0, 0), (.iconst 3, 3, 0, 0), (.if_icmp .ge 59, 69, 0, 0), (.aload_n 0, 0, 0, 0), (.invokevirtual 220, 62, 1, 6), (.istore 4, 4, 0, 0), (.iload 4, 4, 0, 0), (.ifCond .ne 5, 48, 0, 0), (.iconst 1, 4, 0, 0), (.ireturn, 0, 0, 0)], [(.aload_n 0, 0, 0, 0), (.invokevirtual 52, 47, 1, 6), (.aload_n 0, 0, 0, 0), (.bipush 6, 0, 0, 0), (.invokevirtual 171, 59, 2, 6), (.ifCond .ne 5, 56, 0, 0), (.iconst 0, 5, 0, 0), (.ireturn, 0, 0, 0), (.aload_n 0, 0, 0, 0), (.getfield 21, 1, 6, 2), (.getfield 152, 0, 5, 2), (.iload_n 2, 2, 0, 0), (.iload_n 3, 3, 0, 0), (.iload 4, 4, 0, 0), (.aload_n 0, 0, 0, 0), (.getfield 161, 10, 6, 0)], [(.aload_n 0, 0, 0, 0), (.getfield 164, 11, 6, 0), (.invokevirtual 223, 10, 6, 2), (.iinc 3 1, 3, 4, 0), (.goto (-58), 38, 0, 0), (.iconst 1, 4, 0, 0), (.ireturn, 0, 0, 0)]]
/-- 62: ScanChart$Reader.actionOfWord()I -/
def am_c62 : List (List am_Ins) := [[(.aload_n 0, 0, 0, 0), (.ldc 227, 2045, 0, 0), (.invokevirtual 229, 48, 2, 6), (.ifCond .eq 5, 6, 0, 0), (.iconst 1, 4, 0, 0), (.ireturn, 0, 0, 0), (.aload_n 0, 0, 0, 0), (.ldc 233, 2005, 0, 0), (.invokevirtual 229, 48, 2, 6), (.ifCond .eq 5, 12, 0, 0), (.iconst 2, 13, 0, 0), (.ireturn, 0, 0, 0), (.aload_n 0, 0, 0, 0), (.ldc 235, 2006, 0, 0), (.invokevirtual 229, 48, 2, 6), (.ifCond .eq 7, 18, 0, 0)], [(.iconst 3, 3, 0, 0), (.goto 4, 19, 0, 0), (.iconst 0, 5, 0, 0), (.ireturn, 0, 0, 0)]]
/-- 63: ScanChart$Reader.readGo()Z -/
def am_c63 : List (List am_Ins) := [[(.aload_n 0, 0, 0, 0), (.invokevirtual 237, 64, 1, 6), (.istore_n 1, 1, 0, 0), (.iload_n 1, 1, 0, 0), (.ifCond .ne 5, 7, 0, 0), (.iconst 0, 5, 0, 0), (.ireturn, 0, 0, 0), (.aload_n 0, 0, 0, 0), (.ldc 240, 2046, 0, 0), (.invokevirtual 229, 48, 2, 6), (.ifCond .ne 9, 15, 0, 0), (.aload_n 0, 0, 0, 0), (.iconst 1, 4, 0, 0), (.invokevirtual 84, 45, 2, 6), (.ireturn, 0, 0, 0), (.aload_n 0, 0, 0, 0)], [(.invokevirtual 52, 47, 1, 6), (.aload_n 0, 0, 0, 0), (.invokevirtual 237, 64, 1, 6), (.istore_n 2, 2, 0, 0), (.iload_n 2, 2, 0, 0), (.ifCond .ne 5, 24, 0, 0), (.iconst 0, 5, 0, 0), (.ireturn, 0, 0, 0), (.aload_n 0, 0, 0, 0), (.ldc 242, 2047, 0, 0), (.invokevirtual 229, 48, 2, 6), (.ifCond .eq 7, 30, 0, 0), (.iconst 1, 4, 0, 0), (.goto 17, 37, 0, 0), (.aload_n 0, 0, 0, 0), (.ldc 244, 2048, 0, 0)], [(.invokevirtual 229, 48, 2, 6), (.ifCond .eq 7, 36, 0, 0), (.iconst 2, 13, 0, 0), (.goto 4, 37, 0, 0), (.iconst 0, 5, 0, 0), (.istore_n 3, 3, 0, 0), (.iload_n 3, 3, 0, 0), (.ifCond .eq 19, 48, 0, 0), (.aload_n 0, 0, 0, 0), (.invokevirtual 52, 47, 1, 6), (.aload_n 0, 0, 0, 0), (.sipush 3711, 30, 0, 0), (.invokevirtual 171, 59, 2, 6), (.ifCond .ne 5, 48, 0, 0), (.iconst 0, 5, 0, 0), (.ireturn, 0, 0, 0)], [(.aload_n 0, 0, 0, 0), (.getfield 21, 1, 6, 2), (.getfield 152, 0, 5, 2), (.iload_n 1, 1, 0, 0), (.iload_n 2, 2, 0, 0), (.iload_n 3, 3, 0, 0), (.aload_n 0, 0, 0, 0), (.getfield 161, 10, 6, 0), (.aload_n 0, 0, 0, 0), (.getfield 164, 11, 6, 0), (.invokevirtual 246, 9, 6, 2), (.iconst 1, 4, 0, 0), (.ireturn, 0, 0, 0)]]
/-- 64: ScanChart$Reader.readSteps()I -/
def am_c64 : List (List am_Ins) := [[(.iconst 0, 5, 0, 0), (.istore_n 1, 1, 0, 0), (.iconst 0, 5, 0, 0), (.istore_n 2, 2, 0, 0), (.iload_n 2, 2, 0, 0), (.iconst 3, 3, 0, 0), (.if_icmp .ge 59, 38, 0, 0), (.iload_n 2, 2, 0, 0), (.ifCond .eq 10, 12, 0, 0), (.aload_n 0, 0, 0, 0), (.invokevirtual 211, 49, 1, 6), (.ifCond .eq 48, 38, 0, 0), (.aload_n 0, 0, 0, 0), (.getfield 91, 5, 6, 0), (.istore_n 3, 3, 0, 0), (.aload_n 0, 0, 0, 0)], [(.iconst 2, 13, 0, 0), (.bipush 15, 35, 0, 0), (.invokevirtual 175, 60, 3, 6), (.ifCond .ne 5, 22, 0, 0), (.iconst 0, 5, 0, 0), (.ireturn, 0, 0, 0), (.aload_n 0, 0, 0, 0), (.aload_n 0, 0, 0, 0), (.getfield 36, 13, 6, 2), (.aload_n 0, 0, 0, 0), (.getfield 164, 11, 6, 0), (.iload_n 3, 3, 0, 0), (.invokevirtual 179, 65, 4, 6), (.iload_n 1, 1, 0, 0), (.iconst 1, 4, 0, 0), (.aload_n 0, 0, 0, 0)], [(.getfield 164, 11, 6, 0), (.ishl, 0, 0, 0), (.ior, 0, 0, 0), (.istore_n 1, 1, 0, 0), (.iinc 2 1, 2, 4, 0), (.goto (-58), 4, 0, 0), (.iload_n 1, 1, 0, 0), (.ireturn, 0, 0, 0)]]
/-- 65: ScanChart$Reader.noteNamed([III)V -/
def am_c65 : List (List am_Ins) := [[(.aload_n 1, 1, 0, 0), (.iload_n 2, 2, 0, 0), (.invokestatic 119, 89, 2, 0), (.iconst (-1), 15, 0, 0), (.if_icmp .ne 9, 9, 0, 0), (.aload_n 1, 1, 0, 0), (.iload_n 2, 2, 0, 0), (.iload_n 3, 3, 0, 0), (.invokestatic 126, 90, 3, 0), (.return_, 0, 0, 0)]]
/-- 66: ScanChart$Reader.findNoneMissing()Z -/
def am_c66 : List (List am_Ins) := [[(.sipush 700, 22, 0, 0), (.istore_n 1, 1, 0, 0), (.iconst 0, 5, 0, 0), (.istore_n 2, 2, 0, 0), (.iload_n 2, 2, 0, 0), (.bipush 32, 1, 0, 0), (.if_icmp .ge 49, 29, 0, 0), (.aload_n 0, 0, 0, 0), (.getfield 32, 12, 6, 2), (.iload_n 2, 2, 0, 0), (.invokestatic 119, 89, 2, 0), (.iconst (-1), 15, 0, 0), (.if_icmp .eq 31, 27, 0, 0), (.aload_n 0, 0, 0, 0), (.getfield 21, 1, 6, 2), (.getfield 116, 5, 5, 2)], [(.iload_n 2, 2, 0, 0), (.invokestatic 119, 89, 2, 0), (.iconst (-1), 15, 0, 0), (.if_icmp .ne 16, 27, 0, 0), (.iload_n 1, 1, 0, 0), (.aload_n 0, 0, 0, 0), (.getfield 32, 12, 6, 2), (.iload_n 2, 2, 0, 0), (.invokestatic 119, 89, 2, 0), (.invokestatic 249, 163, 2, 0), (.istore_n 1, 1, 0, 0), (.iinc 2 1, 2, 4, 0), (.goto (-49), 4, 0, 0), (.iconst 0, 5, 0, 0), (.istore_n 2, 2, 0, 0), (.iload_n 2, 2, 0, 0)], [(.bipush 16, 7, 0, 0), (.if_icmp .ge 51, 56, 0, 0), (.aload_n 0, 0, 0, 0), (.getfield 36, 13, 6, 2), (.iload_n 2, 2, 0, 0), (.invokestatic 119, 89, 2, 0), (.iconst (-1), 15, 0, 0), (.if_icmp .eq 33, 54, 0, 0), (.aload_n 0, 0, 0, 0), (.getfield 21, 1, 6, 2), (.getfield 152, 0, 5, 2), (.getfield 214, 9, 2, 0), (.iload_n 2, 2, 0, 0), (.invokestatic 201, 91, 2, 0), (.ifCond .ne 16, 54, 0, 0), (.iload_n 1, 1, 0, 0)], [(.aload_n 0, 0, 0, 0), (.getfield 36, 13, 6, 2), (.iload_n 2, 2, 0, 0), (.invokestatic 119, 89, 2, 0), (.invokestatic 249, 163, 2, 0), (.istore_n 1, 1, 0, 0), (.iinc 2 1, 2, 4, 0), (.goto (-51), 31, 0, 0), (.iload_n 1, 1, 0, 0), (.sipush 700, 22, 0, 0), (.if_icmp .eq 13, 64, 0, 0), (.aload_n 0, 0, 0, 0), (.bipush 6, 0, 0, 0), (.iload_n 1, 1, 0, 0), (.invokevirtual 217, 46, 3, 6), (.ifCond .eq 7, 66, 0, 0)], [(.iconst 1, 4, 0, 0), (.goto 4, 67, 0, 0), (.iconst 0, 5, 0, 0), (.ireturn, 0, 0, 0)]]
/-- 67: ScanChart$Text.<init>()V -/
def am_c67 : List (List am_Ins) := [[(.aload_n 0, 0, 0, 0), (.invokespecial 3, 0, 1, 99), (.aload_n 0, 0, 0, 0), (.sipush 700, 22, 0, 0), (.newarray .int, 20, 0, 0), (.putfield 9, 0, 7, 2), (.aload_n 0, 0, 0, 0), (.iconst 0, 5, 0, 0), (.putfield 15, 1, 7, 0), (.return_, 0, 0, 0)]]
/-- 68: ScanChart$Text.append(IJ)I -/
def am_c68 : List (List am_Ins) := [[(.aload_n 0, 0, 0, 0), (.getfield 15, 1, 7, 0), (.iload_n 1, 1, 0, 0), (.iadd, 0, 0, 0), (.sipush 700, 22, 0, 0), (.if_icmp .le 5, 8, 0, 0), (.iconst (-1), 15, 0, 0), (.ireturn, 0, 0, 0), (.iconst 0, 5, 0, 0), (.istore 4, 4, 0, 0), (.iload 4, 4, 0, 0), (.iload_n 1, 1, 0, 0), (.if_icmp .ge 35, 30, 0, 0), (.aload_n 0, 0, 0, 0), (.getfield 9, 0, 7, 2), (.aload_n 0, 0, 0, 0)], [(.getfield 15, 1, 7, 0), (.iload 4, 4, 0, 0), (.iadd, 0, 0, 0), (.lload_n 2, 2, 0, 0), (.bipush 8, 2, 0, 0), (.iload 4, 4, 0, 0), (.imul, 0, 0, 0), (.lushr, 0, 0, 0), (.ldc2_w 19, 5, 0, 0), (.land, 0, 0, 0), (.l2i, 0, 0, 0), (.invokestatic 21, 90, 3, 0), (.iinc 4 1, 4, 4, 0), (.goto (-35), 10, 0, 0), (.aload_n 0, 0, 0, 0), (.dup, 0, 0, 0)], [(.getfield 15, 1, 7, 0), (.iload_n 1, 1, 0, 0), (.iadd, 0, 0, 0), (.putfield 15, 1, 7, 0), (.aload_n 0, 0, 0, 0), (.getfield 15, 1, 7, 0), (.ireturn, 0, 0, 0)]]
/-- 69: ScanChart$Text.byteAt(I)I -/
def am_c69 : List (List am_Ins) := [[(.iload_n 1, 1, 0, 0), (.ifCond .lt 29, 16, 0, 0), (.iload_n 1, 1, 0, 0), (.aload_n 0, 0, 0, 0), (.getfield 15, 1, 7, 0), (.if_icmp .ge 21, 16, 0, 0), (.iload_n 1, 1, 0, 0), (.aload_n 0, 0, 0, 0), (.getfield 9, 0, 7, 2), (.arraylength, 0, 0, 0), (.if_icmp .ge 12, 16, 0, 0), (.aload_n 0, 0, 0, 0), (.getfield 9, 0, 7, 2), (.iload_n 1, 1, 0, 0), (.iaload, 0, 0, 0), (.goto 4, 17, 0, 0)], [(.iconst 0, 5, 0, 0), (.ireturn, 0, 0, 0)]]
/-- 70: ScanChart$Text.spells(Ljava/lang/String;II)Z -/
def am_c70 : List (List am_Ins) := [[(.aload_n 1, 1, 0, 0), (.invokevirtual 25, 165, 1, 31), (.iload_n 3, 3, 0, 0), (.iload_n 2, 2, 0, 0), (.isub, 0, 0, 0), (.if_icmp .eq 5, 8, 0, 0), (.iconst 0, 5, 0, 0), (.ireturn, 0, 0, 0), (.iconst 0, 5, 0, 0), (.istore 4, 4, 0, 0), (.iload 4, 4, 0, 0), (.aload_n 1, 1, 0, 0), (.invokevirtual 25, 165, 1, 31), (.if_icmp .ge 28, 27, 0, 0), (.aload_n 0, 0, 0, 0), (.iload_n 2, 2, 0, 0)], [(.iload 4, 4, 0, 0), (.iadd, 0, 0, 0), (.invokevirtual 30, 69, 2, 7), (.aload_n 1, 1, 0, 0), (.iload 4, 4, 0, 0), (.invokevirtual 34, 166, 2, 31), (.if_icmp .eq 5, 25, 0, 0), (.iconst 0, 5, 0, 0), (.ireturn, 0, 0, 0), (.iinc 4 1, 4, 4, 0), (.goto (-31), 10, 0, 0), (.iconst 1, 4, 0, 0), (.ireturn, 0, 0, 0)]]
/-- 71: ScanChart$Text.numberIn(II)J -/
def am_c71 : List (List am_Ins) := [[(.iload_n 1, 1, 0, 0), (.iload_n 2, 2, 0, 0), (.if_icmp .lt 7, 5, 0, 0), (.ldc2_w 38, 1, 0, 0), (.lreturn, 0, 0, 0), (.lconst 0, 0, 0, 0), (.lstore_n 3, 3, 0, 0), (.iload_n 1, 1, 0, 0), (.istore 5, 5, 0, 0), (.iload 5, 5, 0, 0), (.iload_n 2, 2, 0, 0), (.if_icmp .ge 52, 36, 0, 0), (.aload_n 0, 0, 0, 0), (.iload 5, 5, 0, 0), (.invokevirtual 30, 69, 2, 7), (.bipush 48, 8, 0, 0)], [(.isub, 0, 0, 0), (.istore 6, 6, 0, 0), (.iload 6, 6, 0, 0), (.ifCond .lt 10, 23, 0, 0), (.iload 6, 6, 0, 0), (.bipush 9, 11, 0, 0), (.if_icmp .le 7, 25, 0, 0), (.ldc2_w 38, 1, 0, 0), (.lreturn, 0, 0, 0), (.lload_n 3, 3, 0, 0), (.ldc2_w 40, 6, 0, 0), (.lmul, 0, 0, 0), (.iload 6, 6, 0, 0), (.i2l, 0, 0, 0), (.ladd, 0, 0, 0), (.ldc2_w 42, 7, 0, 0)], [(.invokestatic 44, 164, 2, 0), (.lstore_n 3, 3, 0, 0), (.iinc 5 1, 5, 4, 0), (.goto (-52), 9, 0, 0), (.lload_n 3, 3, 0, 0), (.lreturn, 0, 0, 0)]]
/-- 72: ScanChart.<init>()V -/
def am_c72 : List (List am_Ins) := [[(.aload_n 0, 0, 0, 0), (.invokespecial 3, 0, 1, 99), (.aload_n 0, 0, 0, 0), (.new 9, 6, 14, 0), (.dup, 0, 0, 0), (.invokespecial 11, 43, 1, 6), (.putfield 12, 0, 8, 2), (.aload_n 0, 0, 0, 0), (.new 16, 3, 12, 0), (.dup, 0, 0, 0), (.invokespecial 18, 11, 1, 3), (.putfield 19, 1, 8, 2), (.aload_n 0, 0, 0, 0), (.new 23, 5, 7, 0), (.dup, 0, 0, 0), (.invokespecial 25, 39, 1, 5)], [(.putfield 26, 2, 8, 2), (.aload_n 0, 0, 0, 0), (.iconst 0, 5, 0, 0), (.putfield 30, 3, 8, 0), (.return_, 0, 0, 0)]]
/-- 73: ScanChart.feed(IJ)I -/
def am_c73 : List (List am_Ins) := [[(.iload_n 1, 1, 0, 0), (.iconst 1, 4, 0, 0), (.if_icmp .lt 9, 6, 0, 0), (.iload_n 1, 1, 0, 0), (.bipush 8, 2, 0, 0), (.if_icmp .le 13, 11, 0, 0), (.nop, 0, 0, 0), (.dup, 0, 0, 0), (.ldc 36, 2049, 0, 0), (.nop, 0, 0, 0), (.athrow, 0, 0, 0), (.aload_n 0, 0, 0, 0), (.getfield 12, 0, 8, 2), (.getfield 41, 0, 6, 2), (.iload_n 1, 1, 0, 0), (.lload_n 2, 2, 0, 0)], [(.invokevirtual 45, 68, 3, 7), (.ireturn, 0, 0, 0)]]
/-- 74: ScanChart.wipe()I -/
def am_c74 : List (List am_Ins) := [[(.aload_n 0, 0, 0, 0), (.getfield 12, 0, 8, 2), (.getfield 41, 0, 6, 2), (.getfield 51, 1, 7, 0), (.istore_n 1, 1, 0, 0), (.aload_n 0, 0, 0, 0), (.getfield 12, 0, 8, 2), (.getfield 41, 0, 6, 2), (.iconst 0, 5, 0, 0), (.putfield 51, 1, 7, 0), (.iload_n 1, 1, 0, 0), (.ireturn, 0, 0, 0)]]
/-- 75: ScanChart.load()I -/
def am_c75 : List (List am_Ins) := [[(.aload_n 0, 0, 0, 0), (.getfield 12, 0, 8, 2), (.invokevirtual 54, 44, 1, 6), (.ifCond .ne 5, 6, 0, 0), (.iconst (-1), 15, 0, 0), (.ireturn, 0, 0, 0), (.aload_n 0, 0, 0, 0), (.getfield 12, 0, 8, 2), (.getfield 58, 1, 6, 2), (.astore_n 1, 1, 0, 0), (.aload_n 0, 0, 0, 0), (.getfield 12, 0, 8, 2), (.aload_n 0, 0, 0, 0), (.getfield 26, 2, 8, 2), (.putfield 58, 1, 6, 2), (.aload_n 0, 0, 0, 0)], [(.aload_n 1, 1, 0, 0), (.putfield 26, 2, 8, 6), (.aload_n 0, 0, 0, 0), (.getfield 19, 1, 8, 2), (.invokevirtual 59, 12, 1, 3), (.aload_n 0, 0, 0, 0), (.getfield 26, 2, 8, 2), (.getfield 62, 6, 5, 0), (.ireturn, 0, 0, 0)]]
/-- 76: ScanChart.fault()I -/
def am_c76 : List (List am_Ins) := [[(.aload_n 0, 0, 0, 0), (.getfield 12, 0, 8, 2), (.getfield 65, 2, 6, 0), (.ireturn, 0, 0, 0)]]
/-- 77: ScanChart.place()I -/
def am_c77 : List (List am_Ins) := [[(.aload_n 0, 0, 0, 0), (.getfield 12, 0, 8, 2), (.getfield 68, 3, 6, 0), (.ireturn, 0, 0, 0)]]
/-- 78: ScanChart.reset()V -/
def am_c78 : List (List am_Ins) := [[(.aload_n 0, 0, 0, 0), (.getfield 19, 1, 8, 2), (.invokevirtual 59, 12, 1, 3), (.return_, 0, 0, 0)]]
/-- 79: ScanChart.input(IZ)V -/
def am_c79 : List (List am_Ins) := [[(.iload_n 1, 1, 0, 0), (.ifCond .lt 9, 5, 0, 0), (.iload_n 1, 1, 0, 0), (.bipush 32, 1, 0, 0), (.if_icmp .lt 13, 10, 0, 0), (.nop, 0, 0, 0), (.dup, 0, 0, 0), (.ldc 73, 2050, 0, 0), (.nop, 0, 0, 0), (.athrow, 0, 0, 0), (.aload_n 0, 0, 0, 0), (.aload_n 0, 0, 0, 0), (.getfield 30, 3, 8, 0), (.iload_n 1, 1, 0, 0), (.iload_n 2, 2, 0, 0), (.invokestatic 76, 92, 3, 0)], [(.putfield 30, 3, 8, 0), (.return_, 0, 0, 0)]]
/-- 80: ScanChart.scan(I)I -/
def am_c80 : List (List am_Ins) := [[(.iload_n 1, 1, 0, 0), (.ifCond .lt 9, 5, 0, 0), (.iload_n 1, 1, 0, 0), (.ldc 80, 29, 1, 0), (.if_icmp .le 13, 10, 0, 0), (.nop, 0, 0, 0), (.dup, 0, 0, 0), (.ldc 81, 2051, 0, 0), (.nop, 0, 0, 0), (.athrow, 0, 0, 0), (.aload_n 0, 0, 0, 0), (.getfield 19, 1, 8, 2), (.getfield 83, 3, 3, 0), (.ifCond .eq 5, 16, 0, 0), (.iconst (-1), 15, 0, 0), (.ireturn, 0, 0, 0)], [(.aload_n 0, 0, 0, 0), (.getfield 19, 1, 8, 2), (.aload_n 0, 0, 0, 0), (.getfield 26, 2, 8, 2), (.aload_n 0, 0, 0, 0), (.getfield 30, 3, 8, 0), (.iload_n 1, 1, 0, 0), (.invokevirtual 86, 13, 4, 3), (.aload_n 0, 0, 0, 0), (.getfield 19, 1, 8, 2), (.getfield 83, 3, 3, 0), (.ireturn, 0, 0, 0)]]
/-- 81: ScanChart.run(II)I -/
def am_c81 : List (List am_Ins) := [[(.iload_n 1, 1, 0, 0), (.ifCond .lt 9, 5, 0, 0), (.iload_n 1, 1, 0, 0), (.bipush 100, 36, 0, 0), (.if_icmp .le 13, 10, 0, 0), (.nop, 0, 0, 0), (.dup, 0, 0, 0), (.ldc 90, 2052, 0, 0), (.nop, 0, 0, 0), (.athrow, 0, 0, 0), (.iload_n 2, 2, 0, 0), (.ifCond .lt 9, 15, 0, 0), (.iload_n 2, 2, 0, 0), (.ldc 80, 29, 1, 0), (.if_icmp .le 13, 20, 0, 0), (.nop, 0, 0, 0)], [(.dup, 0, 0, 0), (.ldc 81, 2051, 0, 0), (.nop, 0, 0, 0), (.athrow, 0, 0, 0), (.iconst 0, 5, 0, 0), (.istore_n 3, 3, 0, 0), (.iconst 0, 5, 0, 0), (.istore 4, 4, 0, 0), (.iload 4, 4, 0, 0), (.iload_n 1, 1, 0, 0), (.if_icmp .ge 48, 46, 0, 0), (.aload_n 0, 0, 0, 0), (.getfield 19, 1, 8, 2), (.getfield 83, 3, 3, 0), (.ifCond .ne 38, 46, 0, 0), (.aload_n 0, 0, 0, 0)], [(.getfield 19, 1, 8, 2), (.aload_n 0, 0, 0, 0), (.getfield 26, 2, 8, 2), (.aload_n 0, 0, 0, 0), (.getfield 30, 3, 8, 0), (.iload_n 2, 2, 0, 0), (.invokevirtual 86, 13, 4, 3), (.aload_n 0, 0, 0, 0), (.getfield 19, 1, 8, 2), (.getfield 83, 3, 3, 0), (.ifCond .ne 6, 44, 0, 0), (.iinc 3 1, 3, 4, 0), (.iinc 4 1, 4, 4, 0), (.goto (-48), 24, 0, 0), (.iload_n 3, 3, 0, 0), (.ireturn, 0, 0, 0)]]
/-- 82: ScanChart.output(I)Z -/
def am_c82 : List (List am_Ins) := [[(.iload_n 1, 1, 0, 0), (.ifCond .lt 9, 5, 0, 0), (.iload_n 1, 1, 0, 0), (.bipush 32, 1, 0, 0), (.if_icmp .lt 13, 10, 0, 0), (.nop, 0, 0, 0), (.dup, 0, 0, 0), (.ldc 73, 2050, 0, 0), (.nop, 0, 0, 0), (.athrow, 0, 0, 0), (.aload_n 0, 0, 0, 0), (.getfield 19, 1, 8, 2), (.getfield 92, 2, 3, 0), (.iload_n 1, 1, 0, 0), (.invokestatic 95, 91, 2, 0), (.ireturn, 0, 0, 0)]]
/-- 83: ScanChart.bits(I)I -/
def am_c83 : List (List am_Ins) := [[(.iload_n 1, 1, 0, 0), (.ifCond .lt 8, 5, 0, 0), (.iload_n 1, 1, 0, 0), (.iconst 4, 6, 0, 0), (.if_icmp .le 13, 10, 0, 0), (.nop, 0, 0, 0), (.dup, 0, 0, 0), (.ldc 99, 2053, 0, 0), (.nop, 0, 0, 0), (.athrow, 0, 0, 0), (.iload_n 1, 1, 0, 0), (.iconst 4, 6, 0, 0), (.if_icmp .ne 13, 17, 0, 0), (.aload_n 0, 0, 0, 0), (.getfield 19, 1, 8, 2), (.getfield 92, 2, 3, 0)], [(.goto 17, 23, 0, 0), (.aload_n 0, 0, 0, 0), (.getfield 19, 1, 8, 2), (.getfield 101, 0, 3, 2), (.getfield 105, 0, 1, 2), (.iload_n 1, 1, 0, 0), (.invokestatic 111, 89, 2, 0), (.ireturn, 0, 0, 0)]]
/-- 84: ScanChart.word(I)I -/
def am_c84 : List (List am_Ins) := [[(.iload_n 1, 1, 0, 0), (.ifCond .lt 9, 5, 0, 0), (.iload_n 1, 1, 0, 0), (.bipush 32, 1, 0, 0), (.if_icmp .lt 13, 10, 0, 0), (.nop, 0, 0, 0), (.dup, 0, 0, 0), (.ldc 73, 2050, 0, 0), (.nop, 0, 0, 0), (.athrow, 0, 0, 0), (.aload_n 0, 0, 0, 0), (.getfield 19, 1, 8, 2), (.getfield 101, 0, 3, 2), (.bipush 6, 0, 0, 0), (.iload_n 1, 1, 0, 0), (.invokevirtual 115, 2, 3, 1)], [(.ireturn, 0, 0, 0)]]
/-- 85: ScanChart.block(II)I -/
def am_c85 : List (List am_Ins) := [[(.iload_n 1, 1, 0, 0), (.ifCond .lt 9, 5, 0, 0), (.iload_n 1, 1, 0, 0), (.bipush 8, 2, 0, 0), (.if_icmp .lt 13, 10, 0, 0), (.nop, 0, 0, 0), (.dup, 0, 0, 0), (.ldc 119, 2054, 0, 0), (.nop, 0, 0, 0), (.athrow, 0, 0, 0), (.iload_n 2, 2, 0, 0), (.tableswitch 85 0 3 #[31, 44, 58, 71], 7, 5, 0), (.aload_n 0, 0, 0, 0), (.getfield 19, 1, 8, 2), (.getfield 101, 0, 3, 2), (.iconst 4, 6, 0, 0)], [(.iload_n 1, 1, 0, 0), (.invokevirtual 115, 2, 3, 1), (.ireturn, 0, 0, 0), (.aload_n 0, 0, 0, 0), (.getfield 19, 1, 8, 2), (.getfield 101, 0, 3, 2), (.bipush 9, 11, 0, 0), (.iload_n 1, 1, 0, 0), (.invokevirtual 115, 2, 3, 1), (.ireturn, 0, 0, 0), (.aload_n 0, 0, 0, 0), (.getfield 19, 1, 8, 2), (.getfield 101, 0, 3, 2), (.iconst 5, 12, 0, 0), (.iload_n 1, 1, 0, 0), (.invokevirtual 115, 2, 3, 1)], [(.ireturn, 0, 0, 0), (.aload_n 0, 0, 0, 0), (.getfield 19, 1, 8, 2), (.getfield 101, 0, 3, 2), (.bipush 10, 17, 0, 0), (.iload_n 1, 1, 0, 0), (.invokevirtual 115, 2, 3, 1), (.ireturn, 0, 0, 0), (.nop, 0, 0, 0), (.dup, 0, 0, 0), (.ldc 121, 2055, 0, 0), (.nop, 0, 0, 0), (.athrow, 0, 0, 0)]]
/-- 86: ScanChart.done()I -/
def am_c86 : List (List am_Ins) := [[(.aload_n 0, 0, 0, 0), (.getfield 19, 1, 8, 2), (.getfield 123, 4, 3, 0), (.ireturn, 0, 0, 0)]]
/-- 87: ScanChart.fired()I -/
def am_c87 : List (List am_Ins) := [[(.aload_n 0, 0, 0, 0), (.getfield 19, 1, 8, 2), (.getfield 126, 5, 3, 0), (.ireturn, 0, 0, 0)]]
/-- 88: ScanChart.time()J -/
def am_c88 : List (List am_Ins) := [[(.aload_n 0, 0, 0, 0), (.getfield 19, 1, 8, 2), (.getfield 129, 1, 3, 1), (.lreturn, 0, 0, 0)]]
/-- 89: ScanChart.at([II)I -/
def am_c89 : List (List am_Ins) := [[(.iload_n 1, 1, 0, 0), (.ifCond .lt 15, 10, 0, 0), (.iload_n 1, 1, 0, 0), (.aload_n 0, 0, 0, 0), (.arraylength, 0, 0, 0), (.if_icmp .ge 9, 10, 0, 0), (.aload_n 0, 0, 0, 0), (.iload_n 1, 1, 0, 0), (.iaload, 0, 0, 0), (.goto 4, 11, 0, 0), (.iconst 0, 5, 0, 0), (.ireturn, 0, 0, 0)]]
/-- 90: ScanChart.put([III)V -/
def am_c90 : List (List am_Ins) := [[(.iload_n 1, 1, 0, 0), (.ifCond .lt 13, 10, 0, 0), (.iload_n 1, 1, 0, 0), (.aload_n 0, 0, 0, 0), (.arraylength, 0, 0, 0), (.if_icmp .ge 7, 10, 0, 0), (.aload_n 0, 0, 0, 0), (.iload_n 1, 1, 0, 0), (.iload_n 2, 2, 0, 0), (.iastore, 0, 0, 0), (.return_, 0, 0, 0)]]
/-- 91: ScanChart.isSet(II)Z -/
def am_c91 : List (List am_Ins) := [[(.iload_n 0, 0, 0, 0), (.iload_n 1, 1, 0, 0), (.iushr, 0, 0, 0), (.iconst 1, 4, 0, 0), (.iand, 0, 0, 0), (.ifCond .eq 7, 8, 0, 0), (.iconst 1, 4, 0, 0), (.goto 4, 9, 0, 0), (.iconst 0, 5, 0, 0), (.ireturn, 0, 0, 0)]]
/-- 92: ScanChart.withBit(IIZ)I -/
def am_c92 : List (List am_Ins) := [[(.iload_n 2, 2, 0, 0), (.ifCond .eq 11, 8, 0, 0), (.iload_n 0, 0, 0, 0), (.iconst 1, 4, 0, 0), (.iload_n 1, 1, 0, 0), (.ishl, 0, 0, 0), (.ior, 0, 0, 0), (.goto 10, 15, 0, 0), (.iload_n 0, 0, 0, 0), (.iconst 1, 4, 0, 0), (.iload_n 1, 1, 0, 0), (.ishl, 0, 0, 0), (.iconst (-1), 15, 0, 0), (.ixor, 0, 0, 0), (.iand, 0, 0, 0), (.ireturn, 0, 0, 0)]]
/-- 93: ScanChart.fill([II)V -/
def am_c93 : List (List am_Ins) := [[(.iconst 0, 5, 0, 0), (.istore_n 2, 2, 0, 0), (.iload_n 2, 2, 0, 0), (.aload_n 0, 0, 0, 0), (.arraylength, 0, 0, 0), (.if_icmp .ge 13, 12, 0, 0), (.aload_n 0, 0, 0, 0), (.iload_n 2, 2, 0, 0), (.iload_n 1, 1, 0, 0), (.iastore, 0, 0, 0), (.iinc 2 1, 2, 4, 0), (.goto (-13), 2, 0, 0), (.return_, 0, 0, 0)]]
/-- 94: ScanChartModel.<init>()V -/
def am_c94 : List (List am_Ins) := [[(.aload_n 0, 0, 0, 0), (.invokespecial 1, 0, 1, 99), (.aload_n 0, 0, 0, 0), (.sipush 700, 22, 0, 0), (.newarray .int, 20, 0, 0), (.putfield 7, 1, 9, 2), (.aload_n 0, 0, 0, 0), (.iconst (-1), 15, 0, 0), (.putfield 13, 4, 9, 0), (.aload_n 0, 0, 0, 0), (.sipush 160, 37, 0, 0), (.newarray .int, 20, 0, 0), (.putfield 17, 5, 9, 2), (.aload_n 0, 0, 0, 0), (.sipush 160, 37, 0, 0), (.newarray .int, 20, 0, 0)], [(.putfield 20, 6, 9, 2), (.aload_n 0, 0, 0, 0), (.sipush 160, 37, 0, 0), (.newarray .int, 20, 0, 0), (.putfield 23, 7, 9, 2), (.aload_n 0, 0, 0, 0), (.sipush 160, 37, 0, 0), (.newarray .int, 20, 0, 0), (.putfield 26, 8, 9, 2), (.aload_n 0, 0, 0, 0), (.sipush 160, 37, 0, 0), (.newarray .int, 20, 0, 0), (.putfield 29, 9, 9, 2), (.aload_n 0, 0, 0, 0), (.iconst 2, 13, 0, 0), (.newarray .int, 20, 0, 0)], [(.putfield 32, 10, 9, 2), (.aload_n 0, 0, 0, 0), (.bipush 64, 38, 0, 0), (.newarray .int, 20, 0, 0), (.putfield 35, 11, 9, 2), (.aload_n 0, 0, 0, 0), (.bipush 32, 1, 0, 0), (.newarray .boolean, 21, 0, 0), (.putfield 38, 12, 9, 2), (.aload_n 0, 0, 0, 0), (.bipush 96, 39, 0, 0), (.newarray .int, 20, 0, 0), (.putfield 42, 13, 9, 2), (.aload_n 0, 0, 0, 0), (.bipush 96, 39, 0, 0), (.newarray .int, 20, 0, 0)], [(.putfield 45, 14, 9, 2), (.aload_n 0, 0, 0, 0), (.bipush 96, 39, 0, 0), (.newarray .int, 20, 0, 0), (.putfield 48, 15, 9, 2), (.aload_n 0, 0, 0, 0), (.bipush 32, 1, 0, 0), (.newarray .int, 20, 0, 0), (.putfield 51, 16, 9, 2), (.aload_n 0, 0, 0, 0), (.bipush 32, 1, 0, 0), (.newarray .int, 20, 0, 0), (.putfield 54, 17, 9, 2), (.aload_n 0, 0, 0, 0), (.bipush 32, 1, 0, 0), (.newarray .int, 20, 0, 0)], [(.putfield 57, 18, 9, 2), (.aload_n 0, 0, 0, 0), (.bipush 32, 1, 0, 0), (.newarray .int, 20, 0, 0), (.putfield 60, 19, 9, 2), (.aload_n 0, 0, 0, 0), (.bipush 32, 1, 0, 0), (.newarray .int, 20, 0, 0), (.putfield 63, 20, 9, 2), (.aload_n 0, 0, 0, 0), (.iconst 2, 13, 0, 0), (.newarray .int, 20, 0, 0), (.putfield 66, 21, 9, 2), (.aload_n 0, 0, 0, 0), (.sipush 400, 40, 0, 0), (.newarray .int, 20, 0, 0)], [(.putfield 69, 30, 9, 2), (.aload_n 0, 0, 0, 0), (.sipush 400, 40, 0, 0), (.newarray .int, 20, 0, 0), (.putfield 72, 31, 9, 2), (.aload_n 0, 0, 0, 0), (.bipush 32, 1, 0, 0), (.newarray .boolean, 21, 0, 0), (.putfield 75, 33, 9, 2), (.aload_n 0, 0, 0, 0), (.bipush 32, 1, 0, 0), (.newarray .int, 20, 0, 0), (.putfield 78, 34, 9, 2), (.aload_n 0, 0, 0, 0), (.bipush 32, 1, 0, 0), (.newarray .int, 20, 0, 0)], [(.putfield 81, 35, 9, 2), (.aload_n 0, 0, 0, 0), (.bipush 32, 1, 0, 0), (.newarray .int, 20, 0, 0), (.putfield 84, 36, 9, 2), (.aload_n 0, 0, 0, 0), (.bipush 32, 1, 0, 0), (.newarray .int, 20, 0, 0), (.putfield 87, 37, 9, 2), (.aload_n 0, 0, 0, 0), (.bipush 8, 2, 0, 0), (.newarray .int, 20, 0, 0), (.putfield 90, 38, 9, 2), (.aload_n 0, 0, 0, 0), (.bipush 8, 2, 0, 0), (.newarray .int, 20, 0, 0)], [(.putfield 93, 39, 9, 2), (.aload_n 0, 0, 0, 0), (.bipush 8, 2, 0, 0), (.newarray .int, 20, 0, 0), (.putfield 96, 40, 9, 2), (.aload_n 0, 0, 0, 0), (.bipush 8, 2, 0, 0), (.newarray .int, 20, 0, 0), (.putfield 99, 41, 9, 2), (.aload_n 0, 0, 0, 0), (.bipush 16, 7, 0, 0), (.newarray .int, 20, 0, 0), (.putfield 102, 42, 9, 2), (.aload_n 0, 0, 0, 0), (.bipush 32, 1, 0, 0), (.newarray .int, 20, 0, 0)], [(.putfield 105, 43, 9, 2), (.aload_n 0, 0, 0, 0), (.bipush 8, 2, 0, 0), (.newarray .long, 22, 0, 0), (.putfield 108, 48, 9, 2), (.aload_n 0, 0, 0, 0), (.bipush 8, 2, 0, 0), (.newarray .boolean, 21, 0, 0), (.putfield 112, 49, 9, 2), (.aload_n 0, 0, 0, 0), (.bipush 8, 2, 0, 0), (.newarray .long, 22, 0, 0), (.putfield 115, 50, 9, 2), (.aload_n 0, 0, 0, 0), (.bipush 8, 2, 0, 0), (.newarray .long, 22, 0, 0)], [(.putfield 118, 51, 9, 2), (.aload_n 0, 0, 0, 0), (.bipush 8, 2, 0, 0), (.newarray .boolean, 21, 0, 0), (.putfield 121, 52, 9, 2), (.aload_n 0, 0, 0, 0), (.bipush 8, 2, 0, 0), (.newarray .boolean, 21, 0, 0), (.putfield 124, 53, 9, 2), (.aload_n 0, 0, 0, 0), (.bipush 8, 2, 0, 0), (.newarray .boolean, 21, 0, 0), (.putfield 127, 54, 9, 2), (.aload_n 0, 0, 0, 0), (.bipush 16, 7, 0, 0), (.newarray .boolean, 21, 0, 0)], [(.putfield 130, 55, 9, 2), (.aload_n 0, 0, 0, 0), (.bipush 16, 7, 0, 0), (.newarray .boolean, 21, 0, 0), (.putfield 133, 56, 9, 2), (.aload_n 0, 0, 0, 0), (.bipush 8, 2, 0, 0), (.newarray .int, 20, 0, 0), (.putfield 136, 57, 9, 2), (.aload_n 0, 0, 0, 0), (.bipush 8, 2, 0, 0), (.newarray .int, 20, 0, 0), (.putfield 139, 58, 9, 2), (.aload_n 0, 0, 0, 0), (.invokevirtual 142, 132, 1, 9), (.return_, 0, 0, 0)]]
/-- 95: ScanChartModel.thrown()I -/
def am_c95 : List (List am_Ins) := [[(.aload_n 0, 0, 0, 0), (.getfield 145, 0, 9, 0), (.ireturn, 0, 0, 0)]]
/-- 96: ScanChartModel.feed(IJ)I -/
def am_c96 : List (List am_Ins) := [[(.aload_n 0, 0, 0, 0), (.iload_n 1, 1, 0, 0), (.iconst 1, 4, 0, 0), (.if_icmp .lt 9, 7, 0, 0), (.iload_n 1, 1, 0, 0), (.bipush 8, 2, 0, 0), (.if_icmp .le 7, 9, 0, 0), (.iconst 1, 4, 0, 0), (.goto 4, 10, 0, 0), (.iconst 0, 5, 0, 0), (.putfield 145, 0, 9, 0), (.aload_n 0, 0, 0, 0), (.getfield 145, 0, 9, 0), (.ifCond .le 5, 16, 0, 0), (.iconst 0, 5, 0, 0), (.ireturn, 0, 0, 0)], [(.aload_n 0, 0, 0, 0), (.getfield 148, 2, 9, 0), (.iload_n 1, 1, 0, 0), (.iadd, 0, 0, 0), (.sipush 700, 22, 0, 0), (.if_icmp .le 5, 24, 0, 0), (.iconst (-1), 15, 0, 0), (.ireturn, 0, 0, 0), (.iconst 0, 5, 0, 0), (.istore 4, 4, 0, 0), (.iload 4, 4, 0, 0), (.iload_n 1, 1, 0, 0), (.if_icmp .ge 40, 50, 0, 0), (.aload_n 0, 0, 0, 0), (.getfield 7, 1, 9, 2), (.aload_n 0, 0, 0, 0)], [(.getfield 148, 2, 9, 0), (.lload_n 2, 2, 0, 0), (.bipush 8, 2, 0, 0), (.iload 4, 4, 0, 0), (.imul, 0, 0, 0), (.lshr, 0, 0, 0), (.ldc2_w 151, 5, 0, 0), (.land, 0, 0, 0), (.l2i, 0, 0, 0), (.iastore, 0, 0, 0), (.aload_n 0, 0, 0, 0), (.dup, 0, 0, 0), (.getfield 148, 2, 9, 0), (.iconst 1, 4, 0, 0), (.iadd, 0, 0, 0), (.putfield 148, 2, 9, 0)], [(.iinc 4 1, 4, 4, 0), (.goto (-40), 26, 0, 0), (.aload_n 0, 0, 0, 0), (.getfield 148, 2, 9, 0), (.ireturn, 0, 0, 0)]]
/-- 97: ScanChartModel.wipe()I -/
def am_c97 : List (List am_Ins) := [[(.aload_n 0, 0, 0, 0), (.iconst 0, 5, 0, 0), (.putfield 145, 0, 9, 0), (.aload_n 0, 0, 0, 0), (.getfield 148, 2, 9, 0), (.istore_n 1, 1, 0, 0), (.aload_n 0, 0, 0, 0), (.iconst 0, 5, 0, 0), (.putfield 148, 2, 9, 0), (.iload_n 1, 1, 0, 0), (.ireturn, 0, 0, 0)]]
/-- 98: ScanChartModel.fail(II)V -/
def am_c98 : List (List am_Ins) := [[(.aload_n 0, 0, 0, 0), (.getfield 153, 3, 9, 0), (.ifCond .ne 13, 9, 0, 0), (.aload_n 0, 0, 0, 0), (.iload_n 1, 1, 0, 0), (.putfield 153, 3, 9, 0), (.aload_n 0, 0, 0, 0), (.iload_n 2, 2, 0, 0), (.putfield 13, 4, 9, 0), (.return_, 0, 0, 0)]]
/-- 99: ScanChartModel.next()V -/
def am_c99 : List (List am_Ins) := [[(.aload_n 0, 0, 0, 0), (.aload_n 0, 0, 0, 0), (.getfield 156, 26, 9, 0), (.putfield 159, 24, 9, 0), (.aload_n 0, 0, 0, 0), (.getfield 159, 24, 9, 0), (.aload_n 0, 0, 0, 0), (.getfield 148, 2, 9, 0), (.if_icmp .ge 30, 23, 0, 0), (.aload_n 0, 0, 0, 0), (.getfield 7, 1, 9, 2), (.aload_n 0, 0, 0, 0), (.getfield 159, 24, 9, 0), (.iaload, 0, 0, 0), (.bipush 32, 1, 0, 0), (.if_icmp .gt 16, 23, 0, 0)], [(.aload_n 0, 0, 0, 0), (.dup, 0, 0, 0), (.getfield 159, 24, 9, 0), (.iconst 1, 4, 0, 0), (.iadd, 0, 0, 0), (.putfield 159, 24, 9, 0), (.goto (-35), 4, 0, 0), (.aload_n 0, 0, 0, 0), (.aload_n 0, 0, 0, 0), (.getfield 159, 24, 9, 0), (.putfield 162, 25, 9, 0), (.aload_n 0, 0, 0, 0), (.aload_n 0, 0, 0, 0), (.getfield 159, 24, 9, 0), (.putfield 156, 26, 9, 0), (.aload_n 0, 0, 0, 0)], [(.getfield 156, 26, 9, 0), (.aload_n 0, 0, 0, 0), (.getfield 148, 2, 9, 0), (.if_icmp .ge 28, 50, 0, 0), (.aload_n 0, 0, 0, 0), (.getfield 7, 1, 9, 2), (.aload_n 0, 0, 0, 0), (.getfield 156, 26, 9, 0), (.iaload, 0, 0, 0), (.bipush 59, 24, 0, 0), (.if_icmp .ne 14, 50, 0, 0), (.aload_n 0, 0, 0, 0), (.dup, 0, 0, 0), (.getfield 156, 26, 9, 0), (.iconst 1, 4, 0, 0), (.iadd, 0, 0, 0)], [(.putfield 156, 26, 9, 0), (.return_, 0, 0, 0), (.aload_n 0, 0, 0, 0), (.getfield 156, 26, 9, 0), (.aload_n 0, 0, 0, 0), (.getfield 148, 2, 9, 0), (.if_icmp .ge 44, 76, 0, 0), (.aload_n 0, 0, 0, 0), (.getfield 7, 1, 9, 2), (.aload_n 0, 0, 0, 0), (.getfield 156, 26, 9, 0), (.iaload, 0, 0, 0), (.bipush 32, 1, 0, 0), (.if_icmp .le 30, 76, 0, 0), (.aload_n 0, 0, 0, 0), (.getfield 7, 1, 9, 2)], [(.aload_n 0, 0, 0, 0), (.getfield 156, 26, 9, 0), (.iaload, 0, 0, 0), (.bipush 59, 24, 0, 0), (.if_icmp .eq 16, 76, 0, 0), (.aload_n 0, 0, 0, 0), (.dup, 0, 0, 0), (.getfield 156, 26, 9, 0), (.iconst 1, 4, 0, 0), (.iadd, 0, 0, 0), (.putfield 156, 26, 9, 0), (.goto (-49), 50, 0, 0), (.return_, 0, 0, 0)]]
/-- 100: ScanChartModel.isEnd()Z -/
def am_c100 : List (List am_Ins) := [[(.aload_n 0, 0, 0, 0), (.getfield 162, 25, 9, 0), (.aload_n 0, 0, 0, 0), (.getfield 148, 2, 9, 0), (.if_icmp .ne 7, 7, 0, 0), (.iconst 1, 4, 0, 0), (.goto 4, 8, 0, 0), (.iconst 0, 5, 0, 0), (.ireturn, 0, 0, 0)]]
/-- 101: ScanChartModel.isLineEnd()Z -/
def am_c101 : List (List am_Ins) := [[(.aload_n 0, 0, 0, 0), (.getfield 162, 25, 9, 0), (.aload_n 0, 0, 0, 0), (.getfield 148, 2, 9, 0), (.if_icmp .ge 21, 14, 0, 0), (.aload_n 0, 0, 0, 0), (.getfield 7, 1, 9, 2), (.aload_n 0, 0, 0, 0), (.getfield 162, 25, 9, 0), (.iaload, 0, 0, 0), (.bipush 59, 24, 0, 0), (.if_icmp .ne 7, 14, 0, 0), (.iconst 1, 4, 0, 0), (.goto 4, 15, 0, 0), (.iconst 0, 5, 0, 0), (.ireturn, 0, 0, 0)]]
/-- 102: ScanChartModel.code()J -/
def am_c102 : List (List am_Ins) := [[(.lconst 0, 0, 0, 0), (.lstore_n 1, 1, 0, 0), (.aload_n 0, 0, 0, 0), (.getfield 156, 26, 9, 0), (.iconst 1, 4, 0, 0), (.isub, 0, 0, 0), (.istore_n 3, 3, 0, 0), (.iload_n 3, 3, 0, 0), (.aload_n 0, 0, 0, 0), (.getfield 162, 25, 9, 0), (.if_icmp .lt 36, 30, 0, 0), (.aload_n 0, 0, 0, 0), (.getfield 156, 26, 9, 0), (.aload_n 0, 0, 0, 0), (.getfield 162, 25, 9, 0), (.isub, 0, 0, 0)], [(.bipush 8, 2, 0, 0), (.if_icmp .gt 22, 30, 0, 0), (.lload_n 1, 1, 0, 0), (.bipush 8, 2, 0, 0), (.lshl, 0, 0, 0), (.aload_n 0, 0, 0, 0), (.getfield 7, 1, 9, 2), (.iload_n 3, 3, 0, 0), (.iaload, 0, 0, 0), (.i2l, 0, 0, 0), (.lor, 0, 0, 0), (.lstore_n 1, 1, 0, 0), (.iinc 3 (-1), 3, 15, 0), (.goto (-38), 7, 0, 0), (.lload_n 1, 1, 0, 0), (.lreturn, 0, 0, 0)]]
/-- 103: ScanChartModel.isFigure(I)Z -/
def am_c103 : List (List am_Ins) := [[(.iload_n 0, 0, 0, 0), (.bipush 48, 8, 0, 0), (.if_icmp .lt 13, 8, 0, 0), (.iload_n 0, 0, 0, 0), (.bipush 57, 25, 0, 0), (.if_icmp .gt 7, 8, 0, 0), (.iconst 1, 4, 0, 0), (.goto 4, 9, 0, 0), (.iconst 0, 5, 0, 0), (.ireturn, 0, 0, 0)]]
/-- 104: ScanChartModel.areFigures(II)Z -/
def am_c104 : List (List am_Ins) := [[(.iload_n 1, 1, 0, 0), (.iload_n 2, 2, 0, 0), (.if_icmp .ge 7, 5, 0, 0), (.iconst 1, 4, 0, 0), (.goto 4, 6, 0, 0), (.iconst 0, 5, 0, 0), (.istore_n 3, 3, 0, 0), (.iload_n 1, 1, 0, 0), (.istore 4, 4, 0, 0), (.iload 4, 4, 0, 0), (.iload_n 2, 2, 0, 0), (.if_icmp .ge 32, 26, 0, 0), (.iload_n 3, 3, 0, 0), (.ifCond .eq 20, 22, 0, 0), (.aload_n 0, 0, 0, 0), (.getfield 7, 1, 9, 2)], [(.iload 4, 4, 0, 0), (.iaload, 0, 0, 0), (.invokestatic 165, 103, 1, 0), (.ifCond .eq 7, 22, 0, 0), (.iconst 1, 4, 0, 0), (.goto 4, 23, 0, 0), (.iconst 0, 5, 0, 0), (.istore_n 3, 3, 0, 0), (.iinc 4 1, 4, 4, 0), (.goto (-32), 9, 0, 0), (.iload_n 3, 3, 0, 0), (.ireturn, 0, 0, 0)]]
/-- 105: ScanChartModel.value(II)J -/
def am_c105 : List (List am_Ins) := [[(.lconst 0, 0, 0, 0), (.lstore_n 3, 3, 0, 0), (.iload_n 1, 1, 0, 0), (.istore 5, 5, 0, 0), (.iload 5, 5, 0, 0), (.iload_n 2, 2, 0, 0), (.if_icmp .ge 44, 29, 0, 0), (.ldc2_w 169, 6, 0, 0), (.lload_n 3, 3, 0, 0), (.lmul, 0, 0, 0), (.aload_n 0, 0, 0, 0), (.getfield 7, 1, 9, 2), (.iload 5, 5, 0, 0), (.iaload, 0, 0, 0), (.i2l, 0, 0, 0), (.ladd, 0, 0, 0)], [(.ldc2_w 171, 8, 0, 0), (.lsub, 0, 0, 0), (.lstore_n 3, 3, 0, 0), (.lload_n 3, 3, 0, 0), (.ldc2_w 173, 7, 0, 0), (.lcmp, 0, 0, 0), (.ifCond .le 9, 25, 0, 0), (.ldc2_w 173, 7, 0, 0), (.goto 4, 26, 0, 0), (.lload_n 3, 3, 0, 0), (.lstore_n 3, 3, 0, 0), (.iinc 5 1, 5, 4, 0), (.goto (-44), 4, 0, 0), (.lload_n 3, 3, 0, 0), (.lreturn, 0, 0, 0)]]
/-- 106: ScanChartModel.small(III)I -/
def am_c106 : List (List am_Ins) := [[(.aload_n 0, 0, 0, 0), (.iload_n 1, 1, 0, 0), (.iload_n 2, 2, 0, 0), (.invokevirtual 175, 104, 3, 9), (.ifCond .ne 14, 12, 0, 0), (.aload_n 0, 0, 0, 0), (.iconst 1, 4, 0, 0), (.aload_n 0, 0, 0, 0), (.getfield 162, 25, 9, 0), (.invokevirtual 179, 98, 3, 9), (.iconst (-1), 15, 0, 0), (.ireturn, 0, 0, 0), (.iload_n 2, 2, 0, 0), (.iload_n 1, 1, 0, 0), (.isub, 0, 0, 0), (.iconst 2, 13, 0, 0)], [(.if_icmp .gt 15, 25, 0, 0), (.aload_n 0, 0, 0, 0), (.iload_n 1, 1, 0, 0), (.iload_n 2, 2, 0, 0), (.invokevirtual 183, 105, 3, 9), (.iload_n 3, 3, 0, 0), (.i2l, 0, 0, 0), (.lcmp, 0, 0, 0), (.ifCond .le 14, 32, 0, 0), (.aload_n 0, 0, 0, 0), (.iconst 2, 13, 0, 0), (.aload_n 0, 0, 0, 0), (.getfield 162, 25, 9, 0), (.invokevirtual 179, 98, 3, 9), (.iconst (-1), 15, 0, 0), (.ireturn, 0, 0, 0)], [(.aload_n 0, 0, 0, 0), (.iload_n 1, 1, 0, 0), (.iload_n 2, 2, 0, 0), (.invokevirtual 183, 105, 3, 9), (.l2i, 0, 0, 0), (.ireturn, 0, 0, 0)]]
/-- 107: ScanChartModel.great(II)I -/
def am_c107 : List (List am_Ins) := [[(.aload_n 0, 0, 0, 0), (.iload_n 1, 1, 0, 0), (.aload_n 0, 0, 0, 0), (.getfield 156, 26, 9, 0), (.invokevirtual 175, 104, 3, 9), (.ifCond .ne 14, 13, 0, 0), (.aload_n 0, 0, 0, 0), (.iconst 1, 4, 0, 0), (.aload_n 0, 0, 0, 0), (.getfield 162, 25, 9, 0), (.invokevirtual 179, 98, 3, 9), (.iconst (-1), 15, 0, 0), (.ireturn, 0, 0, 0), (.aload_n 0, 0, 0, 0), (.iload_n 1, 1, 0, 0), (.aload_n 0, 0, 0, 0)], [(.getfield 156, 26, 9, 0), (.invokevirtual 183, 105, 3, 9), (.iload_n 2, 2, 0, 0), (.i2l, 0, 0, 0), (.lcmp, 0, 0, 0), (.ifCond .le 14, 29, 0, 0), (.aload_n 0, 0, 0, 0), (.iconst 2, 13, 0, 0), (.aload_n 0, 0, 0, 0), (.getfield 162, 25, 9, 0), (.invokevirtual 179, 98, 3, 9), (.iconst (-1), 15, 0, 0), (.ireturn, 0, 0, 0), (.aload_n 0, 0, 0, 0), (.iload_n 1, 1, 0, 0), (.aload_n 0, 0, 0, 0)], [(.getfield 156, 26, 9, 0), (.invokevirtual 183, 105, 3, 9), (.l2i, 0, 0, 0), (.ireturn, 0, 0, 0)]]
/-- 108: ScanChartModel.byteAt(I)I -/
def am_c108 : List (List am_Ins) := [[(.iload_n 1, 1, 0, 0), (.aload_n 0, 0, 0, 0), (.getfield 156, 26, 9, 0), (.if_icmp .ge 12, 9, 0, 0), (.aload_n 0, 0, 0, 0), (.getfield 7, 1, 9, 2), (.iload_n 1, 1, 0, 0), (.iaload, 0, 0, 0), (.goto 4, 10, 0, 0), (.iconst 0, 5, 0, 0), (.ireturn, 0, 0, 0)]]
/-- 109: ScanChartModel.cellKind()I -/
def am_c109 : List (List am_Ins) := [[(.aload_n 0, 0, 0, 0), (.aload_n 0, 0, 0, 0), (.getfield 162, 25, 9, 0), (.invokevirtual 187, 108, 2, 9), (.istore_n 1, 1, 0, 0), (.aload_n 0, 0, 0, 0), (.aload_n 0, 0, 0, 0), (.getfield 162, 25, 9, 0), (.iconst 1, 4, 0, 0), (.iadd, 0, 0, 0), (.invokevirtual 187, 108, 2, 9), (.istore_n 2, 2, 0, 0), (.iload_n 1, 1, 0, 0), (.bipush 84, 41, 0, 0), (.if_icmp .ne 16, 22, 0, 0), (.iload_n 2, 2, 0, 0)], [(.bipush 69, 42, 0, 0), (.if_icmp .ne 8, 20, 0, 0), (.bipush 6, 0, 0, 0), (.goto 4, 21, 0, 0), (.iconst 5, 12, 0, 0), (.ireturn, 0, 0, 0), (.iload_n 1, 1, 0, 0), (.bipush 67, 43, 0, 0), (.if_icmp .ne 17, 32, 0, 0), (.iload_n 2, 2, 0, 0), (.bipush 86, 44, 0, 0), (.if_icmp .ne 8, 30, 0, 0), (.bipush 8, 2, 0, 0), (.goto 5, 31, 0, 0), (.bipush 7, 45, 0, 0), (.ireturn, 0, 0, 0)], [(.iload_n 1, 1, 0, 0), (.bipush 73, 46, 0, 0), (.if_icmp .ne 7, 37, 0, 0), (.iconst 1, 4, 0, 0), (.goto 45, 58, 0, 0), (.iload_n 1, 1, 0, 0), (.bipush 81, 47, 0, 0), (.if_icmp .ne 7, 42, 0, 0), (.iconst 2, 13, 0, 0), (.goto 35, 58, 0, 0), (.iload_n 1, 1, 0, 0), (.bipush 77, 48, 0, 0), (.if_icmp .ne 7, 47, 0, 0), (.iconst 3, 3, 0, 0), (.goto 25, 58, 0, 0), (.iload_n 1, 1, 0, 0)], [(.bipush 87, 49, 0, 0), (.if_icmp .ne 7, 52, 0, 0), (.iconst 4, 6, 0, 0), (.goto 15, 58, 0, 0), (.iload_n 1, 1, 0, 0), (.bipush 88, 50, 0, 0), (.if_icmp .ne 8, 57, 0, 0), (.bipush 9, 11, 0, 0), (.goto 4, 58, 0, 0), (.iconst 0, 5, 0, 0), (.ireturn, 0, 0, 0)]]
/-- 110: ScanChartModel.mostOf(I)I -/
def am_c110 : List (List am_Ins) := [[(.iload_n 0, 0, 0, 0), (.iconst 5, 12, 0, 0), (.if_icmp .ge 8, 5, 0, 0), (.bipush 31, 51, 0, 0), (.goto 16, 11, 0, 0), (.iload_n 0, 0, 0, 0), (.bipush 9, 11, 0, 0), (.if_icmp .ge 8, 10, 0, 0), (.bipush 7, 45, 0, 0), (.goto 5, 11, 0, 0), (.bipush 15, 35, 0, 0), (.ireturn, 0, 0, 0)]]
/-- 111: ScanChartModel.operand(I)V -/
def am_c111 : List (List am_Ins) := [[(.aload_n 0, 0, 0, 0), (.invokevirtual 191, 109, 1, 9), (.istore_n 2, 2, 0, 0), (.aload_n 0, 0, 0, 0), (.iload_n 2, 2, 0, 0), (.putfield 195, 28, 9, 0), (.iload_n 2, 2, 0, 0), (.ifCond .le 60, 41, 0, 0), (.iload_n 1, 1, 0, 0), (.iload_n 2, 2, 0, 0), (.ishr, 0, 0, 0), (.iconst 1, 4, 0, 0), (.iand, 0, 0, 0), (.ifCond .ne 13, 20, 0, 0), (.aload_n 0, 0, 0, 0), (.iconst 1, 4, 0, 0)], [(.aload_n 0, 0, 0, 0), (.getfield 162, 25, 9, 0), (.invokevirtual 179, 98, 3, 9), (.return_, 0, 0, 0), (.aload_n 0, 0, 0, 0), (.aload_n 0, 0, 0, 0), (.aload_n 0, 0, 0, 0), (.getfield 162, 25, 9, 0), (.iload_n 2, 2, 0, 0), (.bipush 6, 0, 0, 0), (.if_icmp .eq 9, 30, 0, 0), (.iload_n 2, 2, 0, 0), (.bipush 8, 2, 0, 0), (.if_icmp .ne 7, 32, 0, 0), (.iconst 2, 13, 0, 0), (.goto 4, 33, 0, 0)], [(.iconst 1, 4, 0, 0), (.iadd, 0, 0, 0), (.aload_n 0, 0, 0, 0), (.getfield 156, 26, 9, 0), (.iload_n 2, 2, 0, 0), (.invokestatic 198, 110, 1, 0), (.invokevirtual 201, 106, 4, 9), (.putfield 205, 29, 9, 0), (.return_, 0, 0, 0), (.aload_n 0, 0, 0, 0), (.aload_n 0, 0, 0, 0), (.getfield 162, 25, 9, 0), (.invokevirtual 187, 108, 2, 9), (.bipush 45, 34, 0, 0), (.if_icmp .ne 7, 49, 0, 0), (.iconst 1, 4, 0, 0)], [(.goto 4, 50, 0, 0), (.iconst 0, 5, 0, 0), (.istore_n 3, 3, 0, 0), (.iload_n 3, 3, 0, 0), (.ifCond .eq 12, 58, 0, 0), (.aload_n 0, 0, 0, 0), (.getfield 162, 25, 9, 0), (.iconst 1, 4, 0, 0), (.iadd, 0, 0, 0), (.goto 7, 60, 0, 0), (.aload_n 0, 0, 0, 0), (.getfield 162, 25, 9, 0), (.istore 4, 4, 0, 0), (.iload_n 1, 1, 0, 0), (.iconst 1, 4, 0, 0), (.iand, 0, 0, 0)], [(.ifCond .eq 16, 71, 0, 0), (.aload_n 0, 0, 0, 0), (.iload 4, 4, 0, 0), (.aload_n 0, 0, 0, 0), (.getfield 156, 26, 9, 0), (.invokevirtual 175, 104, 3, 9), (.ifCond .ne 13, 77, 0, 0), (.aload_n 0, 0, 0, 0), (.iconst 1, 4, 0, 0), (.aload_n 0, 0, 0, 0), (.getfield 162, 25, 9, 0), (.invokevirtual 179, 98, 3, 9), (.return_, 0, 0, 0), (.iload_n 3, 3, 0, 0), (.ifCond .eq 17, 86, 0, 0), (.aload_n 0, 0, 0, 0)], [(.iload 4, 4, 0, 0), (.aload_n 0, 0, 0, 0), (.getfield 156, 26, 9, 0), (.invokevirtual 183, 105, 3, 9), (.lneg, 0, 0, 0), (.goto 13, 91, 0, 0), (.aload_n 0, 0, 0, 0), (.iload 4, 4, 0, 0), (.aload_n 0, 0, 0, 0), (.getfield 156, 26, 9, 0), (.invokevirtual 183, 105, 3, 9), (.lstore 5, 5, 0, 0), (.lload 5, 5, 0, 0), (.ldc2_w 208, 3, 0, 0), (.lcmp, 0, 0, 0), (.ifCond .lt 12, 100, 0, 0)], [(.lload 5, 5, 0, 0), (.ldc2_w 210, 4, 0, 0), (.lcmp, 0, 0, 0), (.ifCond .le 12, 105, 0, 0), (.aload_n 0, 0, 0, 0), (.iconst 2, 13, 0, 0), (.aload_n 0, 0, 0, 0), (.getfield 162, 25, 9, 0), (.invokevirtual 179, 98, 3, 9), (.aload_n 0, 0, 0, 0), (.lload 5, 5, 0, 0), (.l2i, 0, 0, 0), (.putfield 205, 29, 9, 0), (.return_, 0, 0, 0)]]
/-- 112: ScanChartModel.sign(J)I -/
def am_c112 : List (List am_Ins) := [[(.lload_n 0, 0, 0, 0), (.ldc2_w 212, 9, 0, 0), (.lcmp, 0, 0, 0), (.ifCond .ne 5, 6, 0, 0), (.iconst 0, 5, 0, 0), (.ireturn, 0, 0, 0), (.lload_n 0, 0, 0, 0), (.ldc2_w 214, 10, 0, 0), (.lcmp, 0, 0, 0), (.ifCond .ne 5, 12, 0, 0), (.iconst 1, 4, 0, 0), (.ireturn, 0, 0, 0), (.lload_n 0, 0, 0, 0), (.ldc2_w 216, 11, 0, 0), (.lcmp, 0, 0, 0), (.ifCond .ne 5, 18, 0, 0)], [(.iconst 2, 13, 0, 0), (.ireturn, 0, 0, 0), (.lload_n 0, 0, 0, 0), (.ldc2_w 218, 12, 0, 0), (.lcmp, 0, 0, 0), (.ifCond .ne 5, 24, 0, 0), (.iconst 3, 3, 0, 0), (.ireturn, 0, 0, 0), (.lload_n 0, 0, 0, 0), (.ldc2_w 220, 13, 0, 0), (.lcmp, 0, 0, 0), (.ifCond .ne 5, 30, 0, 0), (.iconst 4, 6, 0, 0), (.ireturn, 0, 0, 0), (.lload_n 0, 0, 0, 0), (.ldc2_w 222, 14, 0, 0)], [(.lcmp, 0, 0, 0), (.ifCond .ne 5, 36, 0, 0), (.iconst 5, 12, 0, 0), (.ireturn, 0, 0, 0), (.lload_n 0, 0, 0, 0), (.ldc2_w 224, 15, 0, 0), (.lcmp, 0, 0, 0), (.ifCond .ne 6, 42, 0, 0), (.bipush 6, 0, 0, 0), (.ireturn, 0, 0, 0), (.lload_n 0, 0, 0, 0), (.ldc2_w 226, 16, 0, 0), (.lcmp, 0, 0, 0), (.ifCond .ne 6, 48, 0, 0), (.bipush 7, 45, 0, 0), (.ireturn, 0, 0, 0)], [(.lload_n 0, 0, 0, 0), (.ldc2_w 228, 17, 0, 0), (.lcmp, 0, 0, 0), (.ifCond .ne 6, 54, 0, 0), (.bipush 8, 2, 0, 0), (.ireturn, 0, 0, 0), (.lload_n 0, 0, 0, 0), (.ldc2_w 230, 18, 0, 0), (.lcmp, 0, 0, 0), (.ifCond .ne 6, 60, 0, 0), (.bipush 9, 11, 0, 0), (.ireturn, 0, 0, 0), (.lload_n 0, 0, 0, 0), (.ldc2_w 232, 19, 0, 0), (.lcmp, 0, 0, 0), (.ifCond .ne 6, 66, 0, 0)], [(.bipush 10, 17, 0, 0), (.ireturn, 0, 0, 0), (.lload_n 0, 0, 0, 0), (.ldc2_w 234, 20, 0, 0), (.lcmp, 0, 0, 0), (.ifCond .ne 6, 72, 0, 0), (.bipush 11, 18, 0, 0), (.ireturn, 0, 0, 0), (.lload_n 0, 0, 0, 0), (.ldc2_w 236, 21, 0, 0), (.lcmp, 0, 0, 0), (.ifCond .ne 6, 78, 0, 0), (.bipush 12, 10, 0, 0), (.ireturn, 0, 0, 0), (.lload_n 0, 0, 0, 0), (.ldc2_w 238, 22, 0, 0)], [(.lcmp, 0, 0, 0), (.ifCond .ne 6, 84, 0, 0), (.bipush 13, 23, 0, 0), (.ireturn, 0, 0, 0), (.iconst (-1), 15, 0, 0), (.ireturn, 0, 0, 0)]]
/-- 113: ScanChartModel.add(IIIII)V -/
def am_c113 : List (List am_Ins) := [[(.bipush 80, 21, 0, 0), (.aload_n 0, 0, 0, 0), (.getfield 240, 23, 9, 0), (.imul, 0, 0, 0), (.aload_n 0, 0, 0, 0), (.getfield 32, 10, 9, 2), (.aload_n 0, 0, 0, 0), (.getfield 240, 23, 9, 0), (.iaload, 0, 0, 0), (.iadd, 0, 0, 0), (.istore 6, 6, 0, 0), (.aload_n 0, 0, 0, 0), (.getfield 17, 5, 9, 2), (.iload 6, 6, 0, 0), (.iload_n 1, 1, 0, 0), (.iastore, 0, 0, 0)], [(.aload_n 0, 0, 0, 0), (.getfield 20, 6, 9, 2), (.iload 6, 6, 0, 0), (.iload_n 2, 2, 0, 0), (.iastore, 0, 0, 0), (.aload_n 0, 0, 0, 0), (.getfield 23, 7, 9, 2), (.iload 6, 6, 0, 0), (.iload_n 3, 3, 0, 0), (.iastore, 0, 0, 0), (.aload_n 0, 0, 0, 0), (.getfield 26, 8, 9, 2), (.iload 6, 6, 0, 0), (.iload 4, 4, 0, 0), (.iastore, 0, 0, 0), (.aload_n 0, 0, 0, 0)], [(.getfield 29, 9, 9, 2), (.iload 6, 6, 0, 0), (.iload 5, 5, 0, 0), (.iastore, 0, 0, 0), (.aload_n 0, 0, 0, 0), (.getfield 32, 10, 9, 2), (.aload_n 0, 0, 0, 0), (.getfield 240, 23, 9, 0), (.dup2, 0, 0, 0), (.iaload, 0, 0, 0), (.iconst 1, 4, 0, 0), (.iadd, 0, 0, 0), (.iastore, 0, 0, 0), (.return_, 0, 0, 0)]]
/-- 114: ScanChartModel.isSign(J)Z -/
def am_c114 : List (List am_Ins) := [[(.aload_n 0, 0, 0, 0), (.getfield 156, 26, 9, 0), (.aload_n 0, 0, 0, 0), (.getfield 162, 25, 9, 0), (.isub, 0, 0, 0), (.istore_n 3, 3, 0, 0), (.iload_n 3, 3, 0, 0), (.ifCond .le 23, 19, 0, 0), (.aload_n 0, 0, 0, 0), (.getfield 7, 1, 9, 2), (.aload_n 0, 0, 0, 0), (.getfield 156, 26, 9, 0), (.iconst 1, 4, 0, 0), (.isub, 0, 0, 0), (.iaload, 0, 0, 0), (.bipush 40, 28, 0, 0)], [(.if_icmp .ne 7, 19, 0, 0), (.iconst 1, 4, 0, 0), (.goto 4, 20, 0, 0), (.iconst 0, 5, 0, 0), (.istore 4, 4, 0, 0), (.iload 4, 4, 0, 0), (.ifCond .eq 18, 35, 0, 0), (.lload_n 1, 1, 0, 0), (.lconst 1, 23, 0, 0), (.bipush 8, 2, 0, 0), (.iload_n 3, 3, 0, 0), (.iconst 1, 4, 0, 0), (.isub, 0, 0, 0), (.imul, 0, 0, 0), (.lshl, 0, 0, 0), (.lconst 1, 23, 0, 0)], [(.lsub, 0, 0, 0), (.land, 0, 0, 0), (.goto 4, 36, 0, 0), (.lload_n 1, 1, 0, 0), (.lstore 5, 5, 0, 0), (.iload 4, 4, 0, 0), (.ifCond .eq 9, 43, 0, 0), (.iload_n 3, 3, 0, 0), (.iconst 1, 4, 0, 0), (.isub, 0, 0, 0), (.goto 4, 44, 0, 0), (.iload_n 3, 3, 0, 0), (.istore 7, 7, 0, 0), (.iload_n 3, 3, 0, 0), (.bipush 8, 2, 0, 0), (.if_icmp .le 7, 50, 0, 0)], [(.iconst (-1), 15, 0, 0), (.goto 8, 52, 0, 0), (.lload 5, 5, 0, 0), (.invokestatic 243, 112, 1, 0), (.istore 8, 8, 0, 0), (.iconst 0, 5, 0, 0), (.istore 9, 9, 0, 0), (.iload 8, 8, 0, 0), (.iconst (-1), 15, 0, 0), (.if_icmp .ne 70, 97, 0, 0), (.iload_n 3, 3, 0, 0), (.bipush 8, 2, 0, 0), (.if_icmp .gt 64, 97, 0, 0), (.iload 7, 7, 0, 0), (.iconst 1, 4, 0, 0), (.if_icmp .le 58, 97, 0, 0)], [(.aload_n 0, 0, 0, 0), (.getfield 7, 1, 9, 2), (.aload_n 0, 0, 0, 0), (.getfield 162, 25, 9, 0), (.iload 7, 7, 0, 0), (.iadd, 0, 0, 0), (.iconst 1, 4, 0, 0), (.isub, 0, 0, 0), (.iaload, 0, 0, 0), (.bipush 78, 52, 0, 0), (.if_icmp .ne 39, 97, 0, 0), (.lload 5, 5, 0, 0), (.lconst 1, 23, 0, 0), (.bipush 8, 2, 0, 0), (.iload 7, 7, 0, 0), (.iconst 1, 4, 0, 0)], [(.isub, 0, 0, 0), (.imul, 0, 0, 0), (.lshl, 0, 0, 0), (.lconst 1, 23, 0, 0), (.lsub, 0, 0, 0), (.land, 0, 0, 0), (.invokestatic 243, 112, 1, 0), (.istore 8, 8, 0, 0), (.iconst 1, 4, 0, 0), (.istore 9, 9, 0, 0), (.iload 8, 8, 0, 0), (.iconst 2, 13, 0, 0), (.if_icmp .le 7, 95, 0, 0), (.iconst (-1), 15, 0, 0), (.goto 5, 96, 0, 0), (.iload 8, 8, 0, 0)], [(.istore 8, 8, 0, 0), (.iload 8, 8, 0, 0), (.iconst (-1), 15, 0, 0), (.if_icmp .ne 5, 102, 0, 0), (.iconst 0, 5, 0, 0), (.ireturn, 0, 0, 0), (.aload_n 0, 0, 0, 0), (.invokevirtual 247, 115, 1, 9), (.ifCond .ne 5, 107, 0, 0), (.iconst 1, 4, 0, 0), (.ireturn, 0, 0, 0), (.iload 4, 4, 0, 0), (.ifCond .eq 47, 134, 0, 0), (.aload_n 0, 0, 0, 0), (.getfield 251, 27, 9, 0), (.bipush 8, 2, 0, 0)], [(.if_icmp .ne 12, 118, 0, 0), (.aload_n 0, 0, 0, 0), (.iconst 5, 12, 0, 0), (.aload_n 0, 0, 0, 0), (.getfield 162, 25, 9, 0), (.invokevirtual 179, 98, 3, 9), (.aload_n 0, 0, 0, 0), (.dup, 0, 0, 0), (.getfield 251, 27, 9, 0), (.iconst 1, 4, 0, 0), (.iadd, 0, 0, 0), (.putfield 251, 27, 9, 0), (.aload_n 0, 0, 0, 0), (.iload 8, 8, 0, 0), (.iload 9, 9, 0, 0), (.iconst 2, 13, 0, 0)], [(.iadd, 0, 0, 0), (.iconst 0, 5, 0, 0), (.iconst 0, 5, 0, 0), (.iconst 0, 5, 0, 0), (.invokevirtual 254, 113, 6, 9), (.goto 31, 148, 0, 0), (.aload_n 0, 0, 0, 0), (.invokevirtual 258, 99, 1, 9), (.aload_n 0, 0, 0, 0), (.sipush 1023, 53, 0, 0), (.invokevirtual 261, 111, 2, 9), (.aload_n 0, 0, 0, 0), (.iload 8, 8, 0, 0), (.iload 9, 9, 0, 0), (.aload_n 0, 0, 0, 0), (.getfield 195, 28, 9, 0)], [(.aload_n 0, 0, 0, 0), (.getfield 205, 29, 9, 0), (.iconst 0, 5, 0, 0), (.invokevirtual 254, 113, 6, 9), (.iconst 1, 4, 0, 0), (.ireturn, 0, 0, 0)]]
/-- 115: ScanChartModel.mayComeNow()Z -/
def am_c115 : List (List am_Ins) := [[(.aload_n 0, 0, 0, 0), (.getfield 32, 10, 9, 2), (.aload_n 0, 0, 0, 0), (.getfield 240, 23, 9, 0), (.iaload, 0, 0, 0), (.bipush 80, 21, 0, 0), (.if_icmp .ne 12, 12, 0, 0), (.aload_n 0, 0, 0, 0), (.iconst 3, 3, 0, 0), (.aload_n 0, 0, 0, 0), (.getfield 162, 25, 9, 0), (.invokevirtual 179, 98, 3, 9), (.aload_n 0, 0, 0, 0), (.getfield 153, 3, 9, 0), (.ifCond .ne 7, 17, 0, 0), (.iconst 1, 4, 0, 0)], [(.goto 4, 18, 0, 0), (.iconst 0, 5, 0, 0), (.ireturn, 0, 0, 0)]]
/-- 116: ScanChartModel.isMove(J)Z -/
def am_c116 : List (List am_Ins) := [[(.lload_n 1, 1, 0, 0), (.ldc2_w 265, 24, 0, 0), (.lcmp, 0, 0, 0), (.ifCond .eq 11, 8, 0, 0), (.lload_n 1, 1, 0, 0), (.ldc2_w 267, 25, 0, 0), (.lcmp, 0, 0, 0), (.ifCond .ne 8, 10, 0, 0), (.bipush 14, 54, 0, 0), (.goto 51, 33, 0, 0), (.lload_n 1, 1, 0, 0), (.ldc2_w 269, 26, 0, 0), (.lcmp, 0, 0, 0), (.ifCond .eq 11, 18, 0, 0), (.lload_n 1, 1, 0, 0), (.ldc2_w 271, 27, 0, 0)], [(.lcmp, 0, 0, 0), (.ifCond .ne 8, 20, 0, 0), (.bipush 15, 35, 0, 0), (.goto 30, 33, 0, 0), (.lload_n 1, 1, 0, 0), (.ldc2_w 273, 28, 0, 0), (.lcmp, 0, 0, 0), (.ifCond .ne 8, 26, 0, 0), (.bipush 16, 7, 0, 0), (.goto 17, 33, 0, 0), (.lload_n 1, 1, 0, 0), (.ldc2_w 275, 29, 0, 0), (.lcmp, 0, 0, 0), (.ifCond .ne 8, 32, 0, 0), (.bipush 17, 55, 0, 0), (.goto 4, 33, 0, 0)], [(.iconst (-1), 15, 0, 0), (.istore_n 3, 3, 0, 0), (.iload_n 3, 3, 0, 0), (.iconst (-1), 15, 0, 0), (.if_icmp .ne 5, 39, 0, 0), (.iconst 0, 5, 0, 0), (.ireturn, 0, 0, 0), (.aload_n 0, 0, 0, 0), (.invokevirtual 247, 115, 1, 9), (.ifCond .eq 71, 76, 0, 0), (.aload_n 0, 0, 0, 0), (.invokevirtual 258, 99, 1, 9), (.aload_n 0, 0, 0, 0), (.iload_n 3, 3, 0, 0), (.bipush 14, 54, 0, 0), (.if_icmp .ne 9, 50, 0, 0)], [(.sipush 1023, 53, 0, 0), (.goto 16, 56, 0, 0), (.iload_n 3, 3, 0, 0), (.bipush 15, 35, 0, 0), (.if_icmp .ne 8, 55, 0, 0), (.bipush 28, 56, 0, 0), (.goto 5, 56, 0, 0), (.bipush 12, 10, 0, 0), (.invokevirtual 261, 111, 2, 9), (.aload_n 0, 0, 0, 0), (.iload_n 3, 3, 0, 0), (.lload_n 1, 1, 0, 0), (.ldc2_w 267, 25, 0, 0), (.lcmp, 0, 0, 0), (.ifCond .eq 11, 67, 0, 0), (.lload_n 1, 1, 0, 0)], [(.ldc2_w 271, 27, 0, 0), (.lcmp, 0, 0, 0), (.ifCond .ne 7, 69, 0, 0), (.iconst 1, 4, 0, 0), (.goto 4, 70, 0, 0), (.iconst 0, 5, 0, 0), (.aload_n 0, 0, 0, 0), (.getfield 195, 28, 9, 0), (.aload_n 0, 0, 0, 0), (.getfield 205, 29, 9, 0), (.iconst 0, 5, 0, 0), (.invokevirtual 254, 113, 6, 9), (.iconst 1, 4, 0, 0), (.ireturn, 0, 0, 0)]]
/-- 117: ScanChartModel.isJump(J)Z -/
def am_c117 : List (List am_Ins) := [[(.lload_n 1, 1, 0, 0), (.ldc2_w 277, 30, 0, 0), (.lcmp, 0, 0, 0), (.ifCond .eq 19, 12, 0, 0), (.lload_n 1, 1, 0, 0), (.ldc2_w 279, 31, 0, 0), (.lcmp, 0, 0, 0), (.ifCond .eq 11, 12, 0, 0), (.lload_n 1, 1, 0, 0), (.ldc2_w 281, 32, 0, 0), (.lcmp, 0, 0, 0), (.ifCond .ne 8, 14, 0, 0), (.bipush 20, 14, 0, 0), (.goto 33, 29, 0, 0), (.lload_n 1, 1, 0, 0), (.ldc2_w 283, 33, 0, 0)], [(.lcmp, 0, 0, 0), (.ifCond .eq 19, 26, 0, 0), (.lload_n 1, 1, 0, 0), (.ldc2_w 285, 34, 0, 0), (.lcmp, 0, 0, 0), (.ifCond .eq 11, 26, 0, 0), (.lload_n 1, 1, 0, 0), (.ldc2_w 287, 35, 0, 0), (.lcmp, 0, 0, 0), (.ifCond .ne 8, 28, 0, 0), (.bipush 21, 57, 0, 0), (.goto 4, 29, 0, 0), (.iconst (-1), 15, 0, 0), (.istore_n 3, 3, 0, 0), (.iload_n 3, 3, 0, 0), (.iconst (-1), 15, 0, 0)], [(.if_icmp .ne 5, 35, 0, 0), (.iconst 0, 5, 0, 0), (.ireturn, 0, 0, 0), (.aload_n 0, 0, 0, 0), (.invokevirtual 247, 115, 1, 9), (.ifCond .ne 5, 40, 0, 0), (.iconst 1, 4, 0, 0), (.ireturn, 0, 0, 0), (.aload_n 0, 0, 0, 0), (.getfield 251, 27, 9, 0), (.ifCond .le 12, 48, 0, 0), (.aload_n 0, 0, 0, 0), (.iconst 5, 12, 0, 0), (.aload_n 0, 0, 0, 0), (.getfield 162, 25, 9, 0), (.invokevirtual 179, 98, 3, 9)], [(.lload_n 1, 1, 0, 0), (.ldc2_w 279, 31, 0, 0), (.lcmp, 0, 0, 0), (.ifCond .eq 11, 56, 0, 0), (.lload_n 1, 1, 0, 0), (.ldc2_w 285, 34, 0, 0), (.lcmp, 0, 0, 0), (.ifCond .ne 7, 58, 0, 0), (.iconst 4, 6, 0, 0), (.goto 24, 69, 0, 0), (.lload_n 1, 1, 0, 0), (.ldc2_w 281, 32, 0, 0), (.lcmp, 0, 0, 0), (.ifCond .eq 11, 66, 0, 0), (.lload_n 1, 1, 0, 0), (.ldc2_w 287, 35, 0, 0)], [(.lcmp, 0, 0, 0), (.ifCond .ne 7, 68, 0, 0), (.iconst 5, 12, 0, 0), (.goto 4, 69, 0, 0), (.iconst 0, 5, 0, 0), (.istore 4, 4, 0, 0), (.iconst 0, 5, 0, 0), (.istore 5, 5, 0, 0), (.iload_n 3, 3, 0, 0), (.bipush 20, 14, 0, 0), (.if_icmp .ne 23, 85, 0, 0), (.aload_n 0, 0, 0, 0), (.invokevirtual 258, 99, 1, 9), (.aload_n 0, 0, 0, 0), (.aload_n 0, 0, 0, 0), (.getfield 156, 26, 9, 0)], [(.invokevirtual 289, 118, 2, 9), (.istore 5, 5, 0, 0), (.aload_n 0, 0, 0, 0), (.iload 5, 5, 0, 0), (.invokevirtual 292, 119, 2, 9), (.aload_n 0, 0, 0, 0), (.iload_n 3, 3, 0, 0), (.iload 4, 4, 0, 0), (.iconst 0, 5, 0, 0), (.iload 5, 5, 0, 0), (.iconst 0, 5, 0, 0), (.invokevirtual 254, 113, 6, 9), (.iconst 1, 4, 0, 0), (.ireturn, 0, 0, 0)]]
/-- 118: ScanChartModel.labelWord(I)I -/
def am_c118 : List (List am_Ins) := [[(.aload_n 0, 0, 0, 0), (.aload_n 0, 0, 0, 0), (.getfield 162, 25, 9, 0), (.invokevirtual 187, 108, 2, 9), (.bipush 76, 26, 0, 0), (.if_icmp .eq 14, 13, 0, 0), (.aload_n 0, 0, 0, 0), (.iconst 1, 4, 0, 0), (.aload_n 0, 0, 0, 0), (.getfield 162, 25, 9, 0), (.invokevirtual 179, 98, 3, 9), (.iconst (-1), 15, 0, 0), (.ireturn, 0, 0, 0), (.aload_n 0, 0, 0, 0), (.aload_n 0, 0, 0, 0), (.getfield 162, 25, 9, 0)], [(.iconst 1, 4, 0, 0), (.iadd, 0, 0, 0), (.iload_n 1, 1, 0, 0), (.bipush 31, 51, 0, 0), (.invokevirtual 201, 106, 4, 9), (.ireturn, 0, 0, 0)]]
/-- 119: ScanChartModel.names(I)V -/
def am_c119 : List (List am_Ins) := [[(.aload_n 0, 0, 0, 0), (.getfield 69, 30, 9, 2), (.aload_n 0, 0, 0, 0), (.getfield 295, 32, 9, 0), (.iload_n 1, 1, 0, 0), (.iastore, 0, 0, 0), (.aload_n 0, 0, 0, 0), (.getfield 72, 31, 9, 2), (.aload_n 0, 0, 0, 0), (.getfield 295, 32, 9, 0), (.aload_n 0, 0, 0, 0), (.getfield 162, 25, 9, 0), (.iastore, 0, 0, 0), (.aload_n 0, 0, 0, 0), (.dup, 0, 0, 0), (.getfield 295, 32, 9, 0)], [(.iconst 1, 4, 0, 0), (.iadd, 0, 0, 0), (.putfield 295, 32, 9, 0), (.return_, 0, 0, 0)]]
/-- 120: ScanChartModel.lettered(II)I -/
def am_c120 : List (List am_Ins) := [[(.aload_n 0, 0, 0, 0), (.aload_n 0, 0, 0, 0), (.getfield 162, 25, 9, 0), (.invokevirtual 187, 108, 2, 9), (.iload_n 1, 1, 0, 0), (.if_icmp .eq 14, 13, 0, 0), (.aload_n 0, 0, 0, 0), (.iconst 1, 4, 0, 0), (.aload_n 0, 0, 0, 0), (.getfield 162, 25, 9, 0), (.invokevirtual 179, 98, 3, 9), (.iconst (-1), 15, 0, 0), (.ireturn, 0, 0, 0), (.aload_n 0, 0, 0, 0), (.aload_n 0, 0, 0, 0), (.getfield 162, 25, 9, 0)], [(.iconst 1, 4, 0, 0), (.iadd, 0, 0, 0), (.aload_n 0, 0, 0, 0), (.getfield 156, 26, 9, 0), (.iload_n 2, 2, 0, 0), (.invokevirtual 201, 106, 4, 9), (.ireturn, 0, 0, 0)]]
/-- 121: ScanChartModel.isBlock(J)Z -/
def am_c121 : List (List am_Ins) := [[(.lload_n 1, 1, 0, 0), (.ldc2_w 298, 36, 0, 0), (.lcmp, 0, 0, 0), (.ifCond .ne 8, 6, 0, 0), (.bipush 22, 58, 0, 0), (.goto 95, 49, 0, 0), (.lload_n 1, 1, 0, 0), (.ldc2_w 300, 37, 0, 0), (.lcmp, 0, 0, 0), (.ifCond .ne 8, 12, 0, 0), (.bipush 23, 59, 0, 0), (.goto 82, 49, 0, 0), (.lload_n 1, 1, 0, 0), (.ldc2_w 302, 38, 0, 0), (.lcmp, 0, 0, 0), (.ifCond .ne 8, 18, 0, 0)], [(.bipush 24, 60, 0, 0), (.goto 69, 49, 0, 0), (.lload_n 1, 1, 0, 0), (.ldc2_w 304, 39, 0, 0), (.lcmp, 0, 0, 0), (.ifCond .ne 8, 24, 0, 0), (.bipush 25, 61, 0, 0), (.goto 56, 49, 0, 0), (.lload_n 1, 1, 0, 0), (.ldc2_w 306, 40, 0, 0), (.lcmp, 0, 0, 0), (.ifCond .ne 8, 30, 0, 0), (.bipush 26, 62, 0, 0), (.goto 43, 49, 0, 0), (.lload_n 1, 1, 0, 0), (.ldc2_w 308, 41, 0, 0)], [(.lcmp, 0, 0, 0), (.ifCond .ne 8, 36, 0, 0), (.bipush 27, 63, 0, 0), (.goto 30, 49, 0, 0), (.lload_n 1, 1, 0, 0), (.ldc2_w 310, 42, 0, 0), (.lcmp, 0, 0, 0), (.ifCond .ne 8, 42, 0, 0), (.bipush 28, 56, 0, 0), (.goto 17, 49, 0, 0), (.lload_n 1, 1, 0, 0), (.ldc2_w 312, 43, 0, 0), (.lcmp, 0, 0, 0), (.ifCond .ne 8, 48, 0, 0), (.bipush 29, 64, 0, 0), (.goto 4, 49, 0, 0)], [(.iconst (-1), 15, 0, 0), (.istore_n 3, 3, 0, 0), (.iload_n 3, 3, 0, 0), (.iconst (-1), 15, 0, 0), (.if_icmp .ne 5, 55, 0, 0), (.iconst 0, 5, 0, 0), (.ireturn, 0, 0, 0), (.aload_n 0, 0, 0, 0), (.invokevirtual 247, 115, 1, 9), (.ifCond .ne 5, 60, 0, 0), (.iconst 1, 4, 0, 0), (.ireturn, 0, 0, 0), (.aload_n 0, 0, 0, 0), (.invokevirtual 258, 99, 1, 9), (.iload_n 3, 3, 0, 0), (.bipush 25, 61, 0, 0)], [(.if_icmp .ge 14, 70, 0, 0), (.aload_n 0, 0, 0, 0), (.bipush 84, 41, 0, 0), (.bipush 7, 45, 0, 0), (.invokevirtual 314, 120, 3, 9), (.goto 28, 82, 0, 0), (.iload_n 3, 3, 0, 0), (.bipush 28, 56, 0, 0), (.if_icmp .ge 14, 78, 0, 0), (.aload_n 0, 0, 0, 0), (.bipush 67, 43, 0, 0), (.bipush 7, 45, 0, 0), (.invokevirtual 314, 120, 3, 9), (.goto 11, 82, 0, 0), (.aload_n 0, 0, 0, 0), (.bipush 69, 42, 0, 0)], [(.bipush 15, 35, 0, 0), (.invokevirtual 314, 120, 3, 9), (.istore 4, 4, 0, 0), (.iconst 0, 5, 0, 0), (.istore 5, 5, 0, 0), (.iload_n 3, 3, 0, 0), (.bipush 27, 63, 0, 0), (.if_icmp .ge 39, 104, 0, 0), (.aload_n 0, 0, 0, 0), (.getfield 153, 3, 9, 0), (.ifCond .ne 32, 104, 0, 0), (.aload_n 0, 0, 0, 0), (.invokevirtual 258, 99, 1, 9), (.aload_n 0, 0, 0, 0), (.aload_n 0, 0, 0, 0), (.getfield 162, 25, 9, 0)], [(.iload_n 3, 3, 0, 0), (.bipush 25, 61, 0, 0), (.if_icmp .ge 9, 101, 0, 0), (.ldc_w 318, 29, 1, 0), (.goto 6, 102, 0, 0), (.sipush 32767, 19, 0, 0), (.invokevirtual 319, 107, 3, 9), (.istore 5, 5, 0, 0), (.aload_n 0, 0, 0, 0), (.iload_n 3, 3, 0, 0), (.iconst 0, 5, 0, 0), (.iconst 0, 5, 0, 0), (.iload 4, 4, 0, 0), (.iload 5, 5, 0, 0), (.invokevirtual 254, 113, 6, 9), (.iconst 1, 4, 0, 0)], [(.ireturn, 0, 0, 0)]]
/-- 122: ScanChartModel.isAlone(J)Z -/
def am_c122 : List (List am_Ins) := [[(.lload_n 1, 1, 0, 0), (.ldc2_w 322, 44, 0, 0), (.lcmp, 0, 0, 0), (.ifCond .ne 8, 6, 0, 0), (.bipush 18, 65, 0, 0), (.goto 17, 13, 0, 0), (.lload_n 1, 1, 0, 0), (.ldc2_w 324, 45, 0, 0), (.lcmp, 0, 0, 0), (.ifCond .ne 8, 12, 0, 0), (.bipush 19, 66, 0, 0), (.goto 4, 13, 0, 0), (.iconst (-1), 15, 0, 0), (.istore_n 3, 3, 0, 0), (.iload_n 3, 3, 0, 0), (.iconst (-1), 15, 0, 0)], [(.if_icmp .ne 5, 19, 0, 0), (.iconst 0, 5, 0, 0), (.ireturn, 0, 0, 0), (.aload_n 0, 0, 0, 0), (.invokevirtual 247, 115, 1, 9), (.ifCond .eq 57, 52, 0, 0), (.iload_n 3, 3, 0, 0), (.bipush 18, 65, 0, 0), (.if_icmp .ne 19, 33, 0, 0), (.aload_n 0, 0, 0, 0), (.getfield 251, 27, 9, 0), (.ifCond .ne 12, 33, 0, 0), (.aload_n 0, 0, 0, 0), (.iconst 5, 12, 0, 0), (.aload_n 0, 0, 0, 0), (.getfield 162, 25, 9, 0)], [(.invokevirtual 179, 98, 3, 9), (.aload_n 0, 0, 0, 0), (.iload_n 3, 3, 0, 0), (.bipush 18, 65, 0, 0), (.if_icmp .ne 12, 42, 0, 0), (.aload_n 0, 0, 0, 0), (.getfield 251, 27, 9, 0), (.iconst 1, 4, 0, 0), (.isub, 0, 0, 0), (.goto 7, 44, 0, 0), (.aload_n 0, 0, 0, 0), (.getfield 251, 27, 9, 0), (.putfield 251, 27, 9, 0), (.aload_n 0, 0, 0, 0), (.iload_n 3, 3, 0, 0), (.iconst 0, 5, 0, 0)], [(.iconst 0, 5, 0, 0), (.iconst 0, 5, 0, 0), (.iconst 0, 5, 0, 0), (.invokevirtual 254, 113, 6, 9), (.iconst 1, 4, 0, 0), (.ireturn, 0, 0, 0)]]
/-- 123: ScanChartModel.actions(I)V -/
def am_c123 : List (List am_Ins) := [[(.iconst 0, 5, 0, 0), (.istore_n 2, 2, 0, 0), (.aload_n 0, 0, 0, 0), (.invokevirtual 258, 99, 1, 9), (.aload_n 0, 0, 0, 0), (.invokevirtual 326, 102, 1, 9), (.lstore_n 3, 3, 0, 0), (.aload_n 0, 0, 0, 0), (.getfield 153, 3, 9, 0), (.ifCond .ne 126, 77, 0, 0), (.iload_n 2, 2, 0, 0), (.iconst 3, 3, 0, 0), (.if_icmp .ge 121, 77, 0, 0), (.lload_n 3, 3, 0, 0), (.ldc2_w 330, 46, 0, 0), (.lcmp, 0, 0, 0)], [(.ifCond .eq 19, 25, 0, 0), (.lload_n 3, 3, 0, 0), (.ldc2_w 273, 28, 0, 0), (.lcmp, 0, 0, 0), (.ifCond .eq 11, 25, 0, 0), (.lload_n 3, 3, 0, 0), (.ldc2_w 275, 29, 0, 0), (.lcmp, 0, 0, 0), (.ifCond .ne 97, 77, 0, 0), (.bipush 48, 8, 0, 0), (.aload_n 0, 0, 0, 0), (.getfield 240, 23, 9, 0), (.imul, 0, 0, 0), (.iconst 3, 3, 0, 0), (.iload_n 1, 1, 0, 0), (.imul, 0, 0, 0)], [(.iadd, 0, 0, 0), (.iload_n 2, 2, 0, 0), (.iadd, 0, 0, 0), (.istore 5, 5, 0, 0), (.aload_n 0, 0, 0, 0), (.invokevirtual 258, 99, 1, 9), (.aload_n 0, 0, 0, 0), (.bipush 12, 10, 0, 0), (.invokevirtual 261, 111, 2, 9), (.aload_n 0, 0, 0, 0), (.getfield 42, 13, 9, 2), (.iload 5, 5, 0, 0), (.lload_n 3, 3, 0, 0), (.ldc2_w 330, 46, 0, 0), (.lcmp, 0, 0, 0), (.ifCond .ne 7, 50, 0, 0)], [(.iconst 1, 4, 0, 0), (.goto 16, 57, 0, 0), (.lload_n 3, 3, 0, 0), (.ldc2_w 273, 28, 0, 0), (.lcmp, 0, 0, 0), (.ifCond .ne 7, 56, 0, 0), (.iconst 2, 13, 0, 0), (.goto 4, 57, 0, 0), (.iconst 3, 3, 0, 0), (.iastore, 0, 0, 0), (.aload_n 0, 0, 0, 0), (.getfield 45, 14, 9, 2), (.iload 5, 5, 0, 0), (.aload_n 0, 0, 0, 0), (.getfield 195, 28, 9, 0), (.iastore, 0, 0, 0)], [(.aload_n 0, 0, 0, 0), (.getfield 48, 15, 9, 2), (.iload 5, 5, 0, 0), (.aload_n 0, 0, 0, 0), (.getfield 205, 29, 9, 0), (.iastore, 0, 0, 0), (.iinc 2 1, 2, 4, 0), (.aload_n 0, 0, 0, 0), (.invokevirtual 258, 99, 1, 9), (.aload_n 0, 0, 0, 0), (.invokevirtual 326, 102, 1, 9), (.lstore_n 3, 3, 0, 0), (.goto (-127), 7, 0, 0), (.return_, 0, 0, 0)]]
/-- 124: ScanChartModel.step()V -/
def am_c124 : List (List am_Ins) := [[(.aload_n 0, 0, 0, 0), (.getfield 251, 27, 9, 0), (.ifCond .le 12, 8, 0, 0), (.aload_n 0, 0, 0, 0), (.iconst 5, 12, 0, 0), (.aload_n 0, 0, 0, 0), (.getfield 162, 25, 9, 0), (.invokevirtual 179, 98, 3, 9), (.aload_n 0, 0, 0, 0), (.invokevirtual 258, 99, 1, 9), (.aload_n 0, 0, 0, 0), (.aload_n 0, 0, 0, 0), (.getfield 162, 25, 9, 0), (.aload_n 0, 0, 0, 0), (.getfield 156, 26, 9, 0), (.bipush 15, 35, 0, 0)], [(.invokevirtual 201, 106, 4, 9), (.istore_n 1, 1, 0, 0), (.aload_n 0, 0, 0, 0), (.getfield 153, 3, 9, 0), (.ifCond .ne 29, 36, 0, 0), (.aload_n 0, 0, 0, 0), (.getfield 38, 12, 9, 2), (.bipush 16, 7, 0, 0), (.aload_n 0, 0, 0, 0), (.getfield 240, 23, 9, 0), (.imul, 0, 0, 0), (.iload_n 1, 1, 0, 0), (.iadd, 0, 0, 0), (.baload, 0, 0, 0), (.ifCond .eq 12, 36, 0, 0), (.aload_n 0, 0, 0, 0)], [(.iconst 4, 6, 0, 0), (.aload_n 0, 0, 0, 0), (.getfield 162, 25, 9, 0), (.invokevirtual 179, 98, 3, 9), (.aload_n 0, 0, 0, 0), (.getfield 153, 3, 9, 0), (.ifCond .ne 23, 52, 0, 0), (.aload_n 0, 0, 0, 0), (.getfield 38, 12, 9, 2), (.bipush 16, 7, 0, 0), (.aload_n 0, 0, 0, 0), (.getfield 240, 23, 9, 0), (.imul, 0, 0, 0), (.iload_n 1, 1, 0, 0), (.iadd, 0, 0, 0), (.iconst 1, 4, 0, 0)], [(.bastore, 0, 0, 0), (.aload_n 0, 0, 0, 0), (.iload_n 1, 1, 0, 0), (.invokevirtual 332, 123, 2, 9), (.return_, 0, 0, 0)]]
/-- 125: ScanChartModel.some()I -/
def am_c125 : List (List am_Ins) := [[(.iconst 0, 5, 0, 0), (.istore_n 1, 1, 0, 0), (.iconst 0, 5, 0, 0), (.istore_n 2, 2, 0, 0), (.iload_n 2, 2, 0, 0), (.iconst 3, 3, 0, 0), (.if_icmp .ge 76, 46, 0, 0), (.aload_n 0, 0, 0, 0), (.getfield 153, 3, 9, 0), (.ifCond .ne 69, 46, 0, 0), (.iload_n 2, 2, 0, 0), (.ifCond .eq 18, 19, 0, 0), (.aload_n 0, 0, 0, 0), (.aload_n 0, 0, 0, 0), (.getfield 162, 25, 9, 0), (.aload_n 0, 0, 0, 0)], [(.getfield 156, 26, 9, 0), (.invokevirtual 175, 104, 3, 9), (.ifCond .eq 50, 46, 0, 0), (.aload_n 0, 0, 0, 0), (.aload_n 0, 0, 0, 0), (.getfield 162, 25, 9, 0), (.aload_n 0, 0, 0, 0), (.getfield 156, 26, 9, 0), (.bipush 15, 35, 0, 0), (.invokevirtual 201, 106, 4, 9), (.istore_n 3, 3, 0, 0), (.aload_n 0, 0, 0, 0), (.bipush 100, 36, 0, 0), (.iload_n 3, 3, 0, 0), (.iadd, 0, 0, 0), (.invokevirtual 292, 119, 2, 9)], [(.iload_n 3, 3, 0, 0), (.ifCond .ge 7, 36, 0, 0), (.iload_n 1, 1, 0, 0), (.goto 8, 41, 0, 0), (.iload_n 1, 1, 0, 0), (.iconst 1, 4, 0, 0), (.iload_n 3, 3, 0, 0), (.ishl, 0, 0, 0), (.ior, 0, 0, 0), (.istore_n 1, 1, 0, 0), (.aload_n 0, 0, 0, 0), (.invokevirtual 258, 99, 1, 9), (.iinc 2 1, 2, 4, 0), (.goto (-75), 4, 0, 0), (.iload_n 1, 1, 0, 0), (.ireturn, 0, 0, 0)]]
/-- 126: ScanChartModel.go()V -/
def am_c126 : List (List am_Ins) := [[(.aload_n 0, 0, 0, 0), (.getfield 66, 21, 9, 2), (.aload_n 0, 0, 0, 0), (.getfield 240, 23, 9, 0), (.iaload, 0, 0, 0), (.bipush 16, 7, 0, 0), (.if_icmp .ne 12, 12, 0, 0), (.aload_n 0, 0, 0, 0), (.iconst 3, 3, 0, 0), (.aload_n 0, 0, 0, 0), (.getfield 162, 25, 9, 0), (.invokevirtual 179, 98, 3, 9), (.aload_n 0, 0, 0, 0), (.getfield 251, 27, 9, 0), (.ifCond .le 12, 20, 0, 0), (.aload_n 0, 0, 0, 0)], [(.iconst 5, 12, 0, 0), (.aload_n 0, 0, 0, 0), (.getfield 162, 25, 9, 0), (.invokevirtual 179, 98, 3, 9), (.bipush 16, 7, 0, 0), (.aload_n 0, 0, 0, 0), (.getfield 240, 23, 9, 0), (.imul, 0, 0, 0), (.aload_n 0, 0, 0, 0), (.getfield 66, 21, 9, 2), (.aload_n 0, 0, 0, 0), (.getfield 240, 23, 9, 0), (.iaload, 0, 0, 0), (.bipush 16, 7, 0, 0), (.irem, 0, 0, 0), (.iadd, 0, 0, 0)], [(.istore_n 1, 1, 0, 0), (.aload_n 0, 0, 0, 0), (.invokevirtual 258, 99, 1, 9), (.aload_n 0, 0, 0, 0), (.getfield 51, 16, 9, 2), (.iload_n 1, 1, 0, 0), (.aload_n 0, 0, 0, 0), (.invokevirtual 335, 125, 1, 9), (.iastore, 0, 0, 0), (.aload_n 0, 0, 0, 0), (.invokevirtual 326, 102, 1, 9), (.ldc2_w 338, 47, 0, 0), (.lcmp, 0, 0, 0), (.ifCond .eq 12, 51, 0, 0), (.aload_n 0, 0, 0, 0), (.iconst 1, 4, 0, 0)], [(.aload_n 0, 0, 0, 0), (.getfield 162, 25, 9, 0), (.invokevirtual 179, 98, 3, 9), (.aload_n 0, 0, 0, 0), (.invokevirtual 258, 99, 1, 9), (.aload_n 0, 0, 0, 0), (.getfield 54, 17, 9, 2), (.iload_n 1, 1, 0, 0), (.aload_n 0, 0, 0, 0), (.getfield 153, 3, 9, 0), (.ifCond .ne 10, 62, 0, 0), (.aload_n 0, 0, 0, 0), (.invokevirtual 335, 125, 1, 9), (.goto 4, 63, 0, 0), (.iconst 0, 5, 0, 0), (.iastore, 0, 0, 0)], [(.aload_n 0, 0, 0, 0), (.invokevirtual 326, 102, 1, 9), (.lstore_n 2, 2, 0, 0), (.aload_n 0, 0, 0, 0), (.getfield 57, 18, 9, 2), (.iload_n 1, 1, 0, 0), (.lload_n 2, 2, 0, 0), (.ldc2_w 340, 48, 0, 0), (.lcmp, 0, 0, 0), (.ifCond .ne 7, 76, 0, 0), (.iconst 1, 4, 0, 0), (.goto 16, 83, 0, 0), (.lload_n 2, 2, 0, 0), (.ldc2_w 342, 49, 0, 0), (.lcmp, 0, 0, 0), (.ifCond .ne 7, 82, 0, 0)], [(.iconst 2, 13, 0, 0), (.goto 4, 83, 0, 0), (.iconst 0, 5, 0, 0), (.iastore, 0, 0, 0), (.aload_n 0, 0, 0, 0), (.getfield 57, 18, 9, 2), (.iload_n 1, 1, 0, 0), (.iaload, 0, 0, 0), (.ifCond .le 45, 111, 0, 0), (.aload_n 0, 0, 0, 0), (.getfield 153, 3, 9, 0), (.ifCond .ne 38, 111, 0, 0), (.aload_n 0, 0, 0, 0), (.invokevirtual 258, 99, 1, 9), (.aload_n 0, 0, 0, 0), (.sipush 1023, 53, 0, 0)], [(.invokevirtual 261, 111, 2, 9), (.aload_n 0, 0, 0, 0), (.getfield 60, 19, 9, 2), (.iload_n 1, 1, 0, 0), (.aload_n 0, 0, 0, 0), (.getfield 195, 28, 9, 0), (.iastore, 0, 0, 0), (.aload_n 0, 0, 0, 0), (.getfield 63, 20, 9, 2), (.iload_n 1, 1, 0, 0), (.aload_n 0, 0, 0, 0), (.getfield 205, 29, 9, 0), (.iastore, 0, 0, 0), (.aload_n 0, 0, 0, 0), (.invokevirtual 258, 99, 1, 9), (.aload_n 0, 0, 0, 0)], [(.getfield 66, 21, 9, 2), (.aload_n 0, 0, 0, 0), (.getfield 240, 23, 9, 0), (.dup2, 0, 0, 0), (.iaload, 0, 0, 0), (.iconst 1, 4, 0, 0), (.iadd, 0, 0, 0), (.iastore, 0, 0, 0), (.return_, 0, 0, 0)]]
/-- 127: ScanChartModel.line()V -/
def am_c127 : List (List am_Ins) := [[(.aload_n 0, 0, 0, 0), (.getfield 156, 26, 9, 0), (.iconst 1, 4, 0, 0), (.isub, 0, 0, 0), (.istore_n 1, 1, 0, 0), (.aload_n 0, 0, 0, 0), (.aload_n 0, 0, 0, 0), (.getfield 162, 25, 9, 0), (.invokevirtual 187, 108, 2, 9), (.bipush 76, 26, 0, 0), (.if_icmp .ne 103, 66, 0, 0), (.aload_n 0, 0, 0, 0), (.getfield 7, 1, 9, 2), (.iload_n 1, 1, 0, 0), (.iaload, 0, 0, 0), (.bipush 58, 27, 0, 0)], [(.if_icmp .ne 92, 66, 0, 0), (.aload_n 0, 0, 0, 0), (.iload_n 1, 1, 0, 0), (.invokevirtual 289, 118, 2, 9), (.istore_n 2, 2, 0, 0), (.aload_n 0, 0, 0, 0), (.getfield 153, 3, 9, 0), (.ifCond .ne 29, 39, 0, 0), (.aload_n 0, 0, 0, 0), (.getfield 35, 11, 9, 2), (.bipush 32, 1, 0, 0), (.aload_n 0, 0, 0, 0), (.getfield 240, 23, 9, 0), (.imul, 0, 0, 0), (.iload_n 2, 2, 0, 0), (.iadd, 0, 0, 0)], [(.iaload, 0, 0, 0), (.ifCond .lt 12, 39, 0, 0), (.aload_n 0, 0, 0, 0), (.iconst 4, 6, 0, 0), (.aload_n 0, 0, 0, 0), (.getfield 162, 25, 9, 0), (.invokevirtual 179, 98, 3, 9), (.aload_n 0, 0, 0, 0), (.getfield 251, 27, 9, 0), (.ifCond .le 12, 47, 0, 0), (.aload_n 0, 0, 0, 0), (.iconst 5, 12, 0, 0), (.aload_n 0, 0, 0, 0), (.getfield 162, 25, 9, 0), (.invokevirtual 179, 98, 3, 9), (.aload_n 0, 0, 0, 0)], [(.getfield 153, 3, 9, 0), (.ifCond .ne 26, 64, 0, 0), (.aload_n 0, 0, 0, 0), (.getfield 35, 11, 9, 2), (.bipush 32, 1, 0, 0), (.aload_n 0, 0, 0, 0), (.getfield 240, 23, 9, 0), (.imul, 0, 0, 0), (.iload_n 2, 2, 0, 0), (.iadd, 0, 0, 0), (.aload_n 0, 0, 0, 0), (.getfield 32, 10, 9, 2), (.aload_n 0, 0, 0, 0), (.getfield 240, 23, 9, 0), (.iaload, 0, 0, 0), (.iastore, 0, 0, 0)], [(.aload_n 0, 0, 0, 0), (.invokevirtual 258, 99, 1, 9), (.aload_n 0, 0, 0, 0), (.getfield 153, 3, 9, 0), (.ifCond .gt 10, 72, 0, 0), (.aload_n 0, 0, 0, 0), (.invokevirtual 344, 101, 1, 9), (.ifCond .eq 4, 73, 0, 0), (.return_, 0, 0, 0), (.aload_n 0, 0, 0, 0), (.invokevirtual 326, 102, 1, 9), (.lstore_n 2, 2, 0, 0), (.lload_n 2, 2, 0, 0), (.ldc2_w 347, 50, 0, 0), (.lcmp, 0, 0, 0), (.ifCond .ne 10, 83, 0, 0)], [(.aload_n 0, 0, 0, 0), (.invokevirtual 349, 124, 1, 9), (.goto 74, 118, 0, 0), (.lload_n 2, 2, 0, 0), (.ldc2_w 352, 51, 0, 0), (.lcmp, 0, 0, 0), (.ifCond .ne 10, 90, 0, 0), (.aload_n 0, 0, 0, 0), (.invokevirtual 354, 126, 1, 9), (.goto 59, 118, 0, 0), (.aload_n 0, 0, 0, 0), (.lload_n 2, 2, 0, 0), (.invokevirtual 357, 116, 2, 9), (.ifCond .ne 35, 110, 0, 0), (.aload_n 0, 0, 0, 0), (.lload_n 2, 2, 0, 0)], [(.invokevirtual 361, 114, 2, 9), (.ifCond .ne 27, 110, 0, 0), (.aload_n 0, 0, 0, 0), (.lload_n 2, 2, 0, 0), (.invokevirtual 364, 117, 2, 9), (.ifCond .ne 19, 110, 0, 0), (.aload_n 0, 0, 0, 0), (.lload_n 2, 2, 0, 0), (.invokevirtual 367, 121, 2, 9), (.ifCond .ne 11, 110, 0, 0), (.aload_n 0, 0, 0, 0), (.lload_n 2, 2, 0, 0), (.invokevirtual 370, 122, 2, 9), (.ifCond .eq 10, 113, 0, 0), (.aload_n 0, 0, 0, 0), (.invokevirtual 258, 99, 1, 9)], [(.goto 12, 118, 0, 0), (.aload_n 0, 0, 0, 0), (.iconst 1, 4, 0, 0), (.aload_n 0, 0, 0, 0), (.getfield 162, 25, 9, 0), (.invokevirtual 179, 98, 3, 9), (.aload_n 0, 0, 0, 0), (.getfield 153, 3, 9, 0), (.ifCond .ne 19, 129, 0, 0), (.aload_n 0, 0, 0, 0), (.invokevirtual 344, 101, 1, 9), (.ifCond .ne 12, 129, 0, 0), (.aload_n 0, 0, 0, 0), (.iconst 1, 4, 0, 0), (.aload_n 0, 0, 0, 0), (.getfield 162, 25, 9, 0)], [(.invokevirtual 179, 98, 3, 9), (.return_, 0, 0, 0)]]
/-- 128: ScanChartModel.begin()V -/
def am_c128 : List (List am_Ins) := [[(.aload_n 0, 0, 0, 0), (.iconst 0, 5, 0, 0), (.putfield 153, 3, 9, 0), (.aload_n 0, 0, 0, 0), (.iconst (-1), 15, 0, 0), (.putfield 13, 4, 9, 0), (.aload_n 0, 0, 0, 0), (.iconst 1, 4, 0, 0), (.aload_n 0, 0, 0, 0), (.getfield 373, 22, 9, 0), (.isub, 0, 0, 0), (.putfield 240, 23, 9, 0), (.aload_n 0, 0, 0, 0), (.iconst 0, 5, 0, 0), (.putfield 156, 26, 9, 0), (.aload_n 0, 0, 0, 0)], [(.iconst 0, 5, 0, 0), (.putfield 251, 27, 9, 0), (.aload_n 0, 0, 0, 0), (.iconst 0, 5, 0, 0), (.putfield 295, 32, 9, 0), (.aload_n 0, 0, 0, 0), (.getfield 32, 10, 9, 2), (.aload_n 0, 0, 0, 0), (.getfield 240, 23, 9, 0), (.iconst 0, 5, 0, 0), (.iastore, 0, 0, 0), (.aload_n 0, 0, 0, 0), (.getfield 66, 21, 9, 2), (.aload_n 0, 0, 0, 0), (.getfield 240, 23, 9, 0), (.iconst 0, 5, 0, 0)], [(.iastore, 0, 0, 0), (.iconst 0, 5, 0, 0), (.istore_n 1, 1, 0, 0), (.iload_n 1, 1, 0, 0), (.bipush 48, 8, 0, 0), (.if_icmp .ge 24, 50, 0, 0), (.aload_n 0, 0, 0, 0), (.getfield 42, 13, 9, 2), (.bipush 48, 8, 0, 0), (.aload_n 0, 0, 0, 0), (.getfield 240, 23, 9, 0), (.imul, 0, 0, 0), (.iload_n 1, 1, 0, 0), (.iadd, 0, 0, 0), (.iconst 0, 5, 0, 0), (.iastore, 0, 0, 0)], [(.iinc 1 1, 1, 4, 0), (.goto (-24), 35, 0, 0), (.iconst 0, 5, 0, 0), (.istore_n 1, 1, 0, 0), (.iload_n 1, 1, 0, 0), (.bipush 32, 1, 0, 0), (.if_icmp .ge 42, 79, 0, 0), (.aload_n 0, 0, 0, 0), (.getfield 35, 11, 9, 2), (.bipush 32, 1, 0, 0), (.aload_n 0, 0, 0, 0), (.getfield 240, 23, 9, 0), (.imul, 0, 0, 0), (.iload_n 1, 1, 0, 0), (.iadd, 0, 0, 0), (.iconst (-1), 15, 0, 0)], [(.iastore, 0, 0, 0), (.aload_n 0, 0, 0, 0), (.getfield 38, 12, 9, 2), (.bipush 16, 7, 0, 0), (.aload_n 0, 0, 0, 0), (.getfield 240, 23, 9, 0), (.imul, 0, 0, 0), (.iload_n 1, 1, 0, 0), (.bipush 16, 7, 0, 0), (.irem, 0, 0, 0), (.iadd, 0, 0, 0), (.iconst 0, 5, 0, 0), (.bastore, 0, 0, 0), (.iinc 1 1, 1, 4, 0), (.goto (-42), 52, 0, 0), (.return_, 0, 0, 0)]]
/-- 129: ScanChartModel.load()I -/
def am_c129 : List (List am_Ins) := [[(.aload_n 0, 0, 0, 0), (.iconst 0, 5, 0, 0), (.putfield 145, 0, 9, 0), (.aload_n 0, 0, 0, 0), (.invokevirtual 376, 128, 1, 9), (.aload_n 0, 0, 0, 0), (.invokevirtual 258, 99, 1, 9), (.aload_n 0, 0, 0, 0), (.getfield 153, 3, 9, 0), (.ifCond .ne 28, 21, 0, 0), (.aload_n 0, 0, 0, 0), (.invokevirtual 379, 100, 1, 9), (.ifCond .ne 21, 21, 0, 0), (.aload_n 0, 0, 0, 0), (.invokevirtual 344, 101, 1, 9), (.ifCond .ne 7, 18, 0, 0)], [(.aload_n 0, 0, 0, 0), (.invokevirtual 382, 127, 1, 9), (.aload_n 0, 0, 0, 0), (.invokevirtual 258, 99, 1, 9), (.goto (-29), 7, 0, 0), (.aload_n 0, 0, 0, 0), (.getfield 153, 3, 9, 0), (.ifCond .ne 19, 32, 0, 0), (.aload_n 0, 0, 0, 0), (.getfield 251, 27, 9, 0), (.ifCond .le 12, 32, 0, 0), (.aload_n 0, 0, 0, 0), (.iconst 5, 12, 0, 0), (.aload_n 0, 0, 0, 0), (.getfield 148, 2, 9, 0), (.invokevirtual 179, 98, 3, 9)], [(.iconst 0, 5, 0, 0), (.istore_n 1, 1, 0, 0), (.iload_n 1, 1, 0, 0), (.aload_n 0, 0, 0, 0), (.getfield 295, 32, 9, 0), (.if_icmp .ge 88, 86, 0, 0), (.aload_n 0, 0, 0, 0), (.getfield 153, 3, 9, 0), (.ifCond .ne 81, 86, 0, 0), (.aload_n 0, 0, 0, 0), (.getfield 69, 30, 9, 2), (.iload_n 1, 1, 0, 0), (.iaload, 0, 0, 0), (.istore_n 2, 2, 0, 0), (.iload_n 2, 2, 0, 0), (.bipush 100, 36, 0, 0)], [(.if_icmp .ge 28, 63, 0, 0), (.aload_n 0, 0, 0, 0), (.getfield 35, 11, 9, 2), (.bipush 32, 1, 0, 0), (.aload_n 0, 0, 0, 0), (.getfield 240, 23, 9, 0), (.imul, 0, 0, 0), (.iload_n 2, 2, 0, 0), (.iadd, 0, 0, 0), (.iaload, 0, 0, 0), (.ifCond .lt 7, 61, 0, 0), (.iconst 1, 4, 0, 0), (.goto 24, 74, 0, 0), (.iconst 0, 5, 0, 0), (.goto 20, 74, 0, 0), (.aload_n 0, 0, 0, 0)], [(.getfield 38, 12, 9, 2), (.bipush 16, 7, 0, 0), (.aload_n 0, 0, 0, 0), (.getfield 240, 23, 9, 0), (.imul, 0, 0, 0), (.iload_n 2, 2, 0, 0), (.iadd, 0, 0, 0), (.bipush 100, 36, 0, 0), (.isub, 0, 0, 0), (.baload, 0, 0, 0), (.istore_n 3, 3, 0, 0), (.iload_n 3, 3, 0, 0), (.ifCond .ne 15, 84, 0, 0), (.aload_n 0, 0, 0, 0), (.bipush 6, 0, 0, 0), (.aload_n 0, 0, 0, 0)], [(.getfield 72, 31, 9, 2), (.iload_n 1, 1, 0, 0), (.iaload, 0, 0, 0), (.invokevirtual 179, 98, 3, 9), (.iinc 1 1, 1, 4, 0), (.goto (-90), 34, 0, 0), (.aload_n 0, 0, 0, 0), (.getfield 153, 3, 9, 0), (.ifCond .le 5, 91, 0, 0), (.iconst (-1), 15, 0, 0), (.ireturn, 0, 0, 0), (.aload_n 0, 0, 0, 0), (.aload_n 0, 0, 0, 0), (.getfield 240, 23, 9, 0), (.putfield 373, 22, 9, 0), (.aload_n 0, 0, 0, 0)], [(.invokevirtual 142, 132, 1, 9), (.aload_n 0, 0, 0, 0), (.getfield 32, 10, 9, 2), (.aload_n 0, 0, 0, 0), (.getfield 373, 22, 9, 0), (.iaload, 0, 0, 0), (.ireturn, 0, 0, 0)]]
/-- 130: ScanChartModel.fault()I -/
def am_c130 : List (List am_Ins) := [[(.aload_n 0, 0, 0, 0), (.iconst 0, 5, 0, 0), (.putfield 145, 0, 9, 0), (.aload_n 0, 0, 0, 0), (.getfield 153, 3, 9, 0), (.ireturn, 0, 0, 0)]]
/-- 131: ScanChartModel.place()I -/
def am_c131 : List (List am_Ins) := [[(.aload_n 0, 0, 0, 0), (.iconst 0, 5, 0, 0), (.putfield 145, 0, 9, 0), (.aload_n 0, 0, 0, 0), (.getfield 13, 4, 9, 0), (.ireturn, 0, 0, 0)]]
/-- 132: ScanChartModel.resetAll()V -/
def am_c132 : List (List am_Ins) := [[(.iconst 0, 5, 0, 0), (.istore_n 1, 1, 0, 0), (.iload_n 1, 1, 0, 0), (.bipush 32, 1, 0, 0), (.if_icmp .ge 44, 32, 0, 0), (.aload_n 0, 0, 0, 0), (.getfield 78, 34, 9, 2), (.iload_n 1, 1, 0, 0), (.iconst 0, 5, 0, 0), (.iastore, 0, 0, 0), (.aload_n 0, 0, 0, 0), (.getfield 81, 35, 9, 2), (.iload_n 1, 1, 0, 0), (.iconst 0, 5, 0, 0), (.iastore, 0, 0, 0), (.aload_n 0, 0, 0, 0)], [(.getfield 84, 36, 9, 2), (.iload_n 1, 1, 0, 0), (.iconst 0, 5, 0, 0), (.iastore, 0, 0, 0), (.aload_n 0, 0, 0, 0), (.getfield 87, 37, 9, 2), (.iload_n 1, 1, 0, 0), (.iconst 0, 5, 0, 0), (.iastore, 0, 0, 0), (.aload_n 0, 0, 0, 0), (.getfield 105, 43, 9, 2), (.iload_n 1, 1, 0, 0), (.iconst 0, 5, 0, 0), (.iastore, 0, 0, 0), (.iinc 1 1, 1, 4, 0), (.goto (-44), 2, 0, 0)], [(.iconst 0, 5, 0, 0), (.istore_n 1, 1, 0, 0), (.iload_n 1, 1, 0, 0), (.bipush 8, 2, 0, 0), (.if_icmp .ge 92, 94, 0, 0), (.aload_n 0, 0, 0, 0), (.getfield 90, 38, 9, 2), (.iload_n 1, 1, 0, 0), (.iconst 0, 5, 0, 0), (.iastore, 0, 0, 0), (.aload_n 0, 0, 0, 0), (.getfield 93, 39, 9, 2), (.iload_n 1, 1, 0, 0), (.iconst 0, 5, 0, 0), (.iastore, 0, 0, 0), (.aload_n 0, 0, 0, 0)], [(.getfield 96, 40, 9, 2), (.iload_n 1, 1, 0, 0), (.iconst 0, 5, 0, 0), (.iastore, 0, 0, 0), (.aload_n 0, 0, 0, 0), (.getfield 99, 41, 9, 2), (.iload_n 1, 1, 0, 0), (.iconst 0, 5, 0, 0), (.iastore, 0, 0, 0), (.aload_n 0, 0, 0, 0), (.getfield 108, 48, 9, 2), (.iload_n 1, 1, 0, 0), (.ldc2_w 385, 1, 0, 0), (.lastore, 0, 0, 0), (.aload_n 0, 0, 0, 0), (.getfield 112, 49, 9, 2)], [(.iload_n 1, 1, 0, 0), (.iconst 0, 5, 0, 0), (.bastore, 0, 0, 0), (.aload_n 0, 0, 0, 0), (.getfield 115, 50, 9, 2), (.iload_n 1, 1, 0, 0), (.ldc2_w 385, 1, 0, 0), (.lastore, 0, 0, 0), (.aload_n 0, 0, 0, 0), (.getfield 118, 51, 9, 2), (.iload_n 1, 1, 0, 0), (.ldc2_w 385, 1, 0, 0), (.lastore, 0, 0, 0), (.aload_n 0, 0, 0, 0), (.getfield 121, 52, 9, 2), (.iload_n 1, 1, 0, 0)], [(.iconst 0, 5, 0, 0), (.bastore, 0, 0, 0), (.aload_n 0, 0, 0, 0), (.getfield 124, 53, 9, 2), (.iload_n 1, 1, 0, 0), (.iconst 0, 5, 0, 0), (.bastore, 0, 0, 0), (.aload_n 0, 0, 0, 0), (.getfield 127, 54, 9, 2), (.iload_n 1, 1, 0, 0), (.iconst 0, 5, 0, 0), (.bastore, 0, 0, 0), (.iinc 1 1, 1, 4, 0), (.goto (-92), 34, 0, 0), (.iconst 0, 5, 0, 0), (.istore_n 1, 1, 0, 0)], [(.iload_n 1, 1, 0, 0), (.bipush 16, 7, 0, 0), (.if_icmp .ge 38, 120, 0, 0), (.aload_n 0, 0, 0, 0), (.getfield 102, 42, 9, 2), (.iload_n 1, 1, 0, 0), (.iload_n 1, 1, 0, 0), (.ifCond .ne 7, 106, 0, 0), (.iconst 1, 4, 0, 0), (.goto 4, 107, 0, 0), (.iconst 0, 5, 0, 0), (.iastore, 0, 0, 0), (.aload_n 0, 0, 0, 0), (.getfield 130, 55, 9, 2), (.iload_n 1, 1, 0, 0), (.iconst 0, 5, 0, 0)], [(.bastore, 0, 0, 0), (.aload_n 0, 0, 0, 0), (.getfield 133, 56, 9, 2), (.iload_n 1, 1, 0, 0), (.iconst 0, 5, 0, 0), (.bastore, 0, 0, 0), (.iinc 1 1, 1, 4, 0), (.goto (-38), 96, 0, 0), (.aload_n 0, 0, 0, 0), (.lconst 0, 0, 0, 0), (.putfield 387, 44, 9, 1), (.aload_n 0, 0, 0, 0), (.iconst 0, 5, 0, 0), (.putfield 391, 45, 9, 0), (.aload_n 0, 0, 0, 0), (.iconst 0, 5, 0, 0)], [(.putfield 394, 46, 9, 0), (.aload_n 0, 0, 0, 0), (.iconst 0, 5, 0, 0), (.putfield 397, 47, 9, 0), (.return_, 0, 0, 0)]]
/-- 133: ScanChartModel.reset()V -/
def am_c133 : List (List am_Ins) := [[(.aload_n 0, 0, 0, 0), (.iconst 0, 5, 0, 0), (.putfield 145, 0, 9, 0), (.aload_n 0, 0, 0, 0), (.invokevirtual 142, 132, 1, 9), (.return_, 0, 0, 0)]]
/-- 134: ScanChartModel.cell(II)I -/
def am_c134 : List (List am_Ins) := [[(.iload_n 1, 1, 0, 0), (.tableswitch 109 0 8 #[51, 53, 60, 67, 74, 81, 88, 95, 102], 8, 5, 0), (.iload_n 2, 2, 0, 0), (.ireturn, 0, 0, 0), (.aload_n 0, 0, 0, 0), (.getfield 78, 34, 9, 2), (.iload_n 2, 2, 0, 0), (.iaload, 0, 0, 0), (.ireturn, 0, 0, 0), (.aload_n 0, 0, 0, 0), (.getfield 81, 35, 9, 2), (.iload_n 2, 2, 0, 0), (.iaload, 0, 0, 0), (.ireturn, 0, 0, 0), (.aload_n 0, 0, 0, 0), (.getfield 84, 36, 9, 2)], [(.iload_n 2, 2, 0, 0), (.iaload, 0, 0, 0), (.ireturn, 0, 0, 0), (.aload_n 0, 0, 0, 0), (.getfield 87, 37, 9, 2), (.iload_n 2, 2, 0, 0), (.iaload, 0, 0, 0), (.ireturn, 0, 0, 0), (.aload_n 0, 0, 0, 0), (.getfield 93, 39, 9, 2), (.iload_n 2, 2, 0, 0), (.iaload, 0, 0, 0), (.ireturn, 0, 0, 0), (.aload_n 0, 0, 0, 0), (.getfield 90, 38, 9, 2), (.iload_n 2, 2, 0, 0)], [(.iaload, 0, 0, 0), (.ireturn, 0, 0, 0), (.aload_n 0, 0, 0, 0), (.getfield 99, 41, 9, 2), (.iload_n 2, 2, 0, 0), (.iaload, 0, 0, 0), (.ireturn, 0, 0, 0), (.aload_n 0, 0, 0, 0), (.getfield 96, 40, 9, 2), (.iload_n 2, 2, 0, 0), (.iaload, 0, 0, 0), (.ireturn, 0, 0, 0), (.aload_n 0, 0, 0, 0), (.getfield 102, 42, 9, 2), (.iload_n 2, 2, 0, 0), (.iaload, 0, 0, 0)], [(.ireturn, 0, 0, 0)]]
/-- 135: ScanChartModel.setBit(III)V -/
def am_c135 : List (List am_Ins) := [[(.iload_n 1, 1, 0, 0), (.iconst 2, 13, 0, 0), (.if_icmp .ne 13, 9, 0, 0), (.aload_n 0, 0, 0, 0), (.getfield 81, 35, 9, 2), (.iload_n 2, 2, 0, 0), (.iload_n 3, 3, 0, 0), (.iastore, 0, 0, 0), (.goto 10, 14, 0, 0), (.aload_n 0, 0, 0, 0), (.getfield 84, 36, 9, 2), (.iload_n 2, 2, 0, 0), (.iload_n 3, 3, 0, 0), (.iastore, 0, 0, 0), (.return_, 0, 0, 0)]]
/-- 136: ScanChartModel.past(JI)I -/
def am_c136 : List (List am_Ins) := [[(.aload_n 0, 0, 0, 0), (.getfield 387, 44, 9, 1), (.lload_n 1, 1, 0, 0), (.lsub, 0, 0, 0), (.lstore 4, 4, 0, 0), (.lload 4, 4, 0, 0), (.iload_n 3, 3, 0, 0), (.i2l, 0, 0, 0), (.lcmp, 0, 0, 0), (.ifCond .ge 9, 13, 0, 0), (.lload 4, 4, 0, 0), (.l2i, 0, 0, 0), (.goto 4, 14, 0, 0), (.iload_n 3, 3, 0, 0), (.ireturn, 0, 0, 0)]]
/-- 137: ScanChartModel.timer(III)V -/
def am_c137 : List (List am_Ins) := [[(.aload_n 0, 0, 0, 0), (.getfield 400, 60, 9, 0), (.ifCond .eq 7, 5, 0, 0), (.iconst 1, 4, 0, 0), (.goto 4, 6, 0, 0), (.iconst 0, 5, 0, 0), (.istore 4, 4, 0, 0), (.aload_n 0, 0, 0, 0), (.getfield 90, 38, 9, 2), (.iload_n 2, 2, 0, 0), (.iconst 0, 5, 0, 0), (.iastore, 0, 0, 0), (.aload_n 0, 0, 0, 0), (.getfield 93, 39, 9, 2), (.iload_n 2, 2, 0, 0), (.iconst 0, 5, 0, 0)], [(.iastore, 0, 0, 0), (.iload_n 1, 1, 0, 0), (.bipush 22, 58, 0, 0), (.if_icmp .ne 90, 69, 0, 0), (.aload_n 0, 0, 0, 0), (.getfield 108, 48, 9, 2), (.iload_n 2, 2, 0, 0), (.iload 4, 4, 0, 0), (.ifCond .ne 9, 27, 0, 0), (.ldc2_w 385, 1, 0, 0), (.goto 27, 41, 0, 0), (.aload_n 0, 0, 0, 0), (.getfield 108, 48, 9, 2), (.iload_n 2, 2, 0, 0), (.laload, 0, 0, 0), (.lconst 0, 0, 0, 0)], [(.lcmp, 0, 0, 0), (.ifCond .ge 10, 37, 0, 0), (.aload_n 0, 0, 0, 0), (.getfield 387, 44, 9, 1), (.goto 9, 41, 0, 0), (.aload_n 0, 0, 0, 0), (.getfield 108, 48, 9, 2), (.iload_n 2, 2, 0, 0), (.laload, 0, 0, 0), (.lastore, 0, 0, 0), (.iload 4, 4, 0, 0), (.ifCond .eq 322, 230, 0, 0), (.aload_n 0, 0, 0, 0), (.getfield 90, 38, 9, 2), (.iload_n 2, 2, 0, 0), (.aload_n 0, 0, 0, 0)], [(.aload_n 0, 0, 0, 0), (.getfield 108, 48, 9, 2), (.iload_n 2, 2, 0, 0), (.laload, 0, 0, 0), (.iload_n 3, 3, 0, 0), (.invokevirtual 403, 136, 3, 9), (.iastore, 0, 0, 0), (.aload_n 0, 0, 0, 0), (.getfield 93, 39, 9, 2), (.iload_n 2, 2, 0, 0), (.aload_n 0, 0, 0, 0), (.getfield 90, 38, 9, 2), (.iload_n 2, 2, 0, 0), (.iaload, 0, 0, 0), (.iload_n 3, 3, 0, 0), (.if_icmp .ne 7, 66, 0, 0)], [(.iconst 1, 4, 0, 0), (.goto 4, 67, 0, 0), (.iconst 0, 5, 0, 0), (.iastore, 0, 0, 0), (.goto 281, 230, 0, 0), (.iload_n 1, 1, 0, 0), (.bipush 23, 59, 0, 0), (.if_icmp .ne 143, 151, 0, 0), (.aload_n 0, 0, 0, 0), (.getfield 112, 49, 9, 2), (.iload_n 2, 2, 0, 0), (.aload_n 0, 0, 0, 0), (.getfield 112, 49, 9, 2), (.iload_n 2, 2, 0, 0), (.baload, 0, 0, 0), (.ifCond .ne 8, 82, 0, 0)], [(.iload 4, 4, 0, 0), (.ifCond .eq 7, 84, 0, 0), (.iconst 1, 4, 0, 0), (.goto 4, 85, 0, 0), (.iconst 0, 5, 0, 0), (.bastore, 0, 0, 0), (.aload_n 0, 0, 0, 0), (.getfield 115, 50, 9, 2), (.iload_n 2, 2, 0, 0), (.iload 4, 4, 0, 0), (.ifCond .eq 9, 93, 0, 0), (.ldc2_w 385, 1, 0, 0), (.goto 36, 112, 0, 0), (.aload_n 0, 0, 0, 0), (.getfield 115, 50, 9, 2), (.iload_n 2, 2, 0, 0)], [(.laload, 0, 0, 0), (.lconst 0, 0, 0, 0), (.lcmp, 0, 0, 0), (.ifCond .ge 19, 108, 0, 0), (.aload_n 0, 0, 0, 0), (.getfield 112, 49, 9, 2), (.iload_n 2, 2, 0, 0), (.baload, 0, 0, 0), (.ifCond .eq 10, 108, 0, 0), (.aload_n 0, 0, 0, 0), (.getfield 387, 44, 9, 1), (.goto 9, 112, 0, 0), (.aload_n 0, 0, 0, 0), (.getfield 115, 50, 9, 2), (.iload_n 2, 2, 0, 0), (.laload, 0, 0, 0)], [(.lastore, 0, 0, 0), (.iload 4, 4, 0, 0), (.ifCond .eq 13, 121, 0, 0), (.aload_n 0, 0, 0, 0), (.getfield 93, 39, 9, 2), (.iload_n 2, 2, 0, 0), (.iconst 1, 4, 0, 0), (.iastore, 0, 0, 0), (.goto 185, 230, 0, 0), (.aload_n 0, 0, 0, 0), (.getfield 112, 49, 9, 2), (.iload_n 2, 2, 0, 0), (.baload, 0, 0, 0), (.ifCond .eq 176, 230, 0, 0), (.aload_n 0, 0, 0, 0), (.getfield 90, 38, 9, 2)], [(.iload_n 2, 2, 0, 0), (.aload_n 0, 0, 0, 0), (.aload_n 0, 0, 0, 0), (.getfield 115, 50, 9, 2), (.iload_n 2, 2, 0, 0), (.laload, 0, 0, 0), (.iload_n 3, 3, 0, 0), (.invokevirtual 403, 136, 3, 9), (.iastore, 0, 0, 0), (.aload_n 0, 0, 0, 0), (.getfield 93, 39, 9, 2), (.iload_n 2, 2, 0, 0), (.aload_n 0, 0, 0, 0), (.getfield 90, 38, 9, 2), (.iload_n 2, 2, 0, 0), (.iaload, 0, 0, 0)], [(.iload_n 3, 3, 0, 0), (.if_icmp .ge 7, 148, 0, 0), (.iconst 1, 4, 0, 0), (.goto 4, 149, 0, 0), (.iconst 0, 5, 0, 0), (.iastore, 0, 0, 0), (.goto 135, 230, 0, 0), (.aload_n 0, 0, 0, 0), (.getfield 118, 51, 9, 2), (.iload_n 2, 2, 0, 0), (.iload 4, 4, 0, 0), (.ifCond .eq 30, 171, 0, 0), (.aload_n 0, 0, 0, 0), (.getfield 118, 51, 9, 2), (.iload_n 2, 2, 0, 0), (.laload, 0, 0, 0)], [(.lconst 0, 0, 0, 0), (.lcmp, 0, 0, 0), (.ifCond .ge 19, 171, 0, 0), (.aload_n 0, 0, 0, 0), (.getfield 121, 52, 9, 2), (.iload_n 2, 2, 0, 0), (.baload, 0, 0, 0), (.ifCond .ne 10, 171, 0, 0), (.aload_n 0, 0, 0, 0), (.getfield 387, 44, 9, 1), (.goto 9, 175, 0, 0), (.aload_n 0, 0, 0, 0), (.getfield 118, 51, 9, 2), (.iload_n 2, 2, 0, 0), (.laload, 0, 0, 0), (.lastore, 0, 0, 0)], [(.aload_n 0, 0, 0, 0), (.getfield 121, 52, 9, 2), (.iload_n 2, 2, 0, 0), (.iload 4, 4, 0, 0), (.bastore, 0, 0, 0), (.aload_n 0, 0, 0, 0), (.getfield 118, 51, 9, 2), (.iload_n 2, 2, 0, 0), (.laload, 0, 0, 0), (.lconst 0, 0, 0, 0), (.lcmp, 0, 0, 0), (.ifCond .lt 72, 230, 0, 0), (.aload_n 0, 0, 0, 0), (.getfield 90, 38, 9, 2), (.iload_n 2, 2, 0, 0), (.aload_n 0, 0, 0, 0)], [(.aload_n 0, 0, 0, 0), (.getfield 118, 51, 9, 2), (.iload_n 2, 2, 0, 0), (.laload, 0, 0, 0), (.iload_n 3, 3, 0, 0), (.invokevirtual 403, 136, 3, 9), (.iastore, 0, 0, 0), (.aload_n 0, 0, 0, 0), (.getfield 93, 39, 9, 2), (.iload_n 2, 2, 0, 0), (.aload_n 0, 0, 0, 0), (.getfield 90, 38, 9, 2), (.iload_n 2, 2, 0, 0), (.iaload, 0, 0, 0), (.iload_n 3, 3, 0, 0), (.if_icmp .ge 7, 210, 0, 0)], [(.iconst 1, 4, 0, 0), (.goto 4, 211, 0, 0), (.iconst 0, 5, 0, 0), (.iastore, 0, 0, 0), (.aload_n 0, 0, 0, 0), (.getfield 90, 38, 9, 2), (.iload_n 2, 2, 0, 0), (.iaload, 0, 0, 0), (.iload_n 3, 3, 0, 0), (.if_icmp .ne 24, 230, 0, 0), (.iload 4, 4, 0, 0), (.ifCond .ne 19, 230, 0, 0), (.aload_n 0, 0, 0, 0), (.getfield 118, 51, 9, 2), (.iload_n 2, 2, 0, 0), (.ldc2_w 385, 1, 0, 0)], [(.lastore, 0, 0, 0), (.aload_n 0, 0, 0, 0), (.getfield 90, 38, 9, 2), (.iload_n 2, 2, 0, 0), (.iconst 0, 5, 0, 0), (.iastore, 0, 0, 0), (.aload_n 0, 0, 0, 0), (.aload_n 0, 0, 0, 0), (.getfield 93, 39, 9, 2), (.iload_n 2, 2, 0, 0), (.iaload, 0, 0, 0), (.putfield 400, 60, 9, 0), (.return_, 0, 0, 0)]]
/-- 138: ScanChartModel.counter(III)V -/
def am_c138 : List (List am_Ins) := [[(.aload_n 0, 0, 0, 0), (.getfield 400, 60, 9, 0), (.ifCond .eq 7, 5, 0, 0), (.iconst 1, 4, 0, 0), (.goto 4, 6, 0, 0), (.iconst 0, 5, 0, 0), (.istore 4, 4, 0, 0), (.iload_n 1, 1, 0, 0), (.bipush 25, 61, 0, 0), (.if_icmp .ne 84, 57, 0, 0), (.aload_n 0, 0, 0, 0), (.getfield 96, 40, 9, 2), (.iload_n 2, 2, 0, 0), (.iload 4, 4, 0, 0), (.ifCond .eq 35, 33, 0, 0), (.aload_n 0, 0, 0, 0)], [(.getfield 124, 53, 9, 2), (.iload_n 2, 2, 0, 0), (.baload, 0, 0, 0), (.ifCond .ne 26, 33, 0, 0), (.aload_n 0, 0, 0, 0), (.getfield 96, 40, 9, 2), (.iload_n 2, 2, 0, 0), (.iaload, 0, 0, 0), (.sipush 32767, 19, 0, 0), (.if_icmp .ge 14, 33, 0, 0), (.aload_n 0, 0, 0, 0), (.getfield 96, 40, 9, 2), (.iload_n 2, 2, 0, 0), (.iaload, 0, 0, 0), (.iconst 1, 4, 0, 0), (.iadd, 0, 0, 0)], [(.goto 9, 37, 0, 0), (.aload_n 0, 0, 0, 0), (.getfield 96, 40, 9, 2), (.iload_n 2, 2, 0, 0), (.iaload, 0, 0, 0), (.iastore, 0, 0, 0), (.aload_n 0, 0, 0, 0), (.getfield 124, 53, 9, 2), (.iload_n 2, 2, 0, 0), (.iload 4, 4, 0, 0), (.bastore, 0, 0, 0), (.aload_n 0, 0, 0, 0), (.getfield 99, 41, 9, 2), (.iload_n 2, 2, 0, 0), (.aload_n 0, 0, 0, 0), (.getfield 96, 40, 9, 2)], [(.iload_n 2, 2, 0, 0), (.iaload, 0, 0, 0), (.iload_n 3, 3, 0, 0), (.if_icmp .lt 7, 54, 0, 0), (.iconst 1, 4, 0, 0), (.goto 4, 55, 0, 0), (.iconst 0, 5, 0, 0), (.iastore, 0, 0, 0), (.goto 80, 102, 0, 0), (.aload_n 0, 0, 0, 0), (.getfield 96, 40, 9, 2), (.iload_n 2, 2, 0, 0), (.iload 4, 4, 0, 0), (.ifCond .eq 35, 80, 0, 0), (.aload_n 0, 0, 0, 0), (.getfield 127, 54, 9, 2)], [(.iload_n 2, 2, 0, 0), (.baload, 0, 0, 0), (.ifCond .ne 26, 80, 0, 0), (.aload_n 0, 0, 0, 0), (.getfield 96, 40, 9, 2), (.iload_n 2, 2, 0, 0), (.iaload, 0, 0, 0), (.sipush (-32768), 20, 0, 0), (.if_icmp .le 14, 80, 0, 0), (.aload_n 0, 0, 0, 0), (.getfield 96, 40, 9, 2), (.iload_n 2, 2, 0, 0), (.iaload, 0, 0, 0), (.iconst 1, 4, 0, 0), (.isub, 0, 0, 0), (.goto 9, 84, 0, 0)], [(.aload_n 0, 0, 0, 0), (.getfield 96, 40, 9, 2), (.iload_n 2, 2, 0, 0), (.iaload, 0, 0, 0), (.iastore, 0, 0, 0), (.aload_n 0, 0, 0, 0), (.getfield 127, 54, 9, 2), (.iload_n 2, 2, 0, 0), (.iload 4, 4, 0, 0), (.bastore, 0, 0, 0), (.aload_n 0, 0, 0, 0), (.getfield 99, 41, 9, 2), (.iload_n 2, 2, 0, 0), (.aload_n 0, 0, 0, 0), (.getfield 96, 40, 9, 2), (.iload_n 2, 2, 0, 0)], [(.iaload, 0, 0, 0), (.ifCond .gt 7, 100, 0, 0), (.iconst 1, 4, 0, 0), (.goto 4, 101, 0, 0), (.iconst 0, 5, 0, 0), (.iastore, 0, 0, 0), (.aload_n 0, 0, 0, 0), (.aload_n 0, 0, 0, 0), (.getfield 99, 41, 9, 2), (.iload_n 2, 2, 0, 0), (.iaload, 0, 0, 0), (.putfield 400, 60, 9, 0), (.return_, 0, 0, 0)]]
/-- 139: ScanChartModel.edge(II)V -/
def am_c139 : List (List am_Ins) := [[(.aload_n 0, 0, 0, 0), (.getfield 400, 60, 9, 0), (.ifCond .eq 7, 5, 0, 0), (.iconst 1, 4, 0, 0), (.goto 4, 6, 0, 0), (.iconst 0, 5, 0, 0), (.istore_n 3, 3, 0, 0), (.iload_n 1, 1, 0, 0), (.bipush 28, 56, 0, 0), (.if_icmp .ne 35, 28, 0, 0), (.aload_n 0, 0, 0, 0), (.iload_n 3, 3, 0, 0), (.ifCond .eq 16, 20, 0, 0), (.aload_n 0, 0, 0, 0), (.getfield 130, 55, 9, 2), (.iload_n 2, 2, 0, 0)], [(.baload, 0, 0, 0), (.ifCond .ne 7, 20, 0, 0), (.iconst 1, 4, 0, 0), (.goto 4, 21, 0, 0), (.iconst 0, 5, 0, 0), (.putfield 400, 60, 9, 0), (.aload_n 0, 0, 0, 0), (.getfield 130, 55, 9, 2), (.iload_n 2, 2, 0, 0), (.iload_n 3, 3, 0, 0), (.bastore, 0, 0, 0), (.goto 32, 45, 0, 0), (.aload_n 0, 0, 0, 0), (.iload_n 3, 3, 0, 0), (.ifCond .ne 16, 38, 0, 0), (.aload_n 0, 0, 0, 0)], [(.getfield 133, 56, 9, 2), (.iload_n 2, 2, 0, 0), (.baload, 0, 0, 0), (.ifCond .eq 7, 38, 0, 0), (.iconst 1, 4, 0, 0), (.goto 4, 39, 0, 0), (.iconst 0, 5, 0, 0), (.putfield 400, 60, 9, 0), (.aload_n 0, 0, 0, 0), (.getfield 133, 56, 9, 2), (.iload_n 2, 2, 0, 0), (.iload_n 3, 3, 0, 0), (.bastore, 0, 0, 0), (.return_, 0, 0, 0)]]
/-- 140: ScanChartModel.truth(Z)I -/
def am_c140 : List (List am_Ins) := [[(.iload_n 0, 0, 0, 0), (.ifCond .eq 7, 4, 0, 0), (.iconst 1, 4, 0, 0), (.goto 4, 5, 0, 0), (.iconst 0, 5, 0, 0), (.ireturn, 0, 0, 0)]]
/-- 141: ScanChartModel.made(III)I -/
def am_c141 : List (List am_Ins) := [[(.iload_n 0, 0, 0, 0), (.tableswitch 169 0 12 #[67, 71, 75, 79, 83, 87, 91, 95, 99, 113, 127, 141, 155], 9, 5, 0), (.iload_n 1, 1, 0, 0), (.iload_n 2, 2, 0, 0), (.iand, 0, 0, 0), (.ireturn, 0, 0, 0), (.iload_n 1, 1, 0, 0), (.iload_n 2, 2, 0, 0), (.ior, 0, 0, 0), (.ireturn, 0, 0, 0), (.iload_n 1, 1, 0, 0), (.iload_n 2, 2, 0, 0), (.ixor, 0, 0, 0), (.ireturn, 0, 0, 0), (.iload_n 1, 1, 0, 0), (.iload_n 2, 2, 0, 0)], [(.iadd, 0, 0, 0), (.ireturn, 0, 0, 0), (.iload_n 1, 1, 0, 0), (.iload_n 2, 2, 0, 0), (.isub, 0, 0, 0), (.ireturn, 0, 0, 0), (.iload_n 1, 1, 0, 0), (.iload_n 2, 2, 0, 0), (.imul, 0, 0, 0), (.ireturn, 0, 0, 0), (.iload_n 1, 1, 0, 0), (.iload_n 2, 2, 0, 0), (.idiv, 0, 0, 0), (.ireturn, 0, 0, 0), (.iload_n 1, 1, 0, 0), (.iload_n 2, 2, 0, 0)], [(.irem, 0, 0, 0), (.ireturn, 0, 0, 0), (.iload_n 1, 1, 0, 0), (.iload_n 2, 2, 0, 0), (.if_icmp .le 7, 39, 0, 0), (.iconst 1, 4, 0, 0), (.goto 4, 40, 0, 0), (.iconst 0, 5, 0, 0), (.invokestatic 407, 140, 1, 0), (.ireturn, 0, 0, 0), (.iload_n 1, 1, 0, 0), (.iload_n 2, 2, 0, 0), (.if_icmp .lt 7, 47, 0, 0), (.iconst 1, 4, 0, 0), (.goto 4, 48, 0, 0), (.iconst 0, 5, 0, 0)], [(.invokestatic 407, 140, 1, 0), (.ireturn, 0, 0, 0), (.iload_n 1, 1, 0, 0), (.iload_n 2, 2, 0, 0), (.if_icmp .ne 7, 55, 0, 0), (.iconst 1, 4, 0, 0), (.goto 4, 56, 0, 0), (.iconst 0, 5, 0, 0), (.invokestatic 407, 140, 1, 0), (.ireturn, 0, 0, 0), (.iload_n 1, 1, 0, 0), (.iload_n 2, 2, 0, 0), (.if_icmp .eq 7, 63, 0, 0), (.iconst 1, 4, 0, 0), (.goto 4, 64, 0, 0), (.iconst 0, 5, 0, 0)], [(.invokestatic 407, 140, 1, 0), (.ireturn, 0, 0, 0), (.iload_n 1, 1, 0, 0), (.iload_n 2, 2, 0, 0), (.if_icmp .gt 7, 71, 0, 0), (.iconst 1, 4, 0, 0), (.goto 4, 72, 0, 0), (.iconst 0, 5, 0, 0), (.invokestatic 407, 140, 1, 0), (.ireturn, 0, 0, 0), (.iload_n 1, 1, 0, 0), (.iload_n 2, 2, 0, 0), (.if_icmp .ge 7, 79, 0, 0), (.iconst 1, 4, 0, 0), (.goto 4, 80, 0, 0), (.iconst 0, 5, 0, 0)], [(.invokestatic 407, 140, 1, 0), (.ireturn, 0, 0, 0)]]
/-- 142: ScanChartModel.join(III)I -/
def am_c142 : List (List am_Ins) := [[(.iload_n 1, 1, 0, 0), (.bipush 6, 0, 0, 0), (.if_icmp .eq 9, 6, 0, 0), (.iload_n 1, 1, 0, 0), (.bipush 7, 45, 0, 0), (.if_icmp .ne 9, 10, 0, 0), (.iload_n 3, 3, 0, 0), (.ifCond .ne 5, 10, 0, 0), (.iconst 2, 13, 0, 0), (.ireturn, 0, 0, 0), (.aload_n 0, 0, 0, 0), (.iload_n 1, 1, 0, 0), (.iload_n 2, 2, 0, 0), (.iload_n 3, 3, 0, 0), (.invokestatic 411, 141, 3, 0), (.putfield 400, 60, 9, 0)], [(.iconst 0, 5, 0, 0), (.ireturn, 0, 0, 0)]]
/-- 143: ScanChartModel.signed(I)I -/
def am_c143 : List (List am_Ins) := [[(.aload_n 0, 0, 0, 0), (.getfield 20, 6, 9, 2), (.iload_n 1, 1, 0, 0), (.iaload, 0, 0, 0), (.iconst 2, 13, 0, 0), (.if_icmp .lt 43, 30, 0, 0), (.aload_n 0, 0, 0, 0), (.getfield 136, 57, 9, 2), (.aload_n 0, 0, 0, 0), (.getfield 414, 59, 9, 0), (.aload_n 0, 0, 0, 0), (.getfield 400, 60, 9, 0), (.iastore, 0, 0, 0), (.aload_n 0, 0, 0, 0), (.getfield 139, 58, 9, 2), (.aload_n 0, 0, 0, 0)], [(.getfield 414, 59, 9, 0), (.iload_n 1, 1, 0, 0), (.iastore, 0, 0, 0), (.aload_n 0, 0, 0, 0), (.dup, 0, 0, 0), (.getfield 414, 59, 9, 0), (.iconst 1, 4, 0, 0), (.iadd, 0, 0, 0), (.putfield 414, 59, 9, 0), (.aload_n 0, 0, 0, 0), (.iconst 0, 5, 0, 0), (.putfield 400, 60, 9, 0), (.iconst 0, 5, 0, 0), (.ireturn, 0, 0, 0), (.aload_n 0, 0, 0, 0), (.aload_n 0, 0, 0, 0)], [(.getfield 23, 7, 9, 2), (.iload_n 1, 1, 0, 0), (.iaload, 0, 0, 0), (.aload_n 0, 0, 0, 0), (.getfield 26, 8, 9, 2), (.iload_n 1, 1, 0, 0), (.iaload, 0, 0, 0), (.invokevirtual 417, 134, 3, 9), (.istore_n 2, 2, 0, 0), (.aload_n 0, 0, 0, 0), (.aload_n 0, 0, 0, 0), (.getfield 17, 5, 9, 2), (.iload_n 1, 1, 0, 0), (.iaload, 0, 0, 0), (.aload_n 0, 0, 0, 0), (.getfield 400, 60, 9, 0)], [(.aload_n 0, 0, 0, 0), (.getfield 20, 6, 9, 2), (.iload_n 1, 1, 0, 0), (.iaload, 0, 0, 0), (.iconst 1, 4, 0, 0), (.if_icmp .ne 18, 61, 0, 0), (.iload_n 2, 2, 0, 0), (.ifCond .ne 7, 58, 0, 0), (.iconst 1, 4, 0, 0), (.goto 4, 59, 0, 0), (.iconst 0, 5, 0, 0), (.invokestatic 407, 140, 1, 0), (.goto 4, 62, 0, 0), (.iload_n 2, 2, 0, 0), (.invokevirtual 420, 142, 4, 9), (.ireturn, 0, 0, 0)]]
/-- 144: ScanChartModel.close()I -/
def am_c144 : List (List am_Ins) := [[(.aload_n 0, 0, 0, 0), (.dup, 0, 0, 0), (.getfield 414, 59, 9, 0), (.iconst 1, 4, 0, 0), (.isub, 0, 0, 0), (.putfield 414, 59, 9, 0), (.aload_n 0, 0, 0, 0), (.getfield 139, 58, 9, 2), (.aload_n 0, 0, 0, 0), (.getfield 414, 59, 9, 0), (.iaload, 0, 0, 0), (.istore_n 1, 1, 0, 0), (.aload_n 0, 0, 0, 0), (.aload_n 0, 0, 0, 0), (.getfield 17, 5, 9, 2), (.iload_n 1, 1, 0, 0)], [(.iaload, 0, 0, 0), (.aload_n 0, 0, 0, 0), (.getfield 136, 57, 9, 2), (.aload_n 0, 0, 0, 0), (.getfield 414, 59, 9, 0), (.iaload, 0, 0, 0), (.aload_n 0, 0, 0, 0), (.getfield 20, 6, 9, 2), (.iload_n 1, 1, 0, 0), (.iaload, 0, 0, 0), (.iconst 3, 3, 0, 0), (.if_icmp .ne 21, 36, 0, 0), (.aload_n 0, 0, 0, 0), (.getfield 400, 60, 9, 0), (.ifCond .ne 7, 33, 0, 0), (.iconst 1, 4, 0, 0)], [(.goto 4, 34, 0, 0), (.iconst 0, 5, 0, 0), (.invokestatic 407, 140, 1, 0), (.goto 7, 38, 0, 0), (.aload_n 0, 0, 0, 0), (.getfield 400, 60, 9, 0), (.invokevirtual 420, 142, 4, 9), (.ireturn, 0, 0, 0)]]
/-- 145: ScanChartModel.store(I)V -/
def am_c145 : List (List am_Ins) := [[(.aload_n 0, 0, 0, 0), (.getfield 17, 5, 9, 2), (.iload_n 1, 1, 0, 0), (.iaload, 0, 0, 0), (.bipush 15, 35, 0, 0), (.if_icmp .ne 59, 36, 0, 0), (.aload_n 0, 0, 0, 0), (.getfield 23, 7, 9, 2), (.iload_n 1, 1, 0, 0), (.iaload, 0, 0, 0), (.iconst 4, 6, 0, 0), (.if_icmp .ne 49, 36, 0, 0), (.aload_n 0, 0, 0, 0), (.getfield 87, 37, 9, 2), (.aload_n 0, 0, 0, 0), (.getfield 26, 8, 9, 2)], [(.iload_n 1, 1, 0, 0), (.iaload, 0, 0, 0), (.aload_n 0, 0, 0, 0), (.getfield 20, 6, 9, 2), (.iload_n 1, 1, 0, 0), (.iaload, 0, 0, 0), (.iconst 1, 4, 0, 0), (.if_icmp .ne 21, 32, 0, 0), (.aload_n 0, 0, 0, 0), (.getfield 400, 60, 9, 0), (.ifCond .ne 7, 29, 0, 0), (.iconst 1, 4, 0, 0), (.goto 4, 30, 0, 0), (.iconst 0, 5, 0, 0), (.invokestatic 407, 140, 1, 0), (.goto 7, 34, 0, 0)], [(.aload_n 0, 0, 0, 0), (.getfield 400, 60, 9, 0), (.iastore, 0, 0, 0), (.goto 115, 96, 0, 0), (.aload_n 0, 0, 0, 0), (.getfield 17, 5, 9, 2), (.iload_n 1, 1, 0, 0), (.iaload, 0, 0, 0), (.bipush 15, 35, 0, 0), (.if_icmp .ne 65, 74, 0, 0), (.aload_n 0, 0, 0, 0), (.aload_n 0, 0, 0, 0), (.getfield 23, 7, 9, 2), (.iload_n 1, 1, 0, 0), (.iaload, 0, 0, 0), (.aload_n 0, 0, 0, 0)], [(.getfield 26, 8, 9, 2), (.iload_n 1, 1, 0, 0), (.iaload, 0, 0, 0), (.aload_n 0, 0, 0, 0), (.getfield 20, 6, 9, 2), (.iload_n 1, 1, 0, 0), (.iaload, 0, 0, 0), (.iconst 1, 4, 0, 0), (.if_icmp .ne 21, 65, 0, 0), (.aload_n 0, 0, 0, 0), (.getfield 400, 60, 9, 0), (.ifCond .ne 7, 62, 0, 0), (.iconst 1, 4, 0, 0), (.goto 4, 63, 0, 0), (.iconst 0, 5, 0, 0), (.invokestatic 407, 140, 1, 0)], [(.goto 18, 72, 0, 0), (.aload_n 0, 0, 0, 0), (.getfield 400, 60, 9, 0), (.ifCond .eq 7, 70, 0, 0), (.iconst 1, 4, 0, 0), (.goto 4, 71, 0, 0), (.iconst 0, 5, 0, 0), (.invokestatic 407, 140, 1, 0), (.invokevirtual 423, 135, 4, 9), (.goto 42, 96, 0, 0), (.aload_n 0, 0, 0, 0), (.getfield 400, 60, 9, 0), (.ifCond .eq 35, 96, 0, 0), (.aload_n 0, 0, 0, 0), (.aload_n 0, 0, 0, 0), (.getfield 23, 7, 9, 2)], [(.iload_n 1, 1, 0, 0), (.iaload, 0, 0, 0), (.aload_n 0, 0, 0, 0), (.getfield 26, 8, 9, 2), (.iload_n 1, 1, 0, 0), (.iaload, 0, 0, 0), (.aload_n 0, 0, 0, 0), (.getfield 17, 5, 9, 2), (.iload_n 1, 1, 0, 0), (.iaload, 0, 0, 0), (.bipush 16, 7, 0, 0), (.if_icmp .ne 7, 94, 0, 0), (.iconst 1, 4, 0, 0), (.goto 4, 95, 0, 0), (.iconst 0, 5, 0, 0), (.invokevirtual 423, 135, 4, 9)], [(.return_, 0, 0, 0)]]
/-- 146: ScanChartModel.act(I)I -/
def am_c146 : List (List am_Ins) := [[(.aload_n 0, 0, 0, 0), (.getfield 17, 5, 9, 2), (.iload_n 1, 1, 0, 0), (.iaload, 0, 0, 0), (.istore_n 2, 2, 0, 0), (.iload_n 2, 2, 0, 0), (.bipush 14, 54, 0, 0), (.if_icmp .ge 9, 12, 0, 0), (.aload_n 0, 0, 0, 0), (.iload_n 1, 1, 0, 0), (.invokevirtual 427, 143, 2, 9), (.ireturn, 0, 0, 0), (.iload_n 2, 2, 0, 0), (.bipush 14, 54, 0, 0), (.if_icmp .ne 53, 43, 0, 0), (.aload_n 0, 0, 0, 0)], [(.aload_n 0, 0, 0, 0), (.getfield 23, 7, 9, 2), (.iload_n 1, 1, 0, 0), (.iaload, 0, 0, 0), (.aload_n 0, 0, 0, 0), (.getfield 26, 8, 9, 2), (.iload_n 1, 1, 0, 0), (.iaload, 0, 0, 0), (.invokevirtual 417, 134, 3, 9), (.istore_n 3, 3, 0, 0), (.aload_n 0, 0, 0, 0), (.aload_n 0, 0, 0, 0), (.getfield 20, 6, 9, 2), (.iload_n 1, 1, 0, 0), (.iaload, 0, 0, 0), (.iconst 1, 4, 0, 0)], [(.if_icmp .ne 18, 40, 0, 0), (.iload_n 3, 3, 0, 0), (.ifCond .ne 7, 37, 0, 0), (.iconst 1, 4, 0, 0), (.goto 4, 38, 0, 0), (.iconst 0, 5, 0, 0), (.invokestatic 407, 140, 1, 0), (.goto 4, 41, 0, 0), (.iload_n 3, 3, 0, 0), (.putfield 400, 60, 9, 0), (.goto 161, 129, 0, 0), (.iload_n 2, 2, 0, 0), (.bipush 17, 55, 0, 0), (.if_icmp .gt 11, 50, 0, 0), (.aload_n 0, 0, 0, 0), (.iload_n 1, 1, 0, 0)], [(.invokevirtual 430, 145, 2, 9), (.goto 147, 129, 0, 0), (.iload_n 2, 2, 0, 0), (.bipush 18, 65, 0, 0), (.if_icmp .ne 8, 56, 0, 0), (.aload_n 0, 0, 0, 0), (.invokevirtual 433, 144, 1, 9), (.ireturn, 0, 0, 0), (.iload_n 2, 2, 0, 0), (.bipush 19, 66, 0, 0), (.if_icmp .ne 25, 69, 0, 0), (.aload_n 0, 0, 0, 0), (.aload_n 0, 0, 0, 0), (.getfield 400, 60, 9, 0), (.ifCond .ne 7, 65, 0, 0), (.iconst 1, 4, 0, 0)], [(.goto 4, 66, 0, 0), (.iconst 0, 5, 0, 0), (.invokestatic 407, 140, 1, 0), (.putfield 400, 60, 9, 0), (.goto 108, 129, 0, 0), (.iload_n 2, 2, 0, 0), (.bipush 24, 60, 0, 0), (.if_icmp .gt 23, 84, 0, 0), (.aload_n 0, 0, 0, 0), (.iload_n 2, 2, 0, 0), (.aload_n 0, 0, 0, 0), (.getfield 26, 8, 9, 2), (.iload_n 1, 1, 0, 0), (.iaload, 0, 0, 0), (.aload_n 0, 0, 0, 0), (.getfield 29, 9, 9, 2)], [(.iload_n 1, 1, 0, 0), (.iaload, 0, 0, 0), (.invokevirtual 436, 137, 4, 9), (.goto 82, 129, 0, 0), (.iload_n 2, 2, 0, 0), (.bipush 26, 62, 0, 0), (.if_icmp .gt 23, 99, 0, 0), (.aload_n 0, 0, 0, 0), (.iload_n 2, 2, 0, 0), (.aload_n 0, 0, 0, 0), (.getfield 26, 8, 9, 2), (.iload_n 1, 1, 0, 0), (.iaload, 0, 0, 0), (.aload_n 0, 0, 0, 0), (.getfield 29, 9, 9, 2), (.iload_n 1, 1, 0, 0)], [(.iaload, 0, 0, 0), (.invokevirtual 439, 138, 4, 9), (.goto 56, 129, 0, 0), (.iload_n 2, 2, 0, 0), (.bipush 27, 63, 0, 0), (.if_icmp .ne 39, 122, 0, 0), (.aload_n 0, 0, 0, 0), (.getfield 96, 40, 9, 2), (.aload_n 0, 0, 0, 0), (.getfield 26, 8, 9, 2), (.iload_n 1, 1, 0, 0), (.iaload, 0, 0, 0), (.aload_n 0, 0, 0, 0), (.getfield 400, 60, 9, 0), (.ifCond .eq 7, 113, 0, 0), (.iconst 0, 5, 0, 0)], [(.goto 14, 120, 0, 0), (.aload_n 0, 0, 0, 0), (.getfield 96, 40, 9, 2), (.aload_n 0, 0, 0, 0), (.getfield 26, 8, 9, 2), (.iload_n 1, 1, 0, 0), (.iaload, 0, 0, 0), (.iaload, 0, 0, 0), (.iastore, 0, 0, 0), (.goto 14, 129, 0, 0), (.aload_n 0, 0, 0, 0), (.iload_n 2, 2, 0, 0), (.aload_n 0, 0, 0, 0), (.getfield 26, 8, 9, 2), (.iload_n 1, 1, 0, 0), (.iaload, 0, 0, 0)], [(.invokevirtual 442, 139, 3, 9), (.iconst 0, 5, 0, 0), (.ireturn, 0, 0, 0)]]
/-- 147: ScanChartModel.list()I -/
def am_c147 : List (List am_Ins) := [[(.aload_n 0, 0, 0, 0), (.iconst 0, 5, 0, 0), (.putfield 400, 60, 9, 0), (.aload_n 0, 0, 0, 0), (.iconst 0, 5, 0, 0), (.putfield 414, 59, 9, 0), (.aload_n 0, 0, 0, 0), (.getfield 32, 10, 9, 2), (.aload_n 0, 0, 0, 0), (.getfield 373, 22, 9, 0), (.iaload, 0, 0, 0), (.istore_n 1, 1, 0, 0), (.iconst 0, 5, 0, 0), (.istore_n 2, 2, 0, 0), (.iconst 0, 5, 0, 0), (.istore_n 3, 3, 0, 0)], [(.aload_n 0, 0, 0, 0), (.iconst 0, 5, 0, 0), (.putfield 394, 46, 9, 0), (.iload_n 2, 2, 0, 0), (.iload_n 1, 1, 0, 0), (.if_icmp .ge 193, 122, 0, 0), (.iload_n 3, 3, 0, 0), (.ifCond .ne 189, 122, 0, 0), (.bipush 80, 21, 0, 0), (.aload_n 0, 0, 0, 0), (.getfield 373, 22, 9, 0), (.imul, 0, 0, 0), (.iload_n 2, 2, 0, 0), (.iadd, 0, 0, 0), (.istore 4, 4, 0, 0), (.aload_n 0, 0, 0, 0)], [(.getfield 20, 6, 9, 2), (.iload 4, 4, 0, 0), (.iaload, 0, 0, 0), (.iconst 4, 6, 0, 0), (.if_icmp .ne 18, 44, 0, 0), (.aload_n 0, 0, 0, 0), (.getfield 400, 60, 9, 0), (.ifCond .eq 7, 42, 0, 0), (.iconst 1, 4, 0, 0), (.goto 30, 56, 0, 0), (.iconst 0, 5, 0, 0), (.goto 26, 56, 0, 0), (.aload_n 0, 0, 0, 0), (.getfield 20, 6, 9, 2), (.iload 4, 4, 0, 0), (.iaload, 0, 0, 0)], [(.iconst 5, 12, 0, 0), (.if_icmp .ne 10, 53, 0, 0), (.aload_n 0, 0, 0, 0), (.getfield 400, 60, 9, 0), (.ifCond .ne 7, 55, 0, 0), (.iconst 1, 4, 0, 0), (.goto 4, 56, 0, 0), (.iconst 0, 5, 0, 0), (.istore 5, 5, 0, 0), (.aload_n 0, 0, 0, 0), (.getfield 394, 46, 9, 0), (.sipush 500, 9, 0, 0), (.if_icmp .ne 8, 64, 0, 0), (.iconst 3, 3, 0, 0), (.istore_n 3, 3, 0, 0), (.goto 88, 110, 0, 0)], [(.aload_n 0, 0, 0, 0), (.getfield 17, 5, 9, 2), (.iload 4, 4, 0, 0), (.iaload, 0, 0, 0), (.bipush 20, 14, 0, 0), (.if_icmp .ne 38, 90, 0, 0), (.iload 5, 5, 0, 0), (.ifCond .eq 26, 85, 0, 0), (.aload_n 0, 0, 0, 0), (.getfield 35, 11, 9, 2), (.bipush 32, 1, 0, 0), (.aload_n 0, 0, 0, 0), (.getfield 373, 22, 9, 0), (.imul, 0, 0, 0), (.aload_n 0, 0, 0, 0), (.getfield 26, 8, 9, 2)], [(.iload 4, 4, 0, 0), (.iaload, 0, 0, 0), (.iadd, 0, 0, 0), (.iaload, 0, 0, 0), (.goto 6, 88, 0, 0), (.iload_n 2, 2, 0, 0), (.iconst 1, 4, 0, 0), (.iadd, 0, 0, 0), (.istore_n 2, 2, 0, 0), (.goto 41, 110, 0, 0), (.aload_n 0, 0, 0, 0), (.getfield 17, 5, 9, 2), (.iload 4, 4, 0, 0), (.iaload, 0, 0, 0), (.bipush 21, 57, 0, 0), (.if_icmp .ne 19, 105, 0, 0)], [(.iload 5, 5, 0, 0), (.ifCond .eq 7, 100, 0, 0), (.iload_n 1, 1, 0, 0), (.goto 6, 103, 0, 0), (.iload_n 2, 2, 0, 0), (.iconst 1, 4, 0, 0), (.iadd, 0, 0, 0), (.istore_n 2, 2, 0, 0), (.goto 13, 110, 0, 0), (.aload_n 0, 0, 0, 0), (.iload 4, 4, 0, 0), (.invokevirtual 445, 146, 2, 9), (.istore_n 3, 3, 0, 0), (.iinc 2 1, 2, 4, 0), (.aload_n 0, 0, 0, 0), (.iload_n 3, 3, 0, 0)], [(.ifCond .ne 12, 118, 0, 0), (.aload_n 0, 0, 0, 0), (.getfield 394, 46, 9, 0), (.iconst 1, 4, 0, 0), (.iadd, 0, 0, 0), (.goto 7, 120, 0, 0), (.aload_n 0, 0, 0, 0), (.getfield 394, 46, 9, 0), (.putfield 394, 46, 9, 0), (.goto (-192), 19, 0, 0), (.iload_n 3, 3, 0, 0), (.ireturn, 0, 0, 0)]]
/-- 148: ScanChartModel.chart()V -/
def am_c148 : List (List am_Ins) := [[(.iconst 0, 5, 0, 0), (.istore_n 1, 1, 0, 0), (.iconst 0, 5, 0, 0), (.istore_n 2, 2, 0, 0), (.iconst 0, 5, 0, 0), (.istore_n 3, 3, 0, 0), (.iload_n 3, 3, 0, 0), (.bipush 16, 7, 0, 0), (.if_icmp .ge 20, 20, 0, 0), (.iload_n 1, 1, 0, 0), (.aload_n 0, 0, 0, 0), (.getfield 102, 42, 9, 2), (.iload_n 3, 3, 0, 0), (.iaload, 0, 0, 0), (.iload_n 3, 3, 0, 0), (.ishl, 0, 0, 0)], [(.ior, 0, 0, 0), (.istore_n 1, 1, 0, 0), (.iinc 3 1, 3, 4, 0), (.goto (-20), 6, 0, 0), (.iconst 0, 5, 0, 0), (.istore_n 3, 3, 0, 0), (.bipush 16, 7, 0, 0), (.aload_n 0, 0, 0, 0), (.getfield 373, 22, 9, 0), (.imul, 0, 0, 0), (.istore 4, 4, 0, 0), (.iload 4, 4, 0, 0), (.bipush 16, 7, 0, 0), (.aload_n 0, 0, 0, 0), (.getfield 373, 22, 9, 0), (.imul, 0, 0, 0)], [(.aload_n 0, 0, 0, 0), (.getfield 66, 21, 9, 2), (.aload_n 0, 0, 0, 0), (.getfield 373, 22, 9, 0), (.iaload, 0, 0, 0), (.iadd, 0, 0, 0), (.if_icmp .ge 212, 154, 0, 0), (.aload_n 0, 0, 0, 0), (.getfield 51, 16, 9, 2), (.iload 4, 4, 0, 0), (.iaload, 0, 0, 0), (.iload_n 1, 1, 0, 0), (.iconst (-1), 15, 0, 0), (.ixor, 0, 0, 0), (.iand, 0, 0, 0), (.ifCond .ne 19, 57, 0, 0)], [(.aload_n 0, 0, 0, 0), (.getfield 51, 16, 9, 2), (.iload 4, 4, 0, 0), (.iaload, 0, 0, 0), (.iload_n 3, 3, 0, 0), (.iand, 0, 0, 0), (.ifCond .ne 7, 57, 0, 0), (.iconst 1, 4, 0, 0), (.goto 4, 58, 0, 0), (.iconst 0, 5, 0, 0), (.istore 5, 5, 0, 0), (.aload_n 0, 0, 0, 0), (.getfield 57, 18, 9, 2), (.iload 4, 4, 0, 0), (.iaload, 0, 0, 0), (.ifCond .ne 7, 66, 0, 0)], [(.iconst 0, 5, 0, 0), (.goto 21, 76, 0, 0), (.aload_n 0, 0, 0, 0), (.aload_n 0, 0, 0, 0), (.getfield 60, 19, 9, 2), (.iload 4, 4, 0, 0), (.iaload, 0, 0, 0), (.aload_n 0, 0, 0, 0), (.getfield 63, 20, 9, 2), (.iload 4, 4, 0, 0), (.iaload, 0, 0, 0), (.invokevirtual 417, 134, 3, 9), (.istore 6, 6, 0, 0), (.iload 5, 5, 0, 0), (.ifCond .eq 46, 101, 0, 0), (.aload_n 0, 0, 0, 0)], [(.getfield 57, 18, 9, 2), (.iload 4, 4, 0, 0), (.iaload, 0, 0, 0), (.ifCond .eq 32, 99, 0, 0), (.iload 6, 6, 0, 0), (.ifCond .eq 7, 88, 0, 0), (.iconst 1, 4, 0, 0), (.goto 4, 89, 0, 0), (.iconst 0, 5, 0, 0), (.aload_n 0, 0, 0, 0), (.getfield 57, 18, 9, 2), (.iload 4, 4, 0, 0), (.iaload, 0, 0, 0), (.iconst 1, 4, 0, 0), (.if_icmp .ne 7, 97, 0, 0), (.iconst 1, 4, 0, 0)], [(.goto 4, 98, 0, 0), (.iconst 0, 5, 0, 0), (.if_icmp .ne 7, 101, 0, 0), (.iconst 1, 4, 0, 0), (.goto 4, 102, 0, 0), (.iconst 0, 5, 0, 0), (.istore 5, 5, 0, 0), (.iload 5, 5, 0, 0), (.ifCond .eq 83, 152, 0, 0), (.aload_n 0, 0, 0, 0), (.dup, 0, 0, 0), (.getfield 397, 47, 9, 0), (.iconst 1, 4, 0, 0), (.iadd, 0, 0, 0), (.putfield 397, 47, 9, 0), (.iload_n 3, 3, 0, 0)], [(.aload_n 0, 0, 0, 0), (.getfield 51, 16, 9, 2), (.iload 4, 4, 0, 0), (.iaload, 0, 0, 0), (.ior, 0, 0, 0), (.istore_n 3, 3, 0, 0), (.iload_n 2, 2, 0, 0), (.aload_n 0, 0, 0, 0), (.getfield 54, 17, 9, 2), (.iload 4, 4, 0, 0), (.iaload, 0, 0, 0), (.ior, 0, 0, 0), (.istore_n 2, 2, 0, 0), (.iconst 0, 5, 0, 0), (.istore 7, 7, 0, 0), (.iload 7, 7, 0, 0)], [(.bipush 16, 7, 0, 0), (.if_icmp .ge 43, 152, 0, 0), (.aload_n 0, 0, 0, 0), (.getfield 102, 42, 9, 2), (.iload 7, 7, 0, 0), (.aload_n 0, 0, 0, 0), (.getfield 51, 16, 9, 2), (.iload 4, 4, 0, 0), (.iaload, 0, 0, 0), (.iload 7, 7, 0, 0), (.ishr, 0, 0, 0), (.iconst 1, 4, 0, 0), (.iand, 0, 0, 0), (.iconst 1, 4, 0, 0), (.if_icmp .ne 7, 145, 0, 0), (.iconst 0, 5, 0, 0)], [(.goto 10, 149, 0, 0), (.aload_n 0, 0, 0, 0), (.getfield 102, 42, 9, 2), (.iload 7, 7, 0, 0), (.iaload, 0, 0, 0), (.iastore, 0, 0, 0), (.iinc 7 1, 7, 4, 0), (.goto (-44), 127, 0, 0), (.iinc 4 1, 4, 4, 0), (.goto (-228), 27, 0, 0), (.iconst 0, 5, 0, 0), (.istore 4, 4, 0, 0), (.iload 4, 4, 0, 0), (.bipush 16, 7, 0, 0), (.if_icmp .ge 37, 178, 0, 0), (.aload_n 0, 0, 0, 0)], [(.getfield 102, 42, 9, 2), (.iload 4, 4, 0, 0), (.iload_n 2, 2, 0, 0), (.iload 4, 4, 0, 0), (.ishr, 0, 0, 0), (.iconst 1, 4, 0, 0), (.iand, 0, 0, 0), (.iconst 1, 4, 0, 0), (.if_icmp .ne 7, 171, 0, 0), (.iconst 1, 4, 0, 0), (.goto 10, 175, 0, 0), (.aload_n 0, 0, 0, 0), (.getfield 102, 42, 9, 2), (.iload 4, 4, 0, 0), (.iaload, 0, 0, 0), (.iastore, 0, 0, 0)], [(.iinc 4 1, 4, 4, 0), (.goto (-38), 156, 0, 0), (.iconst 0, 5, 0, 0), (.istore 4, 4, 0, 0), (.iload 4, 4, 0, 0), (.iconst 3, 3, 0, 0), (.if_icmp .ge 170, 271, 0, 0), (.bipush 48, 8, 0, 0), (.aload_n 0, 0, 0, 0), (.getfield 373, 22, 9, 0), (.imul, 0, 0, 0), (.istore 5, 5, 0, 0), (.iload 5, 5, 0, 0), (.bipush 48, 8, 0, 0), (.aload_n 0, 0, 0, 0), (.getfield 373, 22, 9, 0)], [(.imul, 0, 0, 0), (.bipush 48, 8, 0, 0), (.iadd, 0, 0, 0), (.if_icmp .ge 140, 269, 0, 0), (.aload_n 0, 0, 0, 0), (.getfield 102, 42, 9, 2), (.iload 5, 5, 0, 0), (.bipush 48, 8, 0, 0), (.aload_n 0, 0, 0, 0), (.getfield 373, 22, 9, 0), (.imul, 0, 0, 0), (.isub, 0, 0, 0), (.iconst 3, 3, 0, 0), (.idiv, 0, 0, 0), (.iaload, 0, 0, 0), (.iconst 1, 4, 0, 0)], [(.if_icmp .ne 7, 211, 0, 0), (.iconst 1, 4, 0, 0), (.goto 4, 212, 0, 0), (.iconst 0, 5, 0, 0), (.istore 6, 6, 0, 0), (.aload_n 0, 0, 0, 0), (.getfield 42, 13, 9, 2), (.iload 5, 5, 0, 0), (.iaload, 0, 0, 0), (.iconst 1, 4, 0, 0), (.if_icmp .ne 39, 237, 0, 0), (.iload 4, 4, 0, 0), (.ifCond .eq 14, 226, 0, 0), (.iload 4, 4, 0, 0), (.iconst 1, 4, 0, 0), (.if_icmp .ne 28, 237, 0, 0)], [(.iload 6, 6, 0, 0), (.ifCond .eq 23, 237, 0, 0), (.aload_n 0, 0, 0, 0), (.aload_n 0, 0, 0, 0), (.getfield 45, 14, 9, 2), (.iload 5, 5, 0, 0), (.iaload, 0, 0, 0), (.aload_n 0, 0, 0, 0), (.getfield 48, 15, 9, 2), (.iload 5, 5, 0, 0), (.iaload, 0, 0, 0), (.iload 4, 4, 0, 0), (.invokevirtual 423, 135, 4, 9), (.aload_n 0, 0, 0, 0), (.getfield 42, 13, 9, 2), (.iload 5, 5, 0, 0)], [(.iaload, 0, 0, 0), (.iconst 1, 4, 0, 0), (.if_icmp .le 48, 267, 0, 0), (.iload 4, 4, 0, 0), (.iconst 2, 13, 0, 0), (.if_icmp .ne 42, 267, 0, 0), (.iload 6, 6, 0, 0), (.ifCond .eq 37, 267, 0, 0), (.aload_n 0, 0, 0, 0), (.aload_n 0, 0, 0, 0), (.getfield 45, 14, 9, 2), (.iload 5, 5, 0, 0), (.iaload, 0, 0, 0), (.aload_n 0, 0, 0, 0), (.getfield 48, 15, 9, 2), (.iload 5, 5, 0, 0)], [(.iaload, 0, 0, 0), (.aload_n 0, 0, 0, 0), (.getfield 42, 13, 9, 2), (.iload 5, 5, 0, 0), (.iaload, 0, 0, 0), (.iconst 2, 13, 0, 0), (.if_icmp .ne 7, 265, 0, 0), (.iconst 1, 4, 0, 0), (.goto 4, 266, 0, 0), (.iconst 0, 5, 0, 0), (.invokevirtual 423, 135, 4, 9), (.iinc 5 1, 5, 4, 0), (.goto (-149), 188, 0, 0), (.iinc 4 1, 4, 4, 0), (.goto (-170), 180, 0, 0), (.return_, 0, 0, 0)]]
/-- 149: ScanChartModel.scanOnce(I)I -/
def am_c149 : List (List am_Ins) := [[(.aload_n 0, 0, 0, 0), (.getfield 391, 45, 9, 0), (.ifCond .le 5, 5, 0, 0), (.iconst (-1), 15, 0, 0), (.ireturn, 0, 0, 0), (.aload_n 0, 0, 0, 0), (.aload_n 0, 0, 0, 0), (.getfield 387, 44, 9, 1), (.iload_n 1, 1, 0, 0), (.i2l, 0, 0, 0), (.ladd, 0, 0, 0), (.putfield 387, 44, 9, 1), (.iconst 0, 5, 0, 0), (.istore_n 2, 2, 0, 0), (.iload_n 2, 2, 0, 0), (.bipush 32, 1, 0, 0)], [(.if_icmp .ge 24, 28, 0, 0), (.aload_n 0, 0, 0, 0), (.getfield 78, 34, 9, 2), (.iload_n 2, 2, 0, 0), (.aload_n 0, 0, 0, 0), (.getfield 75, 33, 9, 2), (.iload_n 2, 2, 0, 0), (.baload, 0, 0, 0), (.invokestatic 407, 140, 1, 0), (.iastore, 0, 0, 0), (.iinc 2 1, 2, 4, 0), (.goto (-24), 14, 0, 0), (.aload_n 0, 0, 0, 0), (.iconst 0, 5, 0, 0), (.putfield 397, 47, 9, 0), (.aload_n 0, 0, 0, 0)], [(.aload_n 0, 0, 0, 0), (.invokevirtual 448, 147, 1, 9), (.putfield 391, 45, 9, 0), (.aload_n 0, 0, 0, 0), (.getfield 391, 45, 9, 0), (.ifCond .ne 33, 55, 0, 0), (.aload_n 0, 0, 0, 0), (.invokevirtual 451, 148, 1, 9), (.iconst 0, 5, 0, 0), (.istore_n 2, 2, 0, 0), (.iload_n 2, 2, 0, 0), (.bipush 32, 1, 0, 0), (.if_icmp .ge 21, 55, 0, 0), (.aload_n 0, 0, 0, 0), (.getfield 105, 43, 9, 2), (.iload_n 2, 2, 0, 0)], [(.aload_n 0, 0, 0, 0), (.getfield 81, 35, 9, 2), (.iload_n 2, 2, 0, 0), (.iaload, 0, 0, 0), (.iastore, 0, 0, 0), (.iinc 2 1, 2, 4, 0), (.goto (-21), 42, 0, 0), (.aload_n 0, 0, 0, 0), (.getfield 391, 45, 9, 0), (.ireturn, 0, 0, 0)]]
/-- 150: ScanChartModel.scan(I)I -/
def am_c150 : List (List am_Ins) := [[(.aload_n 0, 0, 0, 0), (.iload_n 1, 1, 0, 0), (.ifCond .lt 10, 6, 0, 0), (.iload_n 1, 1, 0, 0), (.ldc_w 318, 29, 1, 0), (.if_icmp .le 7, 8, 0, 0), (.iconst 1, 4, 0, 0), (.goto 4, 9, 0, 0), (.iconst 0, 5, 0, 0), (.putfield 145, 0, 9, 0), (.aload_n 0, 0, 0, 0), (.getfield 145, 0, 9, 0), (.ifCond .le 7, 15, 0, 0), (.iconst 0, 5, 0, 0), (.goto 8, 18, 0, 0), (.aload_n 0, 0, 0, 0)], [(.iload_n 1, 1, 0, 0), (.invokevirtual 454, 149, 2, 9), (.ireturn, 0, 0, 0)]]
/-- 151: ScanChartModel.run(II)I -/
def am_c151 : List (List am_Ins) := [[(.aload_n 0, 0, 0, 0), (.iload_n 1, 1, 0, 0), (.ifCond .lt 20, 11, 0, 0), (.iload_n 1, 1, 0, 0), (.bipush 100, 36, 0, 0), (.if_icmp .gt 14, 11, 0, 0), (.iload_n 2, 2, 0, 0), (.ifCond .lt 10, 11, 0, 0), (.iload_n 2, 2, 0, 0), (.ldc_w 318, 29, 1, 0), (.if_icmp .le 7, 13, 0, 0), (.iconst 1, 4, 0, 0), (.goto 4, 14, 0, 0), (.iconst 0, 5, 0, 0), (.putfield 145, 0, 9, 0), (.iconst 0, 5, 0, 0)], [(.istore_n 3, 3, 0, 0), (.aload_n 0, 0, 0, 0), (.getfield 145, 0, 9, 0), (.ifCond .ne 7, 22, 0, 0), (.iconst 1, 4, 0, 0), (.goto 4, 23, 0, 0), (.iconst 0, 5, 0, 0), (.istore 4, 4, 0, 0), (.iload 4, 4, 0, 0), (.ifCond .eq 39, 46, 0, 0), (.iload_n 3, 3, 0, 0), (.iload_n 1, 1, 0, 0), (.if_icmp .ge 34, 46, 0, 0), (.aload_n 0, 0, 0, 0), (.iload_n 2, 2, 0, 0), (.invokevirtual 454, 149, 2, 9)], [(.ifCond .ne 7, 35, 0, 0), (.iconst 1, 4, 0, 0), (.goto 4, 36, 0, 0), (.iconst 0, 5, 0, 0), (.istore 4, 4, 0, 0), (.iload 4, 4, 0, 0), (.ifCond .eq 9, 43, 0, 0), (.iload_n 3, 3, 0, 0), (.iconst 1, 4, 0, 0), (.iadd, 0, 0, 0), (.goto 4, 44, 0, 0), (.iload_n 3, 3, 0, 0), (.istore_n 3, 3, 0, 0), (.goto (-38), 24, 0, 0), (.iload_n 3, 3, 0, 0), (.ireturn, 0, 0, 0)]]
/-- 152: ScanChartModel.noPlace(II)Z -/
def am_c152 : List (List am_Ins) := [[(.iload_n 0, 0, 0, 0), (.ifCond .lt 8, 5, 0, 0), (.iload_n 0, 0, 0, 0), (.iload_n 1, 1, 0, 0), (.if_icmp .le 7, 7, 0, 0), (.iconst 1, 4, 0, 0), (.goto 4, 8, 0, 0), (.iconst 0, 5, 0, 0), (.ireturn, 0, 0, 0)]]
/-- 153: ScanChartModel.input(IZ)V -/
def am_c153 : List (List am_Ins) := [[(.aload_n 0, 0, 0, 0), (.iload_n 1, 1, 0, 0), (.bipush 31, 51, 0, 0), (.invokestatic 457, 152, 2, 0), (.ifCond .eq 7, 7, 0, 0), (.iconst 1, 4, 0, 0), (.goto 4, 8, 0, 0), (.iconst 0, 5, 0, 0), (.putfield 145, 0, 9, 0), (.aload_n 0, 0, 0, 0), (.getfield 145, 0, 9, 0), (.ifCond .ne 10, 17, 0, 0), (.aload_n 0, 0, 0, 0), (.getfield 75, 33, 9, 2), (.iload_n 1, 1, 0, 0), (.iload_n 2, 2, 0, 0)], [(.bastore, 0, 0, 0), (.return_, 0, 0, 0)]]
/-- 154: ScanChartModel.output(I)Z -/
def am_c154 : List (List am_Ins) := [[(.aload_n 0, 0, 0, 0), (.iload_n 1, 1, 0, 0), (.bipush 31, 51, 0, 0), (.invokestatic 457, 152, 2, 0), (.ifCond .eq 7, 7, 0, 0), (.iconst 1, 4, 0, 0), (.goto 4, 8, 0, 0), (.iconst 0, 5, 0, 0), (.putfield 145, 0, 9, 0), (.aload_n 0, 0, 0, 0), (.getfield 145, 0, 9, 0), (.ifCond .ne 17, 20, 0, 0), (.aload_n 0, 0, 0, 0), (.getfield 105, 43, 9, 2), (.iload_n 1, 1, 0, 0), (.iaload, 0, 0, 0)], [(.iconst 1, 4, 0, 0), (.if_icmp .ne 7, 20, 0, 0), (.iconst 1, 4, 0, 0), (.goto 4, 21, 0, 0), (.iconst 0, 5, 0, 0), (.ireturn, 0, 0, 0)]]
/-- 155: ScanChartModel.bits(I)I -/
def am_c155 : List (List am_Ins) := [[(.aload_n 0, 0, 0, 0), (.iload_n 1, 1, 0, 0), (.iconst 4, 6, 0, 0), (.invokestatic 457, 152, 2, 0), (.ifCond .eq 7, 7, 0, 0), (.iconst 1, 4, 0, 0), (.goto 4, 8, 0, 0), (.iconst 0, 5, 0, 0), (.putfield 145, 0, 9, 0), (.iconst 0, 5, 0, 0), (.istore_n 2, 2, 0, 0), (.iconst 0, 5, 0, 0), (.istore_n 3, 3, 0, 0), (.iload_n 3, 3, 0, 0), (.bipush 32, 1, 0, 0), (.if_icmp .ge 96, 68, 0, 0)], [(.aload_n 0, 0, 0, 0), (.getfield 145, 0, 9, 0), (.ifCond .ne 89, 68, 0, 0), (.iload_n 1, 1, 0, 0), (.ifCond .ne 12, 26, 0, 0), (.aload_n 0, 0, 0, 0), (.getfield 78, 34, 9, 2), (.iload_n 3, 3, 0, 0), (.iaload, 0, 0, 0), (.goto 61, 59, 0, 0), (.iload_n 1, 1, 0, 0), (.iconst 1, 4, 0, 0), (.if_icmp .ne 12, 34, 0, 0), (.aload_n 0, 0, 0, 0), (.getfield 81, 35, 9, 2), (.iload_n 3, 3, 0, 0)], [(.iaload, 0, 0, 0), (.goto 47, 59, 0, 0), (.iload_n 1, 1, 0, 0), (.iconst 2, 13, 0, 0), (.if_icmp .ne 12, 42, 0, 0), (.aload_n 0, 0, 0, 0), (.getfield 84, 36, 9, 2), (.iload_n 3, 3, 0, 0), (.iaload, 0, 0, 0), (.goto 33, 59, 0, 0), (.iload_n 1, 1, 0, 0), (.iconst 4, 6, 0, 0), (.if_icmp .ne 12, 50, 0, 0), (.aload_n 0, 0, 0, 0), (.getfield 105, 43, 9, 2), (.iload_n 3, 3, 0, 0)], [(.iaload, 0, 0, 0), (.goto 19, 59, 0, 0), (.iload_n 3, 3, 0, 0), (.bipush 16, 7, 0, 0), (.if_icmp .ge 12, 58, 0, 0), (.aload_n 0, 0, 0, 0), (.getfield 102, 42, 9, 2), (.iload_n 3, 3, 0, 0), (.iaload, 0, 0, 0), (.goto 4, 59, 0, 0), (.iconst 0, 5, 0, 0), (.istore 4, 4, 0, 0), (.iload_n 2, 2, 0, 0), (.iload 4, 4, 0, 0), (.iload_n 3, 3, 0, 0), (.ishl, 0, 0, 0)], [(.ior, 0, 0, 0), (.istore_n 2, 2, 0, 0), (.iinc 3 1, 3, 4, 0), (.goto (-96), 13, 0, 0), (.iload_n 2, 2, 0, 0), (.ireturn, 0, 0, 0)]]
/-- 156: ScanChartModel.word(I)I -/
def am_c156 : List (List am_Ins) := [[(.aload_n 0, 0, 0, 0), (.iload_n 1, 1, 0, 0), (.bipush 31, 51, 0, 0), (.invokestatic 457, 152, 2, 0), (.ifCond .eq 7, 7, 0, 0), (.iconst 1, 4, 0, 0), (.goto 4, 8, 0, 0), (.iconst 0, 5, 0, 0), (.putfield 145, 0, 9, 0), (.aload_n 0, 0, 0, 0), (.getfield 145, 0, 9, 0), (.ifCond .le 7, 14, 0, 0), (.iconst 0, 5, 0, 0), (.goto 9, 18, 0, 0), (.aload_n 0, 0, 0, 0), (.getfield 87, 37, 9, 2)], [(.iload_n 1, 1, 0, 0), (.iaload, 0, 0, 0), (.ireturn, 0, 0, 0)]]
/-- 157: ScanChartModel.block(II)I -/
def am_c157 : List (List am_Ins) := [[(.aload_n 0, 0, 0, 0), (.iload_n 1, 1, 0, 0), (.bipush 7, 45, 0, 0), (.invokestatic 457, 152, 2, 0), (.ifCond .eq 7, 7, 0, 0), (.iconst 1, 4, 0, 0), (.goto 16, 14, 0, 0), (.iload_n 2, 2, 0, 0), (.iconst 3, 3, 0, 0), (.invokestatic 457, 152, 2, 0), (.ifCond .eq 7, 13, 0, 0), (.iconst 2, 13, 0, 0), (.goto 4, 14, 0, 0), (.iconst 0, 5, 0, 0), (.putfield 145, 0, 9, 0), (.aload_n 0, 0, 0, 0)], [(.getfield 145, 0, 9, 0), (.ifCond .le 5, 20, 0, 0), (.iconst 0, 5, 0, 0), (.ireturn, 0, 0, 0), (.iload_n 2, 2, 0, 0), (.ifCond .ne 12, 27, 0, 0), (.aload_n 0, 0, 0, 0), (.getfield 93, 39, 9, 2), (.iload_n 1, 1, 0, 0), (.iaload, 0, 0, 0), (.goto 37, 47, 0, 0), (.iload_n 2, 2, 0, 0), (.iconst 1, 4, 0, 0), (.if_icmp .ne 12, 35, 0, 0), (.aload_n 0, 0, 0, 0), (.getfield 90, 38, 9, 2)], [(.iload_n 1, 1, 0, 0), (.iaload, 0, 0, 0), (.goto 23, 47, 0, 0), (.iload_n 2, 2, 0, 0), (.iconst 2, 13, 0, 0), (.if_icmp .ne 12, 43, 0, 0), (.aload_n 0, 0, 0, 0), (.getfield 99, 41, 9, 2), (.iload_n 1, 1, 0, 0), (.iaload, 0, 0, 0), (.goto 9, 47, 0, 0), (.aload_n 0, 0, 0, 0), (.getfield 96, 40, 9, 2), (.iload_n 1, 1, 0, 0), (.iaload, 0, 0, 0), (.ireturn, 0, 0, 0)]]
/-- 158: ScanChartModel.done()I -/
def am_c158 : List (List am_Ins) := [[(.aload_n 0, 0, 0, 0), (.iconst 0, 5, 0, 0), (.putfield 145, 0, 9, 0), (.aload_n 0, 0, 0, 0), (.getfield 394, 46, 9, 0), (.ireturn, 0, 0, 0)]]
/-- 159: ScanChartModel.fired()I -/
def am_c159 : List (List am_Ins) := [[(.aload_n 0, 0, 0, 0), (.iconst 0, 5, 0, 0), (.putfield 145, 0, 9, 0), (.aload_n 0, 0, 0, 0), (.getfield 397, 47, 9, 0), (.ireturn, 0, 0, 0)]]
/-- 160: ScanChartModel.time()J -/
def am_c160 : List (List am_Ins) := [[(.aload_n 0, 0, 0, 0), (.iconst 0, 5, 0, 0), (.putfield 145, 0, 9, 0), (.aload_n 0, 0, 0, 0), (.getfield 387, 44, 9, 1), (.lreturn, 0, 0, 0)]]
/-- 161: java/lang/Enum.ordinal()I -/
def am_c161 : List (List am_Ins) := [[(.aload_n 0, 0, 0, 0), (.getfield 7, 3, 30, 3), (.ireturn, 0, 0, 0)]]
/-- 162: java/lang/Math.max(II)I -/
def am_c162 : List (List am_Ins) := [[(.iload_n 0, 0, 0, 0), (.iload_n 1, 1, 0, 0), (.if_icmp .lt 7, 5, 0, 0), (.iload_n 0, 0, 0, 0), (.goto 4, 6, 0, 0), (.iload_n 1, 1, 0, 0), (.ireturn, 0, 0, 0)]]
/-- 163: java/lang/Math.min(II)I -/
def am_c163 : List (List am_Ins) := [[(.iload_n 0, 0, 0, 0), (.iload_n 1, 1, 0, 0), (.if_icmp .gt 7, 5, 0, 0), (.iload_n 0, 0, 0, 0), (.goto 4, 6, 0, 0), (.iload_n 1, 1, 0, 0), (.ireturn, 0, 0, 0)]]
/-- 164: java/lang/Math.min(JJ)J -/
def am_c164 : List (List am_Ins) := [[(.lload_n 0, 0, 0, 0), (.lload_n 2, 2, 0, 0), (.lcmp, 0, 0, 0), (.ifCond .gt 7, 6, 0, 0), (.lload_n 0, 0, 0, 0), (.goto 4, 7, 0, 0), (.lload_n 2, 2, 0, 0), (.lreturn, 0, 0, 0)]]
/-- 165: java/lang/String.length()I -/
def am_c165 : List (List am_Ins) := [[(.aload_n 0, 0, 0, 0), (.getfield 9, 10, 31, 4), (.arraylength, 0, 0, 0), (.aload_n 0, 0, 0, 0), (.invokevirtual 335, 169, 1, 31), (.ishr, 0, 0, 0), (.ireturn, 0, 0, 0)]]
/-- 166: java/lang/String.charAt(I)C -/
def am_c166 : List (List am_Ins) := [[(.aload_n 0, 0, 0, 0), (.invokevirtual 492, 170, 1, 31), (.ifCond .eq 12, 8, 0, 0), (.aload_n 0, 0, 0, 0), (.getfield 9, 10, 31, 4), (.iload_n 1, 1, 0, 0), (.invokestatic 495, 173, 2, 0), (.ireturn, 0, 0, 0), (.aload_n 0, 0, 0, 0), (.getfield 9, 10, 31, 4), (.iload_n 1, 1, 0, 0), (.nop, 0, 0, 0), (.ireturn, 0, 0, 0)]]
/-- 167: java/lang/String.indexOf(I)I -/
def am_c167 : List (List am_Ins) := [[(.aload_n 0, 0, 0, 0), (.iload_n 1, 1, 0, 0), (.iconst 0, 5, 0, 0), (.invokevirtual 633, 168, 3, 31), (.ireturn, 0, 0, 0)]]
/-- 168: java/lang/String.indexOf(II)I -/
def am_c168 : List (List am_Ins) := [[(.aload_n 0, 0, 0, 0), (.invokevirtual 492, 170, 1, 31), (.ifCond .eq 19, 11, 0, 0), (.aload_n 0, 0, 0, 0), (.getfield 9, 10, 31, 4), (.iload_n 1, 1, 0, 0), (.iload_n 2, 2, 0, 0), (.aload_n 0, 0, 0, 0), (.invokevirtual 505, 165, 1, 31), (.invokestatic 637, 175, 4, 0), (.goto 16, 18, 0, 0), (.aload_n 0, 0, 0, 0), (.getfield 9, 10, 31, 4), (.iload_n 1, 1, 0, 0), (.iload_n 2, 2, 0, 0), (.aload_n 0, 0, 0, 0)], [(.invokevirtual 505, 165, 1, 31), (.nop, 0, 0, 0), (.ireturn, 0, 0, 0)]]
/-- 169: java/lang/String.coder()B -/
def am_c169 : List (List am_Ins) := [[(.getstatic 38, 4, 1, 0), (.ifCond .eq 10, 5, 0, 0), (.aload_n 0, 0, 0, 0), (.getfield 15, 11, 31, 3), (.goto 4, 6, 0, 0), (.iconst 1, 4, 0, 0), (.ireturn, 0, 0, 0)]]
/-- 170: java/lang/String.isLatin1()Z -/
def am_c170 : List (List am_Ins) := [[(.getstatic 38, 4, 1, 0), (.ifCond .eq 14, 7, 0, 0), (.aload_n 0, 0, 0, 0), (.getfield 15, 11, 31, 3), (.ifCond .ne 7, 7, 0, 0), (.iconst 1, 4, 0, 0), (.goto 4, 8, 0, 0), (.iconst 0, 5, 0, 0), (.ireturn, 0, 0, 0)]]
/-- 171: java/lang/String.checkIndex(II)V -/
def am_c171 : List (List am_Ins) := [[(.iload_n 0, 0, 0, 0), (.iload_n 1, 1, 0, 0), (.getstatic 1053, 4500, 0, 0), (.invokestatic 1059, 177, 3, 0), (.pop, 0, 0, 0), (.return_, 0, 0, 0)]]
/-- 172: java/lang/String.checkBoundsBeginEnd(III)V -/
def am_c172 : List (List am_Ins) := [[(.iload_n 0, 0, 0, 0), (.iload_n 1, 1, 0, 0), (.iload_n 2, 2, 0, 0), (.getstatic 1053, 4500, 0, 0), (.invokestatic 1062, 178, 4, 0), (.pop, 0, 0, 0), (.return_, 0, 0, 0)]]
/-- 173: java/lang/StringLatin1.charAt([BI)C -/
def am_c173 : List (List am_Ins) := [[(.iload_n 1, 1, 0, 0), (.aload_n 0, 0, 0, 0), (.arraylength, 0, 0, 0), (.invokestatic 9, 171, 2, 0), (.aload_n 0, 0, 0, 0), (.iload_n 1, 1, 0, 0), (.baload, 0, 0, 0), (.sipush 255, 67, 0, 0), (.iand, 0, 0, 0), (.i2c, 0, 0, 0), (.ireturn, 0, 0, 0)]]
/-- 174: java/lang/StringLatin1.canEncode(I)Z -/
def am_c174 : List (List am_Ins) := [[(.iload_n 0, 0, 0, 0), (.ifCond .lt 14, 7, 0, 0), (.iload_n 0, 0, 0, 0), (.sipush 255, 67, 0, 0), (.if_icmp .gt 7, 7, 0, 0), (.iconst 1, 4, 0, 0), (.goto 4, 8, 0, 0), (.iconst 0, 5, 0, 0), (.ireturn, 0, 0, 0)]]
/-- 175: java/lang/StringLatin1.indexOf([BIII)I -/
def am_c175 : List (List am_Ins) := [[(.iload_n 1, 1, 0, 0), (.invokestatic 88, 174, 1, 0), (.ifCond .ne 5, 5, 0, 0), (.iconst (-1), 15, 0, 0), (.ireturn, 0, 0, 0), (.iload_n 2, 2, 0, 0), (.iconst 0, 5, 0, 0), (.invokestatic 92, 162, 2, 0), (.istore_n 2, 2, 0, 0), (.iload_n 3, 3, 0, 0), (.aload_n 0, 0, 0, 0), (.arraylength, 0, 0, 0), (.invokestatic 38, 163, 2, 0), (.istore_n 3, 3, 0, 0), (.iload_n 2, 2, 0, 0), (.iload_n 3, 3, 0, 0)], [(.if_icmp .lt 5, 19, 0, 0), (.iconst (-1), 15, 0, 0), (.ireturn, 0, 0, 0), (.aload_n 0, 0, 0, 0), (.iload_n 1, 1, 0, 0), (.iload_n 2, 2, 0, 0), (.iload_n 3, 3, 0, 0), (.invokestatic 95, 176, 4, 0), (.ireturn, 0, 0, 0)]]
/-- 176: java/lang/StringLatin1.indexOfChar([BIII)I -/
def am_c176 : List (List am_Ins) := [[(.iload_n 1, 1, 0, 0), (.i2b, 0, 0, 0), (.istore 4, 4, 0, 0), (.iload_n 2, 2, 0, 0), (.istore 5, 5, 0, 0), (.iload 5, 5, 0, 0), (.iload_n 3, 3, 0, 0), (.if_icmp .ge 21, 17, 0, 0), (.aload_n 0, 0, 0, 0), (.iload 5, 5, 0, 0), (.baload, 0, 0, 0), (.iload 4, 4, 0, 0), (.if_icmp .ne 6, 15, 0, 0), (.iload 5, 5, 0, 0), (.ireturn, 0, 0, 0), (.iinc 5 1, 5, 4, 0)], [(.goto (-21), 5, 0, 0), (.iconst (-1), 15, 0, 0), (.ireturn, 0, 0, 0)]]
/-- 177: jdk/internal/util/Preconditions.checkIndex(IILjava/util/function/BiFunction;)I -/
def am_c177 : List (List am_Ins) := [[(.iload_n 0, 0, 0, 0), (.ifCond .lt 8, 5, 0, 0), (.iload_n 0, 0, 0, 0), (.iload_n 1, 1, 0, 0), (.if_icmp .lt 10, 10, 0, 0), (.aload_n 2, 2, 0, 0), (.iload_n 0, 0, 0, 0), (.iload_n 1, 1, 0, 0), (.nop, 0, 0, 0), (.athrow, 0, 0, 0), (.iload_n 0, 0, 0, 0), (.ireturn, 0, 0, 0)]]
/-- 178: jdk/internal/util/Preconditions.checkFromToIndex(IIILjava/util/function/BiFunction;)I -/
def am_c178 : List (List am_Ins) := [[(.iload_n 0, 0, 0, 0), (.ifCond .lt 13, 8, 0, 0), (.iload_n 0, 0, 0, 0), (.iload_n 1, 1, 0, 0), (.if_icmp .gt 8, 8, 0, 0), (.iload_n 1, 1, 0, 0), (.iload_n 2, 2, 0, 0), (.if_icmp .le 11, 14, 0, 0), (.aload_n 3, 3, 0, 0), (.iload_n 0, 0, 0, 0), (.iload_n 1, 1, 0, 0), (.iload_n 2, 2, 0, 0), (.nop, 0, 0, 0), (.athrow, 0, 0, 0), (.iload_n 0, 0, 0, 0), (.ireturn, 0, 0, 0)]]
/-- 179: ScanChartLaw.law([I)Z -/
def am_c179 : List (List am_Ins) := [[(.new 8, 8, 4, 0), (.dup, 0, 0, 0), (.invokespecial 42, 72, 1, 8), (.astore_n 1, 1, 0, 0), (.new 43, 9, 61, 0), (.dup, 0, 0, 0), (.invokespecial 45, 94, 1, 9), (.astore_n 2, 2, 0, 0), (.iconst 1, 4, 0, 0), (.newarray .long, 22, 0, 0), (.astore_n 3, 3, 0, 0), (.iconst 0, 5, 0, 0), (.istore 4, 4, 0, 0), (.iload 4, 4, 0, 0), (.aload_n 0, 0, 0, 0), (.arraylength, 0, 0, 0)], [(.iconst 4, 6, 0, 0), (.isub, 0, 0, 0), (.if_icmp .gt 727, 424, 0, 0), (.aload_n 0, 0, 0, 0), (.iload 4, 4, 0, 0), (.iaload, 0, 0, 0), (.bipush 15, 35, 0, 0), (.iand, 0, 0, 0), (.tableswitch 711 0 15 #[77, 177, 190, 203, 216, 229, 240, 304, 360, 428, 491, 547, 603, 671, 684, 697], 10, 5, 0), (.aload_n 1, 1, 0, 0), (.aload_n 0, 0, 0, 0), (.iload 4, 4, 0, 0), (.iconst 1, 4, 0, 0), (.iadd, 0, 0, 0), (.iaload, 0, 0, 0), (.aload_n 0, 0, 0, 0)], [(.iload 4, 4, 0, 0), (.iconst 2, 13, 0, 0), (.iadd, 0, 0, 0), (.iaload, 0, 0, 0), (.i2l, 0, 0, 0), (.bipush 32, 1, 0, 0), (.lshl, 0, 0, 0), (.aload_n 0, 0, 0, 0), (.iload 4, 4, 0, 0), (.iconst 3, 3, 0, 0), (.iadd, 0, 0, 0), (.iaload, 0, 0, 0), (.i2l, 0, 0, 0), (.ldc2_w 46, 52, 0, 0), (.land, 0, 0, 0), (.lor, 0, 0, 0)], [(.aload_n 3, 3, 0, 0), (.invokestatic 48, 0, 4, 98), (.istore 5, 5, 0, 0), (.aload_n 2, 2, 0, 0), (.aload_n 0, 0, 0, 0), (.iload 4, 4, 0, 0), (.iconst 1, 4, 0, 0), (.iadd, 0, 0, 0), (.iaload, 0, 0, 0), (.aload_n 0, 0, 0, 0), (.iload 4, 4, 0, 0), (.iconst 2, 13, 0, 0), (.iadd, 0, 0, 0), (.iaload, 0, 0, 0), (.i2l, 0, 0, 0), (.bipush 32, 1, 0, 0)], [(.lshl, 0, 0, 0), (.aload_n 0, 0, 0, 0), (.iload 4, 4, 0, 0), (.iconst 3, 3, 0, 0), (.iadd, 0, 0, 0), (.iaload, 0, 0, 0), (.i2l, 0, 0, 0), (.ldc2_w 46, 52, 0, 0), (.land, 0, 0, 0), (.lor, 0, 0, 0), (.invokevirtual 53, 96, 3, 9), (.istore 6, 6, 0, 0), (.aload_n 2, 2, 0, 0), (.invokevirtual 54, 95, 1, 9), (.iload 5, 5, 0, 0), (.if_icmp .eq 5, 82, 0, 0)], [(.iconst 0, 5, 0, 0), (.ireturn, 0, 0, 0), (.iload 5, 5, 0, 0), (.ifCond .ne 15, 93, 0, 0), (.aload_n 3, 3, 0, 0), (.iconst 0, 5, 0, 0), (.laload, 0, 0, 0), (.iload 6, 6, 0, 0), (.i2l, 0, 0, 0), (.lcmp, 0, 0, 0), (.ifCond .eq 5, 93, 0, 0), (.iconst 0, 5, 0, 0), (.ireturn, 0, 0, 0), (.goto 537, 422, 0, 0), (.aload_n 1, 1, 0, 0), (.invokevirtual 58, 74, 1, 8)], [(.aload_n 2, 2, 0, 0), (.invokevirtual 61, 97, 1, 9), (.if_icmp .eq 526, 422, 0, 0), (.iconst 0, 5, 0, 0), (.ireturn, 0, 0, 0), (.aload_n 1, 1, 0, 0), (.invokevirtual 62, 75, 1, 8), (.aload_n 2, 2, 0, 0), (.invokevirtual 65, 129, 1, 9), (.if_icmp .eq 513, 422, 0, 0), (.iconst 0, 5, 0, 0), (.ireturn, 0, 0, 0), (.aload_n 1, 1, 0, 0), (.invokevirtual 66, 76, 1, 8), (.aload_n 2, 2, 0, 0), (.invokevirtual 69, 130, 1, 9)], [(.if_icmp .eq 500, 422, 0, 0), (.iconst 0, 5, 0, 0), (.ireturn, 0, 0, 0), (.aload_n 1, 1, 0, 0), (.invokevirtual 70, 77, 1, 8), (.aload_n 2, 2, 0, 0), (.invokevirtual 73, 131, 1, 9), (.if_icmp .eq 487, 422, 0, 0), (.iconst 0, 5, 0, 0), (.ireturn, 0, 0, 0), (.aload_n 1, 1, 0, 0), (.invokevirtual 74, 78, 1, 8), (.aload_n 2, 2, 0, 0), (.invokevirtual 77, 133, 1, 9), (.goto 474, 422, 0, 0), (.aload_n 1, 1, 0, 0)], [(.aload_n 0, 0, 0, 0), (.iload 4, 4, 0, 0), (.iconst 1, 4, 0, 0), (.iadd, 0, 0, 0), (.iaload, 0, 0, 0), (.aload_n 0, 0, 0, 0), (.iload 4, 4, 0, 0), (.iconst 2, 13, 0, 0), (.iadd, 0, 0, 0), (.iaload, 0, 0, 0), (.ifCond .eq 7, 141, 0, 0), (.iconst 1, 4, 0, 0), (.goto 4, 142, 0, 0), (.iconst 0, 5, 0, 0), (.invokestatic 78, 1, 3, 98), (.istore 5, 5, 0, 0)], [(.aload_n 2, 2, 0, 0), (.aload_n 0, 0, 0, 0), (.iload 4, 4, 0, 0), (.iconst 1, 4, 0, 0), (.iadd, 0, 0, 0), (.iaload, 0, 0, 0), (.aload_n 0, 0, 0, 0), (.iload 4, 4, 0, 0), (.iconst 2, 13, 0, 0), (.iadd, 0, 0, 0), (.iaload, 0, 0, 0), (.ifCond .eq 7, 158, 0, 0), (.iconst 1, 4, 0, 0), (.goto 4, 159, 0, 0), (.iconst 0, 5, 0, 0), (.invokevirtual 81, 153, 3, 9)], [(.aload_n 2, 2, 0, 0), (.invokevirtual 54, 95, 1, 9), (.iload 5, 5, 0, 0), (.if_icmp .eq 5, 166, 0, 0), (.iconst 0, 5, 0, 0), (.ireturn, 0, 0, 0), (.goto 410, 422, 0, 0), (.aload_n 1, 1, 0, 0), (.aload_n 0, 0, 0, 0), (.iload 4, 4, 0, 0), (.iconst 1, 4, 0, 0), (.iadd, 0, 0, 0), (.iaload, 0, 0, 0), (.aload_n 3, 3, 0, 0), (.invokestatic 82, 2, 3, 98), (.istore 5, 5, 0, 0)], [(.aload_n 2, 2, 0, 0), (.aload_n 0, 0, 0, 0), (.iload 4, 4, 0, 0), (.iconst 1, 4, 0, 0), (.iadd, 0, 0, 0), (.iaload, 0, 0, 0), (.invokevirtual 85, 150, 2, 9), (.istore 6, 6, 0, 0), (.aload_n 2, 2, 0, 0), (.invokevirtual 54, 95, 1, 9), (.iload 5, 5, 0, 0), (.if_icmp .eq 5, 190, 0, 0), (.iconst 0, 5, 0, 0), (.ireturn, 0, 0, 0), (.iload 5, 5, 0, 0), (.ifCond .ne 15, 201, 0, 0)], [(.aload_n 3, 3, 0, 0), (.iconst 0, 5, 0, 0), (.laload, 0, 0, 0), (.iload 6, 6, 0, 0), (.i2l, 0, 0, 0), (.lcmp, 0, 0, 0), (.ifCond .eq 5, 201, 0, 0), (.iconst 0, 5, 0, 0), (.ireturn, 0, 0, 0), (.goto 354, 422, 0, 0), (.aload_n 1, 1, 0, 0), (.aload_n 0, 0, 0, 0), (.iload 4, 4, 0, 0), (.iconst 1, 4, 0, 0), (.iadd, 0, 0, 0), (.iaload, 0, 0, 0)], [(.aload_n 0, 0, 0, 0), (.iload 4, 4, 0, 0), (.iconst 2, 13, 0, 0), (.iadd, 0, 0, 0), (.iaload, 0, 0, 0), (.aload_n 3, 3, 0, 0), (.invokestatic 86, 3, 4, 98), (.istore 5, 5, 0, 0), (.aload_n 2, 2, 0, 0), (.aload_n 0, 0, 0, 0), (.iload 4, 4, 0, 0), (.iconst 1, 4, 0, 0), (.iadd, 0, 0, 0), (.iaload, 0, 0, 0), (.aload_n 0, 0, 0, 0), (.iload 4, 4, 0, 0)], [(.iconst 2, 13, 0, 0), (.iadd, 0, 0, 0), (.iaload, 0, 0, 0), (.invokevirtual 89, 151, 3, 9), (.istore 6, 6, 0, 0), (.aload_n 2, 2, 0, 0), (.invokevirtual 54, 95, 1, 9), (.iload 5, 5, 0, 0), (.if_icmp .eq 5, 235, 0, 0), (.iconst 0, 5, 0, 0), (.ireturn, 0, 0, 0), (.iload 5, 5, 0, 0), (.ifCond .ne 15, 246, 0, 0), (.aload_n 3, 3, 0, 0), (.iconst 0, 5, 0, 0), (.laload, 0, 0, 0)], [(.iload 6, 6, 0, 0), (.i2l, 0, 0, 0), (.lcmp, 0, 0, 0), (.ifCond .eq 5, 246, 0, 0), (.iconst 0, 5, 0, 0), (.ireturn, 0, 0, 0), (.goto 286, 422, 0, 0), (.aload_n 1, 1, 0, 0), (.aload_n 0, 0, 0, 0), (.iload 4, 4, 0, 0), (.iconst 1, 4, 0, 0), (.iadd, 0, 0, 0), (.iaload, 0, 0, 0), (.aload_n 3, 3, 0, 0), (.invokestatic 90, 4, 3, 98), (.istore 5, 5, 0, 0)], [(.aload_n 2, 2, 0, 0), (.aload_n 0, 0, 0, 0), (.iload 4, 4, 0, 0), (.iconst 1, 4, 0, 0), (.iadd, 0, 0, 0), (.iaload, 0, 0, 0), (.invokevirtual 92, 154, 2, 9), (.istore 6, 6, 0, 0), (.aload_n 2, 2, 0, 0), (.invokevirtual 54, 95, 1, 9), (.iload 5, 5, 0, 0), (.if_icmp .eq 5, 270, 0, 0), (.iconst 0, 5, 0, 0), (.ireturn, 0, 0, 0), (.iload 5, 5, 0, 0), (.ifCond .ne 22, 284, 0, 0)], [(.aload_n 3, 3, 0, 0), (.iconst 0, 5, 0, 0), (.laload, 0, 0, 0), (.iload 6, 6, 0, 0), (.ifCond .eq 7, 279, 0, 0), (.lconst 1, 23, 0, 0), (.goto 4, 280, 0, 0), (.lconst 0, 0, 0, 0), (.lcmp, 0, 0, 0), (.ifCond .eq 5, 284, 0, 0), (.iconst 0, 5, 0, 0), (.ireturn, 0, 0, 0), (.goto 223, 422, 0, 0), (.aload_n 1, 1, 0, 0), (.aload_n 0, 0, 0, 0), (.iload 4, 4, 0, 0)], [(.iconst 1, 4, 0, 0), (.iadd, 0, 0, 0), (.iaload, 0, 0, 0), (.aload_n 3, 3, 0, 0), (.invokestatic 93, 5, 3, 98), (.istore 5, 5, 0, 0), (.aload_n 2, 2, 0, 0), (.aload_n 0, 0, 0, 0), (.iload 4, 4, 0, 0), (.iconst 1, 4, 0, 0), (.iadd, 0, 0, 0), (.iaload, 0, 0, 0), (.invokevirtual 95, 155, 2, 9), (.istore 6, 6, 0, 0), (.aload_n 2, 2, 0, 0), (.invokevirtual 54, 95, 1, 9)], [(.iload 5, 5, 0, 0), (.if_icmp .eq 5, 308, 0, 0), (.iconst 0, 5, 0, 0), (.ireturn, 0, 0, 0), (.iload 5, 5, 0, 0), (.ifCond .ne 15, 319, 0, 0), (.aload_n 3, 3, 0, 0), (.iconst 0, 5, 0, 0), (.laload, 0, 0, 0), (.iload 6, 6, 0, 0), (.i2l, 0, 0, 0), (.lcmp, 0, 0, 0), (.ifCond .eq 5, 319, 0, 0), (.iconst 0, 5, 0, 0), (.ireturn, 0, 0, 0), (.goto 167, 422, 0, 0)], [(.aload_n 1, 1, 0, 0), (.aload_n 0, 0, 0, 0), (.iload 4, 4, 0, 0), (.iconst 1, 4, 0, 0), (.iadd, 0, 0, 0), (.iaload, 0, 0, 0), (.aload_n 3, 3, 0, 0), (.invokestatic 96, 6, 3, 98), (.istore 5, 5, 0, 0), (.aload_n 2, 2, 0, 0), (.aload_n 0, 0, 0, 0), (.iload 4, 4, 0, 0), (.iconst 1, 4, 0, 0), (.iadd, 0, 0, 0), (.iaload, 0, 0, 0), (.invokevirtual 98, 156, 2, 9)], [(.istore 6, 6, 0, 0), (.aload_n 2, 2, 0, 0), (.invokevirtual 54, 95, 1, 9), (.iload 5, 5, 0, 0), (.if_icmp .eq 5, 343, 0, 0), (.iconst 0, 5, 0, 0), (.ireturn, 0, 0, 0), (.iload 5, 5, 0, 0), (.ifCond .ne 15, 354, 0, 0), (.aload_n 3, 3, 0, 0), (.iconst 0, 5, 0, 0), (.laload, 0, 0, 0), (.iload 6, 6, 0, 0), (.i2l, 0, 0, 0), (.lcmp, 0, 0, 0), (.ifCond .eq 5, 354, 0, 0)], [(.iconst 0, 5, 0, 0), (.ireturn, 0, 0, 0), (.goto 111, 422, 0, 0), (.aload_n 1, 1, 0, 0), (.aload_n 0, 0, 0, 0), (.iload 4, 4, 0, 0), (.iconst 1, 4, 0, 0), (.iadd, 0, 0, 0), (.iaload, 0, 0, 0), (.aload_n 0, 0, 0, 0), (.iload 4, 4, 0, 0), (.iconst 2, 13, 0, 0), (.iadd, 0, 0, 0), (.iaload, 0, 0, 0), (.aload_n 3, 3, 0, 0), (.invokestatic 99, 7, 4, 98)], [(.istore 5, 5, 0, 0), (.aload_n 2, 2, 0, 0), (.aload_n 0, 0, 0, 0), (.iload 4, 4, 0, 0), (.iconst 1, 4, 0, 0), (.iadd, 0, 0, 0), (.iaload, 0, 0, 0), (.aload_n 0, 0, 0, 0), (.iload 4, 4, 0, 0), (.iconst 2, 13, 0, 0), (.iadd, 0, 0, 0), (.iaload, 0, 0, 0), (.invokevirtual 101, 157, 3, 9), (.istore 6, 6, 0, 0), (.aload_n 2, 2, 0, 0), (.invokevirtual 54, 95, 1, 9)], [(.iload 5, 5, 0, 0), (.if_icmp .eq 5, 388, 0, 0), (.iconst 0, 5, 0, 0), (.ireturn, 0, 0, 0), (.iload 5, 5, 0, 0), (.ifCond .ne 15, 399, 0, 0), (.aload_n 3, 3, 0, 0), (.iconst 0, 5, 0, 0), (.laload, 0, 0, 0), (.iload 6, 6, 0, 0), (.i2l, 0, 0, 0), (.lcmp, 0, 0, 0), (.ifCond .eq 5, 399, 0, 0), (.iconst 0, 5, 0, 0), (.ireturn, 0, 0, 0), (.goto 43, 422, 0, 0)], [(.aload_n 1, 1, 0, 0), (.invokevirtual 102, 86, 1, 8), (.aload_n 2, 2, 0, 0), (.invokevirtual 105, 158, 1, 9), (.if_icmp .eq 32, 422, 0, 0), (.iconst 0, 5, 0, 0), (.ireturn, 0, 0, 0), (.aload_n 1, 1, 0, 0), (.invokevirtual 106, 87, 1, 8), (.aload_n 2, 2, 0, 0), (.invokevirtual 109, 159, 1, 9), (.if_icmp .eq 19, 422, 0, 0), (.iconst 0, 5, 0, 0), (.ireturn, 0, 0, 0), (.aload_n 1, 1, 0, 0), (.invokevirtual 110, 88, 1, 8)], [(.aload_n 2, 2, 0, 0), (.invokevirtual 114, 160, 1, 9), (.lcmp, 0, 0, 0), (.ifCond .eq 5, 422, 0, 0), (.iconst 0, 5, 0, 0), (.ireturn, 0, 0, 0), (.iinc 4 4, 4, 6, 0), (.goto (-730), 13, 0, 0), (.iconst 1, 4, 0, 0), (.ireturn, 0, 0, 0)]]
def am_code : List (List (List (List am_Ins))) := [[am_c0, am_c1, am_c2, am_c3, am_c4, am_c5, am_c6, am_c7, am_c8, am_c9, am_c10, am_c11, am_c12, am_c13, am_c14, am_c15], [am_c16, am_c17, am_c18, am_c19, am_c20, am_c21, am_c22, am_c23, am_c24, am_c25, am_c26, am_c27, am_c28, am_c29, am_c30, am_c31], [am_c32, am_c33, am_c34, am_c35, am_c36, am_c37, am_c38, am_c39, am_c40, am_c41, am_c42, am_c43, am_c44, am_c45, am_c46, am_c47], [am_c48, am_c49, am_c50, am_c51, am_c52, am_c53, am_c54, am_c55, am_c56, am_c57, am_c58, am_c59, am_c60, am_c61, am_c62, am_c63], [am_c64, am_c65, am_c66, am_c67, am_c68, am_c69, am_c70, am_c71, am_c72, am_c73, am_c74, am_c75, am_c76, am_c77, am_c78, am_c79], [am_c80, am_c81, am_c82, am_c83, am_c84, am_c85, am_c86, am_c87, am_c88, am_c89, am_c90, am_c91, am_c92, am_c93, am_c94, am_c95], [am_c96, am_c97, am_c98, am_c99, am_c100, am_c101, am_c102, am_c103, am_c104, am_c105, am_c106, am_c107, am_c108, am_c109, am_c110, am_c111], [am_c112, am_c113, am_c114, am_c115, am_c116, am_c117, am_c118, am_c119, am_c120, am_c121, am_c122, am_c123, am_c124, am_c125, am_c126, am_c127], [am_c128, am_c129, am_c130, am_c131, am_c132, am_c133, am_c134, am_c135, am_c136, am_c137, am_c138, am_c139, am_c140, am_c141, am_c142, am_c143], [am_c144, am_c145, am_c146, am_c147, am_c148, am_c149, am_c150, am_c151, am_c152, am_c153, am_c154, am_c155, am_c156, am_c157, am_c158, am_c159], [am_c160, am_c161, am_c162, am_c163, am_c164, am_c165, am_c166, am_c167, am_c168, am_c169, am_c170, am_c171, am_c172, am_c173, am_c174, am_c175], [am_c176, am_c177, am_c178, am_c179]]
def am_ins (m i : Nat) : am_Ins := ((((am_code.getD (m / 16) []).getD (m % 16) []).getD (i / 16) []).getD (i % 16) (.nop, 0, 0, 0))
def am_nLs : List (List Nat) := [[1, 1, 3, 4, 4, 4, 3, 1, 1, 6, 7, 1, 1, 4, 5, 6], [5, 2, 2, 5, 4, 6, 5, 6, 6, 2, 1, 2, 1, 1, 4, 7], [8, 8, 9, 6, 5, 4, 4, 1, 1, 5, 2, 1, 4, 2, 3, 1], [2, 1, 1, 4, 2, 7, 2, 2, 7, 2, 2, 5, 5, 5, 1, 4], [4, 4, 3, 1, 5, 2, 5, 7, 1, 4, 2, 2, 1, 1, 1, 3], [2, 5, 2, 2, 2, 3, 1, 1, 1, 2, 3, 2, 3, 3, 1, 1], [5, 2, 3, 1, 1, 1, 4, 1, 5, 6, 4, 3, 2, 3, 1, 7], [2, 7, 10, 1, 4, 6, 2, 2, 3, 6, 4, 6, 2, 4, 4, 4], [2, 4, 1, 1, 2, 1, 3, 4, 6, 5, 5, 4, 1, 3, 4, 3], [2, 2, 4, 6, 8, 3, 2, 5, 2, 3, 2, 5, 2, 3, 1, 1], [1, 1, 2, 2, 4, 1, 2, 2, 3, 1, 1, 2, 3, 2, 1, 4], [6, 3, 4, 7]]
def am_nL (m : Nat) : Nat := (am_nLs.getD (m / 16) []).getD (m % 16) 0
/-- what a method answers: 0 nothing, 1 int, 2 long, 3 a reference, 4 boolean, 5 char, 6 byte -/
def am_rts : List (List Nat) := [[0, 0, 1, 0, 0, 0, 0, 0, 0, 0, 0, 0, 0, 0, 0, 0], [0, 0, 0, 1, 4, 0, 4, 0, 0, 1, 4, 4, 0, 0, 0, 1], [0, 0, 0, 0, 0, 4, 4, 0, 0, 0, 3, 0, 4, 4, 4, 0], [4, 4, 4, 4, 3, 3, 4, 4, 4, 1, 1, 4, 4, 4, 1, 4], [1, 0, 4, 0, 1, 1, 4, 2, 0, 1, 1, 1, 1, 1, 0, 0], [1, 1, 4, 1, 1, 1, 1, 1, 2, 1, 0, 4, 1, 0, 0, 1], [1, 1, 0, 0, 4, 4, 2, 4, 4, 2, 1, 1, 1, 1, 1, 0], [1, 0, 4, 4, 4, 4, 1, 0, 1, 4, 4, 0, 0, 1, 0, 0], [0, 1, 1, 1, 0, 0, 1, 0, 1, 0, 0, 0, 1, 1, 1, 1], [1, 0, 1, 1, 0, 1, 1, 1, 4, 0, 4, 1, 1, 1, 1, 1], [2, 1, 1, 1, 2, 1, 5, 1, 1, 6, 4, 0, 0, 5, 4, 1], [1, 1, 1, 4]]
def am_rt (m : Nat) : Nat := (am_rts.getD (m / 16) []).getD (m % 16) 0
/-- ids from 1 on: the kind and the length of what is made; in the order of making -/
def am_sh : List (List (Nat × Nat)) := [[(0, 0), (8, 4), (6, 14), (7, 2), (20, 700), (5, 7), (2, 10), (20, 16), (20, 16), (20, 16), (20, 16), (20, 16), (20, 48), (20, 48), (20, 48), (23, 80)], [(20, 80), (20, 80), (20, 80), (20, 32), (20, 32), (20, 16), (3, 12), (1, 4), (20, 6), (20, 32), (20, 8), (20, 8), (4, 11), (22, 8), (22, 8), (22, 8)], [(20, 8), (23, 8), (5, 7), (2, 10), (20, 16), (20, 16), (20, 16), (20, 16), (20, 16), (20, 48), (20, 48), (20, 48), (23, 80), (20, 80), (20, 80), (20, 80)], [(20, 32), (9, 61), (20, 700), (20, 160), (20, 160), (20, 160), (20, 160), (20, 160), (20, 2), (20, 64), (21, 32), (20, 96), (20, 96), (20, 96), (20, 32), (20, 32)], [(20, 32), (20, 32), (20, 32), (20, 2), (20, 400), (20, 400), (21, 32), (20, 32), (20, 32), (20, 32), (20, 32), (20, 8), (20, 8), (20, 8), (20, 8), (20, 16)], [(20, 32), (22, 8), (21, 8), (22, 8), (22, 8), (21, 8), (21, 8), (21, 8), (21, 16), (21, 16), (20, 8), (20, 8), (22, 1)]]
def am_strs : List String := ["LD", "LDN", "ST", "STN", "S", "R", "AND", "ANDN", "OR", "ORN", "XOR", "XORN", "ADD", "SUB", "MUL", "DIV", "MOD", "GT", "GE", "EQ", "NE", "LE", "LT", ")", "NOT", "JMP", "JMPC", "JMPCN", "RET", "RETC", "RETCN", "TON", "TOF", "TP", "CTU", "CTD", "CLR", "RISE", "FALL", "STEP", "GO", "IQMXTCWLE", "TE", "CV", "N", "TO", "IF", "IFN", "n is not 1 to 8", "i is not 0 to 31", "ticks is not 0 to 1000000", "n is not 0 to 100", "kind is not 0 to 4", "i is not 0 to 7", "what is not 0 to 3"]
def am_blen : List (List Nat) := [[2, 3, 2, 3, 1, 1, 3, 4, 2, 3, 3, 4, 3, 3, 3, 3], [3, 2, 2, 2, 2, 2, 2, 1, 3, 3, 4, 5, 3, 4, 5, 3], [3, 2, 3, 3, 3, 4, 4, 4, 2, 9, 2, 2, 1, 2, 2, 3], [15, 16, 25, 17, 18, 15, 18]]
def am_byt : List (List (List Int32)) := [[[76, 68], [76, 68, 78], [83, 84], [83, 84, 78], [83], [82], [65, 78, 68], [65, 78, 68, 78], [79, 82], [79, 82, 78], [88, 79, 82], [88, 79, 82, 78], [65, 68, 68], [83, 85, 66], [77, 85, 76], [68, 73, 86]], [[77, 79, 68], [71, 84], [71, 69], [69, 81], [78, 69], [76, 69], [76, 84], [41], [78, 79, 84], [74, 77, 80], [74, 77, 80, 67], [74, 77, 80, 67, 78], [82, 69, 84], [82, 69, 84, 67], [82, 69, 84, 67, 78], [84, 79, 78]], [[84, 79, 70], [84, 80], [67, 84, 85], [67, 84, 68], [67, 76, 82], [82, 73, 83, 69], [70, 65, 76, 76], [83, 84, 69, 80], [71, 79], [73, 81, 77, 88, 84, 67, 87, 76, 69], [84, 69], [67, 86], [78], [84, 79], [73, 70], [73, 70, 78]], [[110, 32, 105, 115, 32, 110, 111, 116, 32, 49, 32, 116, 111, 32, 56], [105, 32, 105, 115, 32, 110, 111, 116, 32, 48, 32, 116, 111, 32, 51, 49], [116, 105, 99, 107, 115, 32, 105, 115, 32, 110, 111, 116, 32, 48, 32, 116, 111, 32, 49, 48, 48, 48, 48, 48, 48], [110, 32, 105, 115, 32, 110, 111, 116, 32, 48, 32, 116, 111, 32, 49, 48, 48], [107, 105, 110, 100, 32, 105, 115, 32, 110, 111, 116, 32, 48, 32, 116, 111, 32, 52], [105, 32, 105, 115, 32, 110, 111, 116, 32, 48, 32, 116, 111, 32, 55], [119, 104, 97, 116, 32, 105, 115, 32, 110, 111, 116, 32, 48, 32, 116, 111, 32, 51]]]
def am_arr : List (List (List Int32)) := [[[32, 32, 32, 16, 8, 8, 32, 32, 16, 8, 8], [0, 0, 0, 0, 0, 0, 9, 10, 11, 12, 13, 14, 15, 16, 17, 18, 19, 20, 21, 22, 23, 24, 0, 0, 0, 0, 0, 0, 0, 0, 0, 1, 2, 3, 4, 5, 6, 7, 8, 0, 0]]]
def am_form : List (List Int32) := [[0, 0, 2, 2, 3, 3, 1, 1, 1, 1, 1, 1, 1, 1, 1, 1], [1, 1, 1, 1, 1, 1, 1, 4, 5, 6, 6, 6, 7, 7, 7, 8], [8, 8, 9, 9, 10, 11, 11, 12, 13]]
def am_mode : List (List Int32) := [[0, 1, 0, 1, 0, 0, 0, 1, 0, 1, 0, 1, 0, 0, 0, 0], [0, 0, 0, 0, 0, 0, 0, 0, 0, 0, 2, 3, 0, 2, 3, 0], [0, 0, 0, 0, 0, 0, 0, 0, 0]]
def am_ord : List (List Int32) := [[0, 1, 2, 3, 4, 5, 6, 7, 8, 9, 10, 11, 12, 13, 14, 15], [16, 17, 18, 19, 20, 21, 22, 23, 24, 25, 26, 27, 28, 29, 30, 31], [32, 33, 34, 35, 36, 37, 38, 39, 40]]
def am_spl : List (List Nat) := [[2001, 2002, 2003, 2004, 2005, 2006, 2007, 2008, 2009, 2010, 2011, 2012, 2013, 2014, 2015, 2016], [2017, 2018, 2019, 2020, 2021, 2022, 2023, 2024, 2025, 2026, 2027, 2028, 2029, 2030, 2031, 2032], [2033, 2034, 2035, 2036, 2037, 2038, 2039, 2040, 2041]]
/-- the class's own method behind a catch of the law -/
def am_wm (a : Nat) : Nat := ([73, 79, 80, 81, 82, 83, 84, 85] : List Nat).getD a 0
def am_get {α : Type} (l : List (List α)) (k : Nat) (d : α) : α := (l.getD (k / 16) []).getD (k % 16) d
/-- constants that stand at the start: ops 1001.., strings 2001.., their bytes 3001.., OPS 4001, int tables 4002.., the script 4600 -/
def am_S0 (L q : Nat) : Nat × Nat := cond (Nat.ble q 1000) (0, 0) (cond (Nat.ble q 1041) (30, 0) (cond (Nat.ble q 2000) (0, 0) (cond (Nat.ble q 2055) (31, 0) (cond (Nat.ble q 3000) (0, 0) (cond (Nat.ble q 3055) (27, am_get am_blen (q - 3001) 0) (cond (Nat.ble q 4000) (0, 0) (cond (Nat.beq q 4001) (25, 41) (cond (Nat.beq q 4600) (24, L) (cond (Nat.ble q 4003) (26, (am_get am_arr (q - 4002) []).length) (0, 0))))))))))
def am_SF (L q : Nat) : Nat × Nat := cond (Nat.ble q 92) (am_get am_sh q (0, 0)) (am_S0 L q)
/-- what constant arrays and objects hold: ints -/
def am_cI (q k : Nat) : Int32 := cond (Nat.ble q 2000) (cond (Nat.beq k 1) (am_get am_form (q - 1001) 0) (cond (Nat.beq k 2) (am_get am_mode (q - 1001) 0) (am_get am_ord (q - 1001) 0))) (cond (Nat.ble q 3000) 0 (cond (Nat.ble q 4000) ((am_get am_byt (q - 3001) []).getD k 0) ((am_get am_arr (q - 4002) []).getD k 0)))
/-- and references -/
def am_cR (q k : Nat) : Nat := cond (Nat.ble q 2000) (am_get am_spl (q - 1001) 0) (cond (Nat.ble q 3000) (q + 1000) (1001 + k))
def am_rf : List (List (List Nat)) := [[[], [2, 22, 34, 0], [3, 5, 0, 0, 0, 0, 0, 0, 0, 0, 0, 0, 20, 21], [4, 0], [], [6, 15, 16, 17, 18, 19, 0], [7, 8, 9, 10, 11, 0, 12, 13, 14, 0], [], [], [], [], [], [], [], [], []], [[], [], [], [], [], [], [23, 0, 0, 0, 0, 0, 28, 0, 0, 0, 32, 33], [24, 25, 26, 27], [], [], [], [], [0, 29, 0, 0, 30, 0, 31, 0, 0, 0, 0], [], [], []], [[], [], [35, 44, 45, 46, 47, 48, 0], [36, 37, 38, 39, 40, 0, 41, 42, 43, 0], [], [], [], [], [], [], [], [], [], [], [], []], [[], [0, 50, 0, 0, 0, 51, 52, 53, 54, 55, 56, 57, 58, 59, 60, 61, 62, 63, 64, 65, 66, 67, 0, 0, 0, 0, 0, 0, 0, 0, 68, 69, 0, 70, 71, 72, 73, 74, 75, 76, 77, 78, 79, 80, 0, 0, 0, 0, 81, 82, 83, 84, 85, 86, 87, 88, 89, 90, 91, 0, 0], [], [], [], [], [], [], [], [], [], [], [], [], [], []], [[], [], [], [], [], [], [], [], [], [], [], [], [], [], [], []], [[], [], [], [], [], [], [], [], [], [], [], [], []]]
/-- the references in fields, when all is made -/
def am_RF (q k : Nat) : Nat := (am_get am_rf q []).getD k 0
/-- the change of places of the two programs -/
def am_sig (q : Nat) : Nat := cond (Nat.ble 5 q && Nat.ble q 19) (q + 29) (cond (Nat.ble 34 q && Nat.ble q 48) (q - 29) q)
/-- field types by kind: 0 int, 5 boolean, 1 long, 2 a reference -/
def am_fts : List (List Nat) := [[], [2, 2, 2, 2], [2, 2, 2, 2, 2, 0, 2, 2, 2, 0], [2, 1, 0, 0, 0, 0, 2, 0, 0, 0, 2, 2], [0, 2, 0, 0, 2, 0, 2, 0, 0, 0, 0], [2, 2, 2, 2, 2, 2, 0], [2, 2, 0, 0, 0, 0, 0, 0, 5, 0, 0, 0, 2, 2], [2, 0], [2, 2, 2, 0], [0, 2, 0, 0, 0, 2, 2, 2, 2, 2, 2, 2, 2, 2, 2, 2, 2, 2, 2, 2, 2, 2, 0, 0, 0, 0, 0, 0, 0, 0, 2, 2, 0, 2, 2, 2, 2, 2, 2, 2, 2, 2, 2, 2, 1, 0, 0, 0, 2, 2, 2, 2, 2, 2, 2, 2, 2, 2, 2, 0, 0]]
def am_ft (kd k : Nat) : Nat := (am_fts.getD kd []).getD k 0
end
section
/-! THE ABSTRACT MACHINE: one world of numbered cells; ints, longs, op references by (cell, place); a method's run is a function. -/
abbrev am_D : Type := (Nat → Nat → Int32) × (Nat → Nat → Int64) × (Nat → Nat → Nat)
abbrev am_Z : Type := (Nat → Nat → Nat) × (Nat → Nat × Nat) × Nat
abbrev am_H : Type := am_D × am_Z × (Nat × Nat)
abbrev am_R : Type := Option (Value × am_H)
abbrev am_K : Type := Nat → Nat → List Value → List Value → am_H → am_R
def am_up {α : Type} (f : Nat → Nat → α) (q k : Nat) (v : α) : Nat → Nat → α := fun a b => cond (Nat.beq a q && Nat.beq b k) v (f a b)
def am_clr {α : Type} (f : Nat → Nat → α) (q : Nat) (v : α) : Nat → Nat → α := fun a b => cond (Nat.beq a q) v (f a b)
abbrev am_S (h : am_H) (q : Nat) : Nat × Nat := h.2.1.2.1 q
def am_sI (h : am_H) (q k : Nat) (v : Int32) : am_H := ((am_up h.1.1 q k v, h.1.2.1, h.1.2.2), h.2)
def am_sJ (h : am_H) (q k : Nat) (v : Int64) : am_H := ((h.1.1, am_up h.1.2.1 q k v, h.1.2.2), h.2)
def am_sT (h : am_H) (q k : Nat) (v : Nat) : am_H := ((h.1.1, h.1.2.1, am_up h.1.2.2 q k v), h.2)
def am_sR (h : am_H) (q k : Nat) (v : Nat) : am_H := (h.1, (am_up h.2.1.1 q k v, h.2.1.2), h.2.2)
def am_swap (h : am_H) : am_H := ((fun a => h.1.1 (am_sig a), fun a => h.1.2.1 (am_sig a), fun a => h.1.2.2 (am_sig a)), (fun a b => am_sig (h.2.1.1 (am_sig a) b), fun a => h.2.1.2.1 (am_sig a), h.2.1.2.2), h.2.2)
def am_ren (v : Value) : Value := match v with
  | .ref q => .ref (am_sig q)
  | v => v
def am_new (h : am_H) (kd len : Nat) : am_H := ((am_clr h.1.1 (h.2.1.2.2 + 1) 0, am_clr h.1.2.1 (h.2.1.2.2 + 1) 0, am_clr h.1.2.2 (h.2.1.2.2 + 1) 0), (am_clr h.2.1.1 (h.2.1.2.2 + 1) 0, fun q => cond (Nat.beq q (h.2.1.2.2 + 1)) (kd, len) (h.2.1.2.1 q), h.2.1.2.2 + 1), (h.2.2.1 + 1, h.2.2.2 + len))
def am_vI (v : Value) (f : Int32 → am_R) : am_R := match v with
  | .int x => f x
  | _ => none
def am_vJ (v : Value) (f : Int64 → am_R) : am_R := match v with
  | .long x => f x
  | _ => none
def am_vR (v : Value) (f : Nat → am_R) : am_R := match v with
  | .ref x => f x
  | _ => none
def am_i1 (st : List Value) (f : Int32 → List Value → am_R) : am_R := match st with
  | .int x :: r => f x r
  | _ => none
def am_j1 (st : List Value) (f : Int64 → List Value → am_R) : am_R := match st with
  | .long x :: r => f x r
  | _ => none
def am_r1 (st : List Value) (f : Nat → List Value → am_R) : am_R := match st with
  | .ref x :: r => f x r
  | _ => none
def am_i2 (st : List Value) (f : Int32 → Int32 → List Value → am_R) : am_R := match st with
  | .int y :: .int x :: r => f x y r
  | _ => none
def am_j2 (st : List Value) (f : Int64 → Int64 → List Value → am_R) : am_R := match st with
  | .long y :: .long x :: r => f x y r
  | _ => none
def am_ji (st : List Value) (f : Int64 → Int32 → List Value → am_R) : am_R := match st with
  | .int y :: .long x :: r => f x y r
  | _ => none
def am_r2 (st : List Value) (f : Nat → Nat → List Value → am_R) : am_R := match st with
  | .ref y :: .ref x :: r => f x y r
  | _ => none
def am_ir (st : List Value) (f : Int32 → Nat → List Value → am_R) : am_R := match st with
  | .int j :: .ref q :: r => f j q r
  | _ => none
def am_iir (st : List Value) (f : Int32 → Int32 → Nat → List Value → am_R) : am_R := match st with
  | .int x :: .int j :: .ref q :: r => f x j q r
  | _ => none
def am_jir (st : List Value) (f : Int64 → Int32 → Nat → List Value → am_R) : am_R := match st with
  | .long x :: .int j :: .ref q :: r => f x j q r
  | _ => none
def am_rir (st : List Value) (f : Nat → Int32 → Nat → List Value → am_R) : am_R := match st with
  | .ref x :: .int j :: .ref q :: r => f x j q r
  | _ => none
def am_vr (st : List Value) (f : Value → Nat → List Value → am_R) : am_R := match st with
  | v :: .ref q :: r => f v q r
  | _ => none
def am_v1 (st : List Value) (f : Value → List Value → am_R) : am_R := match st with
  | .int x :: r => f (.int x) r
  | .ref x :: r => f (.ref x) r
  | _ => none
def am_o1 (st : List Value) (f : Value → am_R) : am_R := match st with
  | [v] => f v
  | _ => none
def am_o0 (st : List Value) (f : am_R) : am_R := match st with
  | [] => f
  | _ => none
/-- a store to local i: what was a long in front is lost -/
def am_st1 : List Value → Nat → Value → List Value
  | [], _, _ => []
  | _ :: r, 0, v => v :: r
  | x :: r, n + 1, v => match n, x with
    | 0, .long _ => .null :: am_st1 r 0 v
    | n, x => x :: am_st1 r n v
def am_st2 (ls : List Value) (i : Nat) (v : Value) : List Value := ((am_st1 ls i .null).set i v).set (i + 1) .null
def am_exp : List Value → List Value
  | [] => []
  | .long x :: r => .long x :: .null :: am_exp r
  | v :: r => v :: am_exp r
def am_ent (as : List Value) (n : Nat) : List Value := am_exp as ++ List.replicate (n - (am_exp as).length) .null
def am_bit (x : Int32) : Bool := decide (x = 0) || decide (x = 1)
def am_br (cnd : ClassFile.Cond) (x y : Int32) (t f : am_R) : am_R := match cnd with
  | .eq => if x = y then t else f
  | .ne => if x = y then f else t
  | .lt => if x < y then t else f
  | .ge => if y ≤ x then t else f
  | .gt => if y < x then t else f
  | .le => if x ≤ y then t else f
def am_abr (cnd : ClassFile.ACond) (x y : Nat) (t f : am_R) : am_R := match cnd with
  | .eq => if x = y then t else f
  | .ne => if x = y then f else t
def am_sel (k : Nat → am_R) (x : Int32) (d : Nat) : Int32 → List Nat → am_R
  | _, [] => k d
  | lo, t :: ts => if x = lo then k t else am_sel k x d (lo + 1) ts
def am_inb (j : Int32) (n : Nat) (r : am_R) : am_R := if j < 0 then none else if n ≤ j.toNatClampNeg then none else r
/-- the refused calls: what the law's catch answers -/
def am_thr (a : Nat) (as : List Value) (t1 t2 ok : am_R) : am_R := match a, as with
  | 0, [_, .int n, _, _] => if n < 1 then t1 else if 8 < n then t1 else ok
  | 1, [_, .int i, _] => if i < 0 then t1 else if 32 ≤ i then t1 else ok
  | 2, [_, .int t, _] => if t < 0 then t1 else if 1000000 < t then t1 else ok
  | 3, [_, .int n, .int t, _] => if n < 0 then t1 else if 100 < n then t1 else if t < 0 then t1 else if 1000000 < t then t1 else ok
  | 4, [_, .int i, _] => if i < 0 then t1 else if 32 ≤ i then t1 else ok
  | 5, [_, .int i, _] => if i < 0 then t1 else if 4 < i then t1 else ok
  | 6, [_, .int i, _] => if i < 0 then t1 else if 32 ≤ i then t1 else ok
  | 7, [_, .int i, .int w, _] => if i < 0 then t1 else if 8 ≤ i then t1 else if w < 0 then t2 else if 3 < w then t2 else ok
  | _, _ => none
def am_bump (h : am_H) : am_H := (h.1, h.2.1, (h.2.2.1 + 2, h.2.2.2 + 16))
def am_win (a : Nat) (as : List Value) : List Value := match a with
  | 1 => as
  | _ => as.dropLast
def am_out (a : Nat) (as : List Value) (v : Value) (h : am_H) (k : am_H → am_R) : am_R := match a with
  | 1 => k h
  | 4 => match as.getLast? with
    | some (.ref o) => cond (Nat.beq (am_S h o).1 22) (am_inb 0 (am_S h o).2 (am_vI v fun x => if x = 0 then k (am_sJ h o 0 0) else k (am_sJ h o 0 1))) none
    | _ => none
  | _ => match as.getLast? with
    | some (.ref o) => cond (Nat.beq (am_S h o).1 22) (am_inb 0 (am_S h o).2 (am_vI v fun x => k (am_sJ h o 0 x.toInt64))) none
    | _ => none
def am_recv (c : Nat) (as : List Value) (h : am_H) (k : am_R) : am_R := match c, as with
  | 0, _ => k
  | c + 1, .ref q :: _ => cond (Nat.beq (am_S h q).1 (c + 1)) k none
  | _, _ => none
def am_back (t : Nat) (v : Value) (r : List Value) (k : List Value → am_R) : am_R := match t with
  | 0 => k r
  | 2 => am_vJ v fun x => k (.long x :: r)
  | 3 => am_vR v fun x => k (.ref x :: r)
  | _ => am_vI v fun x => k (.int x :: r)
def am_call (K : am_K) (m i : Nat) (ls st : List Value) (h : am_H) (a b c : Nat) : am_R :=
  cond (Nat.ble b st.length) (cond (Nat.beq c 99) (am_r1 st fun q r => cond (Nat.ble 1 (am_S h q).1 && Nat.ble (am_S h q).1 9) (K m (i + 1) ls r h) none) (
    cond (Nat.beq c 98) (am_thr a (st.take b).reverse (K m (i + 1) ls (.int 1 :: st.drop b) (am_bump h)) (K m (i + 1) ls (.int 2 :: st.drop b) (am_bump h)) ((K (am_wm a) 0 (am_ent (am_win a (st.take b).reverse) (am_nL (am_wm a))) [] h).bind fun rh => am_out a (st.take b).reverse rh.1 rh.2 fun h' => K m (i + 1) ls (.int 0 :: st.drop b) h')) (am_recv c (st.take b).reverse h ((K a 0 (am_ent (st.take b).reverse (am_nL a)) [] h).bind fun rh => am_back (am_rt a) rh.1 (st.drop b) fun r => K m (i + 1) ls r rh.2)))) none
def am_fin (m : Nat) (v : Value) (h : am_H) : am_R := match am_rt m, v with
  | 1, .int x => some (.int x, h)
  | 2, .long x => some (.long x, h)
  | 3, .ref x => some (.ref x, h)
  | 4, .int x => cond (am_bit x) (some (.int x, h)) none
  | 5, .int x => if x < 0 then none else if 65535 < x then none else some (.int x, h)
  | 6, .int x => if x = 0 then some (.int x, h) else none
  | _, _ => none
def am_step (K : am_K) (m i : Nat) (ls st : List Value) (h : am_H) : am_R :=
  match am_ins m i with
  | (ir, a, b, c) => match ir with
    | .iload_n _ => am_vI (ls.getD a .null) fun x => K m (i + 1) ls (.int x :: st) h
    | .iload _ => am_vI (ls.getD a .null) fun x => K m (i + 1) ls (.int x :: st) h
    | .lload_n _ => am_vJ (ls.getD a .null) fun x => K m (i + 1) ls (.long x :: st) h
    | .lload _ => am_vJ (ls.getD a .null) fun x => K m (i + 1) ls (.long x :: st) h
    | .aload_n _ => am_vR (ls.getD a .null) fun x => K m (i + 1) ls (.ref x :: st) h
    | .aload _ => am_vR (ls.getD a .null) fun x => K m (i + 1) ls (.ref x :: st) h
    | .istore_n _ => am_i1 st fun x r => K m (i + 1) (am_st1 ls a (.int x)) r h
    | .istore _ => am_i1 st fun x r => K m (i + 1) (am_st1 ls a (.int x)) r h
    | .astore_n _ => am_r1 st fun x r => K m (i + 1) (am_st1 ls a (.ref x)) r h
    | .astore _ => am_r1 st fun x r => K m (i + 1) (am_st1 ls a (.ref x)) r h
    | .lstore_n _ => am_j1 st fun x r => K m (i + 1) (am_st2 ls a (.long x)) r h
    | .lstore _ => am_j1 st fun x r => K m (i + 1) (am_st2 ls a (.long x)) r h
    | .iinc _ _ => am_vI (ls.getD a .null) fun x => K m (i + 1) (am_st1 ls a (.int (x + am_gI b))) st h
    | .iconst _ => K m (i + 1) ls (.int (am_gI a) :: st) h
    | .bipush _ => K m (i + 1) ls (.int (am_gI a) :: st) h
    | .sipush _ => K m (i + 1) ls (.int (am_gI a) :: st) h
    | .lconst _ => K m (i + 1) ls (.long (am_gJ a) :: st) h
    | .ldc2_w _ => K m (i + 1) ls (.long (am_gJ a) :: st) h
    | .ldc _ => cond (Nat.beq b 1) (K m (i + 1) ls (.int (am_gI a) :: st) h) (K m (i + 1) ls (.ref a :: st) h)
    | .ldc_w _ => cond (Nat.beq b 1) (K m (i + 1) ls (.int (am_gI a) :: st) h) (K m (i + 1) ls (.ref a :: st) h)
    | .aconst_null => K m (i + 1) ls (.ref 0 :: st) h
    | .getstatic _ => cond (Nat.beq b 1) (K m (i + 1) ls (.int (am_gI a) :: st) h) (K m (i + 1) ls (.ref a :: st) h)
    | .iadd => am_i2 st fun x y r => K m (i + 1) ls (.int (x + y) :: r) h
    | .isub => am_i2 st fun x y r => K m (i + 1) ls (.int (x - y) :: r) h
    | .imul => am_i2 st fun x y r => K m (i + 1) ls (.int (x * y) :: r) h
    | .iand => am_i2 st fun x y r => K m (i + 1) ls (.int (x &&& y) :: r) h
    | .ior => am_i2 st fun x y r => K m (i + 1) ls (.int (x ||| y) :: r) h
    | .ixor => am_i2 st fun x y r => K m (i + 1) ls (.int (x ^^^ y) :: r) h
    | .ishl => am_i2 st fun x y r => K m (i + 1) ls (.int (x <<< (y &&& 31)) :: r) h
    | .ishr => am_i2 st fun x y r => K m (i + 1) ls (.int (x >>> (y &&& 31)) :: r) h
    | .iushr => am_i2 st fun x y r => K m (i + 1) ls (.int (x.toUInt32 >>> (y.toUInt32 &&& Int32.toUInt32 31)).toInt32 :: r) h
    | .idiv => am_i2 st fun x y r => if y = 0 then none else K m (i + 1) ls (.int (x / y) :: r) h
    | .irem => am_i2 st fun x y r => if y = 0 then none else K m (i + 1) ls (.int (x - x / y * y) :: r) h
    | .ladd => am_j2 st fun x y r => K m (i + 1) ls (.long (x + y) :: r) h
    | .lsub => am_j2 st fun x y r => K m (i + 1) ls (.long (x - y) :: r) h
    | .lmul => am_j2 st fun x y r => K m (i + 1) ls (.long (x * y) :: r) h
    | .land => am_j2 st fun x y r => K m (i + 1) ls (.long (x &&& y) :: r) h
    | .lor => am_j2 st fun x y r => K m (i + 1) ls (.long (x ||| y) :: r) h
    | .lshl => am_ji st fun x y r => K m (i + 1) ls (.long (x <<< (y.toInt64 &&& 63)) :: r) h
    | .lshr => am_ji st fun x y r => K m (i + 1) ls (.long (x >>> (y.toInt64 &&& 63)) :: r) h
    | .lushr => am_ji st fun x y r => K m (i + 1) ls (.long (x.toUInt64 >>> (y.toInt64.toUInt64 &&& Int64.toUInt64 63)).toInt64 :: r) h
    | .lneg => am_j1 st fun x r => K m (i + 1) ls (.long (-x) :: r) h
    | .lcmp => am_j2 st fun x y r => K m (i + 1) ls (.int (lg_cmp x y) :: r) h
    | .i2l => am_i1 st fun x r => K m (i + 1) ls (.long x.toInt64 :: r) h
    | .l2i => am_j1 st fun x r => K m (i + 1) ls (.int x.toInt32 :: r) h
    | .i2b => am_i1 st fun x r => K m (i + 1) ls (.int x.toInt8.toInt32 :: r) h
    | .i2c => am_i1 st fun x r => K m (i + 1) ls (.int (x.toUInt32 % 65536).toInt32 :: r) h
    | .goto _ => K m a ls st h
    | .ifCond cnd _ => am_i1 st fun x r => am_br cnd x 0 (K m a ls r h) (K m (i + 1) ls r h)
    | .if_icmp cnd _ => am_i2 st fun x y r => am_br cnd x y (K m a ls r h) (K m (i + 1) ls r h)
    | .if_acmp cnd _ => am_r2 st fun x y r => cond ((Nat.beq (am_S h x).1 30 || Nat.beq x 0) && (Nat.beq (am_S h y).1 30 || Nat.beq y 0)) (am_abr cnd x y (K m a ls r h) (K m (i + 1) ls r h)) none
    | .ifnull _ => am_r1 st fun x r => cond (Nat.beq (am_S h x).1 30 || Nat.beq x 0) (if x = 0 then K m a ls r h else K m (i + 1) ls r h) none
    | .ifnonnull _ => am_r1 st fun x r => cond (Nat.beq (am_S h x).1 30 || Nat.beq x 0) (if x = 0 then K m (i + 1) ls r h else K m a ls r h) none
    | .tableswitch .. => am_i1 st fun x r => am_sel (fun t => K m t ls r h) x ((am_sw.getD a []).headD 0) (am_gI b) (am_sw.getD a []).tail
    | .getfield _ => am_r1 st fun q r => cond (Nat.beq (am_S h q).1 b) (
      cond (Nat.beq c 0) (K m (i + 1) ls (.int (h.1.1 q a) :: r) h) (
      cond (Nat.beq c 1) (K m (i + 1) ls (.long (h.1.2.1 q a) :: r) h) (
      cond (Nat.beq c 2) (K m (i + 1) ls (.ref (h.2.1.1 q a) :: r) h) (
      cond (Nat.beq c 3) (K m (i + 1) ls (.int (am_cI q a) :: r) h) (
      cond (Nat.beq c 4) (K m (i + 1) ls (.ref (am_cR q a) :: r) h) (
      cond (Nat.beq c 5) (K m (i + 1) ls (.int (h.1.1 q a) :: r) h) none)))))) none
    | .putfield _ => am_vr st fun v q r => cond (Nat.beq (am_S h q).1 b) (
      cond (Nat.beq c 0) (am_vI v fun x => K m (i + 1) ls r (am_sI h q a x)) (
      cond (Nat.beq c 1) (am_vJ v fun x => K m (i + 1) ls r (am_sJ h q a x)) (
      cond (Nat.beq c 2) (am_vR v fun x => K m (i + 1) ls r (am_sR h q a x)) (
      cond (Nat.beq c 5) (am_vI v fun x => cond (am_bit x) (K m (i + 1) ls r (am_sI h q a x)) none) (
      cond (Nat.beq c 6) (am_vR v fun x => K m (i + 1) (ls.map am_ren) (r.map am_ren) (am_swap (am_sR h q a x))) none))))) none
    | .arraylength => am_r1 st fun q r => cond (Nat.ble 20 (am_S h q).1 && Nat.ble (am_S h q).1 27) (K m (i + 1) ls (.int (nI (am_S h q).2) :: r) h) none
    | .iaload => am_ir st fun j q r => cond (Nat.beq (am_S h q).1 20 || Nat.beq (am_S h q).1 24) (am_inb j (am_S h q).2 (K m (i + 1) ls (.int (h.1.1 q j.toNatClampNeg) :: r) h)) (
        cond (Nat.beq (am_S h q).1 26) (am_inb j (am_S h q).2 (K m (i + 1) ls (.int (am_cI q j.toNatClampNeg) :: r) h)) none)
    | .baload => am_ir st fun j q r => cond (Nat.beq (am_S h q).1 21) (am_inb j (am_S h q).2 (K m (i + 1) ls (.int (h.1.1 q j.toNatClampNeg) :: r) h)) (
        cond (Nat.beq (am_S h q).1 27) (am_inb j (am_S h q).2 (K m (i + 1) ls (.int (am_cI q j.toNatClampNeg) :: r) h)) none)
    | .laload => am_ir st fun j q r => cond (Nat.beq (am_S h q).1 22) (am_inb j (am_S h q).2 (K m (i + 1) ls (.long (h.1.2.1 q j.toNatClampNeg) :: r) h)) none
    | .aaload => am_ir st fun j q r => cond (Nat.beq (am_S h q).1 23) (am_inb j (am_S h q).2 (K m (i + 1) ls (.ref (h.1.2.2 q j.toNatClampNeg) :: r) h)) (
        cond (Nat.beq (am_S h q).1 25) (am_inb j (am_S h q).2 (K m (i + 1) ls (.ref (am_cR q j.toNatClampNeg) :: r) h)) none)
    | .iastore => am_iir st fun x j q r => cond (Nat.beq (am_S h q).1 20) (am_inb j (am_S h q).2 (K m (i + 1) ls r (am_sI h q j.toNatClampNeg x))) none
    | .bastore => am_iir st fun x j q r => cond (Nat.beq (am_S h q).1 21) (am_inb j (am_S h q).2 (cond (am_bit x) (K m (i + 1) ls r (am_sI h q j.toNatClampNeg x)) none)) none
    | .lastore => am_jir st fun x j q r => cond (Nat.beq (am_S h q).1 22) (am_inb j (am_S h q).2 (K m (i + 1) ls r (am_sJ h q j.toNatClampNeg x))) none
    | .aastore => am_rir st fun x j q r => cond (Nat.beq (am_S h q).1 23) (am_inb j (am_S h q).2 (cond (Nat.beq (am_S h x).1 30) (K m (i + 1) ls r (am_sT h q j.toNatClampNeg x)) none)) none
    | .new _ => K m (i + 1) ls (.ref (h.2.1.2.2 + 1) :: st) (am_new h a b)
    | .newarray _ => am_i1 st fun x r => if x < 0 then none else if 65536 < x.toNatClampNeg then none else K m (i + 1) ls (.ref (h.2.1.2.2 + 1) :: r) (am_new h a x.toNatClampNeg)
    | .anewarray _ => am_i1 st fun x r => if x < 0 then none else if 65536 < x.toNatClampNeg then none else K m (i + 1) ls (.ref (h.2.1.2.2 + 1) :: r) (am_new h a x.toNatClampNeg)
    | .dup => am_v1 st fun v r => K m (i + 1) ls (v :: v :: r) h
    | .dup2 => am_ir st fun y x r => K m (i + 1) ls (.int y :: .ref x :: .int y :: .ref x :: r) h
    | .pop => am_v1 st fun _ r => K m (i + 1) ls r h
    | .invokevirtual _ => am_call K m i ls st h a b c
    | .invokespecial _ => am_call K m i ls st h a b c
    | .invokestatic _ => am_call K m i ls st h a b c
    | .ireturn => am_o1 st fun v => am_vI v fun _ => am_fin m v h
    | .lreturn => am_o1 st fun v => am_vJ v fun _ => am_fin m v h
    | .areturn => am_o1 st fun v => am_vR v fun _ => am_fin m v h
    | .return_ => am_o0 st (cond (Nat.beq (am_rt m) 0) (some (.null, h)) none)
    | _ => none
def am_ex : Nat → am_K
  | 0 => fun _ _ _ _ _ => none
  | n + 1 => am_step (am_ex n)
end
section
/-! WHAT A STEP ASKS OF ITS CONTINUATION: finitely many answers; so the machine without fuel satisfies the step's equation. -/
abbrev am_A : Type := (Nat × Nat × List Value × List Value × am_H) × (Value × am_H)
def am_ok (K : am_K) (P : List am_A) : Prop := ∀ p ∈ P, K p.1.1 p.1.2.1 p.1.2.2.1 p.1.2.2.2.1 p.1.2.2.2.2 = some p.2
def am_U (K : am_K) (F : am_K → am_R) : Prop := ∀ r, F K = some r → ∃ P, am_ok K P ∧ ∀ K', am_ok K' P → F K' = some r
theorem am_ok_nil {K : am_K} : am_ok K [] := fun _ h => absurd h List.not_mem_nil
theorem am_ok_app {K : am_K} {P Q : List am_A} : am_ok K (P ++ Q) ↔ am_ok K P ∧ am_ok K Q :=
  ⟨fun h => ⟨fun p q => h p (List.mem_append_left _ q), fun p q => h p (List.mem_append_right _ q)⟩, fun h p q => (List.mem_append.mp q).elim (h.1 p) (h.2 p)⟩
theorem am_Uc {K : am_K} (x : am_R) : am_U K (fun _ => x) := fun _ h => ⟨[], am_ok_nil, fun _ _ => h⟩
theorem am_Ut {K : am_K} (m i : Nat) (ls st : List Value) (h : am_H) : am_U K (fun K => K m i ls st h) := fun r hr => ⟨[((m, i, ls, st, h), r)], fun p hp => by rw [List.mem_singleton.mp hp]; exact hr, fun _ h => h _ List.mem_cons_self⟩
theorem am_Ui {K : am_K} {c : Prop} [Decidable c] {F G : am_K → am_R} (hF : am_U K F) (hG : am_U K G) : am_U K (fun K => if c then F K else G K) := by
  by_cases h : c
  · simp only [h, if_true]; exact hF
  · simp only [h, if_false]; exact hG
theorem am_Ub {K : am_K} {c : Bool} {F G : am_K → am_R} (hF : am_U K F) (hG : am_U K G) : am_U K (fun K => cond c (F K) (G K)) := by
  cases c
  · exact hG
  · exact hF
theorem am_Ubind {K : am_K} {F : am_K → am_R} {G : am_K → Value × am_H → am_R} (hF : am_U K F) (hG : ∀ x, am_U K (fun K => G K x)) : am_U K (fun K => (F K).bind (G K)) := by
  intro r hr
  have hr' : (F K).bind (G K) = some r := hr
  obtain ⟨x, h1, h2⟩ := Option.bind_eq_some_iff.mp hr'
  obtain ⟨P, p1, p2⟩ := hF x h1
  obtain ⟨Q, q1, q2⟩ := hG x r h2
  refine ⟨P ++ Q, am_ok_app.mpr ⟨p1, q1⟩, fun K' h => ?_⟩
  have h' := am_ok_app.mp h
  exact Option.bind_eq_some_iff.mpr ⟨x, p2 K' h'.1, q2 K' h'.2⟩
theorem am_UvI {K : am_K} {v : Value} {f : am_K → Int32 → am_R} (h : ∀ x, am_U K (fun K => f K x)) : am_U K (fun K => am_vI v (f K)) := by
  cases v <;> first | exact h _ | exact am_Uc _
theorem am_UvJ {K : am_K} {v : Value} {f : am_K → Int64 → am_R} (h : ∀ x, am_U K (fun K => f K x)) : am_U K (fun K => am_vJ v (f K)) := by
  cases v <;> first | exact h _ | exact am_Uc _
theorem am_UvR {K : am_K} {v : Value} {f : am_K → Nat → am_R} (h : ∀ x, am_U K (fun K => f K x)) : am_U K (fun K => am_vR v (f K)) := by
  cases v <;> first | exact h _ | exact am_Uc _
theorem am_Ui1 {K : am_K} {st : List Value} {f : am_K → Int32 → List Value → am_R} (h : ∀ x r, am_U K (fun K => f K x r)) : am_U K (fun K => am_i1 st (f K)) := by
  rcases st with _ | ⟨v, r⟩
  · exact am_Uc _
  · cases v <;> first | exact h _ _ | exact am_Uc _
theorem am_Uj1 {K : am_K} {st : List Value} {f : am_K → Int64 → List Value → am_R} (h : ∀ x r, am_U K (fun K => f K x r)) : am_U K (fun K => am_j1 st (f K)) := by
  rcases st with _ | ⟨v, r⟩
  · exact am_Uc _
  · cases v <;> first | exact h _ _ | exact am_Uc _
theorem am_Ur1 {K : am_K} {st : List Value} {f : am_K → Nat → List Value → am_R} (h : ∀ x r, am_U K (fun K => f K x r)) : am_U K (fun K => am_r1 st (f K)) := by
  rcases st with _ | ⟨v, r⟩
  · exact am_Uc _
  · cases v <;> first | exact h _ _ | exact am_Uc _
theorem am_Uc1 {K : am_K} {st : List Value} {f : am_K → Value → List Value → am_R} (h : ∀ x r, am_U K (fun K => f K x r)) : am_U K (fun K => am_v1 st (f K)) := by
  rcases st with _ | ⟨v, r⟩
  · exact am_Uc _
  · cases v <;> first | exact h _ _ | exact am_Uc _
theorem am_Ui2 {K : am_K} {st : List Value} {f : am_K → Int32 → Int32 → List Value → am_R} (h : ∀ x y r, am_U K (fun K => f K x y r)) : am_U K (fun K => am_i2 st (f K)) := by
  rcases st with _ | ⟨v, _ | ⟨w, r⟩⟩
  · exact am_Uc _
  · cases v <;> exact am_Uc _
  · cases v <;> first | exact am_Uc _ | (cases w <;> first | exact h _ _ _ | exact am_Uc _)
theorem am_Uj2 {K : am_K} {st : List Value} {f : am_K → Int64 → Int64 → List Value → am_R} (h : ∀ x y r, am_U K (fun K => f K x y r)) : am_U K (fun K => am_j2 st (f K)) := by
  rcases st with _ | ⟨v, _ | ⟨w, r⟩⟩
  · exact am_Uc _
  · cases v <;> exact am_Uc _
  · cases v <;> first | exact am_Uc _ | (cases w <;> first | exact h _ _ _ | exact am_Uc _)
theorem am_Uji {K : am_K} {st : List Value} {f : am_K → Int64 → Int32 → List Value → am_R} (h : ∀ x y r, am_U K (fun K => f K x y r)) : am_U K (fun K => am_ji st (f K)) := by
  rcases st with _ | ⟨v, _ | ⟨w, r⟩⟩
  · exact am_Uc _
  · cases v <;> exact am_Uc _
  · cases v <;> first | exact am_Uc _ | (cases w <;> first | exact h _ _ _ | exact am_Uc _)
theorem am_Ur2 {K : am_K} {st : List Value} {f : am_K → Nat → Nat → List Value → am_R} (h : ∀ x y r, am_U K (fun K => f K x y r)) : am_U K (fun K => am_r2 st (f K)) := by
  rcases st with _ | ⟨v, _ | ⟨w, r⟩⟩
  · exact am_Uc _
  · cases v <;> exact am_Uc _
  · cases v <;> first | exact am_Uc _ | (cases w <;> first | exact h _ _ _ | exact am_Uc _)
theorem am_Uir {K : am_K} {st : List Value} {f : am_K → Int32 → Nat → List Value → am_R} (h : ∀ x y r, am_U K (fun K => f K x y r)) : am_U K (fun K => am_ir st (f K)) := by
  rcases st with _ | ⟨v, _ | ⟨w, r⟩⟩
  · exact am_Uc _
  · cases v <;> exact am_Uc _
  · cases v <;> first | exact am_Uc _ | (cases w <;> first | exact h _ _ _ | exact am_Uc _)
theorem am_Uvr {K : am_K} {st : List Value} {f : am_K → Value → Nat → List Value → am_R} (h : ∀ x y r, am_U K (fun K => f K x y r)) : am_U K (fun K => am_vr st (f K)) := by
  rcases st with _ | ⟨v, _ | ⟨w, r⟩⟩
  · exact am_Uc _
  · exact am_Uc _
  · cases w <;> first | exact h _ _ _ | exact am_Uc _
theorem am_Uiir {K : am_K} {st : List Value} {f : am_K → Int32 → Int32 → Nat → List Value → am_R} (h : ∀ x y z r, am_U K (fun K => f K x y z r)) : am_U K (fun K => am_iir st (f K)) := by
  rcases st with _ | ⟨v, _ | ⟨w, _ | ⟨u, r⟩⟩⟩
  · exact am_Uc _
  · cases v <;> exact am_Uc _
  · cases v <;> first | exact am_Uc _ | (cases w <;> exact am_Uc _)
  · cases v <;> first | exact am_Uc _ | (cases w <;> first | exact am_Uc _ | (cases u <;> first | exact h _ _ _ _ | exact am_Uc _))
theorem am_Ujir {K : am_K} {st : List Value} {f : am_K → Int64 → Int32 → Nat → List Value → am_R} (h : ∀ x y z r, am_U K (fun K => f K x y z r)) : am_U K (fun K => am_jir st (f K)) := by
  rcases st with _ | ⟨v, _ | ⟨w, _ | ⟨u, r⟩⟩⟩
  · exact am_Uc _
  · cases v <;> exact am_Uc _
  · cases v <;> first | exact am_Uc _ | (cases w <;> exact am_Uc _)
  · cases v <;> first | exact am_Uc _ | (cases w <;> first | exact am_Uc _ | (cases u <;> first | exact h _ _ _ _ | exact am_Uc _))
theorem am_Urir {K : am_K} {st : List Value} {f : am_K → Nat → Int32 → Nat → List Value → am_R} (h : ∀ x y z r, am_U K (fun K => f K x y z r)) : am_U K (fun K => am_rir st (f K)) := by
  rcases st with _ | ⟨v, _ | ⟨w, _ | ⟨u, r⟩⟩⟩
  · exact am_Uc _
  · cases v <;> exact am_Uc _
  · cases v <;> first | exact am_Uc _ | (cases w <;> exact am_Uc _)
  · cases v <;> first | exact am_Uc _ | (cases w <;> first | exact am_Uc _ | (cases u <;> first | exact h _ _ _ _ | exact am_Uc _))
theorem am_br_or (cnd : ClassFile.Cond) (x y : Int32) : (∀ t f, am_br cnd x y t f = t) ∨ (∀ t f, am_br cnd x y t f = f) := by
  cases cnd <;> simp only [am_br]
  · by_cases h : x = y
    · exact Or.inl fun t f => if_pos h
    · exact Or.inr fun t f => if_neg h
  · by_cases h : x = y
    · exact Or.inr fun t f => if_pos h
    · exact Or.inl fun t f => if_neg h
  · by_cases h : x < y
    · exact Or.inl fun t f => if_pos h
    · exact Or.inr fun t f => if_neg h
  · by_cases h : y ≤ x
    · exact Or.inl fun t f => if_pos h
    · exact Or.inr fun t f => if_neg h
  · by_cases h : y < x
    · exact Or.inl fun t f => if_pos h
    · exact Or.inr fun t f => if_neg h
  · by_cases h : x ≤ y
    · exact Or.inl fun t f => if_pos h
    · exact Or.inr fun t f => if_neg h
theorem am_Ubr {K : am_K} {cnd : ClassFile.Cond} {x y : Int32} {F G : am_K → am_R} (hF : am_U K F) (hG : am_U K G) : am_U K (fun K => am_br cnd x y (F K) (G K)) := by
  rcases am_br_or cnd x y with h | h
  · simp only [h]; exact hF
  · simp only [h]; exact hG
theorem am_Uabr {K : am_K} {cnd : ClassFile.ACond} {x y : Nat} {F G : am_K → am_R} (hF : am_U K F) (hG : am_U K G) : am_U K (fun K => am_abr cnd x y (F K) (G K)) := by
  cases cnd
  · exact am_Ui hF hG
  · exact am_Ui hG hF
theorem am_Usel {K : am_K} {k : am_K → Nat → am_R} (h : ∀ t, am_U K (fun K => k K t)) (x : Int32) (d : Nat) : ∀ (ts : List Nat) (lo : Int32), am_U K (fun K => am_sel (k K) x d lo ts)
  | [], lo => h d
  | t :: ts, lo => am_Ui (h t) (am_Usel h x d ts (lo + 1))
theorem am_Uinb {K : am_K} {j : Int32} {n : Nat} {F : am_K → am_R} (hF : am_U K F) : am_U K (fun K => am_inb j n (F K)) := am_Ui (am_Uc _) (am_Ui (am_Uc _) hF)
theorem am_Urecv {K : am_K} {c : Nat} {as : List Value} {h : am_H} {F : am_K → am_R} (hF : am_U K F) : am_U K (fun K => am_recv c as h (F K)) := by
  rcases c with _ | c
  · exact hF
  · rcases as with _ | ⟨v, r⟩
    · exact am_Uc _
    · cases v <;> first | exact am_Ub hF (am_Uc _) | exact am_Uc _
theorem am_Uback {K : am_K} {t : Nat} {v : Value} {r : List Value} {k : am_K → List Value → am_R} (h : ∀ x, am_U K (fun K => k K x)) : am_U K (fun K => am_back t v r (k K)) := by
  rcases t with _ | _ | _ | _ | t
  · exact h _
  · exact am_UvI fun _ => h _
  · exact am_UvJ fun _ => h _
  · exact am_UvR fun _ => h _
  · exact am_UvI fun _ => h _
theorem am_thr_or (a : Nat) (as : List Value) : (∀ t1 t2 ok, am_thr a as t1 t2 ok = none) ∨ (∀ t1 t2 ok, am_thr a as t1 t2 ok = t1) ∨ (∀ t1 t2 ok, am_thr a as t1 t2 ok = t2) ∨ (∀ t1 t2 ok, am_thr a as t1 t2 ok = ok) := by
  unfold am_thr
  split <;> (repeat' split) <;> simp
theorem am_Uthr {K : am_K} {a : Nat} {as : List Value} {F G J : am_K → am_R} (hF : am_U K F) (hG : am_U K G) (hJ : am_U K J) : am_U K (fun K => am_thr a as (F K) (G K) (J K)) := by
  rcases am_thr_or a as with h | h | h | h
  · simp only [h]; exact am_Uc _
  · simp only [h]; exact hF
  · simp only [h]; exact hG
  · simp only [h]; exact hJ
theorem am_Uout {K : am_K} {a : Nat} {as : List Value} {v : Value} {h : am_H} {k : am_K → am_H → am_R} (hk : ∀ x, am_U K (fun K => k K x)) : am_U K (fun K => am_out a as v h (k K)) := by
  unfold am_out
  split
  · exact hk _
  · split
    · exact am_Ub (am_Uinb (am_UvI fun _ => am_Ui (hk _) (hk _))) (am_Uc _)
    · exact am_Uc _
  · split
    · exact am_Ub (am_Uinb (am_UvI fun _ => hk _)) (am_Uc _)
    · exact am_Uc _
theorem am_Ucall {K : am_K} (m i : Nat) (ls st : List Value) (h : am_H) (a b c : Nat) : am_U K (fun K => am_call K m i ls st h a b c) := by
  unfold am_call
  refine am_Ub (am_Ub (am_Ur1 fun _ _ => am_Ub (am_Ut _ _ _ _ _) (am_Uc _)) (am_Ub (am_Uthr (am_Ut _ _ _ _ _) (am_Ut _ _ _ _ _) (am_Ubind (am_Ut _ _ _ _ _) fun _ => am_Uout fun _ => am_Ut _ _ _ _ _)) (am_Urecv (am_Ubind (am_Ut _ _ _ _ _) fun _ => am_Uback fun _ => am_Ut _ _ _ _ _)))) (am_Uc _)
theorem am_Uo1 {K : am_K} {st : List Value} {f : am_K → Value → am_R} (h : ∀ x, am_U K (fun K => f K x)) : am_U K (fun K => am_o1 st (f K)) := by
  rcases st with _ | ⟨v, _ | ⟨w, r⟩⟩
  · exact am_Uc _
  · exact h _
  · exact am_Uc _
set_option maxHeartbeats 4000000 in
theorem am_Ustep {K : am_K} (m i : Nat) (ls st : List Value) (h : am_H) : am_U K (fun K => am_step K m i ls st h) := by
  unfold am_step
  rcases am_ins m i with ⟨ir, a, b, c⟩
  cases ir <;> dsimp only <;> first
    | exact am_Uc _
    | exact am_Ut _ _ _ _ _
    | exact am_Ucall _ _ _ _ _ _ _ _
    | exact am_UvI fun _ => am_Ut _ _ _ _ _
    | exact am_UvJ fun _ => am_Ut _ _ _ _ _
    | exact am_UvR fun _ => am_Ut _ _ _ _ _
    | exact am_Ui1 fun _ _ => am_Ut _ _ _ _ _
    | exact am_Uj1 fun _ _ => am_Ut _ _ _ _ _
    | exact am_Ur1 fun _ _ => am_Ut _ _ _ _ _
    | exact am_Uc1 fun _ _ => am_Ut _ _ _ _ _
    | exact am_Ui2 fun _ _ _ => am_Ut _ _ _ _ _
    | exact am_Ui2 fun _ _ _ => am_Ui (am_Uc _) (am_Ut _ _ _ _ _)
    | exact am_Uj2 fun _ _ _ => am_Ut _ _ _ _ _
    | exact am_Uji fun _ _ _ => am_Ut _ _ _ _ _
    | exact am_Uir fun _ _ _ => am_Ut _ _ _ _ _
    | exact am_Ub (am_Ut _ _ _ _ _) (am_Ut _ _ _ _ _)
    | exact am_Ui1 fun _ _ => am_Ubr (am_Ut _ _ _ _ _) (am_Ut _ _ _ _ _)
    | exact am_Ui2 fun _ _ _ => am_Ubr (am_Ut _ _ _ _ _) (am_Ut _ _ _ _ _)
    | exact am_Ur2 fun _ _ _ => am_Ub (am_Uabr (am_Ut _ _ _ _ _) (am_Ut _ _ _ _ _)) (am_Uc _)
    | exact am_Ur1 fun _ _ => am_Ub (am_Ui (am_Ut _ _ _ _ _) (am_Ut _ _ _ _ _)) (am_Uc _)
    | exact am_Ui1 fun _ _ => am_Usel (fun _ => am_Ut _ _ _ _ _) _ _ _ _
    | exact am_Ur1 fun _ _ => am_Ub (am_Ub (am_Ut _ _ _ _ _) (am_Ub (am_Ut _ _ _ _ _) (am_Ub (am_Ut _ _ _ _ _) (am_Ub (am_Ut _ _ _ _ _) (am_Ub (am_Ut _ _ _ _ _) (am_Ub (am_Ut _ _ _ _ _) (am_Uc _))))))) (am_Uc _)
    | exact am_Uvr fun _ _ _ => am_Ub (am_Ub (am_UvI fun _ => am_Ut _ _ _ _ _) (am_Ub (am_UvJ fun _ => am_Ut _ _ _ _ _) (am_Ub (am_UvR fun _ => am_Ut _ _ _ _ _) (am_Ub (am_UvI fun _ => am_Ub (am_Ut _ _ _ _ _) (am_Uc _)) (am_Ub (am_UvR fun _ => am_Ut _ _ _ _ _) (am_Uc _)))))) (am_Uc _)
    | exact am_Ur1 fun _ _ => am_Ub (am_Ut _ _ _ _ _) (am_Uc _)
    | exact am_Uir fun _ _ _ => am_Ub (am_Uinb (am_Ut _ _ _ _ _)) (am_Uc _)
    | exact am_Uir fun _ _ _ => am_Ub (am_Uinb (am_Ut _ _ _ _ _)) (am_Ub (am_Uinb (am_Ut _ _ _ _ _)) (am_Uc _))
    | exact am_Uiir fun _ _ _ _ => am_Ub (am_Uinb (am_Ut _ _ _ _ _)) (am_Uc _)
    | exact am_Uiir fun _ _ _ _ => am_Ub (am_Uinb (am_Ub (am_Ut _ _ _ _ _) (am_Uc _))) (am_Uc _)
    | exact am_Ujir fun _ _ _ _ => am_Ub (am_Uinb (am_Ut _ _ _ _ _)) (am_Uc _)
    | exact am_Urir fun _ _ _ _ => am_Ub (am_Uinb (am_Ub (am_Ut _ _ _ _ _) (am_Uc _))) (am_Uc _)
    | exact am_Ui1 fun _ _ => am_Ui (am_Uc _) (am_Ui (am_Uc _) (am_Ut _ _ _ _ _))
theorem am_mono {K K' : am_K} (hK : ∀ m i ls st h r, K m i ls st h = some r → K' m i ls st h = some r) {m i : Nat} {ls st : List Value} {h : am_H} {r : Value × am_H} (e : am_step K m i ls st h = some r) : am_step K' m i ls st h = some r := by
  obtain ⟨P, p1, p2⟩ := am_Ustep (K := K) m i ls st h r e
  exact p2 K' fun p hp => hK _ _ _ _ _ _ (p1 p hp)
theorem am_ex_succ : ∀ (n m i : Nat) (ls st : List Value) (h : am_H) (r : Value × am_H), am_ex n m i ls st h = some r → am_ex (n + 1) m i ls st h = some r
  | 0, _, _, _, _, _, _, e => by cases e
  | n + 1, _, _, _, _, _, _, e => am_mono (am_ex_succ n) e
theorem am_ex_le {n k : Nat} (hk : n ≤ k) {m i : Nat} {ls st : List Value} {h : am_H} {r : Value × am_H} (e : am_ex n m i ls st h = some r) : am_ex k m i ls st h = some r := by
  induction hk with
  | refl => exact e
  | step _ ih => exact am_ex_succ _ _ _ _ _ _ _ ih
/-- the machine without fuel -/
noncomputable def am_E : am_K := fun m i ls st h => Classical.epsilon fun r : am_R => (∃ n, r = am_ex n m i ls st h ∧ r ≠ none) ∨ ((∀ n, am_ex n m i ls st h = none) ∧ r = none)
theorem am_E_spec (m i : Nat) (ls st : List Value) (h : am_H) : (∃ n, am_E m i ls st h = am_ex n m i ls st h ∧ am_E m i ls st h ≠ none) ∨ ((∀ n, am_ex n m i ls st h = none) ∧ am_E m i ls st h = none) := by
  have := Classical.epsilon_spec (p := fun r : am_R => (∃ n, r = am_ex n m i ls st h ∧ r ≠ none) ∨ ((∀ n, am_ex n m i ls st h = none) ∧ r = none)) (by
    by_cases q : ∀ n, am_ex n m i ls st h = none
    · exact ⟨none, Or.inr ⟨q, rfl⟩⟩
    · obtain ⟨n, hn⟩ := Classical.not_forall.mp q
      exact ⟨_, Or.inl ⟨n, rfl, hn⟩⟩)
  exact this
theorem am_E_iff {m i : Nat} {ls st : List Value} {h : am_H} {r : Value × am_H} : am_E m i ls st h = some r ↔ ∃ n, am_ex n m i ls st h = some r := by
  constructor
  · intro e
    rcases am_E_spec m i ls st h with ⟨n, e1, -⟩ | ⟨-, e1⟩
    · exact ⟨n, by rw [← e1]; exact e⟩
    · rw [e] at e1; cases e1
  · rintro ⟨n, e⟩
    rcases am_E_spec m i ls st h with ⟨k, e1, e2⟩ | ⟨e1, -⟩
    · cases hr : am_E m i ls st h with
      | none => exact absurd hr e2
      | some r' =>
        rw [hr] at e1
        have h1 := am_ex_le (Nat.le_max_left n k) e
        have h2 := am_ex_le (Nat.le_max_right n k) e1.symm
        rw [h1] at h2
        exact h2.symm
    · rw [e1 n] at e; cases e
theorem am_E_ok {P : List am_A} (hP : am_ok am_E P) : ∃ n, am_ok (am_ex n) P := by
  induction P with
  | nil => exact ⟨0, am_ok_nil⟩
  | cons p P ih =>
    obtain ⟨n, hn⟩ := ih fun q hq => hP q (List.mem_cons_of_mem _ hq)
    obtain ⟨k, hk⟩ := am_E_iff.mp (hP p List.mem_cons_self)
    refine ⟨max n k, fun q hq => ?_⟩
    rcases List.mem_cons.mp hq with rfl | hq
    · exact am_ex_le (Nat.le_max_right _ _) hk
    · exact am_ex_le (Nat.le_max_left _ _) (hn q hq)
/-- THE EQUATION -/
theorem am_E_eq (m i : Nat) (ls st : List Value) (h : am_H) : am_E m i ls st h = am_step am_E m i ls st h := by
  cases hr : am_step am_E m i ls st h with
  | some r =>
    obtain ⟨P, p1, p2⟩ := am_Ustep m i ls st h r hr
    obtain ⟨n, hn⟩ := am_E_ok p1
    exact am_E_iff.mpr ⟨n + 1, p2 _ hn⟩
  | none =>
    cases he : am_E m i ls st h with
    | none => rfl
    | some r =>
      obtain ⟨n, hn⟩ := am_E_iff.mp he
      cases n with
      | zero => cases hn
      | succ n =>
        have := am_mono (K' := am_E) (fun m i ls st h r e => am_E_iff.mpr ⟨n, e⟩) hn
        rw [hr] at this; cases this
def am_steps : Nat → am_K → am_K
  | 0, K => K
  | n + 1, K => am_step (am_steps n K)
theorem am_E_n (n : Nat) : am_E = am_steps n am_E := by
  induction n with
  | zero => rfl
  | succ n ih =>
    funext m i ls st h
    rw [am_E_eq]
    show am_step am_E m i ls st h = am_step (am_steps n am_E) m i ls st h
    rw [← ih]
end
