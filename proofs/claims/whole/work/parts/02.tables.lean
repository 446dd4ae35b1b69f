/-! TABLES of this claim, printed by wip/whole/gen/gen02.py out of the Statement: methods, classes, look-ups by (number of the owner, place in its constant pool). -/
def x_n : Nat := 203
def x_cns : List String := ["StateMoves", "StateMoves$Parser", "StateMoves$Pieces", "StateMoves$Kind", "StateMoves$Build", "StateMoves$Move", "StateMoves$Carrier", "StateMoves$Reckoner", "StateMoves$Store", "StateMoves$Value", "java/util/Arrays", "StateMoves$Numbers", "StateMoves$RuleSet", "java/lang/Long", "java/lang/Integer", "StateMovesModel", "StateMovesLaw"]
def x_cn (i : Nat) : String := (x_cns[i]?).getD ""
def x_ocs_0 : List Nat := [0, 1, 2, 3, 4, 5, 6, 7, 8, 0, 0, 0, 2, 4, 0, 0, 4, 0, 4, 3, 3, 0, 8, 0, 8, 8, 9, 9, 10, 3, 0, 3, 3, 11, 9, 0, 9, 9, 0, 0, 1, 1, 2, 2, 2, 2, 2, 1, 1, 1, 1, 1, 1, 1, 5, 5, 1, 5, 5, 1, 2, 1, 1, 1, 1, 5, 1, 5, 1, 1, 10, 12, 0, 0, 0, 0, 0, 6, 6, 8, 6, 12, 6, 5, 7, 7, 9, 7, 7, 7, 7, 7, 7, 7, 7, 7, 6, 11, 11, 13]
def x_ocs_1 : List Nat := [14, 13, 14, 11, 11, 11, 11, 11, 11, 11, 11, 11, 6, 9, 6, 0, 0, 0, 0, 0, 0, 0, 0, 0, 0, 15, 15, 15, 15, 15, 15, 15, 15, 15, 15, 15, 15, 15, 15, 15, 15, 15, 15, 15, 15, 15, 15, 15, 15, 15, 15, 15, 15, 15, 15, 15, 15, 15, 15, 15, 15, 15, 15, 15, 15, 15, 15, 15, 15, 15, 15, 15, 15, 15, 15, 15, 15, 15, 15, 15, 15, 15, 15, 15, 15, 15, 15, 15, 15, 15, 15, 15, 15, 15, 15, 15, 15, 15, 15, 15]
def x_ocs_2 : List Nat := [15, 15, 15, 16]
def x_ocs : List Nat := x_ocs_0 ++ (x_ocs_1 ++ (x_ocs_2))
def x_oc (j : Nat) : Nat := (x_ocs[j]?).getD 99
def x_nms_0 : List (String × String) := [("<init>", "()V"), ("<init>", "()V"), ("<init>", "()V"), ("<init>", "(J)V"), ("<init>", "()V"), ("<init>", "(I)V"), ("<init>", "()V"), ("<init>", "()V"), ("<init>", "()V"), ("type", "(IJ)I"), ("buildAt", "(I)LStateMoves$Build;"), ("isName", "(J)Z"), ("kindOfWord", "(J)I"), ("find", "(J)I"), ("isInUse", "(I)Z"), ("rulesFrom", "(II)LStateMoves$RuleSet;"), ("append", "(J)I"), ("member", "(IIJIZ)I"), ("kindAt", "(I)LStateMoves$Kind;"), ("find", "(J)I"), ("append", "(JIZ)I"), ("begin", "(I)I"), ("empty", "(I)V"), ("value", "(JI)I"), ("find", "(J)LStateMoves$Value;"), ("insert", "(JILStateMoves$Kind;)LStateMoves$Value;"), ("<init>", "(LStateMoves$Kind;)V"), ("restart", "(JILStateMoves$Kind;)V"), ("fill", "([JJ)V"), ("isRow", "(I)Z"), ("set", "(JIJ)I"), ("has", "(I)Z"), ("typeAt", "(I)I"), ("isValue", "(JI)Z"), ("put", "(IIJ)V"), ("add", "(JIJ)I"), ("countOf", "(I)I"), ("resize", "(II)V"), ("feed", "(JJI)I"), ("rules", "(II)I")]
def x_nms_1 : List (String × String) := [("read", "([BILStateMoves$Build;LStateMoves$Build;)LStateMoves$RuleSet;"), ("restart", "(LStateMoves$Build;LStateMoves$Build;)V"), ("split", "([BI)V"), ("cutWord", "([BI)V"), ("append", "(IIJ)V"), ("cutNumber", "([BI)V"), ("isSign", "(B)Z"), ("kind", "()I"), ("readHead", "()V"), ("word", "()J"), ("place", "()I"), ("note", "(I)V"), ("take", "(I)V"), ("readTarget", "(I)I"), ("inherit", "(LStateMoves$Kind;LStateMoves$Kind;)V"), ("copy", "(II)V"), ("readRule", "()V"), ("drop", "(I)Z"), ("claim", "(I)Z"), ("readWork", "(I)V"), ("kindAt", "(I)I"), ("readSum", "(I)V"), ("readFactor", "(I)V"), ("emit", "(II)V"), ("readNamed", "(I)V"), ("mention", "(I)V"), ("readCount", "()V"), ("work", "(III)V"), ("wrongPlace", "()I"), ("moveByName", "()V"), ("copyOf", "([II)[I"), ("<init>", "([LStateMoves$Move;[I[ILStateMoves$Build;I)V"), ("forget", "(II)Z"), ("unknown", "(I)I"), ("carry", "(I)I"), ("travel", "(IZ)I"), ("strideTo", "(I)I"), ("start", "(Z)V"), ("takeStep", "(LStateMoves$Store;LStateMoves$Store;LStateMoves$RuleSet;I)Z"), ("at", "(I)LStateMoves$Value;")]
def x_nms_2 : List (String × String) := [("takeValue", "(LStateMoves$Value;LStateMoves$Store;LStateMoves$RuleSet;)Z"), ("moveOf", "(I)LStateMoves$Move;"), ("refuse", "(IIIJJ)Z"), ("isWorked", "(I)Z"), ("reckon", "(LStateMoves$RuleSet;LStateMoves$Move;ILStateMoves$Value;)Z"), ("loaded", "(IILStateMoves$Value;)J"), ("bitsAt", "(II)J"), ("push", "(J)V"), ("pop", "()J"), ("picked", "(JILStateMoves$Value;)J"), ("difference", "(JJ)J"), ("combined", "(IJJ)J"), ("total", "(JJ)J"), ("product", "(JJ)J"), ("quotient", "(JJ)J"), ("remainder", "(JJ)J"), ("fill", "(LStateMoves$Value;ILStateMoves$Value;LStateMoves$RuleSet;LStateMoves$Move;)I"), ("fits", "(JII)Z"), ("hasDouble", "(J)Z"), ("numberOfLeadingZeros", "(J)I"), ("numberOfLeadingZeros", "(I)I"), ("numberOfTrailingZeros", "(J)I"), ("numberOfTrailingZeros", "(I)I"), ("doubleOf", "(J)J"), ("hasFloat", "(J)Z"), ("exponentOf", "(J)I"), ("cutBits", "(I)I"), ("widened", "(J)J"), ("hasWhole", "(J)Z"), ("wholeOf", "(J)J"), ("turned", "(JII)J"), ("floatOf", "(J)J"), ("countLost", "(LStateMoves$Value;LStateMoves$Move;)V"), ("isFirst", "(I)Z"), ("finish", "()V"), ("keep", "(LStateMoves$Store;)V"), ("dry", "(I)I"), ("refused", "(I)I"), ("refusedKey", "(Z)J"), ("lost", "(I)I")]
def x_nms_3 : List (String × String) := [("told", "(I)I"), ("key", "(I)J"), ("classOf", "(J)I"), ("many", "(JI)I"), ("bits", "(JII)J"), ("<init>", "()V"), ("type", "(IJ)I"), ("in", "(JJJ)Z"), ("isName", "(J)Z"), ("isWord", "(J)Z"), ("findClass", "(IJ)I"), ("isFixed", "(I)Z"), ("member", "(IIJIZ)I"), ("findMember", "(IIJ)I"), ("begin", "(I)I"), ("value", "(JI)I"), ("find", "(J)I"), ("copy", "(II)V"), ("clear", "(III)V"), ("set", "(JIJ)I"), ("isMember", "(II)Z"), ("rowOf", "(III)Z"), ("typeOf", "(III)I"), ("fits", "(IJ)Z"), ("add", "(JIJ)I"), ("feed", "(JJI)I"), ("rules", "(II)I"), ("parse", "()V"), ("read", "()V"), ("move", "()V"), ("isWordNow", "(J)Z"), ("fail", "()V"), ("isNameNow", "()Z"), ("sign", "(I)V"), ("rule", "()V"), ("expression", "()V"), ("factor", "()Z"), ("deeper", "()V"), ("hold", "(IJI)V"), ("emit", "(IJI)V")]
def x_nms_4 : List (String × String) := [("whole", "()V"), ("behind", "()Z"), ("isOperator", "()Z"), ("done", "(Z)V"), ("operator", "()V"), ("judge", "(II)V"), ("bad", "(I)V"), ("judgeRule", "(IIIIII)V"), ("judgeAct", "(III)V"), ("forget", "(II)Z"), ("carry", "(I)I"), ("go", "(IZ)I"), ("leads", "(II)Z"), ("step", "(III)Z"), ("moveOf", "(II)I"), ("refuse", "(IIII)Z"), ("carryOne", "(IIIIII)Z"), ("ruleOf", "(IIJ)I"), ("work", "(III)J"), ("reckon", "(IJJ)J"), ("simple", "(IIIJ)J"), ("carryMember", "(IIIIIII)I"), ("become", "(JII)J"), ("doubleOf", "(J)J"), ("top", "(J)I"), ("floatOfDouble", "(J)J"), ("doubleOfFloat", "(J)J"), ("wholeOf", "(J)J"), ("sameOf", "(IIIIII)I"), ("countLost", "(IIIII)V"), ("isToldIn", "(IJ)Z"), ("areAllOther", "(I)Z"), ("putSorted", "(I)V"), ("dry", "(I)I"), ("unknown", "(I)I"), ("refused", "(I)I"), ("refusedKey", "(Z)J"), ("lost", "(I)I"), ("told", "(I)I"), ("key", "(I)J")]
def x_nms_5 : List (String × String) := [("classOf", "(J)I"), ("many", "(JI)I"), ("bits", "(JII)J"), ("law", "([I)Z")]
def x_nms : List (String × String) := x_nms_0 ++ (x_nms_1 ++ (x_nms_2 ++ (x_nms_3 ++ (x_nms_4 ++ (x_nms_5)))))
def x_nm (j : Nat) : String × String := (x_nms[j]?).getD ("", "")
def x_y (j : Nat) : MethodName := ⟨x_cn (x_oc j), (x_nm j).1, (x_nm j).2⟩
def x_own (j : Nat) : String := x_cn (x_oc j)
def x_bs_0 : List ByteArray := [prog_1_method_1_code, prog_7_method_1_code, prog_8_method_1_code, prog_4_method_1_code, prog_2_method_1_code, prog_5_method_1_code, prog_3_method_1_code, prog_9_method_1_code, prog_11_method_1_code, prog_1_method_2_code, prog_1_method_22_code, prog_1_method_25_code, prog_8_method_4_code, prog_2_method_3_code, prog_1_method_24_code, prog_1_method_23_code, prog_2_method_4_code, prog_1_method_3_code, prog_2_method_2_code, prog_4_method_5_code, prog_4_method_6_code, prog_1_method_4_code, prog_11_method_2_code, prog_1_method_5_code, prog_11_method_4_code, prog_11_method_5_code, prog_12_method_1_code, prog_12_method_2_code, prog_20_method_101_code, prog_4_method_3_code, prog_1_method_6_code, prog_4_method_2_code, prog_4_method_4_code, prog_6_method_2_code, prog_12_method_6_code, prog_1_method_7_code, prog_12_method_3_code, prog_12_method_5_code, prog_1_method_8_code, prog_1_method_9_code]
def x_bs_1 : List ByteArray := [prog_7_method_2_code, prog_7_method_4_code, prog_8_method_3_code, prog_8_method_5_code, prog_8_method_8_code, prog_8_method_6_code, prog_8_method_7_code, prog_7_method_5_code, prog_7_method_11_code, prog_7_method_6_code, prog_7_method_7_code, prog_7_method_8_code, prog_7_method_9_code, prog_7_method_12_code, prog_5_method_8_code, prog_5_method_6_code, prog_7_method_13_code, prog_5_method_5_code, prog_5_method_4_code, prog_7_method_14_code, prog_8_method_2_code, prog_7_method_15_code, prog_7_method_16_code, prog_7_method_10_code, prog_7_method_17_code, prog_5_method_7_code, prog_7_method_18_code, prog_5_method_3_code, prog_7_method_3_code, prog_7_method_19_code, prog_20_method_123_code, prog_10_method_1_code, prog_1_method_10_code, prog_1_method_11_code, prog_1_method_12_code, prog_1_method_26_code, prog_1_method_27_code, prog_3_method_2_code, prog_3_method_4_code, prog_11_method_3_code]
def x_bs_2 : List ByteArray := [prog_3_method_5_code, prog_10_method_2_code, prog_3_method_8_code, prog_5_method_2_code, prog_9_method_2_code, prog_9_method_5_code, prog_12_method_4_code, prog_9_method_3_code, prog_9_method_4_code, prog_9_method_6_code, prog_9_method_9_code, prog_9_method_7_code, prog_9_method_8_code, prog_9_method_10_code, prog_9_method_11_code, prog_9_method_12_code, prog_3_method_6_code, prog_6_method_3_code, prog_6_method_5_code, prog_17_method_48_code, prog_16_method_47_code, prog_17_method_49_code, prog_16_method_48_code, prog_6_method_6_code, prog_6_method_10_code, prog_6_method_9_code, prog_6_method_11_code, prog_6_method_13_code, prog_6_method_7_code, prog_6_method_8_code, prog_6_method_4_code, prog_6_method_12_code, prog_3_method_7_code, prog_12_method_7_code, prog_3_method_3_code, prog_1_method_28_code, prog_1_method_13_code, prog_1_method_14_code, prog_1_method_15_code, prog_1_method_16_code]
def x_bs_3 : List ByteArray := [prog_1_method_17_code, prog_1_method_18_code, prog_1_method_19_code, prog_1_method_20_code, prog_1_method_21_code, prog_14_method_1_code, prog_14_method_8_code, prog_14_method_2_code, prog_14_method_3_code, prog_14_method_4_code, prog_14_method_5_code, prog_14_method_7_code, prog_14_method_9_code, prog_14_method_6_code, prog_14_method_10_code, prog_14_method_14_code, prog_14_method_11_code, prog_14_method_13_code, prog_14_method_12_code, prog_14_method_19_code, prog_14_method_17_code, prog_14_method_16_code, prog_14_method_15_code, prog_14_method_18_code, prog_14_method_20_code, prog_14_method_27_code, prog_14_method_50_code, prog_14_method_33_code, prog_14_method_28_code, prog_14_method_34_code, prog_14_method_30_code, prog_14_method_29_code, prog_14_method_31_code, prog_14_method_32_code, prog_14_method_35_code, prog_14_method_41_code, prog_14_method_45_code, prog_14_method_38_code, prog_14_method_37_code, prog_14_method_36_code]
def x_bs_4 : List ByteArray := [prog_14_method_39_code, prog_14_method_44_code, prog_14_method_42_code, prog_14_method_40_code, prog_14_method_43_code, prog_14_method_47_code, prog_14_method_46_code, prog_14_method_48_code, prog_14_method_49_code, prog_14_method_51_code, prog_14_method_68_code, prog_14_method_67_code, prog_14_method_66_code, prog_14_method_57_code, prog_14_method_56_code, prog_14_method_55_code, prog_14_method_59_code, prog_14_method_58_code, prog_14_method_53_code, prog_14_method_52_code, prog_14_method_54_code, prog_14_method_60_code, prog_14_method_26_code, prog_14_method_22_code, prog_14_method_21_code, prog_14_method_24_code, prog_14_method_23_code, prog_14_method_25_code, prog_14_method_61_code, prog_14_method_63_code, prog_14_method_62_code, prog_14_method_64_code, prog_14_method_65_code, prog_14_method_69_code, prog_14_method_70_code, prog_14_method_71_code, prog_14_method_72_code, prog_14_method_73_code, prog_14_method_74_code, prog_14_method_75_code]
def x_bs_5 : List ByteArray := [prog_14_method_76_code, prog_14_method_77_code, prog_14_method_78_code, code]
def x_bs : List ByteArray := x_bs_0 ++ (x_bs_1 ++ (x_bs_2 ++ (x_bs_3 ++ (x_bs_4 ++ (x_bs_5)))))
def x_b (j : Nat) : ByteArray := (x_bs[j]?).getD ⟨#[]⟩
def x_nls_0 : List Nat := [2, 1, 1, 3, 1, 3, 1, 1, 1, 5, 2, 7, 2, 5, 3, 3, 3, 9, 2, 4, 5, 3, 2, 6, 5, 9, 2, 6, 5, 2, 7, 2, 2, 3, 5, 8, 2, 3, 9, 7, 6, 3, 6, 6, 5, 6, 1, 1, 4, 1, 1, 2, 2, 5, 5, 3, 3, 2, 2, 5, 2, 5, 3, 3, 5, 2, 2, 4, 1, 6, 3, 6, 3, 3, 2, 8, 5, 2, 8, 2, 11, 2, 8, 2, 11, 3, 3, 3, 1, 5, 7, 6, 7, 7, 5, 5, 13, 6, 5, 3]
def x_nls_1 : List Nat := [2, 3, 2, 7, 5, 2, 2, 9, 3, 7, 6, 5, 4, 2, 1, 2, 2, 2, 2, 2, 2, 3, 4, 5, 6, 1, 5, 6, 5, 2, 5, 4, 9, 6, 3, 5, 4, 4, 6, 7, 3, 4, 4, 3, 7, 7, 6, 1, 3, 2, 3, 1, 1, 2, 4, 3, 4, 1, 5, 5, 1, 2, 1, 4, 2, 8, 2, 12, 8, 3, 2, 6, 5, 9, 4, 5, 13, 6, 9, 9, 7, 14, 9, 10, 3, 13, 8, 9, 10, 12, 6, 6, 3, 2, 3, 2, 2, 2, 4, 2]
def x_nls_2 : List Nat := [4, 5, 6, 4]
def x_nls : List Nat := x_nls_0 ++ (x_nls_1 ++ (x_nls_2))
def x_nl (j : Nat) : Nat := (x_nls[j]?).getD 0
def x_rts_0 : List (Option FieldType) := [none, none, none, none, none, none, none, none, none, some .int, some (.object "StateMoves$Build"), some .boolean, some .int, some .int, some .boolean, some (.object "StateMoves$RuleSet"), some .int, some .int, some (.object "StateMoves$Kind"), some .int, some .int, some .int, none, some .int, some (.object "StateMoves$Value"), some (.object "StateMoves$Value"), none, none, none, some .boolean, some .int, some .boolean, some .int, some .boolean, none, some .int, some .int, none, some .int, some .int]
def x_rts_1 : List (Option FieldType) := [some (.object "StateMoves$RuleSet"), none, none, none, none, none, some .boolean, some .int, none, some .long, some .int, none, none, some .int, none, none, none, some .boolean, some .boolean, none, some .int, none, none, none, none, none, none, none, some .int, none, some (.array .int), none, some .boolean, some .int, some .int, some .int, some .int, none, some .boolean, some (.object "StateMoves$Value")]
def x_rts_2 : List (Option FieldType) := [some .boolean, some (.object "StateMoves$Move"), some .boolean, some .boolean, some .boolean, some .long, some .long, none, some .long, some .long, some .long, some .long, some .long, some .long, some .long, some .long, some .int, some .boolean, some .boolean, some .int, some .int, some .int, some .int, some .long, some .boolean, some .int, some .int, some .long, some .boolean, some .long, some .long, some .long, none, some .boolean, none, none, some .int, some .int, some .long, some .int]
def x_rts_3 : List (Option FieldType) := [some .int, some .long, some .int, some .int, some .long, none, some .int, some .boolean, some .boolean, some .boolean, some .int, some .boolean, some .int, some .int, some .int, some .int, some .int, none, none, some .int, some .boolean, some .boolean, some .int, some .boolean, some .int, some .int, some .int, none, none, none, some .boolean, none, some .boolean, none, none, none, some .boolean, none, none, none]
def x_rts_4 : List (Option FieldType) := [none, some .boolean, some .boolean, none, none, none, none, none, none, some .boolean, some .int, some .int, some .boolean, some .boolean, some .int, some .boolean, some .boolean, some .int, some .long, some .long, some .long, some .int, some .long, some .long, some .int, some .long, some .long, some .long, some .int, none, some .boolean, some .boolean, none, some .int, some .int, some .int, some .long, some .int, some .int, some .long]
def x_rts_5 : List (Option FieldType) := [some .int, some .int, some .long, some .boolean]
def x_rts : List (Option FieldType) := x_rts_0 ++ (x_rts_1 ++ (x_rts_2 ++ (x_rts_3 ++ (x_rts_4 ++ (x_rts_5)))))
def x_rt (j : Nat) : Option FieldType := (x_rts[j]?).getD none
def x_css_0 : List (List Nat) := [[1], [1], [1], [1, 2], [1], [1, 1], [1], [1], [1], [1, 1, 2], [1, 1], [2], [2], [1, 2], [1, 1], [1, 1, 1], [1, 2], [1, 1, 1, 2, 1, 1], [1, 1], [1, 2], [1, 2, 1, 1], [1, 1], [1, 1], [1, 2, 1], [1, 2], [1, 2, 1, 1], [1, 1], [1, 2, 1, 1], [1, 2], [1, 1], [1, 2, 1, 2], [1, 1], [1, 1], [2, 1], [1, 1, 1, 2], [1, 2, 1, 2], [1, 1], [1, 1, 1], [1, 2, 2, 1], [1, 1, 1]]
def x_css_1 : List (List Nat) := [[1, 1, 1, 1, 1], [1, 1, 1], [1, 1, 1], [1, 1, 1], [1, 1, 1, 2], [1, 1, 1], [1], [1], [1], [1], [1], [1, 1], [1, 1], [1, 1], [1, 1, 1], [1, 1, 1], [1], [1, 1], [1, 1], [1, 1], [1, 1], [1, 1], [1, 1], [1, 1, 1], [1, 1], [1, 1], [1], [1, 1, 1, 1], [1], [1], [1, 1], [1, 1, 1, 1, 1, 1], [1, 1, 1], [1, 1], [1, 1], [1, 1, 1], [1, 1], [1, 1], [1, 1, 1, 1, 1], [1, 1]]
def x_css_2 : List (List Nat) := [[1, 1, 1, 1], [1, 1], [1, 1, 1, 1, 2, 2], [1, 1], [1, 1, 1, 1, 1], [1, 1, 1], [1, 1, 1], [1, 2], [1], [1, 2, 1, 1], [1, 2, 2], [1, 1, 2, 2], [1, 2, 2], [1, 2, 2], [1, 2, 2], [1, 2, 2], [1, 1, 1, 1, 1, 1], [2, 1, 1], [2], [2], [1], [2], [1], [2], [2], [2], [1], [2], [2], [2], [2, 1, 1], [2], [1, 1, 1], [1, 1], [1], [1, 1], [1, 1], [1, 1], [1, 1], [1, 1]]
def x_css_3 : List (List Nat) := [[1, 1], [1, 1], [1, 2], [1, 2, 1], [1, 2, 1, 1], [1], [1, 1, 2], [2, 2, 2], [2], [2], [1, 1, 2], [1, 1], [1, 1, 1, 2, 1, 1], [1, 1, 1, 2], [1, 1], [1, 2, 1], [1, 2], [1, 1, 1], [1, 1, 1, 1], [1, 2, 1, 2], [1, 1, 1], [1, 1, 1, 1], [1, 1, 1, 1], [1, 2], [1, 2, 1, 2], [1, 2, 2, 1], [1, 1, 1], [1], [1], [1], [1, 2], [1], [1], [1, 1], [1], [1], [1], [1], [1, 1, 2, 1], [1, 1, 2, 1]]
def x_css_4 : List (List Nat) := [[1], [1], [1], [1, 1], [1], [1, 1, 1], [1, 1], [1, 1, 1, 1, 1, 1, 1], [1, 1, 1, 1], [1, 1, 1], [1, 1], [1, 1, 1], [1, 1, 1], [1, 1, 1, 1], [1, 1, 1], [1, 1, 1, 1, 1], [1, 1, 1, 1, 1, 1, 1], [1, 1, 1, 2], [1, 1, 1, 1], [1, 1, 2, 2], [1, 1, 1, 1, 2], [1, 1, 1, 1, 1, 1, 1, 1], [1, 2, 1, 1], [1, 2], [2], [1, 2], [2], [1, 2], [1, 1, 1, 1, 1, 1, 1], [1, 1, 1, 1, 1, 1], [1, 1, 2], [1, 1], [1, 1], [1, 1], [1, 1], [1, 1], [1, 1], [1, 1], [1, 1], [1, 1]]
def x_css_5 : List (List Nat) := [[1, 2], [1, 2, 1], [1, 2, 1, 1], [1]]
def x_css : List (List Nat) := x_css_0 ++ (x_css_1 ++ (x_css_2 ++ (x_css_3 ++ (x_css_4 ++ (x_css_5)))))
def x_cs (j : Nat) : List Nat := (x_css[j]?).getD []
def x_ini (j : Nat) : Bool := decide ((x_nm j).1 = "<init>")
def x_T0 : u_T := fun k => match k with
  | 0 => ("StateMoves$Pieces", "kinds", "[I", true)
  | 1 => ("StateMoves$Pieces", "places", "[I", true)
  | 2 => ("StateMoves$Pieces", "words", "[J", true)
  | 3 => ("StateMoves$Pieces", "count", "I", false)
  | _ => ("StateMoves$Pieces", "reached", "I", false)
def x_T1 : u_T := fun k => match k with
  | 0 => ("StateMoves$Kind", "name", "J", true)
  | 1 => ("StateMoves$Kind", "names", "[J", true)
  | 2 => ("StateMoves$Kind", "types", "[I", true)
  | 3 => ("StateMoves$Kind", "rows", "[Z", true)
  | _ => ("StateMoves$Kind", "count", "I", false)
def x_T2 : u_T := fun k => match k with
  | 0 => ("StateMoves$Build", "kinds", "[LStateMoves$Kind;", true)
  | _ => ("StateMoves$Build", "count", "I", false)
def x_T3 : u_T := fun k => match k with
  | 0 => ("StateMoves$Move", "target", "I", true)
  | 1 => ("StateMoves$Move", "copied", "[I", true)
  | 2 => ("StateMoves$Move", "starts", "[I", true)
  | 3 => ("StateMoves$Move", "ends", "[I", true)
  | 4 => ("StateMoves$Move", "ahead", "[Z", true)
  | 5 => ("StateMoves$Move", "dropped", "[Z", true)
  | _ => ("StateMoves$Move", "kept", "[Z", true)
def x_T4 : u_T := fun k => match k with
  | 0 => ("StateMoves$Parser", "pieces", "LStateMoves$Pieces;", true)
  | 1 => ("StateMoves$Parser", "nothing", "LStateMoves$Kind;", true)
  | 2 => ("StateMoves$Parser", "codes", "[I", true)
  | 3 => ("StateMoves$Parser", "operands", "[I", true)
  | 4 => ("StateMoves$Parser", "codeLength", "I", false)
  | 5 => ("StateMoves$Parser", "first", "LStateMoves$Build;", false)
  | 6 => ("StateMoves$Parser", "second", "LStateMoves$Build;", false)
  | 7 => ("StateMoves$Parser", "moves", "[LStateMoves$Move;", false)
  | 8 => ("StateMoves$Parser", "moveCount", "I", false)
  | 9 => ("StateMoves$Parser", "oldKind", "LStateMoves$Kind;", false)
  | 10 => ("StateMoves$Parser", "newKind", "LStateMoves$Kind;", false)
  | 11 => ("StateMoves$Parser", "move", "LStateMoves$Move;", false)
  | 12 => ("StateMoves$Parser", "isOpen", "Z", false)
  | 13 => ("StateMoves$Parser", "at", "I", false)
  | 14 => ("StateMoves$Parser", "failed", "Z", false)
  | _ => ("StateMoves$Parser", "notedPlace", "I", false)
def x_T5 : u_T := fun k => match k with
  | 0 => ("StateMoves$Reckoner", "stack", "[J", true)
  | 1 => ("StateMoves$Reckoner", "height", "I", false)
  | 2 => ("StateMoves$Reckoner", "why", "I", false)
  | _ => ("StateMoves$Reckoner", "answer", "J", false)
def x_T6 : u_T := fun k => match k with
  | 0 => ("StateMoves$Carrier", "reckoner", "LStateMoves$Reckoner;", true)
  | 1 => ("StateMoves$Carrier", "why", "I", false)
  | 2 => ("StateMoves$Carrier", "refusedClass", "I", false)
  | 3 => ("StateMoves$Carrier", "refusedMember", "I", false)
  | 4 => ("StateMoves$Carrier", "refusedStep", "I", false)
  | 5 => ("StateMoves$Carrier", "oldKey", "J", false)
  | 6 => ("StateMoves$Carrier", "otherKey", "J", false)
  | 7 => ("StateMoves$Carrier", "lostMembers", "I", false)
  | 8 => ("StateMoves$Carrier", "droppedValues", "I", false)
  | 9 => ("StateMoves$Carrier", "dropsUnknown", "Z", false)
  | 10 => ("StateMoves$Carrier", "losing", "I", false)
  | 11 => ("StateMoves$Carrier", "dropping", "I", false)
  | _ => ("StateMoves$Carrier", "step", "I", false)
def x_T7 : u_T := fun k => match k with
  | 0 => ("StateMoves$Store", "values", "[LStateMoves$Value;", true)
  | 1 => ("StateMoves$Store", "build", "I", false)
  | _ => ("StateMoves$Store", "count", "I", false)
def x_T8 : u_T := fun k => match k with
  | 0 => ("StateMoves", "builds", "[LStateMoves$Build;", true)
  | 1 => ("StateMoves", "ruleSets", "[LStateMoves$RuleSet;", true)
  | 2 => ("StateMoves", "text", "[B", true)
  | 3 => ("StateMoves", "parser", "LStateMoves$Parser;", true)
  | 4 => ("StateMoves", "carrier", "LStateMoves$Carrier;", true)
  | 5 => ("StateMoves", "state", "LStateMoves$Store;", false)
  | 6 => ("StateMoves", "evenSpare", "LStateMoves$Store;", false)
  | 7 => ("StateMoves", "oddSpare", "LStateMoves$Store;", false)
  | 8 => ("StateMoves", "textLength", "I", false)
  | 9 => ("StateMoves", "ruleCount", "I", false)
  | _ => ("StateMoves", "unknownHow", "I", false)
def x_T9 : u_T := fun k => match k with
  | 0 => ("StateMoves$Value", "counts", "[I", true)
  | 1 => ("StateMoves$Value", "slots", "[J", true)
  | 2 => ("StateMoves$Value", "key", "J", false)
  | 3 => ("StateMoves$Value", "oldKey", "J", false)
  | 4 => ("StateMoves$Value", "cls", "I", false)
  | _ => ("StateMoves$Value", "kind", "LStateMoves$Kind;", false)
def x_T10 : u_T := fun k => match k with
  | 0 => ("StateMoves$RuleSet", "moves", "[LStateMoves$Move;", true)
  | 1 => ("StateMoves$RuleSet", "codes", "[I", true)
  | 2 => ("StateMoves$RuleSet", "operands", "[I", true)
  | 3 => ("StateMoves$RuleSet", "second", "LStateMoves$Build;", true)
  | _ => ("StateMoves$RuleSet", "moveCount", "I", true)
def x_T11 : u_T := fun k => match k with
  | 0 => ("StateMovesModel", "classes", "[I", true)
  | 1 => ("StateMovesModel", "className", "[J", true)
  | 2 => ("StateMovesModel", "members", "[I", true)
  | 3 => ("StateMovesModel", "memberName", "[J", true)
  | 4 => ("StateMovesModel", "memberType", "[I", true)
  | 5 => ("StateMovesModel", "memberRow", "[Z", true)
  | 6 => ("StateMovesModel", "build", "I", false)
  | 7 => ("StateMovesModel", "many", "[I", true)
  | 8 => ("StateMovesModel", "keys", "[J", true)
  | 9 => ("StateMovesModel", "classes0", "[I", true)
  | 10 => ("StateMovesModel", "counts", "[I", true)
  | 11 => ("StateMovesModel", "cells", "[J", true)
  | 12 => ("StateMovesModel", "has", "[Z", true)
  | 13 => ("StateMovesModel", "textSize", "[I", true)
  | 14 => ("StateMovesModel", "texts", "[I", true)
  | 15 => ("StateMovesModel", "tape", "[I", true)
  | 16 => ("StateMovesModel", "size", "I", false)
  | 17 => ("StateMovesModel", "dropsUnknown", "I", false)
  | 18 => ("StateMovesModel", "why", "I", false)
  | 19 => ("StateMovesModel", "whyClass", "I", false)
  | 20 => ("StateMovesModel", "whyMember", "I", false)
  | 21 => ("StateMovesModel", "whyStep", "I", false)
  | 22 => ("StateMovesModel", "whyKey", "J", false)
  | 23 => ("StateMovesModel", "whyOther", "J", false)
  | 24 => ("StateMovesModel", "wasRefused", "Z", false)
  | 25 => ("StateMovesModel", "lost", "I", false)
  | 26 => ("StateMovesModel", "dropped", "I", false)
  | 27 => ("StateMovesModel", "isExact", "Z", false)
  | 28 => ("StateMovesModel", "text", "[I", true)
  | 29 => ("StateMovesModel", "end", "I", false)
  | 30 => ("StateMovesModel", "next", "I", false)
  | 31 => ("StateMovesModel", "piece", "I", false)
  | 32 => ("StateMovesModel", "pieceAt", "I", false)
  | 33 => ("StateMovesModel", "pieceValue", "J", false)
  | 34 => ("StateMovesModel", "wrong", "I", false)
  | 35 => ("StateMovesModel", "moves", "I", false)
  | 36 => ("StateMovesModel", "isDrop", "[Z", true)
  | 37 => ("StateMovesModel", "oldName", "[J", true)
  | 38 => ("StateMovesModel", "oldAt", "[I", true)
  | 39 => ("StateMovesModel", "newName", "[J", true)
  | 40 => ("StateMovesModel", "newAt", "[I", true)
  | 41 => ("StateMovesModel", "firstRule", "[I", true)
  | 42 => ("StateMovesModel", "rules", "I", false)
  | 43 => ("StateMovesModel", "ruleKind", "[I", true)
  | 44 => ("StateMovesModel", "ruleName", "[J", true)
  | 45 => ("StateMovesModel", "ruleAt", "[I", true)
  | 46 => ("StateMovesModel", "ruleBehind", "[I", true)
  | 47 => ("StateMovesModel", "ruleJust", "[Z", true)
  | 48 => ("StateMovesModel", "ruleFirst", "[I", true)
  | 49 => ("StateMovesModel", "acts", "I", false)
  | 50 => ("StateMovesModel", "act", "[I", true)
  | 51 => ("StateMovesModel", "actValue", "[J", true)
  | 52 => ("StateMovesModel", "actAt", "[I", true)
  | 53 => ("StateMovesModel", "held", "[I", true)
  | 54 => ("StateMovesModel", "heldValue", "[J", true)
  | 55 => ("StateMovesModel", "heldAt", "[I", true)
  | 56 => ("StateMovesModel", "heldMany", "I", false)
  | 57 => ("StateMovesModel", "nested", "I", false)
  | 58 => ("StateMovesModel", "bad", "I", false)
  | 59 => ("StateMovesModel", "stack", "[J", true)
  | 60 => ("StateMovesModel", "height", "I", false)
  | 61 => ("StateMovesModel", "fault", "I", false)
  | 62 => ("StateMovesModel", "newLost", "I", false)
  | 63 => ("StateMovesModel", "newDropped", "I", false)
  | _ => ("StateMovesModel", "from", "[I", true)
def x_cl : List vw_C := [("StateMoves$Pieces", x_T0, 5), ("StateMoves$Kind", x_T1, 5), ("StateMoves$Build", x_T2, 2), ("StateMoves$Move", x_T3, 7), ("StateMoves$Parser", x_T4, 16), ("StateMoves$Reckoner", x_T5, 4), ("StateMoves$Carrier", x_T6, 13), ("StateMoves$Store", x_T7, 3), ("StateMoves", x_T8, 11), ("StateMoves$Value", x_T9, 6), ("StateMoves$RuleSet", x_T10, 5), ("StateMovesModel", x_T11, 65)]
def x_fts : List (List FieldType) := [[.array .int, .array .int, .array .long, .int, .int], [.long, .array .long, .array .int, .array .boolean, .int], [.array (.object "StateMoves$Kind"), .int], [.int, .array .int, .array .int, .array .int, .array .boolean, .array .boolean, .array .boolean], [.object "StateMoves$Pieces", .object "StateMoves$Kind", .array .int, .array .int, .int, .object "StateMoves$Build", .object "StateMoves$Build", .array (.object "StateMoves$Move"), .int, .object "StateMoves$Kind", .object "StateMoves$Kind", .object "StateMoves$Move", .boolean, .int, .boolean, .int], [.array .long, .int, .int, .long], [.object "StateMoves$Reckoner", .int, .int, .int, .int, .long, .long, .int, .int, .boolean, .int, .int, .int], [.array (.object "StateMoves$Value"), .int, .int], [.array (.object "StateMoves$Build"), .array (.object "StateMoves$RuleSet"), .array .byte, .object "StateMoves$Parser", .object "StateMoves$Carrier", .object "StateMoves$Store", .object "StateMoves$Store", .object "StateMoves$Store", .int, .int, .int], [.array .int, .array .long, .long, .long, .int, .object "StateMoves$Kind"], [.array (.object "StateMoves$Move"), .array .int, .array .int, .object "StateMoves$Build", .int], [.array .int, .array .long, .array .int, .array .long, .array .int, .array .boolean, .int, .array .int, .array .long, .array .int, .array .int, .array .long, .array .boolean, .array .int, .array .int, .array .int, .int, .int, .int, .int, .int, .int, .long, .long, .boolean, .int, .int, .boolean, .array .int, .int, .int, .int, .int, .long, .int, .int, .array .boolean, .array .long, .array .int, .array .long, .array .int, .array .int, .int, .array .int, .array .long, .array .int, .array .int, .array .boolean, .array .int, .int, .array .int, .array .long, .array .int, .array .int, .array .long, .array .int, .int, .int, .int, .array .long, .int, .int, .int, .int, .array .int]]
def x_ft (ci k : Nat) : FieldType := (((x_fts[ci]?).getD [])[k]?).getD .int
def x_df (ci : Nat) : List Value := ((x_fts[ci]?).getD []).map defaultValue
def x_may (j ci k : Nat) : Bool := match x_cl[ci]? with
  | some r => !(r.2.1 k).2.2.2 || (x_ini j && decide (x_own j = (r.2.1 k).1))
  | none => false
def x_at : List FieldType := [.int, .int, .long, .byte, .boolean, .object "StateMoves$Build", .object "StateMoves$RuleSet", .object "StateMoves$Kind", .object "StateMoves$Move", .object "StateMoves$Value"]
def x_an : Nat := 10
abbrev x_tI : Nat := 0
abbrev x_tS : Nat := 1
abbrev x_tJ : Nat := 2
abbrev x_tB : Nat := 3
abbrev x_tZ : Nat := 4
def x_isq (t : Nat) : Bool := decide (5 ≤ t) && decide (t < 10)
def x_ac (t : Nat) : Nat := ([99, 99, 99, 99, 99, 2, 10, 1, 3, 9][t]?).getD 99
def x_na : Jvm.ClassFile.ArrayType → Option Nat
  | .int => some 0
  | .long => some 2
  | .byte => some 3
  | .boolean => some 4
  | _ => none
def x_look {α : Type} (T : List (Nat × Nat × α)) (oc i : Nat) : Option α := (T.find? fun q => q.1 == oc && q.2.1 == i).map fun q => q.2.2
theorem x_look_in {α : Type} {T : List (Nat × Nat × α)} {oc i : Nat} {v : α} (h : x_look T oc i = some v) : (oc, i, v) ∈ T := by
  unfold x_look at h
  cases hq : T.find? fun q => q.1 == oc && q.2.1 == i with
  | none => rw [hq] at h; cases h
  | some q =>
    rw [hq] at h
    have h1 := List.find?_some hq
    have h2 := List.mem_of_find?_eq_some hq
    obtain ⟨a, b, c⟩ := q
    simp only [Bool.and_eq_true, beq_iff_eq] at h1
    cases h
    obtain ⟨rfl, rfl⟩ := h1
    exact h2
def x_fldT_0 : List (Nat × Nat × (Nat × Nat) × Nat) := [(0, 11, (8, 0), 380), (0, 17, (8, 1), 381), (0, 21, (8, 2), 382), (0, 28, (8, 3), 383), (0, 35, (8, 4), 384), (0, 42, (8, 5), 385), (0, 46, (8, 6), 386), (0, 49, (8, 7), 387), (0, 65, (2, 1), 193), (0, 83, (1, 4), 168), (0, 87, (7, 2), 371), (0, 92, (7, 1), 368), (0, 102, (9, 5), 507), (0, 135, (8, 8), 388), (0, 150, (8, 9), 389), (0, 153, (10, 4), 743), (0, 156, (8, 10), 390), (0, 163, (6, 1), 312), (0, 166, (6, 2), 314), (0, 169, (6, 3), 316), (0, 172, (6, 4), 318), (0, 175, (6, 6), 322), (0, 179, (6, 5), 320), (0, 182, (6, 7), 324), (0, 185, (6, 8), 326), (0, 192, (9, 2), 499), (0, 195, (9, 4), 504), (1, 12, (4, 0), 234), (1, 23, (4, 1), 235), (1, 27, (4, 2), 236), (1, 31, (4, 3), 237), (1, 37, (4, 5), 239), (1, 41, (4, 6), 240), (1, 46, (4, 7), 241), (1, 50, (4, 9), 243), (1, 53, (4, 10), 244), (1, 59, (4, 11), 245), (1, 71, (4, 14), 248), (1, 75, (4, 12), 246), (1, 89, (4, 13), 247)]
def x_fldT_1 : List (Nat × Nat × (Nat × Nat) × Nat) := [(1, 104, (4, 4), 238), (1, 113, (4, 8), 242), (1, 122, (4, 15), 249), (1, 125, (0, 0), 133), (1, 128, (0, 2), 137), (1, 132, (0, 1), 135), (1, 202, (2, 1), 194), (1, 205, (1, 0), 162), (2, 9, (0, 0), 132), (2, 15, (0, 1), 134), (2, 18, (0, 2), 136), (2, 22, (0, 3), 138), (2, 26, (0, 4), 139), (3, 9, (1, 1), 163), (3, 15, (1, 2), 165), (3, 19, (1, 3), 166), (3, 23, (1, 0), 160), (3, 27, (1, 4), 167), (4, 11, (2, 0), 191), (4, 17, (2, 1), 192), (4, 21, (1, 0), 161), (5, 9, (3, 1), 209), (5, 15, (3, 2), 211), (5, 18, (3, 3), 213), (5, 21, (3, 4), 215), (5, 25, (3, 5), 216), (5, 28, (3, 6), 217), (5, 31, (3, 0), 207), (5, 35, (1, 4), 170), (5, 40, (1, 1), 164), (6, 12, (6, 0), 310), (6, 18, (6, 1), 311), (6, 22, (6, 2), 313), (6, 25, (6, 3), 315), (6, 28, (6, 4), 317), (6, 31, (6, 9), 327), (6, 35, (6, 10), 328), (6, 38, (6, 11), 329), (6, 41, (6, 7), 323), (6, 44, (6, 8), 325)]
def x_fldT_2 : List (Nat × Nat × (Nat × Nat) × Nat) := [(6, 47, (6, 12), 330), (6, 50, (7, 2), 370), (6, 63, (9, 2), 497), (6, 69, (9, 3), 501), (6, 76, (9, 4), 503), (6, 85, (10, 3), 741), (6, 89, (3, 0), 208), (6, 108, (5, 2), 298), (6, 109, (5, 3), 300), (6, 116, (1, 4), 169), (6, 127, (9, 5), 506), (6, 149, (3, 1), 210), (6, 164, (3, 6), 218), (6, 171, (6, 5), 319), (6, 172, (6, 6), 321), (7, 11, (5, 0), 295), (7, 15, (5, 1), 296), (7, 19, (5, 2), 297), (7, 22, (3, 3), 214), (7, 28, (10, 1), 737), (7, 33, (10, 2), 739), (7, 42, (3, 2), 212), (7, 72, (5, 3), 299), (7, 76, (9, 2), 498), (8, 11, (7, 0), 366), (8, 17, (7, 1), 367), (8, 21, (7, 2), 369), (8, 24, (9, 2), 496), (9, 9, (9, 0), 493), (9, 15, (9, 1), 494), (9, 19, (9, 5), 505), (9, 23, (9, 2), 495), (9, 27, (9, 3), 500), (9, 30, (9, 4), 502), (12, 7, (10, 0), 735), (12, 13, (10, 1), 736), (12, 17, (10, 2), 738), (12, 20, (10, 3), 740), (12, 24, (10, 4), 742), (15, 7, (11, 0), 983)]
def x_fldT_3 : List (Nat × Nat × (Nat × Nat) × Nat) := [(15, 13, (11, 1), 984), (15, 17, (11, 2), 985), (15, 20, (11, 3), 986), (15, 23, (11, 4), 987), (15, 26, (11, 5), 988), (15, 30, (11, 7), 990), (15, 33, (11, 8), 991), (15, 36, (11, 9), 992), (15, 39, (11, 10), 993), (15, 42, (11, 11), 994), (15, 45, (11, 12), 995), (15, 48, (11, 13), 996), (15, 52, (11, 14), 997), (15, 55, (11, 15), 998), (15, 58, (11, 28), 1011), (15, 61, (11, 36), 1019), (15, 64, (11, 37), 1020), (15, 67, (11, 38), 1021), (15, 70, (11, 39), 1022), (15, 73, (11, 40), 1023), (15, 76, (11, 41), 1024), (15, 79, (11, 43), 1026), (15, 82, (11, 44), 1027), (15, 85, (11, 45), 1028), (15, 88, (11, 46), 1029), (15, 91, (11, 47), 1030), (15, 94, (11, 48), 1031), (15, 97, (11, 50), 1033), (15, 100, (11, 51), 1034), (15, 103, (11, 52), 1035), (15, 106, (11, 53), 1036), (15, 109, (11, 54), 1037), (15, 112, (11, 55), 1038), (15, 115, (11, 59), 1042), (15, 118, (11, 64), 1047), (15, 143, (11, 6), 989), (15, 221, (11, 27), 1010), (15, 264, (11, 16), 999), (15, 267, (11, 30), 1013), (15, 270, (11, 29), 1012)]
def x_fldT_4 : List (Nat × Nat × (Nat × Nat) × Nat) := [(15, 273, (11, 32), 1015), (15, 276, (11, 33), 1016), (15, 280, (11, 31), 1014), (15, 287, (11, 34), 1017), (15, 296, (11, 35), 1018), (15, 299, (11, 42), 1025), (15, 302, (11, 49), 1032), (15, 325, (11, 56), 1039), (15, 328, (11, 57), 1040), (15, 360, (11, 58), 1041), (15, 378, (11, 61), 1044), (15, 381, (11, 60), 1043), (15, 392, (11, 24), 1007), (15, 395, (11, 18), 1001), (15, 398, (11, 19), 1002), (15, 401, (11, 20), 1003), (15, 404, (11, 21), 1004), (15, 407, (11, 22), 1005), (15, 410, (11, 23), 1006), (15, 417, (11, 63), 1046), (15, 420, (11, 17), 1000), (15, 463, (11, 62), 1045), (15, 472, (11, 25), 1008), (15, 475, (11, 26), 1009)]
def x_fldT : List (Nat × Nat × (Nat × Nat) × Nat) := x_fldT_0 ++ (x_fldT_1 ++ (x_fldT_2 ++ (x_fldT_3 ++ (x_fldT_4))))
def x_fld (oc i : Nat) : Option (Nat × Nat) := (x_look x_fldT oc i).map fun q => q.1
def x_newT_0 : List (Nat × Nat × Nat × Nat) := [(0, 9, 2, 116), (0, 25, 4, 120), (0, 32, 6, 283), (0, 39, 7, 358), (1, 9, 0, 126), (1, 18, 1, 154), (1, 34, 2, 183), (1, 44, 3, 200), (1, 102, 10, 715), (4, 9, 1, 189), (6, 9, 5, 289), (8, 9, 9, 364), (16, 7, 8, 108), (16, 10, 11, 976)]
def x_newT : List (Nat × Nat × Nat × Nat) := x_newT_0
def x_newc (oc i : Nat) : Option Nat := (x_look x_newT oc i).map fun q => q.1
def x_anaT_0 : List (Nat × Nat × Nat × Nat) := [(0, 9, 5, 116), (0, 15, 6, 118), (1, 44, 8, 200), (4, 9, 7, 189), (8, 9, 9, 364)]
def x_anaT : List (Nat × Nat × Nat × Nat) := x_anaT_0
def x_ana (oc i : Nat) : Option Nat := (x_look x_anaT oc i).map fun q => q.1
def x_ldciT_0 : List (Nat × Nat × Int32 × Nat) := [(14, 264, (65536 : Int32), 878), (15, 51, (44800 : Int32), 982)]
def x_ldciT : List (Nat × Nat × Int32 × Nat) := x_ldciT_0
def x_ldci (oc i : Nat) : Option Int32 := (x_look x_ldciT oc i).map fun q => q.1
def x_ldclT_0 : List (Nat × Nat × Int64 × Nat) := [(0, 202, (255 : Int64), 425), (0, 204, (97 : Int64), 426), (0, 206, (122 : Int64), 427), (2, 50, (7038329 : Int64), 431), (2, 52, (1836021349 : Int64), 432), (2, 54, (1685221232 : Int64), 433), (2, 56, (29807 : Int64), 434), (2, 62, (10 : Int64), 606), (2, 64, (2147483648 : Int64), 607), (2, 69, (2147483647 : Int64), 611), (7, 101, (-1 : Int64), 849), (7, 103, (-9223372036854775808 : Int64), 850), (11, 11, (2143289344 : Int64), 548), (11, 13, (2147483647 : Int64), 549), (11, 15, (2139095040 : Int64), 550), (11, 17, (9221120237041090560 : Int64), 551), (11, 19, (9223372036854775807 : Int64), 552), (11, 21, (9218868437227405312 : Int64), 553), (11, 59, (-9223372036854775808 : Int64), 888), (11, 61, (4503599627370495 : Int64), 889), (11, 66, (4503599627370496 : Int64), 899), (11, 72, (8388607 : Int64), 903), (15, 121, (255 : Int64), 1190), (15, 123, (97 : Int64), 1191), (15, 125, (122 : Int64), 1192), (15, 135, (7038329 : Int64), 1196), (15, 137, (1836021349 : Int64), 1197), (15, 139, (1685221232 : Int64), 1198), (15, 141, (29807 : Int64), 1199), (15, 147, (7 : Int64), 1183), (15, 176, (-128 : Int64), 1255), (15, 178, (127 : Int64), 1256), (15, 180, (-32768 : Int64), 1257), (15, 182, (32767 : Int64), 1258), (15, 184, (65535 : Int64), 1259), (15, 186, (-2147483648 : Int64), 1260), (15, 188, (2147483647 : Int64), 1261), (15, 190, (2139095040 : Int64), 1262), (15, 192, (2143289344 : Int64), 1263), (15, 194, (9223372036854775807 : Int64), 1264)]
def x_ldclT_1 : List (Nat × Nat × Int64 × Nat) := [(15, 196, (9218868437227405312 : Int64), 1265), (15, 198, (9221120237041090560 : Int64), 1266), (15, 216, (-9223372036854775808 : Int64), 1412), (15, 225, (4503599627370495 : Int64), 1437), (15, 227, (2147483648 : Int64), 1291), (15, 229, (8388607 : Int64), 1451), (15, 231, (-1 : Int64), 1417), (15, 233, (897 : Int64), 1442), (15, 235, (1150 : Int64), 1443), (15, 237, (536870911 : Int64), 1444), (15, 239, (874 : Int64), 1445), (15, 241, (896 : Int64), 1446), (15, 243, (4503599627370496 : Int64), 1447), (15, 245, (-52 : Int64), 1456), (15, 247, (10 : Int64), 1290), (15, 262, (16 : Int64), 1275), (15, 283, (48 : Int64), 1288), (15, 285, (57 : Int64), 1289), (15, 482, (3 : Int64), 1489), (15, 484, (2 : Int64), 1502), (16, 13, (4294967295 : Int64), 1519)]
def x_ldclT : List (Nat × Nat × Int64 × Nat) := x_ldclT_0 ++ (x_ldclT_1)
def x_ldcl (oc i : Nat) : Option Int64 := (x_look x_ldclT oc i).map fun q => q.1
def x_invT_0 : List (Nat × Nat × (Nat × Nat × Nat) × Nat × Nat × Nat × Nat) := [(0, 3, (6, 0, 0), 113, 114, 115, 0), (0, 27, (5, 1, 0), 122, 123, 91, 0), (0, 34, (5, 6, 0), 285, 286, 96, 0), (0, 41, (5, 8, 0), 360, 361, 98, 0), (0, 52, (5, 4, 0), 379, 186, 94, 0), (0, 53, (2, 10, 1), 418, 420, 90, 0), (0, 57, (0, 11, 1), 422, 423, 90, 0), (0, 61, (2, 13, 1), 435, 436, 94, 437), (0, 69, (2, 14, 1), 439, 441, 90, 1), (0, 73, (2, 16, 1), 447, 448, 94, 449), (0, 76, (2, 18, 1), 456, 457, 94, 458), (0, 80, (2, 19, 1), 460, 461, 93, 462), (0, 84, (2, 20, 3), 464, 465, 93, 466), (0, 88, (2, 22, 1), 472, 473, 98, 474), (0, 95, (2, 24, 1), 480, 481, 98, 482), (0, 98, (2, 25, 3), 484, 485, 98, 486), (0, 108, (2, 31, 1), 536, 537, 93, 538), (0, 111, (2, 29, 1), 540, 529, 93, 530), (0, 114, (2, 32, 1), 541, 542, 93, 543), (0, 118, (0, 33, 2), 545, 546, 102, 0), (0, 124, (2, 34, 3), 554, 555, 100, 556), (0, 128, (2, 36, 1), 562, 563, 100, 564), (0, 131, (2, 37, 2), 566, 567, 100, 568), (0, 138, (2, 40, 4), 578, 579, 91, 580), (0, 142, (2, 68, 0), 755, 708, 91, 709), (0, 146, (2, 15, 2), 443, 445, 90, 2), (0, 159, (2, 75, 2), 768, 770, 90, 22), (0, 188, (2, 79, 1), 962, 785, 98, 786), (0, 198, (2, 86, 2), 975, 817, 100, 818), (0, 208, (0, 12, 1), 428, 429, 92, 0), (0, 213, (2, 76, 1), 772, 774, 90, 23), (0, 216, (2, 77, 1), 776, 777, 96, 778), (0, 220, (2, 78, 4), 780, 781, 96, 782), (0, 224, (2, 114, 0), 930, 931, 96, 932), (0, 227, (2, 115, 1), 934, 936, 90, 37), (1, 3, (6, 0, 0), 125, 114, 115, 0), (1, 11, (5, 2, 0), 128, 129, 92, 0), (1, 20, (4, 3, 1), 156, 157, 93, 0), (1, 36, (5, 4, 0), 185, 186, 94, 0), (1, 56, (4, 5, 1), 203, 204, 95, 0)]
def x_invT_1 : List (Nat × Nat × (Nat × Nat × Nat) × Nat × Nat × Nat × Nat) := [(1, 63, (2, 41, 2), 582, 584, 91, 3), (1, 67, (2, 42, 2), 586, 587, 92, 588), (1, 78, (2, 47, 0), 615, 617, 91, 7), (1, 82, (2, 48, 0), 619, 621, 91, 8), (1, 85, (2, 54, 2), 645, 646, 95, 647), (1, 93, (2, 56, 0), 655, 657, 91, 14), (1, 96, (2, 68, 0), 707, 708, 91, 709), (1, 99, (2, 69, 0), 711, 713, 91, 21), (1, 107, (0, 70, 2), 717, 718, 101, 0), (1, 116, (4, 71, 5), 731, 732, 104, 0), (1, 119, (2, 50, 0), 628, 630, 91, 10), (1, 135, (2, 49, 0), 623, 625, 91, 9), (1, 139, (2, 13, 1), 627, 436, 94, 437), (1, 143, (2, 51, 1), 632, 634, 91, 11), (1, 146, (2, 52, 1), 636, 638, 91, 12), (1, 149, (2, 53, 1), 640, 642, 91, 13), (1, 153, (2, 18, 1), 644, 457, 94, 458), (1, 157, (2, 19, 1), 659, 461, 93, 462), (1, 158, (2, 57, 1), 660, 661, 95, 662), (1, 162, (2, 58, 1), 664, 665, 95, 666), (1, 165, (2, 59, 1), 668, 670, 91, 15), (1, 168, (2, 29, 1), 672, 529, 93, 530), (1, 171, (2, 60, 1), 673, 674, 92, 675), (1, 173, (2, 55, 2), 677, 652, 95, 653), (1, 177, (2, 61, 1), 678, 680, 91, 16), (1, 180, (2, 67, 3), 703, 704, 95, 705), (1, 184, (2, 62, 1), 682, 684, 91, 17), (1, 187, (2, 63, 2), 686, 688, 91, 18), (1, 190, (2, 64, 1), 690, 692, 91, 19), (1, 193, (2, 66, 0), 699, 701, 91, 20), (1, 196, (2, 32, 1), 694, 542, 93, 543), (1, 199, (2, 65, 1), 695, 696, 95, 697), (2, 3, (6, 0, 0), 131, 114, 115, 0), (2, 29, (8, 0, 2), 590, 591, 103, 592), (2, 35, (2, 43, 2), 593, 595, 92, 4), (2, 39, (2, 45, 2), 602, 604, 92, 6), (2, 42, (0, 46, 1), 612, 613, 92, 0), (2, 46, (2, 44, 3), 598, 600, 92, 5), (2, 58, (0, 12, 1), 597, 429, 92, 0), (2, 66, (10, 0, 2), 608, 609, 103, 610)]
def x_invT_2 : List (Nat × Nat × (Nat × Nat × Nat) × Nat × Nat × Nat × Nat) := [(3, 3, (6, 0, 0), 159, 114, 115, 0), (4, 3, (6, 0, 0), 188, 114, 115, 0), (4, 25, (4, 3, 1), 451, 157, 93, 0), (5, 3, (6, 0, 0), 206, 114, 115, 0), (5, 44, (2, 19, 1), 649, 461, 93, 462), (5, 48, (2, 29, 1), 650, 529, 93, 530), (5, 52, (2, 55, 2), 651, 652, 95, 653), (6, 3, (6, 0, 0), 288, 114, 115, 0), (6, 11, (5, 7, 0), 291, 292, 97, 0), (6, 55, (2, 79, 1), 784, 785, 98, 786), (6, 59, (2, 80, 3), 788, 790, 96, 24), (6, 72, (2, 82, 5), 796, 798, 96, 25), (6, 79, (2, 81, 1), 792, 793, 104, 794), (6, 94, (2, 18, 1), 800, 457, 94, 458), (6, 100, (2, 83, 1), 801, 802, 95, 803), (6, 104, (2, 84, 4), 805, 806, 97, 807), (6, 112, (2, 25, 3), 859, 485, 98, 486), (6, 119, (2, 96, 5), 860, 862, 96, 35), (6, 123, (2, 112, 2), 920, 922, 96, 36), (6, 131, (2, 32, 1), 864, 542, 93, 543), (6, 135, (0, 97, 3), 865, 866, 102, 0), (6, 141, (0, 110, 3), 910, 911, 102, 0), (6, 145, (2, 34, 3), 916, 555, 100, 556), (6, 153, (2, 36, 1), 917, 563, 100, 564), (6, 156, (2, 86, 2), 918, 817, 100, 818), (6, 160, (2, 37, 2), 919, 567, 100, 568), (6, 168, (2, 113, 1), 924, 925, 100, 926), (7, 3, (6, 0, 0), 294, 114, 115, 0), (7, 36, (8, 0, 2), 809, 591, 103, 592), (7, 45, (9, 0, 2), 810, 811, 103, 812), (7, 48, (0, 85, 3), 813, 814, 97, 0), (7, 52, (2, 87, 1), 821, 823, 97, 26), (7, 56, (2, 88, 0), 825, 827, 97, 27), (7, 60, (2, 89, 3), 829, 831, 97, 28), (7, 64, (2, 90, 2), 833, 835, 97, 29), (7, 68, (2, 91, 3), 837, 839, 97, 30), (7, 81, (2, 86, 2), 816, 817, 100, 818), (7, 85, (2, 36, 1), 820, 563, 100, 564), (7, 89, (2, 92, 2), 841, 843, 97, 31), (7, 92, (2, 93, 2), 845, 847, 97, 32)]
def x_invT_3 : List (Nat × Nat × (Nat × Nat × Nat) × Nat × Nat × Nat × Nat) := [(7, 95, (2, 94, 2), 851, 853, 97, 33), (7, 98, (2, 95, 2), 855, 857, 97, 34), (8, 3, (6, 0, 0), 363, 114, 115, 0), (8, 28, (4, 26, 1), 489, 490, 100, 0), (8, 31, (2, 27, 3), 521, 522, 100, 523), (9, 3, (6, 0, 0), 492, 114, 115, 0), (9, 34, (0, 28, 2), 525, 526, 101, 0), (9, 40, (2, 29, 1), 528, 529, 93, 530), (9, 46, (2, 36, 1), 928, 563, 100, 564), (9, 50, (2, 86, 2), 929, 817, 100, 818), (10, 150, (7, 0, 5), 728, 729, 105, 730), (10, 304, (8, 0, 2), 727, 591, 103, 592), (11, 23, (0, 33, 2), 868, 546, 102, 0), (11, 27, (0, 98, 1), 869, 870, 102, 0), (11, 31, (0, 103, 1), 885, 886, 102, 0), (11, 35, (0, 104, 1), 890, 891, 102, 0), (11, 38, (0, 107, 1), 900, 901, 102, 0), (11, 41, (0, 108, 1), 904, 905, 102, 0), (11, 44, (0, 109, 1), 907, 908, 102, 0), (11, 47, (0, 111, 1), 913, 914, 102, 0), (11, 50, (0, 99, 1), 872, 873, 106, 0), (11, 56, (0, 101, 1), 879, 880, 106, 0), (11, 63, (0, 105, 1), 893, 894, 102, 0), (11, 68, (0, 106, 1), 896, 897, 102, 0), (12, 1, (6, 0, 0), 734, 114, 115, 0), (13, 308, (0, 100, 1), 875, 876, 107, 0), (13, 311, (0, 102, 1), 882, 883, 107, 0), (15, 1, (6, 0, 0), 981, 114, 115, 0), (15, 127, (0, 127, 3), 1184, 1185, 99, 0), (15, 131, (0, 129, 1), 1193, 1194, 99, 0), (15, 149, (0, 128, 1), 1187, 1188, 99, 0), (15, 152, (2, 130, 2), 1200, 1202, 99, 38), (15, 156, (2, 131, 1), 1204, 1206, 99, 39), (15, 160, (2, 133, 3), 1212, 1214, 99, 40), (15, 164, (2, 136, 1), 1224, 1226, 99, 41), (15, 168, (2, 137, 2), 1228, 1230, 99, 42), (15, 172, (2, 138, 3), 1232, 1234, 99, 43), (15, 200, (2, 140, 2), 1240, 1242, 99, 44), (15, 204, (2, 141, 3), 1244, 1246, 99, 45), (15, 208, (2, 142, 3), 1248, 1250, 99, 46)]
def x_invT_4 : List (Nat × Nat × (Nat × Nat × Nat) × Nat × Nat × Nat × Nat) := [(15, 212, (0, 143, 2), 1252, 1253, 99, 0), (15, 218, (0, 184, 1), 1434, 1435, 99, 0), (15, 249, (2, 183, 1), 1430, 1432, 99, 81), (15, 253, (2, 185, 1), 1438, 1440, 99, 82), (15, 256, (0, 186, 1), 1448, 1449, 99, 0), (15, 259, (2, 187, 1), 1452, 1454, 99, 83), (15, 290, (2, 151, 0), 1300, 1302, 99, 51), (15, 293, (2, 148, 0), 1284, 1286, 99, 48), (15, 305, (2, 149, 0), 1292, 1294, 99, 49), (15, 308, (2, 150, 1), 1296, 1298, 99, 50), (15, 311, (2, 152, 0), 1304, 1306, 99, 52), (15, 315, (2, 153, 1), 1308, 1310, 99, 53), (15, 319, (2, 154, 0), 1312, 1314, 99, 54), (15, 322, (2, 155, 0), 1316, 1318, 99, 55), (15, 331, (2, 159, 3), 1332, 1334, 99, 59), (15, 335, (2, 156, 0), 1320, 1322, 99, 56), (15, 338, (2, 161, 0), 1340, 1342, 99, 61), (15, 341, (2, 162, 0), 1344, 1346, 99, 62), (15, 344, (2, 164, 0), 1352, 1354, 99, 64), (15, 347, (2, 163, 1), 1348, 1350, 99, 63), (15, 351, (2, 158, 3), 1328, 1330, 99, 58), (15, 354, (2, 160, 0), 1336, 1338, 99, 60), (15, 357, (2, 157, 0), 1324, 1326, 99, 57), (15, 363, (2, 166, 1), 1360, 1362, 99, 66), (15, 365, (2, 167, 6), 1364, 1366, 99, 67), (15, 369, (2, 168, 3), 1368, 1370, 99, 68), (15, 372, (2, 147, 0), 1280, 1282, 99, 47), (15, 375, (2, 165, 2), 1356, 1358, 99, 65), (15, 384, (2, 179, 3), 1413, 1415, 99, 77), (15, 388, (2, 180, 4), 1418, 1420, 99, 78), (15, 413, (2, 174, 2), 1392, 1394, 99, 72), (15, 423, (2, 175, 4), 1396, 1398, 99, 73), (15, 427, (2, 176, 6), 1400, 1402, 99, 74), (15, 431, (2, 189, 5), 1461, 1463, 99, 85), (15, 435, (2, 191, 1), 1469, 1471, 99, 87), (15, 438, (2, 192, 1), 1473, 1475, 99, 88), (15, 441, (2, 177, 3), 1404, 1406, 99, 75), (15, 444, (2, 178, 3), 1408, 1410, 99, 76), (15, 448, (2, 181, 7), 1422, 1424, 99, 79), (15, 452, (2, 182, 3), 1426, 1428, 99, 80)]
def x_invT_5 : List (Nat × Nat × (Nat × Nat × Nat) × Nat × Nat × Nat × Nat) := [(15, 456, (2, 188, 6), 1457, 1459, 99, 84), (15, 460, (2, 190, 2), 1465, 1467, 99, 86), (15, 466, (2, 172, 2), 1384, 1386, 99, 70), (15, 469, (2, 173, 3), 1388, 1390, 99, 71), (15, 478, (2, 171, 2), 1380, 1382, 99, 69), (16, 9, (4, 0, 0), 110, 111, 90, 0), (16, 12, (4, 125, 0), 978, 979, 99, 0), (16, 15, (2, 9, 2), 414, 415, 90, 416), (16, 19, (2, 126, 2), 1179, 1180, 99, 1181), (16, 20, (2, 17, 5), 452, 453, 90, 454), (16, 24, (2, 132, 5), 1208, 1209, 99, 1210), (16, 25, (2, 21, 1), 468, 469, 90, 470), (16, 29, (2, 134, 1), 1216, 1217, 99, 1218), (16, 30, (2, 23, 2), 476, 477, 90, 478), (16, 34, (2, 135, 2), 1220, 1221, 99, 1222), (16, 35, (2, 30, 3), 532, 533, 90, 534), (16, 39, (2, 139, 3), 1236, 1237, 99, 1238), (16, 40, (2, 35, 3), 558, 559, 90, 560), (16, 43, (2, 144, 3), 1267, 1268, 99, 1269), (16, 44, (2, 38, 3), 570, 571, 90, 572), (16, 48, (2, 145, 3), 1271, 1272, 99, 1273), (16, 49, (2, 39, 2), 574, 575, 90, 576), (16, 53, (2, 146, 2), 1276, 1277, 99, 1278), (16, 54, (2, 72, 2), 756, 757, 90, 758), (16, 58, (2, 169, 2), 1372, 1373, 99, 1374), (16, 59, (2, 73, 1), 760, 761, 90, 762), (16, 62, (2, 194, 1), 1481, 1482, 99, 1483), (16, 63, (2, 74, 1), 764, 765, 90, 766), (16, 66, (2, 170, 1), 1376, 1377, 99, 1378), (16, 67, (2, 116, 1), 938, 939, 90, 940), (16, 70, (2, 193, 1), 1477, 1478, 99, 1479), (16, 71, (2, 117, 1), 942, 943, 90, 944), (16, 74, (2, 195, 1), 1485, 1486, 99, 1487), (16, 75, (2, 118, 1), 946, 947, 90, 948), (16, 79, (2, 196, 1), 1490, 1491, 99, 1492), (16, 80, (2, 119, 1), 950, 951, 90, 952), (16, 83, (2, 197, 1), 1494, 1495, 99, 1496), (16, 84, (2, 120, 1), 954, 955, 90, 956), (16, 87, (2, 198, 1), 1498, 1499, 99, 1500), (16, 88, (2, 121, 1), 958, 959, 90, 960)]
def x_invT_6 : List (Nat × Nat × (Nat × Nat × Nat) × Nat × Nat × Nat × Nat) := [(16, 92, (2, 199, 1), 1503, 1504, 99, 1505), (16, 93, (2, 122, 1), 963, 964, 90, 965), (16, 97, (2, 200, 1), 1507, 1508, 99, 1509), (16, 98, (2, 123, 2), 967, 968, 90, 969), (16, 101, (2, 201, 2), 1511, 1512, 99, 1513), (16, 102, (2, 124, 3), 971, 972, 90, 973), (16, 106, (2, 202, 3), 1515, 1516, 99, 1517)]
def x_invT : List (Nat × Nat × (Nat × Nat × Nat) × Nat × Nat × Nat × Nat) := x_invT_0 ++ (x_invT_1 ++ (x_invT_2 ++ (x_invT_3 ++ (x_invT_4 ++ (x_invT_5 ++ (x_invT_6))))))
def x_inv (oc i : Nat) : Option (Nat × Nat × Nat) := (x_look x_invT oc i).map fun q => q.1
def x_rcs_0 : List Nat := [8, 4, 0, 1, 2, 3, 6, 5, 7, 8, 8, 99, 99, 2, 8, 8, 2, 8, 2, 1, 1, 8, 7, 8, 7, 7, 9, 9, 99, 1, 8, 1, 1, 99, 9, 8, 9, 9, 8, 8, 4, 4, 0, 0, 0, 0, 99, 4, 4, 4, 4, 4, 4, 4, 3, 3, 4, 3, 3, 4, 0, 4, 4, 4, 4, 3, 4, 3, 4, 4, 99, 10, 8, 8, 8, 8, 8, 6, 6, 7, 6, 10, 6, 3, 5, 99, 9, 5, 5, 5, 5, 5, 5, 5, 5, 5, 6, 99, 99, 99]
def x_rcs_1 : List Nat := [99, 99, 99, 99, 99, 99, 99, 99, 99, 99, 99, 99, 6, 9, 6, 8, 8, 8, 8, 8, 8, 8, 8, 8, 8, 11, 11, 99, 99, 99, 11, 11, 11, 11, 11, 11, 11, 11, 11, 11, 11, 11, 11, 99, 11, 11, 11, 11, 11, 11, 11, 11, 11, 11, 11, 11, 11, 11, 11, 11, 11, 11, 11, 11, 11, 11, 11, 11, 11, 11, 11, 11, 11, 11, 11, 11, 11, 11, 11, 11, 11, 11, 11, 11, 99, 11, 99, 11, 11, 11, 11, 11, 11, 11, 11, 11, 11, 11, 11, 11]
def x_rcs_2 : List Nat := [11, 11, 11, 99]
def x_rcs : List Nat := x_rcs_0 ++ (x_rcs_1 ++ (x_rcs_2))
def x_rc (j : Nat) : Nat := (x_rcs[j]?).getD 99
def x_rv (j : Nat) : Bool := match x_cl[x_rc j]? with
  | some r => decide (r.1 = x_cn (x_oc j))
  | none => false
def x_N : List Cond := lw_tbl.filter fun w => match w with | .methodLinkNest _ _ _ _ => true | _ => false
def x_G : List Cond := lw_tbl.filter goodWord
def x_O : List Cond := lw_tbl.filter fun w => match w with | .arrayOver (.object _) => true | _ => false
abbrev x_code (j : Nat) : Cond := .code (x_y j) (x_b j) (x_nl j) (x_rt j)
def x_ws (j : Nat) : List Cond := x_code j :: x_G
