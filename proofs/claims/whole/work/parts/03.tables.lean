/-! the program as data: printed by wip/gen/tables.py out of tables_1 -/
def xp_Rl : List String := ["DilemmaProver$Circuit", "DilemmaProver$Equivalence", "DilemmaProver$Reader", "DilemmaProver$Saturator", "DilemmaProver$Table", "DilemmaProver$Text", "DilemmaProver", "DilemmaProverModel", "java/lang/String", "java/lang/StringLatin1", "jdk/internal/util/Preconditions", "java/lang/StringUTF16", "java/lang/Math", "java/lang/Long", "java/lang/Integer", "DilemmaProverLaw"]
def xp_R (k : Nat) : String := xp_Rl.getD k "DilemmaProverLaw"
def m_La_law : Nat := 0
def m_Md_init : Nat := 1
def m_Md_feed : Nat := 2
def m_Md_read : Nat := 3
def m_Md_readFormula : Nat := 4
def m_Md_beginNot : Nat := 5
def m_Md_look : Nat := 6
def m_Md_scan : Nat := 7
def m_Md_signAt : Nat := 8
def m_Md_isSmall : Nat := 9
def m_Md_isDigit : Nat := 10
def m_Md_isTrueWord : Nat := 11
def m_Md_isFalseWord : Nat := 12
def m_Md_isSign : Nat := 13
def m_Md_fail : Nat := 14
def m_Md_nest : Nat := 15
def m_Md_pass : Nat := 16
def m_Md_inputAt : Nat := 17
def m_Md_newVariable : Nat := 18
def m_Md_goOn : Nat := 19
def m_Md_want : Nat := 20
def m_Md_gateAt : Nat := 21
def m_Md_gateOf : Nat := 22
def m_Md_series : Nat := 23
def m_Md_hold : Nat := 24
def m_Md_place : Nat := 25
def m_Md_count : Nat := 26
def m_Md_told3 : Nat := 27
def m_Md_variable : Nat := 28
def m_Md_isVariable : Nat := 29
def m_Md_gate : Nat := 30
def m_Md_isLiteral : Nat := 31
def m_Md_sign : Nat := 32
def m_Md_clear : Nat := 33
def m_Md_alone : Nat := 34
def m_Md_forget : Nat := 35
def m_Md_stands : Nat := 36
def m_Md_join : Nat := 37
def m_Md_take : Nat := 38
def m_Md_joined : Nat := 39
def m_Md_back : Nat := 40
def m_Md_saturate : Nat := 41
def m_Md_isOut : Nat := 42
def m_Md_beginTold : Nat := 43
def m_Md_saturated : Nat := 44
def m_Md_plain : Nat := 45
def m_Md_classes : Nat := 46
def m_Md_round : Nat := 47
def m_Md_andRules : Nat := 48
def m_Md_is : Nat := 49
def m_Md_join2 : Nat := 50
def m_Md_sameRules : Nat := 51
def m_Md_beginPass : Nat := 52
def m_Md_nextFree : Nat := 53
def m_Md_branch : Nat := 54
def m_Md_copyRow : Nat := 55
def m_Md_agree : Nat := 56
def m_Md_prove : Nat := 57
def m_Md_told : Nat := 58
def m_Md_value : Nat := 59
def m_Md_assign : Nat := 60
def m_Md_model : Nat := 61
def m_Md_alike : Nat := 62
def m_St_length : Nat := 63
def m_St_coder : Nat := 64
def m_St_charAt : Nat := 65
def m_St_isLatin1 : Nat := 66
def m_Sl_charAt : Nat := 67
def m_St_checkIndex : Nat := 68
def m_Pr_checkIndex : Nat := 69
def m_Su_charAt : Nat := 70
def m_Su_checkIndex : Nat := 71
def m_Su_length : Nat := 72
def m_Su_getChar : Nat := 73
def m_Lo_numberOfTrailingZeros : Nat := 74
def m_In_numberOfTrailingZeros : Nat := 75
def m_Dp_init : Nat := 76
def m_Te_init : Nat := 77
def m_Ci_init : Nat := 78
def m_Re_init : Nat := 79
def m_Eq_init : Nat := 80
def m_Eq_growTo : Nat := 81
def m_Sa_init : Nat := 82
def m_Ta_init : Nat := 83
def m_Dp_feed : Nat := 84
def m_Dp_isUpTo : Nat := 85
def m_Te_drop : Nat := 86
def m_Te_append : Nat := 87
def m_Te_length : Nat := 88
def m_Dp_read : Nat := 89
def m_Re_readAll : Nat := 90
def m_Re_equality : Nat := 91
def m_Re_implication : Nat := 92
def m_Re_disjunction : Nat := 93
def m_Re_difference : Nat := 94
def m_Re_conjunction : Nat := 95
def m_Re_operand : Nat := 96
def m_Re_look : Nat := 97
def m_Re_behindBlanks : Nat := 98
def m_Te_byteAt : Nat := 99
def m_Re_isBlank : Nat := 100
def m_Re_isLetter : Nat := 101
def m_Re_scanWord : Nat := 102
def m_Re_behindWord : Nat := 103
def m_Re_isLetterOrDigit : Nat := 104
def m_Te_hasAt : Nat := 105
def m_Re_found : Nat := 106
def m_Re_scanSign : Nat := 107
def m_Re_refuse : Nat := 108
def m_Re_take : Nat := 109
def m_Re_opens : Nat := 110
def m_Re_close : Nat := 111
def m_Re_name : Nat := 112
def m_Ci_inputOf : Nat := 113
def m_Ci_isNamed : Nat := 114
def m_Ci_inputs : Nat := 115
def m_Ci_isFull : Nat := 116
def m_Ci_addInput : Nat := 117
def m_Ci_add : Nat := 118
def m_Re_combine : Nat := 119
def m_Re_gateFor : Nat := 120
def m_Ci_gateOf : Nat := 121
def m_Ci_size : Nat := 122
def m_Re_fault : Nat := 123
def m_Dp_place : Nat := 124
def m_Re_faultPlace : Nat := 125
def m_Dp_count : Nat := 126
def m_Ci_gates : Nat := 127
def m_Eq_isContradiction : Nat := 128
def m_Eq_classes : Nat := 129
def m_Dp_variable : Nat := 130
def m_Ci_hasVariable : Nat := 131
def m_Ci_kindOf : Nat := 132
def m_Ci_firstOf : Nat := 133
def m_Ci_secondOf : Nat := 134
def m_Dp_gate : Nat := 135
def m_Ci_hasLiterals : Nat := 136
def m_Ci_hasLiteral : Nat := 137
def m_Dp_sign : Nat := 138
def m_Ci_nameSign : Nat := 139
def m_Dp_clear : Nat := 140
def m_Ci_empty : Nat := 141
def m_Eq_separate : Nat := 142
def m_Dp_forget : Nat := 143
def m_Dp_join : Nat := 144
def m_Eq_standing : Nat := 145
def m_Eq_unite : Nat := 146
def m_Dp_stands : Nat := 147
def m_Dp_saturate : Nat := 148
def m_Sa_begin : Nat := 149
def m_Eq_copyFrom : Nat := 150
def m_Sa_deepen : Nat := 151
def m_Sa_settle : Nat := 152
def m_Sa_goesOn : Nat := 153
def m_Sa_round : Nat := 154
def m_Sa_obeyAnd : Nat := 155
def m_Sa_obeySame : Nat := 156
def m_Sa_pass : Nat := 157
def m_Eq_size : Nat := 158
def m_Sa_split : Nat := 159
def m_Sa_follow : Nat := 160
def m_Sa_merge : Nat := 161
def m_Eq_contradict : Nat := 162
def m_Eq_uniteCommon : Nat := 163
def m_Eq_isLeast : Nat := 164
def m_Eq_uniteWithLesser : Nat := 165
def m_Sa_isSpent : Nat := 166
def m_Dp_prove : Nat := 167
def m_Dp_told : Nat := 168
def m_Sa_tallyOf : Nat := 169
def m_Dp_value : Nat := 170
def m_Ta_bit : Nat := 171
def m_Ta_fill : Nat := 172
def m_Ta_wordOf : Nat := 173
def m_Ta_inputWord : Nat := 174
def m_Ta_word : Nat := 175
def m_Dp_model : Nat := 176
def m_Ta_leastDifference : Nat := 177
def m_Dp_alike : Nat := 178
abbrev xp_M : Type := MethodName × ByteArray × Nat × Option FieldType × Nat × Nat × Bool
def xp_d : xp_M := (x, code, 4, some .boolean, 15, 1, true)
def xp_mt_0 : List xp_M := [(⟨"DilemmaProverLaw", "law", "([I)Z"⟩, code, 4, (some .boolean), 15, 1, true),
  (⟨"DilemmaProverModel", "<init>", "()V"⟩, prog_9_method_1_code, 1, none, 7, 0, false),
  (⟨"DilemmaProverModel", "feed", "(JI)I"⟩, prog_9_method_23_code, 5, (some .int), 7, 2, false),
  (⟨"DilemmaProverModel", "read", "()I"⟩, prog_9_method_24_code, 3, (some .int), 7, 0, false),
  (⟨"DilemmaProverModel", "readFormula", "()I"⟩, prog_9_method_22_code, 3, (some .int), 7, 0, false),
  (⟨"DilemmaProverModel", "beginNot", "(I)I"⟩, prog_9_method_18_code, 4, (some .int), 7, 1, false),
  (⟨"DilemmaProverModel", "look", "()I"⟩, prog_9_method_12_code, 2, (some .int), 7, 0, false),
  (⟨"DilemmaProverModel", "scan", "()V"⟩, prog_9_method_10_code, 2, none, 7, 0, false),
  (⟨"DilemmaProverModel", "signAt", "(I)I"⟩, prog_9_method_6_code, 2, (some .int), 7, 1, false),
  (⟨"DilemmaProverModel", "isSmall", "(I)Z"⟩, prog_9_method_4_code, 1, (some .boolean), 7, 1, true),
  (⟨"DilemmaProverModel", "isDigit", "(I)Z"⟩, prog_9_method_5_code, 1, (some .boolean), 7, 1, true),
  (⟨"DilemmaProverModel", "isTrueWord", "()Z"⟩, prog_9_method_8_code, 1, (some .boolean), 7, 0, false),
  (⟨"DilemmaProverModel", "isFalseWord", "()Z"⟩, prog_9_method_9_code, 1, (some .boolean), 7, 0, false),
  (⟨"DilemmaProverModel", "isSign", "(I)Z"⟩, prog_9_method_7_code, 1, (some .boolean), 7, 1, true),
  (⟨"DilemmaProverModel", "fail", "(II)Z"⟩, prog_9_method_11_code, 3, (some .boolean), 7, 2, false),
  (⟨"DilemmaProverModel", "nest", "()Z"⟩, prog_9_method_15_code, 1, (some .boolean), 7, 0, false),
  (⟨"DilemmaProverModel", "pass", "()V"⟩, prog_9_method_13_code, 1, none, 7, 0, false),
  (⟨"DilemmaProverModel", "inputAt", "()I"⟩, prog_9_method_16_code, 4, (some .int), 7, 0, false),
  (⟨"DilemmaProverModel", "newVariable", "(III)I"⟩, prog_9_method_2_code, 5, (some .int), 7, 3, false),
  (⟨"DilemmaProverModel", "goOn", "(I)I"⟩, prog_9_method_19_code, 7, (some .int), 7, 1, false),
  (⟨"DilemmaProverModel", "want", "(I)Z"⟩, prog_9_method_14_code, 2, (some .boolean), 7, 1, false),
  (⟨"DilemmaProverModel", "gateAt", "(IIIII)I"⟩, prog_9_method_17_code, 8, (some .int), 7, 5, false),
  (⟨"DilemmaProverModel", "gateOf", "(III)I"⟩, prog_9_method_3_code, 7, (some .int), 7, 3, false),
  (⟨"DilemmaProverModel", "series", "(III)I"⟩, prog_9_method_21_code, 4, (some .int), 7, 3, false),
  (⟨"DilemmaProverModel", "hold", "(III)I"⟩, prog_9_method_20_code, 4, (some .int), 7, 3, false),
  (⟨"DilemmaProverModel", "place", "()I"⟩, prog_9_method_25_code, 1, (some .int), 7, 0, false),
  (⟨"DilemmaProverModel", "count", "(I)I"⟩, prog_9_method_28_code, 2, (some .int), 7, 1, false),
  (⟨"DilemmaProverModel", "told3", "()I"⟩, prog_9_method_29_code, 3, (some .int), 7, 0, false),
  (⟨"DilemmaProverModel", "variable", "(II)I"⟩, prog_9_method_30_code, 3, (some .int), 7, 2, false),
  (⟨"DilemmaProverModel", "isVariable", "(I)Z"⟩, prog_9_method_27_code, 2, (some .boolean), 7, 1, false),
  (⟨"DilemmaProverModel", "gate", "(III)I"⟩, prog_9_method_31_code, 5, (some .int), 7, 3, false),
  (⟨"DilemmaProverModel", "isLiteral", "(I)Z"⟩, prog_9_method_26_code, 2, (some .boolean), 7, 1, false),
  (⟨"DilemmaProverModel", "sign", "(II)I"⟩, prog_9_method_32_code, 3, (some .int), 7, 2, false),
  (⟨"DilemmaProverModel", "clear", "()I"⟩, prog_9_method_34_code, 2, (some .int), 7, 0, false),
  (⟨"DilemmaProverModel", "alone", "()V"⟩, prog_9_method_33_code, 2, none, 7, 0, false),
  (⟨"DilemmaProverModel", "forget", "()I"⟩, prog_9_method_35_code, 2, (some .int), 7, 0, false),
  (⟨"DilemmaProverModel", "stands", "(I)I"⟩, prog_9_method_36_code, 2, (some .int), 7, 1, false),
  (⟨"DilemmaProverModel", "join", "(II)I"⟩, prog_9_method_52_code, 4, (some .int), 7, 2, false),
  (⟨"DilemmaProverModel", "take", "()V"⟩, prog_9_method_53_code, 2, none, 7, 0, false),
  (⟨"DilemmaProverModel", "joined", "(III)Z"⟩, prog_9_method_37_code, 13, (some .boolean), 7, 3, false)]
def xp_mt_1 : List xp_M := [(⟨"DilemmaProverModel", "back", "()V"⟩, prog_9_method_54_code, 2, none, 7, 0, false),
  (⟨"DilemmaProverModel", "saturate", "(II)I"⟩, prog_9_method_56_code, 3, (some .int), 7, 2, false),
  (⟨"DilemmaProverModel", "isOut", "(II)Z"⟩, prog_9_method_55_code, 2, (some .boolean), 7, 2, true),
  (⟨"DilemmaProverModel", "beginTold", "(I)V"⟩, prog_9_method_51_code, 2, none, 7, 1, false),
  (⟨"DilemmaProverModel", "saturated", "(I)Z"⟩, prog_9_method_50_code, 4, (some .boolean), 7, 1, false),
  (⟨"DilemmaProverModel", "plain", "(I)Z"⟩, prog_9_method_44_code, 4, (some .boolean), 7, 1, false),
  (⟨"DilemmaProverModel", "classes", "(I)I"⟩, prog_9_method_39_code, 4, (some .int), 7, 1, false),
  (⟨"DilemmaProverModel", "round", "(I)V"⟩, prog_9_method_43_code, 3, none, 7, 1, false),
  (⟨"DilemmaProverModel", "andRules", "(IIII)V"⟩, prog_9_method_41_code, 5, none, 7, 4, false),
  (⟨"DilemmaProverModel", "is", "(II)Z"⟩, prog_9_method_40_code, 3, (some .boolean), 7, 2, false),
  (⟨"DilemmaProverModel", "join2", "(III)V"⟩, prog_9_method_38_code, 5, none, 7, 3, false),
  (⟨"DilemmaProverModel", "sameRules", "(IIII)V"⟩, prog_9_method_42_code, 6, none, 7, 4, false),
  (⟨"DilemmaProverModel", "beginPass", "(I)V"⟩, prog_9_method_49_code, 2, none, 7, 1, false),
  (⟨"DilemmaProverModel", "nextFree", "(I)V"⟩, prog_9_method_48_code, 3, none, 7, 1, false),
  (⟨"DilemmaProverModel", "branch", "(II)V"⟩, prog_9_method_46_code, 3, none, 7, 2, false),
  (⟨"DilemmaProverModel", "copyRow", "(II)V"⟩, prog_9_method_45_code, 4, none, 7, 2, false),
  (⟨"DilemmaProverModel", "agree", "(I)V"⟩, prog_9_method_47_code, 7, none, 7, 1, false),
  (⟨"DilemmaProverModel", "prove", "(III)I"⟩, prog_9_method_57_code, 5, (some .int), 7, 3, false),
  (⟨"DilemmaProverModel", "told", "(I)I"⟩, prog_9_method_58_code, 2, (some .int), 7, 1, false),
  (⟨"DilemmaProverModel", "value", "(II)I"⟩, prog_9_method_60_code, 3, (some .int), 7, 2, false),
  (⟨"DilemmaProverModel", "assign", "(I)V"⟩, prog_9_method_59_code, 4, none, 7, 1, false),
  (⟨"DilemmaProverModel", "model", "(I)I"⟩, prog_9_method_61_code, 3, (some .int), 7, 1, false),
  (⟨"DilemmaProverModel", "alike", "(II)I"⟩, prog_9_method_62_code, 4, (some .int), 7, 2, false),
  (⟨"java/lang/String", "length", "()I"⟩, prog_13_method_54_code, 1, (some .int), 8, 0, false),
  (⟨"java/lang/String", "coder", "()B"⟩, prog_13_method_152_code, 1, (some .byte), 8, 0, false),
  (⟨"java/lang/String", "charAt", "(I)C"⟩, prog_13_method_56_code, 2, (some .char), 8, 1, false),
  (⟨"java/lang/String", "isLatin1", "()Z"⟩, prog_13_method_154_code, 1, (some .boolean), 8, 0, false),
  (⟨"java/lang/StringLatin1", "charAt", "([BI)C"⟩, prog_14_method_2_code, 2, (some .char), 9, 2, true),
  (⟨"java/lang/String", "checkIndex", "(II)V"⟩, prog_13_method_155_code, 2, none, 8, 2, true),
  (⟨"jdk/internal/util/Preconditions", "checkIndex", "(IILjava/util/function/BiFunction;)I"⟩, prog_17_method_11_code, 3, (some .int), 10, 3, true),
  (⟨"java/lang/StringUTF16", "charAt", "([BI)C"⟩, prog_15_method_83_code, 2, (some .char), 11, 2, true),
  (⟨"java/lang/StringUTF16", "checkIndex", "(I[B)V"⟩, prog_15_method_91_code, 2, none, 11, 2, true),
  (⟨"java/lang/StringUTF16", "length", "([B)I"⟩, prog_15_method_6_code, 1, (some .int), 11, 1, true),
  (⟨"java/lang/StringUTF16", "getChar", "([BI)C"⟩, prog_15_method_5_code, 2, (some .char), 11, 2, true),
  (⟨"java/lang/Long", "numberOfTrailingZeros", "(J)I"⟩, prog_11_method_49_code, 3, (some .int), 13, 1, true),
  (⟨"java/lang/Integer", "numberOfTrailingZeros", "(I)I"⟩, prog_10_method_48_code, 2, (some .int), 14, 1, true),
  (⟨"DilemmaProver", "<init>", "()V"⟩, prog_1_method_1_code, 1, none, 6, 0, false),
  (⟨"DilemmaProver$Text", "<init>", "()V"⟩, prog_7_method_1_code, 1, none, 5, 0, false),
  (⟨"DilemmaProver$Circuit", "<init>", "()V"⟩, prog_2_method_1_code, 1, none, 0, 0, false),
  (⟨"DilemmaProver$Reader", "<init>", "(LDilemmaProver$Text;LDilemmaProver$Circuit;)V"⟩, prog_4_method_1_code, 3, none, 2, 2, false)]
def xp_mt_2 : List xp_M := [(⟨"DilemmaProver$Equivalence", "<init>", "()V"⟩, prog_3_method_1_code, 1, none, 1, 0, false),
  (⟨"DilemmaProver$Equivalence", "growTo", "(I)V"⟩, prog_3_method_7_code, 3, none, 1, 1, false),
  (⟨"DilemmaProver$Saturator", "<init>", "(LDilemmaProver$Circuit;)V"⟩, prog_5_method_1_code, 3, none, 3, 1, false),
  (⟨"DilemmaProver$Table", "<init>", "(LDilemmaProver$Circuit;)V"⟩, prog_6_method_1_code, 2, none, 4, 1, false),
  (⟨"DilemmaProver", "feed", "(JI)I"⟩, prog_1_method_2_code, 4, (some .int), 6, 2, false),
  (⟨"DilemmaProver", "isUpTo", "(II)Z"⟩, prog_1_method_19_code, 2, (some .boolean), 6, 2, true),
  (⟨"DilemmaProver$Text", "drop", "()V"⟩, prog_7_method_3_code, 1, none, 5, 0, false),
  (⟨"DilemmaProver$Text", "append", "(JI)Z"⟩, prog_7_method_4_code, 5, (some .boolean), 5, 2, false),
  (⟨"DilemmaProver$Text", "length", "()I"⟩, prog_7_method_2_code, 1, (some .int), 5, 0, false),
  (⟨"DilemmaProver", "read", "()I"⟩, prog_1_method_3_code, 2, (some .int), 6, 0, false),
  (⟨"DilemmaProver$Reader", "readAll", "()I"⟩, prog_4_method_4_code, 2, (some .int), 2, 0, false),
  (⟨"DilemmaProver$Reader", "equality", "()I"⟩, prog_4_method_5_code, 4, (some .int), 2, 0, false),
  (⟨"DilemmaProver$Reader", "implication", "()I"⟩, prog_4_method_6_code, 4, (some .int), 2, 0, false),
  (⟨"DilemmaProver$Reader", "disjunction", "()I"⟩, prog_4_method_7_code, 4, (some .int), 2, 0, false),
  (⟨"DilemmaProver$Reader", "difference", "()I"⟩, prog_4_method_8_code, 4, (some .int), 2, 0, false),
  (⟨"DilemmaProver$Reader", "conjunction", "()I"⟩, prog_4_method_9_code, 4, (some .int), 2, 0, false),
  (⟨"DilemmaProver$Reader", "operand", "()I"⟩, prog_4_method_10_code, 2, (some .int), 2, 0, false),
  (⟨"DilemmaProver$Reader", "look", "()I"⟩, prog_4_method_17_code, 1, (some .int), 2, 0, false),
  (⟨"DilemmaProver$Reader", "behindBlanks", "(I)I"⟩, prog_4_method_22_code, 4, (some .int), 2, 1, false),
  (⟨"DilemmaProver$Text", "byteAt", "(I)I"⟩, prog_7_method_5_code, 2, (some .int), 5, 1, false),
  (⟨"DilemmaProver$Reader", "isBlank", "(I)Z"⟩, prog_4_method_24_code, 1, (some .boolean), 2, 1, true),
  (⟨"DilemmaProver$Reader", "isLetter", "(I)Z"⟩, prog_4_method_25_code, 1, (some .boolean), 2, 1, true),
  (⟨"DilemmaProver$Reader", "scanWord", "()V"⟩, prog_4_method_19_code, 3, none, 2, 0, false),
  (⟨"DilemmaProver$Reader", "behindWord", "(I)I"⟩, prog_4_method_23_code, 4, (some .int), 2, 1, false),
  (⟨"DilemmaProver$Reader", "isLetterOrDigit", "(I)Z"⟩, prog_4_method_26_code, 1, (some .boolean), 2, 1, true),
  (⟨"DilemmaProver$Text", "hasAt", "(ILjava/lang/String;)Z"⟩, prog_7_method_6_code, 4, (some .boolean), 5, 2, false),
  (⟨"DilemmaProver$Reader", "found", "(II)V"⟩, prog_4_method_21_code, 3, none, 2, 2, false),
  (⟨"DilemmaProver$Reader", "scanSign", "()V"⟩, prog_4_method_20_code, 1, none, 2, 0, false),
  (⟨"DilemmaProver$Reader", "refuse", "(II)I"⟩, prog_4_method_16_code, 3, (some .int), 2, 2, false),
  (⟨"DilemmaProver$Reader", "take", "()I"⟩, prog_4_method_18_code, 1, (some .int), 2, 0, false),
  (⟨"DilemmaProver$Reader", "opens", "(I)Z"⟩, prog_4_method_14_code, 2, (some .boolean), 2, 1, false),
  (⟨"DilemmaProver$Reader", "close", "()V"⟩, prog_4_method_15_code, 1, none, 2, 0, false),
  (⟨"DilemmaProver$Reader", "name", "()I"⟩, prog_4_method_11_code, 4, (some .int), 2, 0, false),
  (⟨"DilemmaProver$Circuit", "inputOf", "(LDilemmaProver$Text;II)I"⟩, prog_2_method_14_code, 5, (some .int), 0, 3, false),
  (⟨"DilemmaProver$Circuit", "isNamed", "(ILDilemmaProver$Text;II)Z"⟩, prog_2_method_15_code, 6, (some .boolean), 0, 4, false),
  (⟨"DilemmaProver$Circuit", "inputs", "()I"⟩, prog_2_method_3_code, 1, (some .int), 0, 0, false),
  (⟨"DilemmaProver$Circuit", "isFull", "()Z"⟩, prog_2_method_5_code, 1, (some .boolean), 0, 0, false),
  (⟨"DilemmaProver$Circuit", "addInput", "(LDilemmaProver$Text;II)I"⟩, prog_2_method_16_code, 6, (some .int), 0, 3, false),
  (⟨"DilemmaProver$Circuit", "add", "(III)I"⟩, prog_2_method_17_code, 5, (some .int), 0, 3, false),
  (⟨"DilemmaProver$Reader", "combine", "(IIII)I"⟩, prog_4_method_12_code, 7, (some .int), 2, 4, false)]
def xp_mt_3 : List xp_M := [(⟨"DilemmaProver$Reader", "gateFor", "(III)I"⟩, prog_4_method_13_code, 4, (some .int), 2, 3, false),
  (⟨"DilemmaProver$Circuit", "gateOf", "(III)I"⟩, prog_2_method_13_code, 7, (some .int), 0, 3, false),
  (⟨"DilemmaProver$Circuit", "size", "()I"⟩, prog_2_method_2_code, 1, (some .int), 0, 0, false),
  (⟨"DilemmaProver$Reader", "fault", "()I"⟩, prog_4_method_2_code, 1, (some .int), 2, 0, false),
  (⟨"DilemmaProver", "place", "()I"⟩, prog_1_method_4_code, 1, (some .int), 6, 0, false),
  (⟨"DilemmaProver$Reader", "faultPlace", "()I"⟩, prog_4_method_3_code, 1, (some .int), 2, 0, false),
  (⟨"DilemmaProver", "count", "(I)I"⟩, prog_1_method_5_code, 2, (some .int), 6, 1, false),
  (⟨"DilemmaProver$Circuit", "gates", "()I"⟩, prog_2_method_4_code, 1, (some .int), 0, 0, false),
  (⟨"DilemmaProver$Equivalence", "isContradiction", "()Z"⟩, prog_3_method_4_code, 1, (some .boolean), 1, 0, false),
  (⟨"DilemmaProver$Equivalence", "classes", "()I"⟩, prog_3_method_3_code, 1, (some .int), 1, 0, false),
  (⟨"DilemmaProver", "variable", "(II)I"⟩, prog_1_method_6_code, 3, (some .int), 6, 2, false),
  (⟨"DilemmaProver$Circuit", "hasVariable", "(I)Z"⟩, prog_2_method_6_code, 2, (some .boolean), 0, 1, false),
  (⟨"DilemmaProver$Circuit", "kindOf", "(I)I"⟩, prog_2_method_9_code, 2, (some .int), 0, 1, false),
  (⟨"DilemmaProver$Circuit", "firstOf", "(I)I"⟩, prog_2_method_10_code, 2, (some .int), 0, 1, false),
  (⟨"DilemmaProver$Circuit", "secondOf", "(I)I"⟩, prog_2_method_11_code, 2, (some .int), 0, 1, false),
  (⟨"DilemmaProver", "gate", "(III)I"⟩, prog_1_method_7_code, 5, (some .int), 6, 3, false),
  (⟨"DilemmaProver$Circuit", "hasLiterals", "(II)Z"⟩, prog_2_method_8_code, 3, (some .boolean), 0, 2, false),
  (⟨"DilemmaProver$Circuit", "hasLiteral", "(I)Z"⟩, prog_2_method_7_code, 2, (some .boolean), 0, 1, false),
  (⟨"DilemmaProver", "sign", "(II)I"⟩, prog_1_method_8_code, 3, (some .int), 6, 2, false),
  (⟨"DilemmaProver$Circuit", "nameSign", "(II)I"⟩, prog_2_method_18_code, 4, (some .int), 0, 2, false),
  (⟨"DilemmaProver", "clear", "()I"⟩, prog_1_method_9_code, 2, (some .int), 6, 0, false),
  (⟨"DilemmaProver$Circuit", "empty", "()V"⟩, prog_2_method_12_code, 1, none, 0, 0, false),
  (⟨"DilemmaProver$Equivalence", "separate", "(I)V"⟩, prog_3_method_6_code, 2, none, 1, 1, false),
  (⟨"DilemmaProver", "forget", "()I"⟩, prog_1_method_10_code, 2, (some .int), 6, 0, false),
  (⟨"DilemmaProver", "join", "(II)I"⟩, prog_1_method_11_code, 3, (some .int), 6, 2, false),
  (⟨"DilemmaProver$Equivalence", "standing", "(I)I"⟩, prog_3_method_9_code, 2, (some .int), 1, 1, false),
  (⟨"DilemmaProver$Equivalence", "unite", "(II)V"⟩, prog_3_method_10_code, 6, none, 1, 2, false),
  (⟨"DilemmaProver", "stands", "(I)I"⟩, prog_1_method_12_code, 2, (some .int), 6, 1, false),
  (⟨"DilemmaProver", "saturate", "(II)I"⟩, prog_1_method_13_code, 3, (some .int), 6, 2, false),
  (⟨"DilemmaProver$Saturator", "begin", "(I)V"⟩, prog_5_method_2_code, 3, none, 3, 1, false),
  (⟨"DilemmaProver$Equivalence", "copyFrom", "(LDilemmaProver$Equivalence;)V"⟩, prog_3_method_8_code, 2, none, 1, 1, false),
  (⟨"DilemmaProver$Saturator", "deepen", "(LDilemmaProver$Equivalence;I)V"⟩, prog_5_method_5_code, 6, none, 3, 2, false),
  (⟨"DilemmaProver$Saturator", "settle", "(LDilemmaProver$Equivalence;)V"⟩, prog_5_method_11_code, 5, none, 3, 1, false),
  (⟨"DilemmaProver$Saturator", "goesOn", "(LDilemmaProver$Equivalence;)Z"⟩, prog_5_method_6_code, 2, (some .boolean), 3, 1, false),
  (⟨"DilemmaProver$Saturator", "round", "(LDilemmaProver$Equivalence;)V"⟩, prog_5_method_12_code, 3, none, 3, 1, false),
  (⟨"DilemmaProver$Saturator", "obeyAnd", "(LDilemmaProver$Equivalence;I)V"⟩, prog_5_method_13_code, 6, none, 3, 2, false),
  (⟨"DilemmaProver$Saturator", "obeySame", "(LDilemmaProver$Equivalence;I)V"⟩, prog_5_method_14_code, 8, none, 3, 2, false),
  (⟨"DilemmaProver$Saturator", "pass", "(LDilemmaProver$Equivalence;I)V"⟩, prog_5_method_7_code, 4, none, 3, 2, false),
  (⟨"DilemmaProver$Equivalence", "size", "()I"⟩, prog_3_method_2_code, 1, (some .int), 1, 0, false),
  (⟨"DilemmaProver$Saturator", "split", "(LDilemmaProver$Equivalence;II)V"⟩, prog_5_method_8_code, 6, none, 3, 3, false)]
def xp_mt_4 : List xp_M := [(⟨"DilemmaProver$Saturator", "follow", "(LDilemmaProver$Equivalence;LDilemmaProver$Equivalence;II)V"⟩, prog_5_method_9_code, 5, none, 3, 4, false),
  (⟨"DilemmaProver$Saturator", "merge", "(LDilemmaProver$Equivalence;LDilemmaProver$Equivalence;LDilemmaProver$Equivalence;)V"⟩, prog_5_method_10_code, 4, none, 3, 3, false),
  (⟨"DilemmaProver$Equivalence", "contradict", "()V"⟩, prog_3_method_5_code, 1, none, 1, 0, false),
  (⟨"DilemmaProver$Equivalence", "uniteCommon", "(LDilemmaProver$Equivalence;LDilemmaProver$Equivalence;)V"⟩, prog_3_method_11_code, 4, none, 1, 2, false),
  (⟨"DilemmaProver$Equivalence", "isLeast", "(I)Z"⟩, prog_3_method_13_code, 2, (some .boolean), 1, 1, false),
  (⟨"DilemmaProver$Equivalence", "uniteWithLesser", "(ILDilemmaProver$Equivalence;LDilemmaProver$Equivalence;)V"⟩, prog_3_method_12_code, 6, none, 1, 3, false),
  (⟨"DilemmaProver$Saturator", "isSpent", "()Z"⟩, prog_5_method_3_code, 1, (some .boolean), 3, 0, false),
  (⟨"DilemmaProver", "prove", "(III)I"⟩, prog_1_method_14_code, 5, (some .int), 6, 3, false),
  (⟨"DilemmaProver", "told", "(I)I"⟩, prog_1_method_15_code, 2, (some .int), 6, 1, false),
  (⟨"DilemmaProver$Saturator", "tallyOf", "(I)I"⟩, prog_5_method_4_code, 2, (some .int), 3, 1, false),
  (⟨"DilemmaProver", "value", "(II)I"⟩, prog_1_method_16_code, 3, (some .int), 6, 2, false),
  (⟨"DilemmaProver$Table", "bit", "(II)I"⟩, prog_6_method_2_code, 3, (some .int), 4, 2, false),
  (⟨"DilemmaProver$Table", "fill", "(I)V"⟩, prog_6_method_5_code, 3, none, 4, 1, false),
  (⟨"DilemmaProver$Table", "wordOf", "(II)J"⟩, prog_6_method_6_code, 3, (some .long), 4, 2, false),
  (⟨"DilemmaProver$Table", "inputWord", "(II)J"⟩, prog_6_method_7_code, 2, (some .long), 4, 2, true),
  (⟨"DilemmaProver$Table", "word", "(I)J"⟩, prog_6_method_4_code, 2, (some .long), 4, 1, false),
  (⟨"DilemmaProver", "model", "(I)I"⟩, prog_1_method_17_code, 2, (some .int), 6, 1, false),
  (⟨"DilemmaProver$Table", "leastDifference", "(II)I"⟩, prog_6_method_3_code, 7, (some .int), 4, 2, false),
  (⟨"DilemmaProver", "alike", "(II)I"⟩, prog_1_method_18_code, 3, (some .int), 6, 2, false)]
def xp_mt : List xp_M := xp_mt_0 ++ (xp_mt_1 ++ (xp_mt_2 ++ (xp_mt_3 ++ (xp_mt_4))))
/-- (class, entry, method) -/
def xp_cl : List (Nat × Nat × Nat × Nat) := [(0, 39, 137, 540), (0, 52, 116, 477), (0, 56, 118, 455), (0, 60, 114, 438), (0, 64, 99, 442), (0, 70, 131, 553), (1, 26, 81, 185), (1, 36, 145, 582), (1, 48, 164, 667), (1, 52, 165, 671), (1, 56, 146, 675), (2, 38, 91, 296), (2, 42, 97, 320), (2, 45, 108, 414), (2, 49, 92, 300), (2, 52, 109, 418), (2, 55, 119, 459), (2, 59, 93, 304), (2, 62, 110, 422), (2, 66, 94, 308), (2, 69, 95, 312), (2, 72, 96, 316), (2, 75, 111, 426), (2, 78, 112, 430), (2, 81, 113, 434), (2, 87, 115, 443), (2, 90, 116, 447), (2, 94, 117, 451), (2, 97, 120, 463), (2, 101, 121, 467), (2, 104, 98, 324), (2, 108, 99, 328), (2, 113, 101, 335), (2, 116, 102, 338), (2, 119, 107, 408), (2, 122, 103, 342), (2, 127, 105, 350), (2, 131, 106, 403), (2, 141, 100, 332), (2, 144, 104, 346), (3, 11, 80, 209), (3, 41, 152, 609), (3, 45, 153, 613), (3, 49, 129, 618), (3, 53, 157, 638), (3, 57, 128, 617), (3, 61, 158, 642), (3, 64, 145, 630), (3, 68, 159, 646), (3, 72, 160, 650), (3, 76, 161, 655), (3, 80, 150, 623), (3, 83, 146, 633), (3, 87, 151, 654), (3, 90, 162, 659), (3, 93, 163, 663), (3, 97, 154, 619), (3, 100, 122, 624), (3, 103, 132, 625), (3, 106, 155, 626), (3, 109, 156, 634), (3, 112, 133, 631), (3, 115, 134, 632), (4, 19, 172, 700), (4, 23, 175, 717), (4, 27, 115, 730), (4, 39, 74, 732), (4, 47, 122, 704), (4, 50, 173, 705), (4, 54, 132, 709), (4, 58, 133, 711), (4, 61, 174, 712), (4, 64, 134, 721), (5, 19, 63, 354), (5, 24, 99, 364), (5, 28, 65, 365), (6, 25, 79, 150), (6, 34, 80, 181), (6, 44, 82, 204), (6, 53, 83, 235), (6, 58, 85, 273), (6, 62, 86, 276), (6, 65, 87, 280), (6, 69, 88, 284), (6, 73, 90, 292), (6, 76, 122, 478), (6, 79, 81, 482), (6, 83, 123, 483), (6, 86, 125, 491), (6, 89, 115, 499), (6, 92, 127, 500), (6, 95, 128, 504), (6, 99, 129, 508), (6, 102, 131, 516), (6, 106, 132, 520), (6, 110, 133, 524), (6, 113, 134, 528), (6, 116, 136, 536), (6, 119, 121, 544), (6, 123, 139, 549), (6, 127, 141, 558), (6, 130, 142, 562), (6, 133, 145, 574), (6, 136, 146, 578), (6, 140, 137, 589), (6, 143, 149, 594), (6, 146, 150, 598), (6, 150, 151, 605), (6, 154, 166, 676), (6, 157, 169, 688), (6, 160, 171, 696), (6, 163, 177, 726), (7, 84, 18, 935), (7, 104, 8, 898), (7, 111, 9, 902), (7, 115, 10, 905), (7, 118, 11, 908), (7, 122, 12, 912), (7, 125, 13, 916), (7, 134, 7, 894), (7, 137, 14, 919), (7, 141, 6, 890), (7, 145, 16, 927), (7, 154, 22, 951), (7, 157, 15, 923), (7, 160, 17, 931), (7, 166, 20, 943), (7, 169, 21, 947), (7, 173, 23, 955), (7, 176, 24, 959), (7, 179, 5, 886), (7, 182, 19, 939), (7, 185, 4, 882), (7, 188, 27, 971), (7, 194, 29, 979), (7, 197, 31, 987), (7, 200, 34, 999), (7, 203, 39, 1019), (7, 207, 49, 1058), (7, 210, 50, 1062), (7, 217, 48, 1054), (7, 221, 51, 1066), (7, 230, 46, 1046), (7, 233, 47, 1050), (7, 237, 55, 1082), (7, 244, 45, 1042), (7, 247, 52, 1070), (7, 250, 53, 1074), (7, 253, 54, 1078), (7, 259, 56, 1086), (7, 262, 38, 1015), (7, 265, 40, 1023), (7, 268, 42, 1031), (7, 271, 43, 1034), (7, 274, 44, 1038), (7, 277, 60, 1102), (8, 335, 64, 358), (8, 492, 66, 369), (8, 495, 67, 373), (8, 498, 70, 384), (8, 1059, 69, 381), (9, 9, 68, 376), (11, 48, 72, 390), (11, 67, 71, 387), (11, 71, 73, 394), (11, 414, 68, 393), (13, 311, 75, 735), (15, 9, 76, 94), (15, 12, 1, 745), (15, 15, 84, 269), (15, 19, 2, 874), (15, 20, 89, 288), (15, 24, 3, 878), (15, 25, 124, 487), (15, 28, 25, 963), (15, 29, 126, 495), (15, 33, 26, 967), (15, 34, 130, 512), (15, 38, 28, 975), (15, 39, 135, 532), (15, 43, 30, 983), (15, 44, 138, 545), (15, 47, 32, 991), (15, 48, 140, 554), (15, 51, 33, 995), (15, 52, 143, 566), (15, 55, 35, 1003), (15, 56, 144, 570), (15, 59, 37, 1011), (15, 60, 147, 585), (15, 63, 36, 1007), (15, 64, 148, 590), (15, 67, 41, 1027), (15, 68, 167, 680), (15, 71, 57, 1090), (15, 72, 168, 684), (15, 75, 58, 1094), (15, 76, 170, 692), (15, 79, 59, 1098), (15, 80, 176, 722), (15, 83, 61, 1106), (15, 84, 178, 739), (15, 87, 62, 1110)]
/-- where the words of a method stand -/
def xp_mi : List (Nat × Nat × Nat × Nat) := [(747, 83, 746, 0), (877, 83, 875, 876), (881, 83, 879, 880), (885, 83, 884, 35), (889, 83, 888, 36), (893, 83, 892, 37), (897, 83, 896, 38), (901, 83, 900, 39), (904, 83, 903, 0), (907, 83, 906, 0), (911, 83, 910, 40), (915, 83, 914, 41), (918, 83, 917, 0), (922, 83, 921, 42), (926, 83, 925, 43), (930, 83, 929, 44), (934, 83, 933, 45), (938, 83, 937, 46), (942, 83, 941, 47), (946, 83, 945, 48), (950, 83, 949, 49), (954, 83, 953, 50), (958, 83, 957, 51), (962, 83, 961, 52), (966, 83, 964, 965), (970, 83, 968, 969), (974, 83, 973, 53), (978, 83, 976, 977), (982, 83, 981, 54), (986, 83, 984, 985), (990, 83, 989, 55), (994, 83, 992, 993), (998, 83, 996, 997), (1002, 83, 1001, 56), (1006, 83, 1004, 1005), (1010, 83, 1008, 1009), (1014, 83, 1012, 1013), (1018, 83, 1017, 57), (1022, 83, 1021, 58), (1026, 83, 1025, 59), (1030, 83, 1028, 1029), (1033, 83, 1032, 0), (1037, 83, 1036, 60), (1041, 83, 1040, 61), (1045, 83, 1044, 62), (1049, 83, 1048, 63), (1053, 83, 1052, 64), (1057, 83, 1056, 65), (1061, 83, 1060, 66), (1065, 83, 1064, 67), (1069, 83, 1068, 68), (1073, 83, 1072, 69), (1077, 83, 1076, 70), (1081, 83, 1080, 71), (1085, 83, 1084, 72), (1089, 83, 1088, 73), (1093, 83, 1091, 1092), (1097, 83, 1095, 1096), (1101, 83, 1099, 1100), (1105, 83, 1104, 74), (1109, 83, 1107, 1108), (1113, 83, 1111, 1112), (357, 84, 355, 356), (361, 84, 359, 360), (368, 84, 366, 367), (372, 84, 370, 371), (375, 85, 374, 0), (378, 84, 377, 0), (383, 86, 382, 0), (386, 87, 385, 0), (389, 87, 388, 0), (392, 87, 391, 0), (396, 87, 395, 0), (734, 90, 733, 0), (737, 91, 736, 0), (96, 76, 95, 0), (104, 77, 103, 0), (118, 78, 117, 0), (152, 79, 151, 0), (183, 80, 182, 0), (188, 80, 186, 187), (206, 81, 205, 0), (237, 82, 236, 0), (272, 76, 270, 271), (275, 76, 274, 0), (279, 77, 277, 278), (283, 77, 281, 282), (287, 77, 285, 286), (291, 76, 289, 290), (295, 79, 293, 294), (299, 79, 298, 0), (303, 79, 302, 1), (307, 79, 306, 2), (311, 79, 310, 3), (315, 79, 314, 4), (319, 79, 318, 5), (323, 79, 322, 6), (327, 79, 326, 7), (331, 77, 329, 330), (334, 79, 333, 0), (337, 79, 336, 0), (341, 79, 340, 8), (345, 79, 344, 9), (348, 79, 347, 0), (353, 77, 351, 352), (406, 79, 405, 10), (411, 79, 410, 11), (417, 79, 416, 12), (421, 79, 420, 13), (425, 79, 424, 14), (429, 79, 428, 15), (433, 79, 432, 16), (437, 78, 435, 436), (441, 78, 440, 17), (446, 78, 444, 445), (450, 78, 448, 449), (454, 78, 452, 453), (458, 78, 457, 18), (462, 79, 461, 19), (466, 79, 465, 20), (470, 78, 468, 469), (481, 78, 479, 480), (486, 79, 484, 485), (490, 76, 488, 489), (494, 79, 492, 493), (498, 76, 496, 497), (503, 78, 501, 502), (507, 80, 505, 506), (511, 80, 509, 510), (515, 76, 513, 514), (519, 78, 517, 518), (523, 78, 521, 522), (527, 78, 525, 526), (531, 78, 529, 530), (535, 76, 533, 534), (539, 78, 537, 538), (543, 78, 541, 542), (548, 76, 546, 547), (552, 78, 550, 551), (557, 76, 555, 556), (561, 78, 559, 560), (565, 80, 563, 564), (569, 76, 567, 568), (573, 76, 571, 572), (577, 80, 575, 576), (581, 80, 579, 580), (588, 76, 586, 587), (593, 76, 591, 592), (597, 81, 595, 596), (601, 80, 599, 600), (608, 81, 606, 607), (612, 81, 611, 21), (616, 81, 615, 22), (622, 81, 621, 23), (629, 81, 628, 24), (637, 81, 636, 25), (641, 81, 640, 26), (645, 80, 643, 644), (649, 81, 648, 27), (653, 81, 652, 28), (658, 81, 657, 29), (662, 80, 660, 661), (666, 80, 664, 665), (670, 80, 669, 30), (674, 80, 673, 31), (679, 81, 677, 678), (683, 76, 681, 682), (687, 76, 685, 686), (691, 81, 689, 690), (695, 76, 693, 694), (699, 82, 697, 698), (703, 82, 702, 32), (708, 82, 707, 33), (714, 82, 713, 0), (720, 82, 719, 34), (725, 76, 723, 724), (729, 82, 727, 728), (742, 76, 740, 741)]
def xp_nc : List (Nat × Nat × Nat) := [(6, 9, 77), (6, 18, 78)]
/-- Math.min (0), Math.max (1) -/
def xp_mx : List (Nat × Nat × Nat × Nat) := [(0, 43, 0, 471), (0, 49, 1, 474), (1, 39, 0, 583), (1, 45, 1, 584), (4, 33, 1, 731)]
def xp_oi : List (Nat × Nat × Nat) := [(0, 3, 119), (1, 3, 184), (2, 3, 153), (3, 3, 207), (4, 3, 238), (5, 3, 105), (6, 1, 97), (7, 1, 748)]
def xp_ac : List (Nat × Nat) := [(1, 30)]
/-- (class, entry, class of the field, its place) -/
def xp_fl : List (Nat × Nat × Nat × Nat × Nat) := [(0, 9, 0, 0, 122), (0, 15, 0, 1, 123), (0, 18, 0, 2, 124), (0, 21, 0, 3, 125), (0, 26, 0, 4, 126), (0, 29, 0, 5, 127), (0, 32, 0, 6, 128), (0, 36, 0, 7, 129), (1, 9, 1, 0, 189), (1, 15, 1, 1, 190), (1, 19, 1, 2, 191), (1, 22, 1, 3, 192), (2, 11, 2, 2, 156), (2, 15, 2, 3, 157), (2, 18, 2, 4, 158), (2, 21, 2, 5, 159), (2, 24, 2, 6, 160), (2, 27, 2, 7, 161), (2, 30, 2, 0, 154), (2, 34, 2, 1, 155), (3, 12, 3, 1, 212), (3, 18, 3, 2, 213), (3, 22, 3, 3, 214), (3, 25, 3, 4, 215), (3, 29, 3, 5, 216), (3, 33, 3, 6, 217), (3, 37, 3, 0, 211), (4, 9, 4, 1, 240), (4, 15, 4, 0, 239), (5, 9, 5, 0, 106), (5, 15, 5, 1, 107), (6, 10, 6, 0, 247), (6, 19, 6, 1, 248), (6, 28, 6, 2, 249), (6, 35, 6, 3, 250), (6, 39, 6, 4, 251), (6, 47, 6, 5, 252), (6, 54, 6, 6, 253), (7, 7, 7, 0, 749), (7, 13, 7, 1, 750), (7, 16, 7, 2, 751), (7, 19, 7, 5, 754), (7, 22, 7, 6, 755), (7, 25, 7, 7, 756), (7, 28, 7, 8, 757), (7, 31, 7, 10, 759), (7, 34, 7, 19, 768), (7, 38, 7, 21, 770), (7, 41, 7, 22, 771), (7, 44, 7, 23, 772), (7, 47, 7, 24, 773), (7, 50, 7, 26, 775), (7, 53, 7, 27, 776), (7, 57, 7, 28, 777), (7, 60, 7, 29, 778), (7, 63, 7, 30, 779), (7, 66, 7, 31, 780), (7, 69, 7, 32, 781), (7, 72, 7, 33, 782), (7, 75, 7, 34, 783), (7, 78, 7, 40, 789), (7, 81, 7, 3, 752), (7, 88, 7, 11, 760), (7, 91, 7, 15, 764), (7, 94, 7, 14, 763), (7, 97, 7, 12, 761), (7, 100, 7, 16, 765), (7, 108, 7, 13, 762), (7, 128, 7, 17, 766), (7, 131, 7, 18, 767), (7, 148, 7, 20, 769), (7, 151, 7, 4, 753), (7, 163, 7, 25, 774), (7, 191, 7, 9, 758), (7, 214, 7, 37, 786), (7, 224, 7, 35, 784), (7, 227, 7, 36, 785), (7, 241, 7, 38, 787), (7, 256, 7, 39, 788)]
-- statics: ('DilemmaProver$Table', '67', 'DilemmaProver$Table', 'WORD_PATTERNS', '[J'); ('java/lang/String', '1053', 'jdk/internal/util/Preconditions', 'SIOOBE_FORMATTER', 'Ljava/util/function/BiFunction;'); ('java/lang/String', '38', 'java/lang/String', 'COMPACT_STRINGS', 'Z'); ('java/lang/StringUTF16', '44', 'java/lang/StringUTF16', '$assertionsDisabled', 'Z'); ('java/lang/StringUTF16', '59', 'java/lang/StringUTF16', 'HI_BYTE_SHIFT', 'I'); ('java/lang/StringUTF16', '63', 'java/lang/StringUTF16', 'LO_BYTE_SHIFT', 'I')
def xp_nl : List (Nat × Nat × Nat × Nat × Nat × Nat) := [(3, 9, 1, 208, 180, 80), (6, 7, 5, 100, 101, 77), (6, 16, 0, 114, 115, 78), (6, 23, 2, 148, 149, 79), (6, 32, 1, 179, 180, 80), (6, 42, 3, 202, 203, 81), (6, 51, 4, 233, 234, 82), (15, 7, 6, 92, 93, 76), (15, 10, 7, 743, 744, 83)]
/-- where the words of the fields stand -/
def xp_ui : List (List Nat) := [[130, 132, 134, 136, 138, 140, 142, 144], [193, 195, 197, 199], [162, 164, 166, 168, 170, 172, 174, 176], [218, 220, 222, 224, 226, 228, 230], [241, 243], [108, 110], [254, 256, 258, 260, 262, 264, 266], [790, 792, 794, 796, 798, 800, 802, 804, 806, 808, 810, 812, 814, 816, 818, 820, 822, 824, 826, 828, 830, 832, 834, 836, 838, 840, 842, 844, 846, 848, 850, 852, 854, 856, 858, 860, 862, 864, 866, 868, 870]]
theorem xf_ob1 : lw_tbl[98]? = some (Jvm.Cond.instanceMethod ({ cls := "java/lang/Object", name := "<init>", desc := "()V" } : Jvm.MethodName)) := by decide +kernel
theorem xf_ob2 : lw_tbl[99]? = some (Jvm.Cond.code ({ cls := "java/lang/Object", name := "<init>", desc := "()V" } : Jvm.MethodName) object_method_1_code (1 : Nat) (Option.none : Option Jvm.ClassFile.FieldType)) := by decide +kernel
theorem xf_ab1 : lw_tbl[604]? = some (Jvm.Cond.native ({ cls := "java/lang/System", name := "arraycopy", desc := "(Ljava/lang/Object;ILjava/lang/Object;II)V" } : Jvm.MethodName)) := by decide +kernel
theorem xf_ab2 : lw_tbl[603]? = some (Jvm.Cond.static ({ cls := "java/lang/System", name := "arraycopy", desc := "(Ljava/lang/Object;ILjava/lang/Object;II)V" } : Jvm.MethodName)) := by decide +kernel
theorem xf_ab3 : lw_tbl[89]? = some (Jvm.Cond.initialized "java/lang/System") := by decide +kernel
theorem xf_ty_int : lw_tbl[147]? = some (Jvm.Cond.arrayClass Jvm.ClassFile.FieldType.int) := by decide +kernel
theorem xf_ty_byte : lw_tbl[113]? = some (Jvm.Cond.arrayClass Jvm.ClassFile.FieldType.byte) := by decide +kernel
theorem xf_ty_long : lw_tbl[246]? = some (Jvm.Cond.arrayClass Jvm.ClassFile.FieldType.long) := by decide +kernel
theorem xf_ty_boolean : lw_tbl[873]? = some (Jvm.Cond.arrayClass Jvm.ClassFile.FieldType.boolean) := by decide +kernel
theorem xf_ki0 : lw_tbl[738]? = some (Jvm.Cond.constant "java/lang/Integer" (264 : Nat) (65536 : Int32)) := by decide +kernel
theorem xf_kl0 : lw_tbl[710]? = some (Jvm.Cond.constantLong "DilemmaProver$Table" (45 : Nat) (-1 : Int64)) := by decide +kernel
theorem xf_kl1 : lw_tbl[1114]? = some (Jvm.Cond.constantLong "DilemmaProverLaw" (13 : Nat) (4294967295 : Int64)) := by decide +kernel
theorem xf_g_WORD_PATTERNS : lw_tbl[715]? = some (Jvm.Cond.fieldLink "DilemmaProver$Table" (67 : Nat) "DilemmaProver$Table" "WORD_PATTERNS" "[J") := by decide +kernel
theorem xf_g_SIOOBE_FORMATTER : lw_tbl[379]? = some (Jvm.Cond.fieldLink "java/lang/String" (1053 : Nat) "jdk/internal/util/Preconditions" "SIOOBE_FORMATTER" "Ljava/util/function/BiFunction;") := by decide +kernel
theorem xf_g_coder : lw_tbl[1116]? = some (Jvm.Cond.fieldLink "java/lang/String" (15 : Nat) "java/lang/String" "coder" "B") := by decide +kernel
theorem xf_g_COMPACT_STRINGS : lw_tbl[362]? = some (Jvm.Cond.fieldLink "java/lang/String" (38 : Nat) "java/lang/String" "COMPACT_STRINGS" "Z") := by decide +kernel
theorem xf_g_value : lw_tbl[1115]? = some (Jvm.Cond.fieldLink "java/lang/String" (9 : Nat) "java/lang/String" "value" "[B") := by decide +kernel
theorem xf_ac : lw_tbl[602]? = some (Jvm.Cond.methodLink "DilemmaProver$Equivalence" (30 : Nat) ({ cls := "java/lang/System", name := "arraycopy", desc := "(Ljava/lang/Object;ILjava/lang/Object;II)V" } : Jvm.MethodName)) := by decide +kernel

