/-! the program as data: printed by wip/gen/tables.py out of tables_1 -/
def xp_Rl : List String := ["DilemmaProver$Circuit", "DilemmaProver$Equivalence", "DilemmaProver$Reader", "DilemmaProver$Saturator", "DilemmaProver$Table", "DilemmaProver$Text", "DilemmaProver", "DilemmaProverModel", "java/lang/String", "java/lang/StringLatin1", "jdk/internal/util/Preconditions", "java/lang/StringUTF16", "java/lang/Math", "java/lang/Long", "java/lang/Integer", "DilemmaProverLaw"]
def xp_R (k : Nat) : String := xp_Rl.getD k "DilemmaProverLaw"
def m_La_law : Nat := 0
def m_Md_init : Nat := 1
def m_Md_feed : Nat := 2
def m_Md_read : Nat := 3
def m_Md_readFormula : Nat := 4
def m_Md_beginNot : Nat := 5
def m_Md_look : Nat := 6
def m_Md_scan : Nat := 7
def m_Md_signAt : Nat := 8
def m_Md_isSmall : Nat := 9
def m_Md_isDigit : Nat := 10
def m_Md_isTrueWord : Nat := 11
def m_Md_isFalseWord : Nat := 12
def m_Md_isSign : Nat := 13
def m_Md_fail : Nat := 14
def m_Md_nest : Nat := 15
def m_Md_pass : Nat := 16
def m_Md_inputAt : Nat := 17
def m_Md_newVariable : Nat := 18
def m_Md_goOn : Nat := 19
def m_Md_want : Nat := 20
def m_Md_gateAt : Nat := 21
def m_Md_gateOf : Nat := 22
def m_Md_series : Nat := 23
def m_Md_hold : Nat := 24
def m_Md_place : Nat := 25
def m_Md_count : Nat := 26
def m_Md_told3 : Nat := 27
def m_Md_variable : Nat := 28
def m_Md_isVariable : Nat := 29
def m_Md_gate : Nat := 30
def m_Md_isLiteral : Nat := 31
def m_Md_sign : Nat := 32
def m_Md_clear : Nat := 33
def m_Md_alone : Nat := 34
def m_Md_forget : Nat := 35
def m_Md_stands : Nat := 36
def m_Md_join : Nat := 37
def m_Md_take : Nat := 38
def m_Md_joined : Nat := 39
def m_Md_back : Nat := 40
def m_Md_saturate : Nat := 41
def m_Md_isOut : Nat := 42
def m_Md_beginTold : Nat := 43
def m_Md_saturated : Nat := 44
def m_Md_plain : Nat := 45
def m_Md_classes : Nat := 46
def m_Md_round : Nat := 47
def m_Md_andRules : Nat := 48
def m_Md_is : Nat := 49
def m_Md_join2 : Nat := 50
def m_Md_sameRules : Nat := 51
def m_Md_beginPass : Nat := 52
def m_Md_nextFree : Nat := 53
def m_Md_branch : Nat := 54
def m_Md_copyRow : Nat := 55
def m_Md_agree : Nat := 56
def m_Md_prove : Nat := 57
def m_Md_told : Nat := 58
def m_Md_value : Nat := 59
def m_Md_assign : Nat := 60
def m_Md_model : Nat := 61
def m_Md_alike : Nat := 62
def m_St_length : Nat := 63
def m_St_coder : Nat := 64
def m_St_charAt : Nat := 65
def m_St_isLatin1 : Nat := 66
def m_Sl_charAt : Nat := 67
def m_St_checkIndex : Nat := 68
def m_Pr_checkIndex : Nat := 69
def m_Su_charAt : Nat := 70
def m_Su_checkIndex : Nat := 71
def m_Su_length : Nat := 72
def m_Su_getChar : Nat := 73
def m_Ma_min : Nat := 74
def m_Ma_max : Nat := 75
def m_Lo_numberOfTrailingZeros : Nat := 76
def m_In_numberOfTrailingZeros : Nat := 77
def m_Dp_init : Nat := 78
def m_Te_init : Nat := 79
def m_Ci_init : Nat := 80
def m_Re_init : Nat := 81
def m_Eq_init : Nat := 82
def m_Eq_growTo : Nat := 83
def m_Sa_init : Nat := 84
def m_Ta_init : Nat := 85
def m_Dp_feed : Nat := 86
def m_Dp_isUpTo : Nat := 87
def m_Te_drop : Nat := 88
def m_Te_append : Nat := 89
def m_Te_length : Nat := 90
def m_Dp_read : Nat := 91
def m_Re_readAll : Nat := 92
def m_Re_equality : Nat := 93
def m_Re_implication : Nat := 94
def m_Re_disjunction : Nat := 95
def m_Re_difference : Nat := 96
def m_Re_conjunction : Nat := 97
def m_Re_operand : Nat := 98
def m_Re_look : Nat := 99
def m_Re_behindBlanks : Nat := 100
def m_Te_byteAt : Nat := 101
def m_Re_isBlank : Nat := 102
def m_Re_isLetter : Nat := 103
def m_Re_scanWord : Nat := 104
def m_Re_behindWord : Nat := 105
def m_Re_isLetterOrDigit : Nat := 106
def m_Te_hasAt : Nat := 107
def m_Re_found : Nat := 108
def m_Re_scanSign : Nat := 109
def m_Re_refuse : Nat := 110
def m_Re_take : Nat := 111
def m_Re_opens : Nat := 112
def m_Re_close : Nat := 113
def m_Re_name : Nat := 114
def m_Ci_inputOf : Nat := 115
def m_Ci_isNamed : Nat := 116
def m_Ci_inputs : Nat := 117
def m_Ci_isFull : Nat := 118
def m_Ci_addInput : Nat := 119
def m_Ci_add : Nat := 120
def m_Re_sees : Nat := 121
def m_Re_combine : Nat := 122
def m_Re_gateFor : Nat := 123
def m_Ci_gateOf : Nat := 124
def m_Ci_size : Nat := 125
def m_Re_fault : Nat := 126
def m_Dp_place : Nat := 127
def m_Re_faultPlace : Nat := 128
def m_Dp_count : Nat := 129
def m_Ci_gates : Nat := 130
def m_Eq_isContradiction : Nat := 131
def m_Eq_classes : Nat := 132
def m_Dp_variable : Nat := 133
def m_Ci_hasVariable : Nat := 134
def m_Ci_kindOf : Nat := 135
def m_Ci_firstOf : Nat := 136
def m_Ci_secondOf : Nat := 137
def m_Dp_gate : Nat := 138
def m_Ci_hasLiterals : Nat := 139
def m_Ci_hasLiteral : Nat := 140
def m_Dp_sign : Nat := 141
def m_Ci_nameSign : Nat := 142
def m_Dp_clear : Nat := 143
def m_Ci_empty : Nat := 144
def m_Eq_separate : Nat := 145
def m_Dp_forget : Nat := 146
def m_Dp_join : Nat := 147
def m_Eq_standing : Nat := 148
def m_Eq_unite : Nat := 149
def m_Dp_stands : Nat := 150
def m_Dp_saturate : Nat := 151
def m_Sa_begin : Nat := 152
def m_Eq_copyFrom : Nat := 153
def m_Sa_deepen : Nat := 154
def m_Sa_settle : Nat := 155
def m_Sa_goesOn : Nat := 156
def m_Sa_round : Nat := 157
def m_Sa_obey : Nat := 158
def m_Sa_obeyAnd : Nat := 159
def m_Sa_obeySame : Nat := 160
def m_Sa_pass : Nat := 161
def m_Eq_size : Nat := 162
def m_Sa_split : Nat := 163
def m_Sa_follow : Nat := 164
def m_Sa_merge : Nat := 165
def m_Eq_contradict : Nat := 166
def m_Eq_uniteCommon : Nat := 167
def m_Eq_isLeast : Nat := 168
def m_Eq_uniteWithLesser : Nat := 169
def m_Sa_isSpent : Nat := 170
def m_Dp_prove : Nat := 171
def m_Dp_told : Nat := 172
def m_Sa_tallyOf : Nat := 173
def m_Dp_value : Nat := 174
def m_Ta_bit : Nat := 175
def m_Ta_fill : Nat := 176
def m_Ta_wordOf : Nat := 177
def m_Ta_inputWord : Nat := 178
def m_Ta_word : Nat := 179
def m_Dp_model : Nat := 180
def m_Ta_leastDifference : Nat := 181
def m_Dp_alike : Nat := 182
abbrev xp_M : Type := MethodName × ByteArray × Nat × Option FieldType × Nat × Nat × Bool
def xp_d : xp_M := (x, code, 4, some .boolean, 15, 1, true)
def xp_mt_0 : List xp_M := [(⟨"DilemmaProverLaw", "law", "([I)Z"⟩, code, 4, (some .boolean), 15, 1, true),
  (⟨"DilemmaProverModel", "<init>", "()V"⟩, prog_9_method_1_code, 1, none, 7, 0, false),
  (⟨"DilemmaProverModel", "feed", "(JI)I"⟩, prog_9_method_23_code, 5, (some .int), 7, 2, false),
  (⟨"DilemmaProverModel", "read", "()I"⟩, prog_9_method_24_code, 3, (some .int), 7, 0, false),
  (⟨"DilemmaProverModel", "readFormula", "()I"⟩, prog_9_method_22_code, 3, (some .int), 7, 0, false),
  (⟨"DilemmaProverModel", "beginNot", "(I)I"⟩, prog_9_method_18_code, 4, (some .int), 7, 1, false),
  (⟨"DilemmaProverModel", "look", "()I"⟩, prog_9_method_12_code, 2, (some .int), 7, 0, false),
  (⟨"DilemmaProverModel", "scan", "()V"⟩, prog_9_method_10_code, 2, none, 7, 0, false),
  (⟨"DilemmaProverModel", "signAt", "(I)I"⟩, prog_9_method_6_code, 2, (some .int), 7, 1, false),
  (⟨"DilemmaProverModel", "isSmall", "(I)Z"⟩, prog_9_method_4_code, 1, (some .boolean), 7, 1, true),
  (⟨"DilemmaProverModel", "isDigit", "(I)Z"⟩, prog_9_method_5_code, 1, (some .boolean), 7, 1, true),
  (⟨"DilemmaProverModel", "isTrueWord", "()Z"⟩, prog_9_method_8_code, 1, (some .boolean), 7, 0, false),
  (⟨"DilemmaProverModel", "isFalseWord", "()Z"⟩, prog_9_method_9_code, 1, (some .boolean), 7, 0, false),
  (⟨"DilemmaProverModel", "isSign", "(I)Z"⟩, prog_9_method_7_code, 1, (some .boolean), 7, 1, true),
  (⟨"DilemmaProverModel", "fail", "(II)Z"⟩, prog_9_method_11_code, 3, (some .boolean), 7, 2, false),
  (⟨"DilemmaProverModel", "nest", "()Z"⟩, prog_9_method_15_code, 1, (some .boolean), 7, 0, false),
  (⟨"DilemmaProverModel", "pass", "()V"⟩, prog_9_method_13_code, 1, none, 7, 0, false),
  (⟨"DilemmaProverModel", "inputAt", "()I"⟩, prog_9_method_16_code, 4, (some .int), 7, 0, false),
  (⟨"DilemmaProverModel", "newVariable", "(III)I"⟩, prog_9_method_2_code, 5, (some .int), 7, 3, false),
  (⟨"DilemmaProverModel", "goOn", "(I)I"⟩, prog_9_method_19_code, 7, (some .int), 7, 1, false),
  (⟨"DilemmaProverModel", "want", "(I)Z"⟩, prog_9_method_14_code, 2, (some .boolean), 7, 1, false),
  (⟨"DilemmaProverModel", "gateAt", "(IIIII)I"⟩, prog_9_method_17_code, 8, (some .int), 7, 5, false),
  (⟨"DilemmaProverModel", "gateOf", "(III)I"⟩, prog_9_method_3_code, 7, (some .int), 7, 3, false),
  (⟨"DilemmaProverModel", "series", "(III)I"⟩, prog_9_method_21_code, 4, (some .int), 7, 3, false),
  (⟨"DilemmaProverModel", "hold", "(III)I"⟩, prog_9_method_20_code, 4, (some .int), 7, 3, false),
  (⟨"DilemmaProverModel", "place", "()I"⟩, prog_9_method_25_code, 1, (some .int), 7, 0, false),
  (⟨"DilemmaProverModel", "count", "(I)I"⟩, prog_9_method_28_code, 2, (some .int), 7, 1, false),
  (⟨"DilemmaProverModel", "told3", "()I"⟩, prog_9_method_29_code, 3, (some .int), 7, 0, false),
  (⟨"DilemmaProverModel", "variable", "(II)I"⟩, prog_9_method_30_code, 3, (some .int), 7, 2, false),
  (⟨"DilemmaProverModel", "isVariable", "(I)Z"⟩, prog_9_method_27_code, 2, (some .boolean), 7, 1, false),
  (⟨"DilemmaProverModel", "gate", "(III)I"⟩, prog_9_method_31_code, 5, (some .int), 7, 3, false),
  (⟨"DilemmaProverModel", "isLiteral", "(I)Z"⟩, prog_9_method_26_code, 2, (some .boolean), 7, 1, false),
  (⟨"DilemmaProverModel", "sign", "(II)I"⟩, prog_9_method_32_code, 3, (some .int), 7, 2, false),
  (⟨"DilemmaProverModel", "clear", "()I"⟩, prog_9_method_34_code, 2, (some .int), 7, 0, false),
  (⟨"DilemmaProverModel", "alone", "()V"⟩, prog_9_method_33_code, 2, none, 7, 0, false),
  (⟨"DilemmaProverModel", "forget", "()I"⟩, prog_9_method_35_code, 2, (some .int), 7, 0, false),
  (⟨"DilemmaProverModel", "stands", "(I)I"⟩, prog_9_method_36_code, 2, (some .int), 7, 1, false),
  (⟨"DilemmaProverModel", "join", "(II)I"⟩, prog_9_method_52_code, 4, (some .int), 7, 2, false),
  (⟨"DilemmaProverModel", "take", "()V"⟩, prog_9_method_53_code, 2, none, 7, 0, false),
  (⟨"DilemmaProverModel", "joined", "(III)Z"⟩, prog_9_method_37_code, 13, (some .boolean), 7, 3, false)]
def xp_mt_1 : List xp_M := [(⟨"DilemmaProverModel", "back", "()V"⟩, prog_9_method_54_code, 2, none, 7, 0, false),
  (⟨"DilemmaProverModel", "saturate", "(II)I"⟩, prog_9_method_56_code, 3, (some .int), 7, 2, false),
  (⟨"DilemmaProverModel", "isOut", "(II)Z"⟩, prog_9_method_55_code, 2, (some .boolean), 7, 2, true),
  (⟨"DilemmaProverModel", "beginTold", "(I)V"⟩, prog_9_method_51_code, 2, none, 7, 1, false),
  (⟨"DilemmaProverModel", "saturated", "(I)Z"⟩, prog_9_method_50_code, 4, (some .boolean), 7, 1, false),
  (⟨"DilemmaProverModel", "plain", "(I)Z"⟩, prog_9_method_44_code, 4, (some .boolean), 7, 1, false),
  (⟨"DilemmaProverModel", "classes", "(I)I"⟩, prog_9_method_39_code, 4, (some .int), 7, 1, false),
  (⟨"DilemmaProverModel", "round", "(I)V"⟩, prog_9_method_43_code, 3, none, 7, 1, false),
  (⟨"DilemmaProverModel", "andRules", "(IIII)V"⟩, prog_9_method_41_code, 5, none, 7, 4, false),
  (⟨"DilemmaProverModel", "is", "(II)Z"⟩, prog_9_method_40_code, 3, (some .boolean), 7, 2, false),
  (⟨"DilemmaProverModel", "join2", "(III)V"⟩, prog_9_method_38_code, 5, none, 7, 3, false),
  (⟨"DilemmaProverModel", "sameRules", "(IIII)V"⟩, prog_9_method_42_code, 6, none, 7, 4, false),
  (⟨"DilemmaProverModel", "beginPass", "(I)V"⟩, prog_9_method_49_code, 2, none, 7, 1, false),
  (⟨"DilemmaProverModel", "nextFree", "(I)V"⟩, prog_9_method_48_code, 3, none, 7, 1, false),
  (⟨"DilemmaProverModel", "branch", "(II)V"⟩, prog_9_method_46_code, 3, none, 7, 2, false),
  (⟨"DilemmaProverModel", "copyRow", "(II)V"⟩, prog_9_method_45_code, 4, none, 7, 2, false),
  (⟨"DilemmaProverModel", "agree", "(I)V"⟩, prog_9_method_47_code, 7, none, 7, 1, false),
  (⟨"DilemmaProverModel", "prove", "(III)I"⟩, prog_9_method_57_code, 5, (some .int), 7, 3, false),
  (⟨"DilemmaProverModel", "told", "(I)I"⟩, prog_9_method_58_code, 2, (some .int), 7, 1, false),
  (⟨"DilemmaProverModel", "value", "(II)I"⟩, prog_9_method_60_code, 3, (some .int), 7, 2, false),
  (⟨"DilemmaProverModel", "assign", "(I)V"⟩, prog_9_method_59_code, 4, none, 7, 1, false),
  (⟨"DilemmaProverModel", "model", "(I)I"⟩, prog_9_method_61_code, 3, (some .int), 7, 1, false),
  (⟨"DilemmaProverModel", "alike", "(II)I"⟩, prog_9_method_62_code, 4, (some .int), 7, 2, false),
  (⟨"java/lang/String", "length", "()I"⟩, prog_13_method_54_code, 1, (some .int), 8, 0, false),
  (⟨"java/lang/String", "coder", "()B"⟩, prog_13_method_152_code, 1, (some .byte), 8, 0, false),
  (⟨"java/lang/String", "charAt", "(I)C"⟩, prog_13_method_56_code, 2, (some .char), 8, 1, false),
  (⟨"java/lang/String", "isLatin1", "()Z"⟩, prog_13_method_154_code, 1, (some .boolean), 8, 0, false),
  (⟨"java/lang/StringLatin1", "charAt", "([BI)C"⟩, prog_14_method_2_code, 2, (some .char), 9, 2, true),
  (⟨"java/lang/String", "checkIndex", "(II)V"⟩, prog_13_method_155_code, 2, none, 8, 2, true),
  (⟨"jdk/internal/util/Preconditions", "checkIndex", "(IILjava/util/function/BiFunction;)I"⟩, prog_17_method_11_code, 3, (some .int), 10, 3, true),
  (⟨"java/lang/StringUTF16", "charAt", "([BI)C"⟩, prog_15_method_83_code, 2, (some .char), 11, 2, true),
  (⟨"java/lang/StringUTF16", "checkIndex", "(I[B)V"⟩, prog_15_method_91_code, 2, none, 11, 2, true),
  (⟨"java/lang/StringUTF16", "length", "([B)I"⟩, prog_15_method_6_code, 1, (some .int), 11, 1, true),
  (⟨"java/lang/StringUTF16", "getChar", "([BI)C"⟩, prog_15_method_5_code, 2, (some .char), 11, 2, true),
  (⟨"java/lang/Math", "min", "(II)I"⟩, prog_12_method_69_code, 2, (some .int), 12, 2, true),
  (⟨"java/lang/Math", "max", "(II)I"⟩, prog_12_method_65_code, 2, (some .int), 12, 2, true),
  (⟨"java/lang/Long", "numberOfTrailingZeros", "(J)I"⟩, prog_11_method_49_code, 3, (some .int), 13, 1, true),
  (⟨"java/lang/Integer", "numberOfTrailingZeros", "(I)I"⟩, prog_10_method_48_code, 2, (some .int), 14, 1, true),
  (⟨"DilemmaProver", "<init>", "()V"⟩, prog_1_method_1_code, 1, none, 6, 0, false),
  (⟨"DilemmaProver$Text", "<init>", "()V"⟩, prog_7_method_1_code, 1, none, 5, 0, false)]
def xp_mt_2 : List xp_M := [(⟨"DilemmaProver$Circuit", "<init>", "()V"⟩, prog_2_method_1_code, 1, none, 0, 0, false),
  (⟨"DilemmaProver$Reader", "<init>", "(LDilemmaProver$Text;LDilemmaProver$Circuit;)V"⟩, prog_4_method_1_code, 3, none, 2, 2, false),
  (⟨"DilemmaProver$Equivalence", "<init>", "()V"⟩, prog_3_method_1_code, 1, none, 1, 0, false),
  (⟨"DilemmaProver$Equivalence", "growTo", "(I)V"⟩, prog_3_method_7_code, 3, none, 1, 1, false),
  (⟨"DilemmaProver$Saturator", "<init>", "(LDilemmaProver$Circuit;)V"⟩, prog_5_method_1_code, 3, none, 3, 1, false),
  (⟨"DilemmaProver$Table", "<init>", "(LDilemmaProver$Circuit;)V"⟩, prog_6_method_1_code, 2, none, 4, 1, false),
  (⟨"DilemmaProver", "feed", "(JI)I"⟩, prog_1_method_2_code, 4, (some .int), 6, 2, false),
  (⟨"DilemmaProver", "isUpTo", "(II)Z"⟩, prog_1_method_19_code, 2, (some .boolean), 6, 2, true),
  (⟨"DilemmaProver$Text", "drop", "()V"⟩, prog_7_method_3_code, 1, none, 5, 0, false),
  (⟨"DilemmaProver$Text", "append", "(JI)Z"⟩, prog_7_method_4_code, 5, (some .boolean), 5, 2, false),
  (⟨"DilemmaProver$Text", "length", "()I"⟩, prog_7_method_2_code, 1, (some .int), 5, 0, false),
  (⟨"DilemmaProver", "read", "()I"⟩, prog_1_method_3_code, 2, (some .int), 6, 0, false),
  (⟨"DilemmaProver$Reader", "readAll", "()I"⟩, prog_4_method_4_code, 2, (some .int), 2, 0, false),
  (⟨"DilemmaProver$Reader", "equality", "()I"⟩, prog_4_method_5_code, 4, (some .int), 2, 0, false),
  (⟨"DilemmaProver$Reader", "implication", "()I"⟩, prog_4_method_6_code, 4, (some .int), 2, 0, false),
  (⟨"DilemmaProver$Reader", "disjunction", "()I"⟩, prog_4_method_7_code, 4, (some .int), 2, 0, false),
  (⟨"DilemmaProver$Reader", "difference", "()I"⟩, prog_4_method_8_code, 4, (some .int), 2, 0, false),
  (⟨"DilemmaProver$Reader", "conjunction", "()I"⟩, prog_4_method_9_code, 4, (some .int), 2, 0, false),
  (⟨"DilemmaProver$Reader", "operand", "()I"⟩, prog_4_method_10_code, 2, (some .int), 2, 0, false),
  (⟨"DilemmaProver$Reader", "look", "()I"⟩, prog_4_method_18_code, 1, (some .int), 2, 0, false),
  (⟨"DilemmaProver$Reader", "behindBlanks", "(I)I"⟩, prog_4_method_23_code, 4, (some .int), 2, 1, false),
  (⟨"DilemmaProver$Text", "byteAt", "(I)I"⟩, prog_7_method_5_code, 2, (some .int), 5, 1, false),
  (⟨"DilemmaProver$Reader", "isBlank", "(I)Z"⟩, prog_4_method_25_code, 1, (some .boolean), 2, 1, true),
  (⟨"DilemmaProver$Reader", "isLetter", "(I)Z"⟩, prog_4_method_26_code, 1, (some .boolean), 2, 1, true),
  (⟨"DilemmaProver$Reader", "scanWord", "()V"⟩, prog_4_method_20_code, 3, none, 2, 0, false),
  (⟨"DilemmaProver$Reader", "behindWord", "(I)I"⟩, prog_4_method_24_code, 4, (some .int), 2, 1, false),
  (⟨"DilemmaProver$Reader", "isLetterOrDigit", "(I)Z"⟩, prog_4_method_27_code, 1, (some .boolean), 2, 1, true),
  (⟨"DilemmaProver$Text", "hasAt", "(ILjava/lang/String;)Z"⟩, prog_7_method_6_code, 4, (some .boolean), 5, 2, false),
  (⟨"DilemmaProver$Reader", "found", "(II)V"⟩, prog_4_method_22_code, 3, none, 2, 2, false),
  (⟨"DilemmaProver$Reader", "scanSign", "()V"⟩, prog_4_method_21_code, 1, none, 2, 0, false),
  (⟨"DilemmaProver$Reader", "refuse", "(II)I"⟩, prog_4_method_16_code, 3, (some .int), 2, 2, false),
  (⟨"DilemmaProver$Reader", "take", "()I"⟩, prog_4_method_19_code, 1, (some .int), 2, 0, false),
  (⟨"DilemmaProver$Reader", "opens", "(I)Z"⟩, prog_4_method_14_code, 2, (some .boolean), 2, 1, false),
  (⟨"DilemmaProver$Reader", "close", "()V"⟩, prog_4_method_15_code, 1, none, 2, 0, false),
  (⟨"DilemmaProver$Reader", "name", "()I"⟩, prog_4_method_11_code, 4, (some .int), 2, 0, false),
  (⟨"DilemmaProver$Circuit", "inputOf", "(LDilemmaProver$Text;II)I"⟩, prog_2_method_14_code, 5, (some .int), 0, 3, false),
  (⟨"DilemmaProver$Circuit", "isNamed", "(ILDilemmaProver$Text;II)Z"⟩, prog_2_method_15_code, 6, (some .boolean), 0, 4, false),
  (⟨"DilemmaProver$Circuit", "inputs", "()I"⟩, prog_2_method_3_code, 1, (some .int), 0, 0, false),
  (⟨"DilemmaProver$Circuit", "isFull", "()Z"⟩, prog_2_method_5_code, 1, (some .boolean), 0, 0, false),
  (⟨"DilemmaProver$Circuit", "addInput", "(LDilemmaProver$Text;II)I"⟩, prog_2_method_16_code, 6, (some .int), 0, 3, false)]
def xp_mt_3 : List xp_M := [(⟨"DilemmaProver$Circuit", "add", "(III)I"⟩, prog_2_method_17_code, 5, (some .int), 0, 3, false),
  (⟨"DilemmaProver$Reader", "sees", "(I)Z"⟩, prog_4_method_17_code, 2, (some .boolean), 2, 1, false),
  (⟨"DilemmaProver$Reader", "combine", "(IIII)I"⟩, prog_4_method_12_code, 7, (some .int), 2, 4, false),
  (⟨"DilemmaProver$Reader", "gateFor", "(III)I"⟩, prog_4_method_13_code, 4, (some .int), 2, 3, false),
  (⟨"DilemmaProver$Circuit", "gateOf", "(III)I"⟩, prog_2_method_13_code, 7, (some .int), 0, 3, false),
  (⟨"DilemmaProver$Circuit", "size", "()I"⟩, prog_2_method_2_code, 1, (some .int), 0, 0, false),
  (⟨"DilemmaProver$Reader", "fault", "()I"⟩, prog_4_method_2_code, 1, (some .int), 2, 0, false),
  (⟨"DilemmaProver", "place", "()I"⟩, prog_1_method_4_code, 1, (some .int), 6, 0, false),
  (⟨"DilemmaProver$Reader", "faultPlace", "()I"⟩, prog_4_method_3_code, 1, (some .int), 2, 0, false),
  (⟨"DilemmaProver", "count", "(I)I"⟩, prog_1_method_5_code, 2, (some .int), 6, 1, false),
  (⟨"DilemmaProver$Circuit", "gates", "()I"⟩, prog_2_method_4_code, 1, (some .int), 0, 0, false),
  (⟨"DilemmaProver$Equivalence", "isContradiction", "()Z"⟩, prog_3_method_4_code, 1, (some .boolean), 1, 0, false),
  (⟨"DilemmaProver$Equivalence", "classes", "()I"⟩, prog_3_method_3_code, 1, (some .int), 1, 0, false),
  (⟨"DilemmaProver", "variable", "(II)I"⟩, prog_1_method_6_code, 3, (some .int), 6, 2, false),
  (⟨"DilemmaProver$Circuit", "hasVariable", "(I)Z"⟩, prog_2_method_6_code, 2, (some .boolean), 0, 1, false),
  (⟨"DilemmaProver$Circuit", "kindOf", "(I)I"⟩, prog_2_method_9_code, 2, (some .int), 0, 1, false),
  (⟨"DilemmaProver$Circuit", "firstOf", "(I)I"⟩, prog_2_method_10_code, 2, (some .int), 0, 1, false),
  (⟨"DilemmaProver$Circuit", "secondOf", "(I)I"⟩, prog_2_method_11_code, 2, (some .int), 0, 1, false),
  (⟨"DilemmaProver", "gate", "(III)I"⟩, prog_1_method_7_code, 5, (some .int), 6, 3, false),
  (⟨"DilemmaProver$Circuit", "hasLiterals", "(II)Z"⟩, prog_2_method_8_code, 3, (some .boolean), 0, 2, false),
  (⟨"DilemmaProver$Circuit", "hasLiteral", "(I)Z"⟩, prog_2_method_7_code, 2, (some .boolean), 0, 1, false),
  (⟨"DilemmaProver", "sign", "(II)I"⟩, prog_1_method_8_code, 3, (some .int), 6, 2, false),
  (⟨"DilemmaProver$Circuit", "nameSign", "(II)I"⟩, prog_2_method_18_code, 4, (some .int), 0, 2, false),
  (⟨"DilemmaProver", "clear", "()I"⟩, prog_1_method_9_code, 2, (some .int), 6, 0, false),
  (⟨"DilemmaProver$Circuit", "empty", "()V"⟩, prog_2_method_12_code, 1, none, 0, 0, false),
  (⟨"DilemmaProver$Equivalence", "separate", "(I)V"⟩, prog_3_method_6_code, 2, none, 1, 1, false),
  (⟨"DilemmaProver", "forget", "()I"⟩, prog_1_method_10_code, 2, (some .int), 6, 0, false),
  (⟨"DilemmaProver", "join", "(II)I"⟩, prog_1_method_11_code, 3, (some .int), 6, 2, false),
  (⟨"DilemmaProver$Equivalence", "standing", "(I)I"⟩, prog_3_method_9_code, 2, (some .int), 1, 1, false),
  (⟨"DilemmaProver$Equivalence", "unite", "(II)V"⟩, prog_3_method_10_code, 6, none, 1, 2, false),
  (⟨"DilemmaProver", "stands", "(I)I"⟩, prog_1_method_12_code, 2, (some .int), 6, 1, false),
  (⟨"DilemmaProver", "saturate", "(II)I"⟩, prog_1_method_13_code, 3, (some .int), 6, 2, false),
  (⟨"DilemmaProver$Saturator", "begin", "(I)V"⟩, prog_5_method_2_code, 3, none, 3, 1, false),
  (⟨"DilemmaProver$Equivalence", "copyFrom", "(LDilemmaProver$Equivalence;)V"⟩, prog_3_method_8_code, 2, none, 1, 1, false),
  (⟨"DilemmaProver$Saturator", "deepen", "(LDilemmaProver$Equivalence;I)V"⟩, prog_5_method_5_code, 6, none, 3, 2, false),
  (⟨"DilemmaProver$Saturator", "settle", "(LDilemmaProver$Equivalence;)V"⟩, prog_5_method_11_code, 5, none, 3, 1, false),
  (⟨"DilemmaProver$Saturator", "goesOn", "(LDilemmaProver$Equivalence;)Z"⟩, prog_5_method_6_code, 2, (some .boolean), 3, 1, false),
  (⟨"DilemmaProver$Saturator", "round", "(LDilemmaProver$Equivalence;)V"⟩, prog_5_method_12_code, 4, none, 3, 1, false),
  (⟨"DilemmaProver$Saturator", "obey", "(LDilemmaProver$Equivalence;II)V"⟩, prog_5_method_13_code, 7, none, 3, 3, false),
  (⟨"DilemmaProver$Saturator", "obeyAnd", "(LDilemmaProver$Equivalence;III)V"⟩, prog_5_method_14_code, 4, none, 3, 4, true)]
def xp_mt_4 : List xp_M := [(⟨"DilemmaProver$Saturator", "obeySame", "(LDilemmaProver$Equivalence;III)V"⟩, prog_5_method_15_code, 4, none, 3, 4, true),
  (⟨"DilemmaProver$Saturator", "pass", "(LDilemmaProver$Equivalence;I)V"⟩, prog_5_method_7_code, 4, none, 3, 2, false),
  (⟨"DilemmaProver$Equivalence", "size", "()I"⟩, prog_3_method_2_code, 1, (some .int), 1, 0, false),
  (⟨"DilemmaProver$Saturator", "split", "(LDilemmaProver$Equivalence;II)V"⟩, prog_5_method_8_code, 6, none, 3, 3, false),
  (⟨"DilemmaProver$Saturator", "follow", "(LDilemmaProver$Equivalence;LDilemmaProver$Equivalence;II)V"⟩, prog_5_method_9_code, 5, none, 3, 4, false),
  (⟨"DilemmaProver$Saturator", "merge", "(LDilemmaProver$Equivalence;LDilemmaProver$Equivalence;LDilemmaProver$Equivalence;)V"⟩, prog_5_method_10_code, 4, none, 3, 3, false),
  (⟨"DilemmaProver$Equivalence", "contradict", "()V"⟩, prog_3_method_5_code, 1, none, 1, 0, false),
  (⟨"DilemmaProver$Equivalence", "uniteCommon", "(LDilemmaProver$Equivalence;LDilemmaProver$Equivalence;)V"⟩, prog_3_method_11_code, 4, none, 1, 2, false),
  (⟨"DilemmaProver$Equivalence", "isLeast", "(I)Z"⟩, prog_3_method_13_code, 2, (some .boolean), 1, 1, false),
  (⟨"DilemmaProver$Equivalence", "uniteWithLesser", "(ILDilemmaProver$Equivalence;LDilemmaProver$Equivalence;)V"⟩, prog_3_method_12_code, 6, none, 1, 3, false),
  (⟨"DilemmaProver$Saturator", "isSpent", "()Z"⟩, prog_5_method_3_code, 1, (some .boolean), 3, 0, false),
  (⟨"DilemmaProver", "prove", "(III)I"⟩, prog_1_method_14_code, 5, (some .int), 6, 3, false),
  (⟨"DilemmaProver", "told", "(I)I"⟩, prog_1_method_15_code, 2, (some .int), 6, 1, false),
  (⟨"DilemmaProver$Saturator", "tallyOf", "(I)I"⟩, prog_5_method_4_code, 2, (some .int), 3, 1, false),
  (⟨"DilemmaProver", "value", "(II)I"⟩, prog_1_method_16_code, 3, (some .int), 6, 2, false),
  (⟨"DilemmaProver$Table", "bit", "(II)I"⟩, prog_6_method_2_code, 3, (some .int), 4, 2, false),
  (⟨"DilemmaProver$Table", "fill", "(I)V"⟩, prog_6_method_5_code, 3, none, 4, 1, false),
  (⟨"DilemmaProver$Table", "wordOf", "(II)J"⟩, prog_6_method_6_code, 3, (some .long), 4, 2, false),
  (⟨"DilemmaProver$Table", "inputWord", "(II)J"⟩, prog_6_method_7_code, 2, (some .long), 4, 2, true),
  (⟨"DilemmaProver$Table", "word", "(I)J"⟩, prog_6_method_4_code, 2, (some .long), 4, 1, false),
  (⟨"DilemmaProver", "model", "(I)I"⟩, prog_1_method_17_code, 2, (some .int), 6, 1, false),
  (⟨"DilemmaProver$Table", "leastDifference", "(II)I"⟩, prog_6_method_3_code, 7, (some .int), 4, 2, false),
  (⟨"DilemmaProver", "alike", "(II)I"⟩, prog_1_method_18_code, 3, (some .int), 6, 2, false)]
def xp_mt : List xp_M := xp_mt_0 ++ (xp_mt_1 ++ (xp_mt_2 ++ (xp_mt_3 ++ (xp_mt_4))))
/-- (class, entry, method) -/
def xp_cl : List (Nat × Nat × Nat) := [(0, 39, 140), (0, 43, 74), (0, 49, 75), (0, 52, 118), (0, 56, 120), (0, 60, 116), (0, 64, 101), (0, 70, 134), (1, 26, 83), (1, 36, 148), (1, 39, 74), (1, 45, 75), (1, 48, 168), (1, 52, 169), (1, 56, 149), (2, 38, 93), (2, 42, 121), (2, 46, 110), (2, 50, 94), (2, 53, 111), (2, 56, 122), (2, 60, 95), (2, 63, 112), (2, 66, 96), (2, 69, 97), (2, 72, 98), (2, 75, 99), (2, 78, 113), (2, 81, 114), (2, 84, 115), (2, 90, 117), (2, 93, 118), (2, 97, 119), (2, 100, 123), (2, 104, 124), (2, 107, 100), (2, 111, 101), (2, 116, 103), (2, 119, 104), (2, 122, 109), (2, 125, 105), (2, 130, 107), (2, 134, 108), (2, 144, 102), (2, 147, 106), (3, 11, 82), (3, 41, 155), (3, 45, 156), (3, 49, 132), (3, 53, 161), (3, 57, 131), (3, 61, 162), (3, 64, 148), (3, 68, 163), (3, 72, 164), (3, 76, 165), (3, 80, 153), (3, 83, 149), (3, 87, 154), (3, 90, 166), (3, 93, 167), (3, 97, 157), (3, 100, 125), (3, 103, 135), (3, 106, 158), (3, 109, 136), (3, 112, 137), (3, 115, 159), (3, 119, 160), (4, 19, 176), (4, 23, 179), (4, 27, 117), (4, 33, 75), (4, 39, 76), (4, 47, 125), (4, 50, 177), (4, 54, 135), (4, 58, 136), (4, 61, 178), (4, 64, 137), (5, 19, 63), (5, 24, 101), (5, 28, 65), (6, 25, 81), (6, 34, 82), (6, 44, 84), (6, 53, 85), (6, 58, 87), (6, 62, 88), (6, 65, 89), (6, 69, 90), (6, 73, 92), (6, 76, 125), (6, 79, 83), (6, 83, 126), (6, 86, 128), (6, 89, 117), (6, 92, 130), (6, 95, 131), (6, 99, 132), (6, 102, 134), (6, 106, 135), (6, 110, 136), (6, 113, 137), (6, 116, 139), (6, 119, 124), (6, 123, 142), (6, 127, 144), (6, 130, 145), (6, 133, 148), (6, 136, 149), (6, 140, 140), (6, 143, 152), (6, 146, 153), (6, 150, 154), (6, 154, 170), (6, 157, 173), (6, 160, 175), (6, 163, 181), (7, 84, 18), (7, 104, 8), (7, 111, 9), (7, 115, 10), (7, 118, 11), (7, 122, 12), (7, 125, 13), (7, 134, 7), (7, 137, 14), (7, 141, 6), (7, 145, 16), (7, 154, 22), (7, 157, 15), (7, 160, 17), (7, 166, 20), (7, 169, 21), (7, 173, 23), (7, 176, 24), (7, 179, 5), (7, 182, 19), (7, 185, 4), (7, 188, 27), (7, 194, 29), (7, 197, 31), (7, 200, 34), (7, 203, 39), (7, 207, 49), (7, 210, 50), (7, 217, 48), (7, 221, 51), (7, 230, 46), (7, 233, 47), (7, 237, 55), (7, 244, 45), (7, 247, 52), (7, 250, 53), (7, 253, 54), (7, 259, 56), (7, 262, 38), (7, 265, 40), (7, 268, 42), (7, 271, 43), (7, 274, 44), (7, 277, 60), (8, 335, 64), (8, 492, 66), (8, 495, 67), (8, 498, 70), (8, 1059, 69), (9, 9, 68), (11, 48, 72), (11, 67, 71), (11, 71, 73), (11, 414, 68), (13, 311, 77), (15, 9, 78), (15, 12, 1), (15, 15, 86), (15, 19, 2), (15, 20, 91), (15, 24, 3), (15, 25, 127), (15, 28, 25), (15, 29, 129), (15, 33, 26), (15, 34, 133), (15, 38, 28), (15, 39, 138), (15, 43, 30), (15, 44, 141), (15, 47, 32), (15, 48, 143), (15, 51, 33), (15, 52, 146), (15, 55, 35), (15, 56, 147), (15, 59, 37), (15, 60, 150), (15, 63, 36), (15, 64, 151), (15, 67, 41), (15, 68, 171), (15, 71, 57), (15, 72, 172), (15, 75, 58), (15, 76, 174), (15, 79, 59), (15, 80, 180), (15, 83, 61), (15, 84, 182), (15, 87, 62)]
def xp_nc : List (Nat × Nat × Nat) := [(6, 9, 79), (6, 18, 80)]
def xp_oi : List (Nat × Nat) := [(0, 3), (1, 3), (2, 3), (3, 3), (4, 3), (5, 3), (6, 1), (7, 1)]
def xp_ac : List (Nat × Nat) := [(1, 30)]
/-- (class, entry, class of the field, its place) -/
def xp_fl : List (Nat × Nat × Nat × Nat) := [(0, 9, 0, 0), (0, 15, 0, 1), (0, 18, 0, 2), (0, 21, 0, 3), (0, 26, 0, 4), (0, 29, 0, 5), (0, 32, 0, 6), (0, 36, 0, 7), (1, 9, 1, 0), (1, 15, 1, 1), (1, 19, 1, 2), (1, 22, 1, 3), (2, 11, 2, 2), (2, 15, 2, 3), (2, 18, 2, 4), (2, 21, 2, 5), (2, 24, 2, 6), (2, 27, 2, 7), (2, 30, 2, 0), (2, 34, 2, 1), (3, 12, 3, 1), (3, 18, 3, 2), (3, 22, 3, 3), (3, 25, 3, 4), (3, 29, 3, 5), (3, 33, 3, 6), (3, 37, 3, 0), (4, 9, 4, 1), (4, 15, 4, 0), (5, 9, 5, 0), (5, 15, 5, 1), (6, 10, 6, 0), (6, 19, 6, 1), (6, 28, 6, 2), (6, 35, 6, 3), (6, 39, 6, 4), (6, 47, 6, 5), (6, 54, 6, 6), (7, 7, 7, 0), (7, 13, 7, 1), (7, 16, 7, 2), (7, 19, 7, 5), (7, 22, 7, 6), (7, 25, 7, 7), (7, 28, 7, 8), (7, 31, 7, 10), (7, 34, 7, 19), (7, 38, 7, 21), (7, 41, 7, 22), (7, 44, 7, 23), (7, 47, 7, 24), (7, 50, 7, 26), (7, 53, 7, 27), (7, 57, 7, 28), (7, 60, 7, 29), (7, 63, 7, 30), (7, 66, 7, 31), (7, 69, 7, 32), (7, 72, 7, 33), (7, 75, 7, 34), (7, 78, 7, 40), (7, 81, 7, 3), (7, 88, 7, 11), (7, 91, 7, 15), (7, 94, 7, 14), (7, 97, 7, 12), (7, 100, 7, 16), (7, 108, 7, 13), (7, 128, 7, 17), (7, 131, 7, 18), (7, 148, 7, 20), (7, 151, 7, 4), (7, 163, 7, 25), (7, 191, 7, 9), (7, 214, 7, 37), (7, 224, 7, 35), (7, 227, 7, 36), (7, 241, 7, 38), (7, 256, 7, 39)]
-- statics: ('DilemmaProver$Table', '67', 'DilemmaProver$Table', 'WORD_PATTERNS', '[J'); ('java/lang/String', '1053', 'jdk/internal/util/Preconditions', 'SIOOBE_FORMATTER', 'Ljava/util/function/BiFunction;'); ('java/lang/String', '38', 'java/lang/String', 'COMPACT_STRINGS', 'Z'); ('java/lang/StringUTF16', '44', 'java/lang/StringUTF16', '$assertionsDisabled', 'Z'); ('java/lang/StringUTF16', '59', 'java/lang/StringUTF16', 'HI_BYTE_SHIFT', 'I'); ('java/lang/StringUTF16', '63', 'java/lang/StringUTF16', 'LO_BYTE_SHIFT', 'I')
def xp_nl : List (Nat × Nat × Nat) := [(3, 9, 1), (6, 7, 5), (6, 16, 0), (6, 23, 2), (6, 32, 1), (6, 42, 3), (6, 51, 4), (15, 7, 6), (15, 10, 7)]

