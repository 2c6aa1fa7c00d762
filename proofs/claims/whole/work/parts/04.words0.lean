theorem tw_0 : Cond.initialized "ExactNotationLaw" ∈ TBL := tbl_t (i := 0) (by decide +kernel) rfl
theorem tw_1 : Cond.initialized "ExactNotation" ∈ TBL := tbl_t (i := 1) (by decide +kernel) rfl
theorem tw_2 : Cond.initialized "ExactNotation$Decimal" ∈ TBL := tbl_t (i := 2) (by decide +kernel) rfl
theorem tw_3 : Cond.initialized "ExactNotation$Text" ∈ TBL := tbl_t (i := 3) (by decide +kernel) rfl
theorem tw_4 : Cond.initialized "ExactNotationModel" ∈ TBL := tbl_t (i := 4) (by decide +kernel) rfl
theorem tw_5 : Cond.initialized "ExactNotationModel$Row" ∈ TBL := tbl_t (i := 5) (by decide +kernel) rfl
theorem tw_6 : Cond.initialized "java/lang/Throwable" ∈ TBL := tbl_t (i := 6) (by decide +kernel) rfl
theorem tw_7 : Cond.initialized "java/lang/Exception" ∈ TBL := tbl_t (i := 7) (by decide +kernel) rfl
theorem tw_8 : Cond.initialized "java/lang/RuntimeException" ∈ TBL := tbl_t (i := 8) (by decide +kernel) rfl
theorem tw_9 : Cond.initialized "java/lang/IllegalArgumentException" ∈ TBL := tbl_t (i := 9) (by decide +kernel) rfl
theorem tw_10 : Cond.initialized "java/lang/Enum" ∈ TBL := tbl_t (i := 10) (by decide +kernel) rfl
theorem tw_11 : Cond.initialized "ExactNotation$Format" ∈ TBL := tbl_t (i := 11) (by decide +kernel) rfl
theorem tw_12 : Cond.initialized "java/lang/String" ∈ TBL := tbl_t (i := 12) (by decide +kernel) rfl
theorem tw_13 : Cond.initialized "java/lang/StringLatin1" ∈ TBL := tbl_t (i := 13) (by decide +kernel) rfl
theorem tw_14 : Cond.initialized "jdk/internal/util/Preconditions" ∈ TBL := tbl_t (i := 14) (by decide +kernel) rfl
theorem tw_15 : Cond.initialized "java/lang/StringUTF16" ∈ TBL := tbl_t (i := 15) (by decide +kernel) rfl
theorem tw_16 : Cond.initialized "java/lang/Math" ∈ TBL := tbl_t (i := 16) (by decide +kernel) rfl
theorem tw_17 : Cond.initialized "java/util/Arrays" ∈ TBL := tbl_t (i := 17) (by decide +kernel) rfl
theorem tw_18 : Cond.initialized "java/lang/IndexOutOfBoundsException" ∈ TBL := tbl_t (i := 18) (by decide +kernel) rfl
theorem tw_19 : Cond.classLink "ExactNotationLaw" 8 "ExactNotation" ∈ TBL := tbl_t (i := 19) (by decide +kernel) rfl
theorem tw_20 : Cond.instantiable "ExactNotation" 2 ∈ TBL := tbl_t (i := 20) (by decide +kernel) rfl
theorem tw_21 : Cond.methodLink "ExactNotationLaw" 25 y_EN_init ∈ TBL := tbl_t (i := 21) (by decide +kernel) rfl
theorem tw_22 : Cond.instanceMethod y_EN_init ∈ TBL := tbl_t (i := 22) (by decide +kernel) rfl
theorem tw_23 : Cond.code y_EN_init prog_1_method_1_code 1 none ∈ TBL := tbl_t (i := 23) (by decide +kernel) rfl
theorem tw_24 : Cond.methodLink "ExactNotation" 1 y_java_lang_Object_init ∈ TBL := tbl_t (i := 24) (by decide +kernel) rfl
theorem tw_25 : Cond.instanceMethod y_java_lang_Object_init ∈ TBL := tbl_t (i := 25) (by decide +kernel) rfl
theorem tw_26 : Cond.code y_java_lang_Object_init object_method_1_code 1 none ∈ TBL := tbl_t (i := 26) (by decide +kernel) rfl
theorem tw_27 : Cond.classLink "ExactNotation" 7 "ExactNotation$Decimal" ∈ TBL := tbl_t (i := 27) (by decide +kernel) rfl
theorem tw_28 : Cond.instantiable "ExactNotation$Decimal" 3 ∈ TBL := tbl_t (i := 28) (by decide +kernel) rfl
theorem tw_29 : Cond.methodLink "ExactNotation" 9 y_Dc_init ∈ TBL := tbl_t (i := 29) (by decide +kernel) rfl
theorem tw_30 : Cond.instanceMethod y_Dc_init ∈ TBL := tbl_t (i := 30) (by decide +kernel) rfl
theorem tw_31 : Cond.code y_Dc_init prog_2_method_1_code 1 none ∈ TBL := tbl_t (i := 31) (by decide +kernel) rfl
theorem tw_32 : Cond.methodLink "ExactNotation$Decimal" 3 y_java_lang_Object_init ∈ TBL := tbl_t (i := 32) (by decide +kernel) rfl
theorem tw_33 : Cond.fieldLink "ExactNotation$Decimal" 9 "ExactNotation$Decimal" "limbs" "[I" ∈ TBL := tbl_t (i := 33) (by decide +kernel) rfl
theorem tw_34 : Cond.fieldLink "ExactNotation$Decimal" 13 "ExactNotation$Decimal" "first" "I" ∈ TBL := tbl_t (i := 34) (by decide +kernel) rfl
theorem tw_35 : Cond.fieldLink "ExactNotation$Decimal" 17 "ExactNotation$Decimal" "last" "I" ∈ TBL := tbl_t (i := 35) (by decide +kernel) rfl
theorem tw_36 : Cond.laysFinal "ExactNotation$Decimal" "ExactNotation$Decimal" "limbs" "[I" ∈ TBL := tbl_t (i := 36) (by decide +kernel) rfl
theorem tw_38 : Cond.lays "ExactNotation$Decimal" "ExactNotation$Decimal" "first" "I" ∈ TBL := tbl_t (i := 38) (by decide +kernel) rfl
theorem tw_40 : Cond.lays "ExactNotation$Decimal" "ExactNotation$Decimal" "last" "I" ∈ TBL := tbl_t (i := 40) (by decide +kernel) rfl
theorem tw_43 : Cond.arrayClass .int ∈ TBL := tbl_t (i := 43) (by decide +kernel) rfl
theorem tw_44 : Cond.classLink "ExactNotation" 16 "ExactNotation$Text" ∈ TBL := tbl_t (i := 44) (by decide +kernel) rfl
theorem tw_45 : Cond.instantiable "ExactNotation$Text" 2 ∈ TBL := tbl_t (i := 45) (by decide +kernel) rfl
theorem tw_46 : Cond.methodLink "ExactNotation" 18 y_Tx_init ∈ TBL := tbl_t (i := 46) (by decide +kernel) rfl
theorem tw_47 : Cond.instanceMethod y_Tx_init ∈ TBL := tbl_t (i := 47) (by decide +kernel) rfl
theorem tw_48 : Cond.code y_Tx_init prog_4_method_1_code 1 none ∈ TBL := tbl_t (i := 48) (by decide +kernel) rfl
theorem tw_49 : Cond.methodLink "ExactNotation$Text" 3 y_java_lang_Object_init ∈ TBL := tbl_t (i := 49) (by decide +kernel) rfl
theorem tw_50 : Cond.fieldLink "ExactNotation$Text" 11 "ExactNotation$Text" "bytes" "[B" ∈ TBL := tbl_t (i := 50) (by decide +kernel) rfl
theorem tw_51 : Cond.fieldLink "ExactNotation$Text" 15 "ExactNotation$Text" "length" "I" ∈ TBL := tbl_t (i := 51) (by decide +kernel) rfl
theorem tw_52 : Cond.laysFinal "ExactNotation$Text" "ExactNotation$Text" "bytes" "[B" ∈ TBL := tbl_t (i := 52) (by decide +kernel) rfl
theorem tw_54 : Cond.lays "ExactNotation$Text" "ExactNotation$Text" "length" "I" ∈ TBL := tbl_t (i := 54) (by decide +kernel) rfl
theorem tw_57 : Cond.arrayClass .byte ∈ TBL := tbl_t (i := 57) (by decide +kernel) rfl
theorem tw_58 : Cond.fieldLink "ExactNotation" 10 "ExactNotation" "value" "LExactNotation$Decimal;" ∈ TBL := tbl_t (i := 58) (by decide +kernel) rfl
theorem tw_59 : Cond.fieldLink "ExactNotation" 19 "ExactNotation" "result" "LExactNotation$Text;" ∈ TBL := tbl_t (i := 59) (by decide +kernel) rfl
theorem tw_60 : Cond.laysFinal "ExactNotation" "ExactNotation" "value" "LExactNotation$Decimal;" ∈ TBL := tbl_t (i := 60) (by decide +kernel) rfl
theorem tw_62 : Cond.laysFinal "ExactNotation" "ExactNotation" "result" "LExactNotation$Text;" ∈ TBL := tbl_t (i := 62) (by decide +kernel) rfl
theorem tw_65 : Cond.methodLink "ExactNotationLaw" 31 y_Lw_show ∈ TBL := tbl_t (i := 65) (by decide +kernel) rfl
theorem tw_66 : Cond.static y_Lw_show ∈ TBL := tbl_t (i := 66) (by decide +kernel) rfl
theorem tw_67 : Cond.codeWith y_Lw_show method_3_code 9 (some .int) [(0, 16, 19, 13)] ∈ TBL := tbl_t (i := 67) (by decide +kernel) rfl
theorem tw_68 : Cond.classLink "ExactNotationLaw" 13 "java/lang/IllegalArgumentException" ∈ TBL := tbl_t (i := 68) (by decide +kernel) rfl
theorem tw_69 : Cond.methodLink "ExactNotationLaw" 7 y_EN_show ∈ TBL := tbl_t (i := 69) (by decide +kernel) rfl
theorem tw_70 : Cond.instanceMethod y_EN_show ∈ TBL := tbl_t (i := 70) (by decide +kernel) rfl
theorem tw_71 : Cond.selects "ExactNotation" y_EN_show y_EN_show ∈ TBL := tbl_t (i := 71) (by decide +kernel) rfl
theorem tw_72 : Cond.code y_EN_show prog_1_method_2_code 7 (some .int) ∈ TBL := tbl_t (i := 72) (by decide +kernel) rfl
theorem tw_73 : Cond.methodLink "ExactNotation" 23 y_EN_refuseOutOfRange ∈ TBL := tbl_t (i := 73) (by decide +kernel) rfl
theorem tw_74 : Cond.static y_EN_refuseOutOfRange ∈ TBL := tbl_t (i := 74) (by decide +kernel) rfl
theorem tw_75 : Cond.code y_EN_refuseOutOfRange prog_1_method_5_code 2 none ∈ TBL := tbl_t (i := 75) (by decide +kernel) rfl
theorem tw_76 : Cond.classLink "ExactNotation" 55 "java/lang/IllegalArgumentException" ∈ TBL := tbl_t (i := 76) (by decide +kernel) rfl
theorem tw_77 : Cond.instantiable "java/lang/IllegalArgumentException" 6 ∈ TBL := tbl_t (i := 77) (by decide +kernel) rfl
theorem tw_85 : Cond.selects "java/lang/IllegalArgumentException" y_java_lang_Throwable_fillInStackTraceI y_java_lang_Throwable_fillInStackTraceI ∈ TBL := tbl_t (i := 85) (by decide +kernel) rfl
theorem tw_86 : Cond.selects "java/lang/IllegalArgumentException" y_java_lang_Throwable_fillInStackTrace y_java_lang_Throwable_fillInStackTrace ∈ TBL := tbl_t (i := 86) (by decide +kernel) rfl
theorem tw_87 : Cond.lays "java/lang/IllegalArgumentException" "java/lang/Throwable" "cause" "Ljava/lang/Throwable;" ∈ TBL := tbl_t (i := 87) (by decide +kernel) rfl
theorem tw_88 : Cond.lays "java/lang/Throwable" "java/lang/Throwable" "cause" "Ljava/lang/Throwable;" ∈ TBL := tbl_t (i := 88) (by decide +kernel) rfl
theorem tw_89 : Cond.lays "java/lang/IllegalArgumentException" "java/lang/Throwable" "stackTrace" "[Ljava/lang/StackTraceElement;" ∈ TBL := tbl_t (i := 89) (by decide +kernel) rfl
theorem tw_90 : Cond.lays "java/lang/Throwable" "java/lang/Throwable" "stackTrace" "[Ljava/lang/StackTraceElement;" ∈ TBL := tbl_t (i := 90) (by decide +kernel) rfl
theorem tw_91 : Cond.lays "java/lang/IllegalArgumentException" "java/lang/Throwable" "suppressedExceptions" "Ljava/util/List;" ∈ TBL := tbl_t (i := 91) (by decide +kernel) rfl
theorem tw_92 : Cond.lays "java/lang/Throwable" "java/lang/Throwable" "suppressedExceptions" "Ljava/util/List;" ∈ TBL := tbl_t (i := 92) (by decide +kernel) rfl
theorem tw_93 : Cond.lays "java/lang/IllegalArgumentException" "java/lang/Throwable" "detailMessage" "Ljava/lang/String;" ∈ TBL := tbl_t (i := 93) (by decide +kernel) rfl
theorem tw_94 : Cond.lays "java/lang/Throwable" "java/lang/Throwable" "detailMessage" "Ljava/lang/String;" ∈ TBL := tbl_t (i := 94) (by decide +kernel) rfl
theorem tw_95 : Cond.lays "java/lang/IllegalArgumentException" "java/lang/Throwable" "backtrace" "Ljava/lang/Object;" ∈ TBL := tbl_t (i := 95) (by decide +kernel) rfl
theorem tw_96 : Cond.lays "java/lang/Throwable" "java/lang/Throwable" "backtrace" "Ljava/lang/Object;" ∈ TBL := tbl_t (i := 96) (by decide +kernel) rfl
theorem tw_97 : Cond.fieldLink "java/lang/Throwable" 198 "java/lang/Throwable" "backtrace" "Ljava/lang/Object;" ∈ TBL := tbl_t (i := 97) (by decide +kernel) rfl
theorem tw_99 : Cond.instanceMethod y_java_lang_Throwable_init ∈ TBL := tbl_t (i := 99) (by decide +kernel) rfl
theorem tw_100 : Cond.code y_java_lang_Throwable_init prog_17_method_1_code 1 none ∈ TBL := tbl_t (i := 100) (by decide +kernel) rfl
theorem tw_101 : Cond.methodLink "java/lang/Throwable" 1 y_java_lang_Object_init ∈ TBL := tbl_t (i := 101) (by decide +kernel) rfl
theorem tw_102 : Cond.fieldLink "java/lang/Throwable" 13 "java/lang/Throwable" "UNASSIGNED_STACK" "[Ljava/lang/StackTraceElement;" ∈ TBL := tbl_t (i := 102) (by decide +kernel) rfl
theorem tw_104 : Cond.fieldLink "java/lang/Throwable" 20 "java/lang/Throwable" "SUPPRESSED_SENTINEL" "Ljava/util/List;" ∈ TBL := tbl_t (i := 104) (by decide +kernel) rfl
theorem tw_106 : Cond.methodLink "java/lang/Throwable" 27 y_java_lang_Throwable_fillInStackTrace ∈ TBL := tbl_t (i := 106) (by decide +kernel) rfl
theorem tw_107 : Cond.instanceMethod y_java_lang_Throwable_fillInStackTrace ∈ TBL := tbl_t (i := 107) (by decide +kernel) rfl
theorem tw_109 : Cond.selects "java/lang/IndexOutOfBoundsException" y_java_lang_Throwable_fillInStackTrace y_java_lang_Throwable_fillInStackTrace ∈ TBL := tbl_t (i := 109) (by decide +kernel) rfl
theorem tw_110 : Cond.codeSync y_java_lang_Throwable_fillInStackTrace prog_17_method_18_code 1 (some (.object "java/lang/Throwable")) ∈ TBL := tbl_t (i := 110) (by decide +kernel) rfl
theorem tw_111 : Cond.methodLink "java/lang/Throwable" 202 y_java_lang_Throwable_fillInStackTraceI ∈ TBL := tbl_t (i := 111) (by decide +kernel) rfl
theorem tw_113 : Cond.instanceMethod y_java_lang_Throwable_fillInStackTraceI ∈ TBL := tbl_t (i := 113) (by decide +kernel) rfl
theorem tw_114 : Cond.instantiable "java/lang/Throwable" 6 ∈ TBL := tbl_t (i := 114) (by decide +kernel) rfl
theorem tw_115 : Cond.native y_java_lang_Throwable_fillInStackTraceI ∈ TBL := tbl_t (i := 115) (by decide +kernel) rfl
theorem tw_117 : Cond.methodLink "ExactNotation" 59 y_java_lang_IllegalArgumentException_initS ∈ TBL := tbl_t (i := 117) (by decide +kernel) rfl
theorem tw_118 : Cond.instanceMethod y_java_lang_IllegalArgumentException_initS ∈ TBL := tbl_t (i := 118) (by decide +kernel) rfl
theorem tw_119 : Cond.code y_java_lang_IllegalArgumentException_initS prog_10_method_2_code 2 none ∈ TBL := tbl_t (i := 119) (by decide +kernel) rfl
theorem tw_120 : Cond.methodLink "java/lang/IllegalArgumentException" 7 y_java_lang_RuntimeException_initS ∈ TBL := tbl_t (i := 120) (by decide +kernel) rfl
theorem tw_121 : Cond.instanceMethod y_java_lang_RuntimeException_initS ∈ TBL := tbl_t (i := 121) (by decide +kernel) rfl
theorem tw_122 : Cond.code y_java_lang_RuntimeException_initS prog_13_method_2_code 2 none ∈ TBL := tbl_t (i := 122) (by decide +kernel) rfl
theorem tw_123 : Cond.methodLink "java/lang/RuntimeException" 7 y_java_lang_Exception_initS ∈ TBL := tbl_t (i := 123) (by decide +kernel) rfl
theorem tw_124 : Cond.instanceMethod y_java_lang_Exception_initS ∈ TBL := tbl_t (i := 124) (by decide +kernel) rfl
theorem tw_125 : Cond.code y_java_lang_Exception_initS prog_9_method_2_code 2 none ∈ TBL := tbl_t (i := 125) (by decide +kernel) rfl
theorem tw_126 : Cond.methodLink "java/lang/Exception" 7 y_java_lang_Throwable_initS ∈ TBL := tbl_t (i := 126) (by decide +kernel) rfl
theorem tw_127 : Cond.instanceMethod y_java_lang_Throwable_initS ∈ TBL := tbl_t (i := 127) (by decide +kernel) rfl
theorem tw_128 : Cond.code y_java_lang_Throwable_initS prog_17_method_2_code 2 none ∈ TBL := tbl_t (i := 128) (by decide +kernel) rfl
theorem tw_130 : Cond.fieldLink "java/lang/Throwable" 31 "java/lang/Throwable" "detailMessage" "Ljava/lang/String;" ∈ TBL := tbl_t (i := 130) (by decide +kernel) rfl
theorem tw_131 : Cond.fieldLink "java/lang/Throwable" 7 "java/lang/Throwable" "cause" "Ljava/lang/Throwable;" ∈ TBL := tbl_t (i := 131) (by decide +kernel) rfl
theorem tw_132 : Cond.fieldLink "java/lang/Throwable" 17 "java/lang/Throwable" "stackTrace" "[Ljava/lang/StackTraceElement;" ∈ TBL := tbl_t (i := 132) (by decide +kernel) rfl
theorem tw_133 : Cond.fieldLink "java/lang/Throwable" 24 "java/lang/Throwable" "suppressedExceptions" "Ljava/util/List;" ∈ TBL := tbl_t (i := 133) (by decide +kernel) rfl
theorem tw_138 : Cond.lays "java/lang/IllegalArgumentException" "java/lang/Throwable" "depth" "I" ∈ TBL := tbl_t (i := 138) (by decide +kernel) rfl
theorem tw_143 : Cond.fieldLink "ExactNotation" 27 "ExactNotation$Format" "DOUBLE" "LExactNotation$Format;" ∈ TBL := tbl_t (i := 143) (by decide +kernel) rfl
theorem tw_145 : Cond.methodLink "ExactNotation" 33 y_EN_present ∈ TBL := tbl_t (i := 145) (by decide +kernel) rfl
theorem tw_147 : Cond.instanceMethod y_EN_present ∈ TBL := tbl_t (i := 147) (by decide +kernel) rfl
theorem tw_148 : Cond.code y_EN_present prog_1_method_6_code 8 (some .int) ∈ TBL := tbl_t (i := 148) (by decide +kernel) rfl
theorem tw_149 : Cond.methodLink "ExactNotation" 62 y_Tx_clear ∈ TBL := tbl_t (i := 149) (by decide +kernel) rfl
theorem tw_150 : Cond.instanceMethod y_Tx_clear ∈ TBL := tbl_t (i := 150) (by decide +kernel) rfl
theorem tw_151 : Cond.selects "ExactNotation$Text" y_Tx_clear y_Tx_clear ∈ TBL := tbl_t (i := 151) (by decide +kernel) rfl
theorem tw_152 : Cond.code y_Tx_clear prog_4_method_3_code 1 none ∈ TBL := tbl_t (i := 152) (by decide +kernel) rfl
theorem tw_153 : Cond.methodLink "ExactNotation" 65 y_Fm_isFinite ∈ TBL := tbl_t (i := 153) (by decide +kernel) rfl
