theorem k_60 : (Cond.selects "SignMachineModel" ⟨"SignMachineModel", "one", "()I"⟩ ⟨"SignMachineModel", "one", "()I"⟩) ∈ tb := mt 60 (by decide +kernel) rfl
theorem k_61 : (Cond.selects "SignMachineModel" ⟨"SignMachineModel", "judge", "()I"⟩ ⟨"SignMachineModel", "judge", "()I"⟩) ∈ tb := mt 61 (by decide +kernel) rfl
theorem k_62 : (Cond.selects "SignMachineModel" ⟨"SignMachineModel", "take", "()V"⟩ ⟨"SignMachineModel", "take", "()V"⟩) ∈ tb := mt 62 (by decide +kernel) rfl
theorem k_63 : (Cond.selects "SignMachineModel" ⟨"SignMachineModel", "isFieldRight", "()Z"⟩ ⟨"SignMachineModel", "isFieldRight", "()Z"⟩) ∈ tb := mt 63 (by decide +kernel) rfl
theorem k_64 : (Cond.selects "SignMachineModel" ⟨"SignMachineModel", "areAddresses", "()Z"⟩ ⟨"SignMachineModel", "areAddresses", "()Z"⟩) ∈ tb := mt 64 (by decide +kernel) rfl
theorem k_65 : (Cond.selects "SignMachineModel" ⟨"SignMachineModel", "indexValue", "(I)I"⟩ ⟨"SignMachineModel", "indexValue", "(I)I"⟩) ∈ tb := mt 65 (by decide +kernel) rfl
theorem k_66 : (Cond.selects "SignMachineModel" ⟨"SignMachineModel", "fitsIndex", "()Z"⟩ ⟨"SignMachineModel", "fitsIndex", "()Z"⟩) ∈ tb := mt 66 (by decide +kernel) rfl
theorem k_67 : (Cond.selects "SignMachineModel" ⟨"SignMachineModel", "takeValue", "()V"⟩ ⟨"SignMachineModel", "takeValue", "()V"⟩) ∈ tb := mt 67 (by decide +kernel) rfl
theorem k_68 : (Cond.selects "SignMachineModel" ⟨"SignMachineModel", "isBlock", "()Z"⟩ ⟨"SignMachineModel", "isBlock", "()Z"⟩) ∈ tb := mt 68 (by decide +kernel) rfl
theorem k_69 : (Cond.selects "SignMachineModel" ⟨"SignMachineModel", "done", "()Z"⟩ ⟨"SignMachineModel", "done", "()Z"⟩) ∈ tb := mt 69 (by decide +kernel) rfl
theorem k_70 : (Cond.selects "SignMachineModel" ⟨"SignMachineModel", "passes", "(I)V"⟩ ⟨"SignMachineModel", "passes", "(I)V"⟩) ∈ tb := mt 70 (by decide +kernel) rfl
theorem k_71 : (Cond.selects "SignMachineModel" ⟨"SignMachineModel", "goes39", "()V"⟩ ⟨"SignMachineModel", "goes39", "()V"⟩) ∈ tb := mt 71 (by decide +kernel) rfl
theorem k_72 : (Cond.selects "SignMachineModel" ⟨"SignMachineModel", "goesByIndicator", "()Z"⟩ ⟨"SignMachineModel", "goesByIndicator", "()Z"⟩) ∈ tb := mt 72 (by decide +kernel) rfl
theorem k_73 : (Cond.selects "SignMachineModel" ⟨"SignMachineModel", "goTo", "(ZZ)V"⟩ ⟨"SignMachineModel", "goTo", "(ZZ)V"⟩) ∈ tb := mt 73 (by decide +kernel) rfl
theorem k_74 : (Cond.selects "SignMachineModel" ⟨"SignMachineModel", "goesBy", "(I)Z"⟩ ⟨"SignMachineModel", "goesBy", "(I)Z"⟩) ∈ tb := mt 74 (by decide +kernel) rfl
theorem k_75 : (Cond.selects "SignMachineModel" ⟨"SignMachineModel", "compare", "(I)V"⟩ ⟨"SignMachineModel", "compare", "(I)V"⟩) ∈ tb := mt 75 (by decide +kernel) rfl
theorem k_76 : (Cond.selects "SignMachineModel" ⟨"SignMachineModel", "change", "(I)V"⟩ ⟨"SignMachineModel", "change", "(I)V"⟩) ∈ tb := mt 76 (by decide +kernel) rfl
theorem k_77 : (Cond.selects "SignMachineModel" ⟨"SignMachineModel", "add", "(III)V"⟩ ⟨"SignMachineModel", "add", "(III)V"⟩) ∈ tb := mt 77 (by decide +kernel) rfl
theorem k_78 : (Cond.selects "SignMachineModel" ⟨"SignMachineModel", "doTape", "()V"⟩ ⟨"SignMachineModel", "doTape", "()V"⟩) ∈ tb := mt 78 (by decide +kernel) rfl
theorem k_79 : (Cond.selects "SignMachineModel" ⟨"SignMachineModel", "store", "(II)V"⟩ ⟨"SignMachineModel", "store", "(II)V"⟩) ∈ tb := mt 79 (by decide +kernel) rfl
theorem k_80 : (Cond.selects "SignMachineModel" ⟨"SignMachineModel", "doFirst", "()V"⟩ ⟨"SignMachineModel", "doFirst", "()V"⟩) ∈ tb := mt 80 (by decide +kernel) rfl
theorem k_81 : (Cond.selects "SignMachineModel" ⟨"SignMachineModel", "multiply", "()V"⟩ ⟨"SignMachineModel", "multiply", "()V"⟩) ∈ tb := mt 81 (by decide +kernel) rfl
theorem k_82 : (Cond.selects "SignMachineModel" ⟨"SignMachineModel", "divide", "()V"⟩ ⟨"SignMachineModel", "divide", "()V"⟩) ∈ tb := mt 82 (by decide +kernel) rfl
theorem k_83 : (Cond.selects "SignMachineModel" ⟨"SignMachineModel", "digits", "()V"⟩ ⟨"SignMachineModel", "digits", "()V"⟩) ∈ tb := mt 83 (by decide +kernel) rfl
theorem k_84 : (Cond.selects "SignMachineModel" ⟨"SignMachineModel", "letters", "()V"⟩ ⟨"SignMachineModel", "letters", "()V"⟩) ∈ tb := mt 84 (by decide +kernel) rfl
theorem k_85 : (Cond.selects "SignMachineModel" ⟨"SignMachineModel", "shift", "()V"⟩ ⟨"SignMachineModel", "shift", "()V"⟩) ∈ tb := mt 85 (by decide +kernel) rfl
theorem k_86 : (Cond.selects "SignMachineModel" ⟨"SignMachineModel", "moveWords", "()V"⟩ ⟨"SignMachineModel", "moveWords", "()V"⟩) ∈ tb := mt 86 (by decide +kernel) rfl
theorem k_87 : (Cond.selects "SignMachineModel" ⟨"SignMachineModel", "readText", "()V"⟩ ⟨"SignMachineModel", "readText", "()V"⟩) ∈ tb := mt 87 (by decide +kernel) rfl
theorem k_88 : (Cond.selects "SignMachineModel" ⟨"SignMachineModel", "isNothing", "()Z"⟩ ⟨"SignMachineModel", "isNothing", "()Z"⟩) ∈ tb := mt 88 (by decide +kernel) rfl
theorem k_89 : (Cond.selects "SignMachineModel" ⟨"SignMachineModel", "readLine", "()V"⟩ ⟨"SignMachineModel", "readLine", "()V"⟩) ∈ tb := mt 89 (by decide +kernel) rfl
theorem k_90 : (Cond.selects "SignMachineModel" ⟨"SignMachineModel", "readLabel", "()V"⟩ ⟨"SignMachineModel", "readLabel", "()V"⟩) ∈ tb := mt 90 (by decide +kernel) rfl
theorem k_91 : (Cond.selects "SignMachineModel" ⟨"SignMachineModel", "here", "()I"⟩ ⟨"SignMachineModel", "here", "()I"⟩) ∈ tb := mt 91 (by decide +kernel) rfl
theorem k_92 : (Cond.selects "SignMachineModel" ⟨"SignMachineModel", "readName", "()V"⟩ ⟨"SignMachineModel", "readName", "()V"⟩) ∈ tb := mt 92 (by decide +kernel) rfl
theorem k_93 : (Cond.selects "SignMachineModel" ⟨"SignMachineModel", "bad", "(I)V"⟩ ⟨"SignMachineModel", "bad", "(I)V"⟩) ∈ tb := mt 93 (by decide +kernel) rfl
theorem k_94 : (Cond.selects "SignMachineModel" ⟨"SignMachineModel", "skipBlanks", "()V"⟩ ⟨"SignMachineModel", "skipBlanks", "()V"⟩) ∈ tb := mt 94 (by decide +kernel) rfl
theorem k_95 : (Cond.selects "SignMachineModel" ⟨"SignMachineModel", "opOf", "(II)I"⟩ ⟨"SignMachineModel", "opOf", "(II)I"⟩) ∈ tb := mt 95 (by decide +kernel) rfl
theorem k_96 : (Cond.selects "SignMachineModel" ⟨"SignMachineModel", "tellLabel", "(J)V"⟩ ⟨"SignMachineModel", "tellLabel", "(J)V"⟩) ∈ tb := mt 96 (by decide +kernel) rfl
theorem k_97 : (Cond.selects "SignMachineModel" ⟨"SignMachineModel", "findSymbol", "(J)I"⟩ ⟨"SignMachineModel", "findSymbol", "(J)I"⟩) ∈ tb := mt 97 (by decide +kernel) rfl
theorem k_98 : (Cond.selects "SignMachineModel" ⟨"SignMachineModel", "newSymbol", "(J)I"⟩ ⟨"SignMachineModel", "newSymbol", "(J)I"⟩) ∈ tb := mt 98 (by decide +kernel) rfl
theorem k_99 : (Cond.selects "SignMachineModel" ⟨"SignMachineModel", "readAlf", "()V"⟩ ⟨"SignMachineModel", "readAlf", "()V"⟩) ∈ tb := mt 99 (by decide +kernel) rfl
theorem k_100 : (Cond.selects "SignMachineModel" ⟨"SignMachineModel", "comes", "(II)I"⟩ ⟨"SignMachineModel", "comes", "(II)I"⟩) ∈ tb := mt 100 (by decide +kernel) rfl
theorem k_101 : (Cond.selects "SignMachineModel" ⟨"SignMachineModel", "wholeWord", "()V"⟩ ⟨"SignMachineModel", "wholeWord", "()V"⟩) ∈ tb := mt 101 (by decide +kernel) rfl
theorem k_102 : (Cond.selects "SignMachineModel" ⟨"SignMachineModel", "readWord", "()V"⟩ ⟨"SignMachineModel", "readWord", "()V"⟩) ∈ tb := mt 102 (by decide +kernel) rfl
theorem k_103 : (Cond.selects "SignMachineModel" ⟨"SignMachineModel", "expression", "()J"⟩ ⟨"SignMachineModel", "expression", "()J"⟩) ∈ tb := mt 103 (by decide +kernel) rfl
theorem k_104 : (Cond.selects "SignMachineModel" ⟨"SignMachineModel", "atom", "()J"⟩ ⟨"SignMachineModel", "atom", "()J"⟩) ∈ tb := mt 104 (by decide +kernel) rfl
theorem k_105 : (Cond.selects "SignMachineModel" ⟨"SignMachineModel", "looked", "(J)J"⟩ ⟨"SignMachineModel", "looked", "(J)J"⟩) ∈ tb := mt 105 (by decide +kernel) rfl
theorem k_106 : (Cond.selects "SignMachineModel" ⟨"SignMachineModel", "behindAtom", "(J)J"⟩ ⟨"SignMachineModel", "behindAtom", "(J)J"⟩) ∈ tb := mt 106 (by decide +kernel) rfl
theorem k_107 : (Cond.selects "SignMachineModel" ⟨"SignMachineModel", "take", "(I)V"⟩ ⟨"SignMachineModel", "take", "(I)V"⟩) ∈ tb := mt 107 (by decide +kernel) rfl
theorem k_108 : (Cond.selects "SignMachineModel" ⟨"SignMachineModel", "wordValue", "()J"⟩ ⟨"SignMachineModel", "wordValue", "()J"⟩) ∈ tb := mt 108 (by decide +kernel) rfl
theorem k_109 : (Cond.selects "SignMachineModel" ⟨"SignMachineModel", "readEnd", "()V"⟩ ⟨"SignMachineModel", "readEnd", "()V"⟩) ∈ tb := mt 109 (by decide +kernel) rfl
theorem k_110 : (Cond.selects "SignMachineModel" ⟨"SignMachineModel", "operation", "(II)V"⟩ ⟨"SignMachineModel", "operation", "(II)V"⟩) ∈ tb := mt 110 (by decide +kernel) rfl
theorem k_111 : (Cond.selects "SignMachineModel" ⟨"SignMachineModel", "addressPart", "()J"⟩ ⟨"SignMachineModel", "addressPart", "()J"⟩) ∈ tb := mt 111 (by decide +kernel) rfl
theorem k_112 : (Cond.selects "SignMachineModel" ⟨"SignMachineModel", "isAlone", "()Z"⟩ ⟨"SignMachineModel", "isAlone", "()Z"⟩) ∈ tb := mt 112 (by decide +kernel) rfl
theorem k_113 : (Cond.selects "SignMachineModel" ⟨"SignMachineModel", "laterSymbol", "(J)V"⟩ ⟨"SignMachineModel", "laterSymbol", "(J)V"⟩) ∈ tb := mt 113 (by decide +kernel) rfl
theorem k_114 : (Cond.selects "SignMachineModel" ⟨"SignMachineModel", "putIn", "()V"⟩ ⟨"SignMachineModel", "putIn", "()V"⟩) ∈ tb := mt 114 (by decide +kernel) rfl
theorem k_119 : ((Jvm.Cond.initialized "SignMachineModel")) ∈ tb := mt 119 (by decide +kernel) rfl
theorem k_140 : ((Jvm.Cond.instanceMethod ({ cls := "java/lang/Object", name := "<init>", desc := "()V" } : Jvm.MethodName))) ∈ tb := mt 140 (by decide +kernel) rfl
theorem k_162 : ((Jvm.Cond.arrayClass Jvm.ClassFile.FieldType.int)) ∈ tb := mt 162 (by decide +kernel) rfl
theorem k_599 : ((Jvm.Cond.arrayClass Jvm.ClassFile.FieldType.long)) ∈ tb := mt 599 (by decide +kernel) rfl
theorem k_600 : ((Jvm.Cond.arrayClass Jvm.ClassFile.FieldType.boolean)) ∈ tb := mt 600 (by decide +kernel) rfl
theorem k_1115 : ((Jvm.Cond.classLink "SignMachineLaw" (10 : Nat) "SignMachineModel")) ∈ tb := mt 1115 (by decide +kernel) rfl
theorem k_1116 : ((Jvm.Cond.instantiable "SignMachineModel" (64 : Nat))) ∈ tb := mt 1116 (by decide +kernel) rfl
theorem k_1117 : ((Jvm.Cond.methodLink "SignMachineLaw" (12 : Nat) ({ cls := "SignMachineModel", name := "<init>", desc := "()V" } : Jvm.MethodName))) ∈ tb := mt 1117 (by decide +kernel) rfl
theorem k_1118 : ((Jvm.Cond.instanceMethod ({ cls := "SignMachineModel", name := "<init>", desc := "()V" } : Jvm.MethodName))) ∈ tb := mt 1118 (by decide +kernel) rfl
theorem k_1119 : ((Jvm.Cond.code ({ cls := "SignMachineModel", name := "<init>", desc := "()V" } : Jvm.MethodName) prog_11_method_1_code (1 : Nat) (Option.none : Option Jvm.ClassFile.FieldType))) ∈ tb := mt 1119 (by decide +kernel) rfl
theorem k_1120 : ((Jvm.Cond.methodLink "SignMachineModel" (1 : Nat) ({ cls := "java/lang/Object", name := "<init>", desc := "()V" } : Jvm.MethodName))) ∈ tb := mt 1120 (by decide +kernel) rfl
theorem k_1121 : ((Jvm.Cond.fieldLink "SignMachineModel" (7 : Nat) "SignMachineModel" "sign" "[I")) ∈ tb := mt 1121 (by decide +kernel) rfl
theorem k_1122 : ((Jvm.Cond.fieldLink "SignMachineModel" (13 : Nat) "SignMachineModel" "size" "[I")) ∈ tb := mt 1122 (by decide +kernel) rfl
theorem k_1123 : ((Jvm.Cond.fieldLink "SignMachineModel" (16 : Nat) "SignMachineModel" "rSign" "[I")) ∈ tb := mt 1123 (by decide +kernel) rfl
theorem k_1124 : ((Jvm.Cond.fieldLink "SignMachineModel" (19 : Nat) "SignMachineModel" "rSize" "[I")) ∈ tb := mt 1124 (by decide +kernel) rfl
theorem k_1125 : ((Jvm.Cond.fieldLink "SignMachineModel" (110 : Nat) "SignMachineModel" "at" "I")) ∈ tb := mt 1125 (by decide +kernel) rfl
theorem k_1126 : ((Jvm.Cond.fieldLink "SignMachineModel" (113 : Nat) "SignMachineModel" "toggle" "I")) ∈ tb := mt 1126 (by decide +kernel) rfl
theorem k_1127 : ((Jvm.Cond.fieldLink "SignMachineModel" (116 : Nat) "SignMachineModel" "indicator" "I")) ∈ tb := mt 1127 (by decide +kernel) rfl
theorem k_1128 : ((Jvm.Cond.fieldLink "SignMachineModel" (119 : Nat) "SignMachineModel" "time" "I")) ∈ tb := mt 1128 (by decide +kernel) rfl
theorem k_1129 : ((Jvm.Cond.fieldLink "SignMachineModel" (91 : Nat) "SignMachineModel" "ended" "I")) ∈ tb := mt 1129 (by decide +kernel) rfl
theorem k_1130 : ((Jvm.Cond.fieldLink "SignMachineModel" (22 : Nat) "SignMachineModel" "tapeSign" "[I")) ∈ tb := mt 1130 (by decide +kernel) rfl
theorem k_1131 : ((Jvm.Cond.fieldLink "SignMachineModel" (25 : Nat) "SignMachineModel" "tapeSize" "[I")) ∈ tb := mt 1131 (by decide +kernel) rfl
theorem k_1132 : ((Jvm.Cond.fieldLink "SignMachineModel" (28 : Nat) "SignMachineModel" "tapeAt" "[I")) ∈ tb := mt 1132 (by decide +kernel) rfl
theorem k_1133 : ((Jvm.Cond.fieldLink "SignMachineModel" (132 : Nat) "SignMachineModel" "opCode" "I")) ∈ tb := mt 1133 (by decide +kernel) rfl
theorem k_1134 : ((Jvm.Cond.fieldLink "SignMachineModel" (135 : Nat) "SignMachineModel" "field" "I")) ∈ tb := mt 1134 (by decide +kernel) rfl
theorem k_1135 : ((Jvm.Cond.fieldLink "SignMachineModel" (138 : Nat) "SignMachineModel" "index" "I")) ∈ tb := mt 1135 (by decide +kernel) rfl
theorem k_1136 : ((Jvm.Cond.fieldLink "SignMachineModel" (142 : Nat) "SignMachineModel" "m" "I")) ∈ tb := mt 1136 (by decide +kernel) rfl
theorem k_1137 : ((Jvm.Cond.fieldLink "SignMachineModel" (147 : Nat) "SignMachineModel" "mSign" "I")) ∈ tb := mt 1137 (by decide +kernel) rfl
theorem k_1138 : ((Jvm.Cond.fieldLink "SignMachineModel" (165 : Nat) "SignMachineModel" "vSign" "I")) ∈ tb := mt 1138 (by decide +kernel) rfl
theorem k_1139 : ((Jvm.Cond.fieldLink "SignMachineModel" (172 : Nat) "SignMachineModel" "vSize" "I")) ∈ tb := mt 1139 (by decide +kernel) rfl
theorem k_1140 : ((Jvm.Cond.fieldLink "SignMachineModel" (31 : Nat) "SignMachineModel" "ten" "[I")) ∈ tb := mt 1140 (by decide +kernel) rfl
theorem k_1141 : ((Jvm.Cond.fieldLink "SignMachineModel" (34 : Nat) "SignMachineModel" "shifted" "[I")) ∈ tb := mt 1141 (by decide +kernel) rfl
theorem k_1142 : ((Jvm.Cond.fieldLink "SignMachineModel" (37 : Nat) "SignMachineModel" "text" "[I")) ∈ tb := mt 1142 (by decide +kernel) rfl
theorem k_1143 : ((Jvm.Cond.fieldLink "SignMachineModel" (274 : Nat) "SignMachineModel" "textSize" "I")) ∈ tb := mt 1143 (by decide +kernel) rfl
theorem k_1144 : ((Jvm.Cond.fieldLink "SignMachineModel" (395 : Nat) "SignMachineModel" "line" "I")) ∈ tb := mt 1144 (by decide +kernel) rfl
theorem k_1145 : ((Jvm.Cond.fieldLink "SignMachineModel" (285 : Nat) "SignMachineModel" "lineEnd" "I")) ∈ tb := mt 1145 (by decide +kernel) rfl
theorem k_1146 : ((Jvm.Cond.fieldLink "SignMachineModel" (282 : Nat) "SignMachineModel" "p" "I")) ∈ tb := mt 1146 (by decide +kernel) rfl
theorem k_1147 : ((Jvm.Cond.fieldLink "SignMachineModel" (279 : Nat) "SignMachineModel" "wrong" "I")) ∈ tb := mt 1147 (by decide +kernel) rfl
theorem k_1148 : ((Jvm.Cond.fieldLink "SignMachineModel" (553 : Nat) "SignMachineModel" "wrongLine" "I")) ∈ tb := mt 1148 (by decide +kernel) rfl
theorem k_1149 : ((Jvm.Cond.fieldLink "SignMachineModel" (568 : Nat) "SignMachineModel" "aboutLine" "I")) ∈ tb := mt 1149 (by decide +kernel) rfl
theorem k_1150 : ((Jvm.Cond.fieldLink "SignMachineModel" (40 : Nat) "SignMachineModel" "aboutPlace" "I")) ∈ tb := mt 1150 (by decide +kernel) rfl
theorem k_1151 : ((Jvm.Cond.fieldLink "SignMachineModel" (317 : Nat) "SignMachineModel" "place" "I")) ∈ tb := mt 1151 (by decide +kernel) rfl
theorem k_1152 : ((Jvm.Cond.fieldLink "SignMachineModel" (514 : Nat) "SignMachineModel" "start" "I")) ∈ tb := mt 1152 (by decide +kernel) rfl
theorem k_1153 : ((Jvm.Cond.fieldLink "SignMachineModel" (517 : Nat) "SignMachineModel" "isEnded" "Z")) ∈ tb := mt 1153 (by decide +kernel) rfl
theorem k_1154 : ((Jvm.Cond.fieldLink "SignMachineModel" (44 : Nat) "SignMachineModel" "symbol" "[J")) ∈ tb := mt 1154 (by decide +kernel) rfl
theorem k_1155 : ((Jvm.Cond.fieldLink "SignMachineModel" (48 : Nat) "SignMachineModel" "isTold" "[Z")) ∈ tb := mt 1155 (by decide +kernel) rfl
theorem k_1156 : ((Jvm.Cond.fieldLink "SignMachineModel" (52 : Nat) "SignMachineModel" "symbolIs" "[J")) ∈ tb := mt 1156 (by decide +kernel) rfl
theorem k_1157 : ((Jvm.Cond.fieldLink "SignMachineModel" (312 : Nat) "SignMachineModel" "symbols" "I")) ∈ tb := mt 1157 (by decide +kernel) rfl
theorem k_1158 : ((Jvm.Cond.fieldLink "SignMachineModel" (55 : Nat) "SignMachineModel" "hasLocal" "[Z")) ∈ tb := mt 1158 (by decide +kernel) rfl
theorem k_1159 : ((Jvm.Cond.fieldLink "SignMachineModel" (58 : Nat) "SignMachineModel" "localIs" "[J")) ∈ tb := mt 1159 (by decide +kernel) rfl
theorem k_1160 : ((Jvm.Cond.fieldLink "SignMachineModel" (499 : Nat) "SignMachineModel" "lineLocal" "I")) ∈ tb := mt 1160 (by decide +kernel) rfl
theorem k_1161 : ((Jvm.Cond.fieldLink "SignMachineModel" (502 : Nat) "SignMachineModel" "lineLocalIs" "J")) ∈ tb := mt 1161 (by decide +kernel) rfl
theorem k_1162 : ((Jvm.Cond.fieldLink "SignMachineModel" (61 : Nat) "SignMachineModel" "outAt" "[I")) ∈ tb := mt 1162 (by decide +kernel) rfl
theorem k_1163 : ((Jvm.Cond.fieldLink "SignMachineModel" (64 : Nat) "SignMachineModel" "outSign" "[I")) ∈ tb := mt 1163 (by decide +kernel) rfl
theorem k_1164 : ((Jvm.Cond.fieldLink "SignMachineModel" (67 : Nat) "SignMachineModel" "outSize" "[I")) ∈ tb := mt 1164 (by decide +kernel) rfl
theorem k_1165 : ((Jvm.Cond.fieldLink "SignMachineModel" (356 : Nat) "SignMachineModel" "outs" "I")) ∈ tb := mt 1165 (by decide +kernel) rfl
theorem k_1166 : ((Jvm.Cond.fieldLink "SignMachineModel" (70 : Nat) "SignMachineModel" "laterOut" "[I")) ∈ tb := mt 1166 (by decide +kernel) rfl
theorem k_1167 : ((Jvm.Cond.fieldLink "SignMachineModel" (73 : Nat) "SignMachineModel" "laterLine" "[I")) ∈ tb := mt 1167 (by decide +kernel) rfl
theorem k_1168 : ((Jvm.Cond.fieldLink "SignMachineModel" (76 : Nat) "SignMachineModel" "laterOf" "[I")) ∈ tb := mt 1168 (by decide +kernel) rfl
theorem k_1169 : ((Jvm.Cond.fieldLink "SignMachineModel" (79 : Nat) "SignMachineModel" "isPut" "[Z")) ∈ tb := mt 1169 (by decide +kernel) rfl
theorem k_1170 : ((Jvm.Cond.fieldLink "SignMachineModel" (392 : Nat) "SignMachineModel" "laters" "I")) ∈ tb := mt 1170 (by decide +kernel) rfl
theorem k_1171 : ((Jvm.Cond.fieldLink "SignMachineModel" (82 : Nat) "SignMachineModel" "follows" "[I")) ∈ tb := mt 1171 (by decide +kernel) rfl
theorem k_1172 : ((Jvm.Cond.fieldLink "SignMachineModel" (362 : Nat) "SignMachineModel" "followers" "I")) ∈ tb := mt 1172 (by decide +kernel) rfl
theorem k_1173 : ((Jvm.Cond.fieldLink "SignMachineModel" (85 : Nat) "SignMachineModel" "literal" "[J")) ∈ tb := mt 1173 (by decide +kernel) rfl
theorem k_1174 : ((Jvm.Cond.fieldLink "SignMachineModel" (375 : Nat) "SignMachineModel" "literals" "I")) ∈ tb := mt 1174 (by decide +kernel) rfl
theorem k_1175 : ((Jvm.Cond.fieldLink "SignMachineModel" (302 : Nat) "SignMachineModel" "atomKind" "I")) ∈ tb := mt 1175 (by decide +kernel) rfl
theorem k_1176 : ((Jvm.Cond.fieldLink "SignMachineModel" (305 : Nat) "SignMachineModel" "atomIs" "J")) ∈ tb := mt 1176 (by decide +kernel) rfl
theorem k_1177 : ((Jvm.Cond.fieldLink "SignMachineModel" (309 : Nat) "SignMachineModel" "atomLetter" "I")) ∈ tb := mt 1177 (by decide +kernel) rfl
theorem k_1178 : ((Jvm.Cond.fieldLink "SignMachineModel" (341 : Nat) "SignMachineModel" "wSign" "I")) ∈ tb := mt 1178 (by decide +kernel) rfl
theorem k_1179 : ((Jvm.Cond.fieldLink "SignMachineModel" (344 : Nat) "SignMachineModel" "wSize" "I")) ∈ tb := mt 1179 (by decide +kernel) rfl
theorem k_1180 : ((Jvm.Cond.fieldLink "SignMachineModel" (365 : Nat) "SignMachineModel" "isLater" "Z")) ∈ tb := mt 1180 (by decide +kernel) rfl
theorem k_1181 : ((Jvm.Cond.fieldLink "SignMachineModel" (369 : Nat) "SignMachineModel" "laterIs" "I")) ∈ tb := mt 1181 (by decide +kernel) rfl
theorem k_1182 : ((Jvm.Cond.fieldLink "SignMachineModel" (493 : Nat) "SignMachineModel" "labelKind" "I")) ∈ tb := mt 1182 (by decide +kernel) rfl
theorem k_1183 : ((Jvm.Cond.fieldLink "SignMachineModel" (496 : Nat) "SignMachineModel" "labelIs" "J")) ∈ tb := mt 1183 (by decide +kernel) rfl
theorem k_1184 : ((Jvm.Cond.fieldLink "SignMachineModel" (88 : Nat) "SignMachineModel" "laterValue" "[J")) ∈ tb := mt 1184 (by decide +kernel) rfl
theorem k_1314 : ((Jvm.Cond.methodLink "SignMachineLaw" (17 : Nat) ({ cls := "SignMachineModel", name := "poke", desc := "(III)Z" } : Jvm.MethodName))) ∈ tb := mt 1314 (by decide +kernel) rfl
theorem k_1315 : ((Jvm.Cond.instanceMethod ({ cls := "SignMachineModel", name := "poke", desc := "(III)Z" } : Jvm.MethodName))) ∈ tb := mt 1315 (by decide +kernel) rfl
theorem k_1316 : ((Jvm.Cond.selects "SignMachineModel" ({ cls := "SignMachineModel", name := "poke", desc := "(III)Z" } : Jvm.MethodName) ({ cls := "SignMachineModel", name := "poke", desc := "(III)Z" } : Jvm.MethodName))) ∈ tb := mt 1316 (by decide +kernel) rfl
theorem k_1317 : ((Jvm.Cond.code ({ cls := "SignMachineModel", name := "poke", desc := "(III)Z" } : Jvm.MethodName) prog_11_method_4_code (4 : Nat) (Option.some Jvm.ClassFile.FieldType.boolean))) ∈ tb := mt 1317 (by decide +kernel) rfl
theorem k_1318 : ((Jvm.Cond.constantLong "SignMachineModel" (94 : Nat) (3999 : Int64))) ∈ tb := mt 1318 (by decide +kernel) rfl
theorem k_1319 : ((Jvm.Cond.methodLink "SignMachineModel" (96 : Nat) ({ cls := "SignMachineModel", name := "isIn", desc := "(JJJ)Z" } : Jvm.MethodName))) ∈ tb := mt 1319 (by decide +kernel) rfl
theorem k_1320 : ((Jvm.Cond.static ({ cls := "SignMachineModel", name := "isIn", desc := "(JJJ)Z" } : Jvm.MethodName))) ∈ tb := mt 1320 (by decide +kernel) rfl
theorem k_1321 : ((Jvm.Cond.code ({ cls := "SignMachineModel", name := "isIn", desc := "(JJJ)Z" } : Jvm.MethodName) prog_11_method_3_code (6 : Nat) (Option.some Jvm.ClassFile.FieldType.boolean))) ∈ tb := mt 1321 (by decide +kernel) rfl
theorem k_1322 : ((Jvm.Cond.constantLong "SignMachineModel" (100 : Nat) (1073741823 : Int64))) ∈ tb := mt 1322 (by decide +kernel) rfl
theorem k_1323 : ((Jvm.Cond.methodLink "SignMachineLaw" (22 : Nat) ({ cls := "SignMachineModel", name := "peekSign", desc := "(I)I" } : Jvm.MethodName))) ∈ tb := mt 1323 (by decide +kernel) rfl
theorem k_1324 : ((Jvm.Cond.instanceMethod ({ cls := "SignMachineModel", name := "peekSign", desc := "(I)I" } : Jvm.MethodName))) ∈ tb := mt 1324 (by decide +kernel) rfl
theorem k_1325 : ((Jvm.Cond.selects "SignMachineModel" ({ cls := "SignMachineModel", name := "peekSign", desc := "(I)I" } : Jvm.MethodName) ({ cls := "SignMachineModel", name := "peekSign", desc := "(I)I" } : Jvm.MethodName))) ∈ tb := mt 1325 (by decide +kernel) rfl
theorem k_1326 : ((Jvm.Cond.code ({ cls := "SignMachineModel", name := "peekSign", desc := "(I)I" } : Jvm.MethodName) prog_11_method_5_code (2 : Nat) (Option.some Jvm.ClassFile.FieldType.int))) ∈ tb := mt 1326 (by decide +kernel) rfl
theorem k_1327 : ((Jvm.Cond.methodLink "SignMachineLaw" (26 : Nat) ({ cls := "SignMachineModel", name := "peekSize", desc := "(I)I" } : Jvm.MethodName))) ∈ tb := mt 1327 (by decide +kernel) rfl
theorem k_1328 : ((Jvm.Cond.instanceMethod ({ cls := "SignMachineModel", name := "peekSize", desc := "(I)I" } : Jvm.MethodName))) ∈ tb := mt 1328 (by decide +kernel) rfl
theorem k_1329 : ((Jvm.Cond.selects "SignMachineModel" ({ cls := "SignMachineModel", name := "peekSize", desc := "(I)I" } : Jvm.MethodName) ({ cls := "SignMachineModel", name := "peekSize", desc := "(I)I" } : Jvm.MethodName))) ∈ tb := mt 1329 (by decide +kernel) rfl
theorem k_1330 : ((Jvm.Cond.code ({ cls := "SignMachineModel", name := "peekSize", desc := "(I)I" } : Jvm.MethodName) prog_11_method_6_code (2 : Nat) (Option.some Jvm.ClassFile.FieldType.int))) ∈ tb := mt 1330 (by decide +kernel) rfl
theorem k_1331 : ((Jvm.Cond.methodLink "SignMachineLaw" (39 : Nat) ({ cls := "SignMachineModel", name := "registerSign", desc := "(I)I" } : Jvm.MethodName))) ∈ tb := mt 1331 (by decide +kernel) rfl
theorem k_1332 : ((Jvm.Cond.instanceMethod ({ cls := "SignMachineModel", name := "registerSign", desc := "(I)I" } : Jvm.MethodName))) ∈ tb := mt 1332 (by decide +kernel) rfl
theorem k_1333 : ((Jvm.Cond.selects "SignMachineModel" ({ cls := "SignMachineModel", name := "registerSign", desc := "(I)I" } : Jvm.MethodName) ({ cls := "SignMachineModel", name := "registerSign", desc := "(I)I" } : Jvm.MethodName))) ∈ tb := mt 1333 (by decide +kernel) rfl
theorem k_1334 : ((Jvm.Cond.code ({ cls := "SignMachineModel", name := "registerSign", desc := "(I)I" } : Jvm.MethodName) prog_11_method_7_code (2 : Nat) (Option.some Jvm.ClassFile.FieldType.int))) ∈ tb := mt 1334 (by decide +kernel) rfl
theorem k_1335 : ((Jvm.Cond.constantLong "SignMachineModel" (102 : Nat) (8 : Int64))) ∈ tb := mt 1335 (by decide +kernel) rfl
theorem k_1336 : ((Jvm.Cond.methodLink "SignMachineLaw" (43 : Nat) ({ cls := "SignMachineModel", name := "registerSize", desc := "(I)I" } : Jvm.MethodName))) ∈ tb := mt 1336 (by decide +kernel) rfl
theorem k_1337 : ((Jvm.Cond.instanceMethod ({ cls := "SignMachineModel", name := "registerSize", desc := "(I)I" } : Jvm.MethodName))) ∈ tb := mt 1337 (by decide +kernel) rfl
theorem k_1338 : ((Jvm.Cond.selects "SignMachineModel" ({ cls := "SignMachineModel", name := "registerSize", desc := "(I)I" } : Jvm.MethodName) ({ cls := "SignMachineModel", name := "registerSize", desc := "(I)I" } : Jvm.MethodName))) ∈ tb := mt 1338 (by decide +kernel) rfl
theorem k_1339 : ((Jvm.Cond.code ({ cls := "SignMachineModel", name := "registerSize", desc := "(I)I" } : Jvm.MethodName) prog_11_method_8_code (2 : Nat) (Option.some Jvm.ClassFile.FieldType.int))) ∈ tb := mt 1339 (by decide +kernel) rfl
theorem k_1340 : ((Jvm.Cond.methodLink "SignMachineLaw" (47 : Nat) ({ cls := "SignMachineModel", name := "set", desc := "(III)Z" } : Jvm.MethodName))) ∈ tb := mt 1340 (by decide +kernel) rfl
theorem k_1341 : ((Jvm.Cond.instanceMethod ({ cls := "SignMachineModel", name := "set", desc := "(III)Z" } : Jvm.MethodName))) ∈ tb := mt 1341 (by decide +kernel) rfl
theorem k_1342 : ((Jvm.Cond.selects "SignMachineModel" ({ cls := "SignMachineModel", name := "set", desc := "(III)Z" } : Jvm.MethodName) ({ cls := "SignMachineModel", name := "set", desc := "(III)Z" } : Jvm.MethodName))) ∈ tb := mt 1342 (by decide +kernel) rfl
theorem k_1343 : ((Jvm.Cond.code ({ cls := "SignMachineModel", name := "set", desc := "(III)Z" } : Jvm.MethodName) prog_11_method_10_code (4 : Nat) (Option.some Jvm.ClassFile.FieldType.boolean))) ∈ tb := mt 1343 (by decide +kernel) rfl
theorem k_1344 : ((Jvm.Cond.methodLink "SignMachineModel" (104 : Nat) ({ cls := "SignMachineModel", name := "isShort", desc := "(I)Z" } : Jvm.MethodName))) ∈ tb := mt 1344 (by decide +kernel) rfl
theorem k_1345 : ((Jvm.Cond.static ({ cls := "SignMachineModel", name := "isShort", desc := "(I)Z" } : Jvm.MethodName))) ∈ tb := mt 1345 (by decide +kernel) rfl
theorem k_1346 : ((Jvm.Cond.code ({ cls := "SignMachineModel", name := "isShort", desc := "(I)Z" } : Jvm.MethodName) prog_11_method_9_code (1 : Nat) (Option.some Jvm.ClassFile.FieldType.boolean))) ∈ tb := mt 1346 (by decide +kernel) rfl
theorem k_1347 : ((Jvm.Cond.constantLong "SignMachineModel" (108 : Nat) (4095 : Int64))) ∈ tb := mt 1347 (by decide +kernel) rfl
theorem k_1348 : ((Jvm.Cond.methodLink "SignMachineLaw" (51 : Nat) ({ cls := "SignMachineModel", name := "state", desc := "(I)I" } : Jvm.MethodName))) ∈ tb := mt 1348 (by decide +kernel) rfl
theorem k_1349 : ((Jvm.Cond.instanceMethod ({ cls := "SignMachineModel", name := "state", desc := "(I)I" } : Jvm.MethodName))) ∈ tb := mt 1349 (by decide +kernel) rfl
theorem k_1350 : ((Jvm.Cond.selects "SignMachineModel" ({ cls := "SignMachineModel", name := "state", desc := "(I)I" } : Jvm.MethodName) ({ cls := "SignMachineModel", name := "state", desc := "(I)I" } : Jvm.MethodName))) ∈ tb := mt 1350 (by decide +kernel) rfl
theorem k_1351 : ((Jvm.Cond.code ({ cls := "SignMachineModel", name := "state", desc := "(I)I" } : Jvm.MethodName) prog_11_method_11_code (2 : Nat) (Option.some Jvm.ClassFile.FieldType.int))) ∈ tb := mt 1351 (by decide +kernel) rfl
theorem k_1352 : ((Jvm.Cond.methodLink "SignMachineLaw" (56 : Nat) ({ cls := "SignMachineModel", name := "go", desc := "(I)Z" } : Jvm.MethodName))) ∈ tb := mt 1352 (by decide +kernel) rfl
theorem k_1353 : ((Jvm.Cond.instanceMethod ({ cls := "SignMachineModel", name := "go", desc := "(I)Z" } : Jvm.MethodName))) ∈ tb := mt 1353 (by decide +kernel) rfl
theorem k_1354 : ((Jvm.Cond.selects "SignMachineModel" ({ cls := "SignMachineModel", name := "go", desc := "(I)Z" } : Jvm.MethodName) ({ cls := "SignMachineModel", name := "go", desc := "(I)Z" } : Jvm.MethodName))) ∈ tb := mt 1354 (by decide +kernel) rfl
theorem k_1355 : ((Jvm.Cond.code ({ cls := "SignMachineModel", name := "go", desc := "(I)Z" } : Jvm.MethodName) prog_11_method_12_code (3 : Nat) (Option.some Jvm.ClassFile.FieldType.boolean))) ∈ tb := mt 1355 (by decide +kernel) rfl
theorem k_1356 : ((Jvm.Cond.methodLink "SignMachineLaw" (61 : Nat) ({ cls := "SignMachineModel", name := "tape", desc := "(III)I" } : Jvm.MethodName))) ∈ tb := mt 1356 (by decide +kernel) rfl
theorem k_1357 : ((Jvm.Cond.instanceMethod ({ cls := "SignMachineModel", name := "tape", desc := "(III)I" } : Jvm.MethodName))) ∈ tb := mt 1357 (by decide +kernel) rfl
theorem k_1358 : ((Jvm.Cond.selects "SignMachineModel" ({ cls := "SignMachineModel", name := "tape", desc := "(III)I" } : Jvm.MethodName) ({ cls := "SignMachineModel", name := "tape", desc := "(III)I" } : Jvm.MethodName))) ∈ tb := mt 1358 (by decide +kernel) rfl
theorem k_1359 : ((Jvm.Cond.code ({ cls := "SignMachineModel", name := "tape", desc := "(III)I" } : Jvm.MethodName) prog_11_method_13_code (5 : Nat) (Option.some Jvm.ClassFile.FieldType.int))) ∈ tb := mt 1359 (by decide +kernel) rfl
theorem k_1360 : ((Jvm.Cond.constantLong "SignMachineModel" (122 : Nat) (39 : Int64))) ∈ tb := mt 1360 (by decide +kernel) rfl
theorem k_1361 : ((Jvm.Cond.constantLong "SignMachineModel" (124 : Nat) (99 : Int64))) ∈ tb := mt 1361 (by decide +kernel) rfl
theorem k_1362 : ((Jvm.Cond.constant "SignMachineModel" (126 : Nat) (-2000000000 : Int32))) ∈ tb := mt 1362 (by decide +kernel) rfl
theorem k_1363 : ((Jvm.Cond.constant "SignMachineModel" (127 : Nat) (-1073741824 : Int32))) ∈ tb := mt 1363 (by decide +kernel) rfl
theorem k_1364 : ((Jvm.Cond.methodLink "SignMachineLaw" (31 : Nat) ({ cls := "SignMachineModel", name := "step", desc := "()I" } : Jvm.MethodName))) ∈ tb := mt 1364 (by decide +kernel) rfl
theorem k_1365 : ((Jvm.Cond.instanceMethod ({ cls := "SignMachineModel", name := "step", desc := "()I" } : Jvm.MethodName))) ∈ tb := mt 1365 (by decide +kernel) rfl
theorem k_1366 : ((Jvm.Cond.selects "SignMachineModel" ({ cls := "SignMachineModel", name := "step", desc := "()I" } : Jvm.MethodName) ({ cls := "SignMachineModel", name := "step", desc := "()I" } : Jvm.MethodName))) ∈ tb := mt 1366 (by decide +kernel) rfl
theorem k_1367 : ((Jvm.Cond.code ({ cls := "SignMachineModel", name := "step", desc := "()I" } : Jvm.MethodName) prog_11_method_47_code (1 : Nat) (Option.some Jvm.ClassFile.FieldType.int))) ∈ tb := mt 1367 (by decide +kernel) rfl
theorem k_1368 : ((Jvm.Cond.methodLink "SignMachineModel" (269 : Nat) ({ cls := "SignMachineModel", name := "one", desc := "()I" } : Jvm.MethodName))) ∈ tb := mt 1368 (by decide +kernel) rfl
theorem k_1370 : ((Jvm.Cond.instanceMethod ({ cls := "SignMachineModel", name := "one", desc := "()I" } : Jvm.MethodName))) ∈ tb := mt 1370 (by decide +kernel) rfl
theorem k_1371 : ((Jvm.Cond.code ({ cls := "SignMachineModel", name := "one", desc := "()I" } : Jvm.MethodName) prog_11_method_46_code (3 : Nat) (Option.some Jvm.ClassFile.FieldType.int))) ∈ tb := mt 1371 (by decide +kernel) rfl
theorem k_1372 : ((Jvm.Cond.methodLink "SignMachineModel" (262 : Nat) ({ cls := "SignMachineModel", name := "judge", desc := "()I" } : Jvm.MethodName))) ∈ tb := mt 1372 (by decide +kernel) rfl
theorem k_1374 : ((Jvm.Cond.instanceMethod ({ cls := "SignMachineModel", name := "judge", desc := "()I" } : Jvm.MethodName))) ∈ tb := mt 1374 (by decide +kernel) rfl
theorem k_1375 : ((Jvm.Cond.code ({ cls := "SignMachineModel", name := "judge", desc := "()I" } : Jvm.MethodName) prog_11_method_26_code (1 : Nat) (Option.some Jvm.ClassFile.FieldType.int))) ∈ tb := mt 1375 (by decide +kernel) rfl
theorem k_1376 : ((Jvm.Cond.methodLink "SignMachineModel" (182 : Nat) ({ cls := "SignMachineModel", name := "take", desc := "()V" } : Jvm.MethodName))) ∈ tb := mt 1376 (by decide +kernel) rfl
theorem k_1378 : ((Jvm.Cond.instanceMethod ({ cls := "SignMachineModel", name := "take", desc := "()V" } : Jvm.MethodName))) ∈ tb := mt 1378 (by decide +kernel) rfl
theorem k_1379 : ((Jvm.Cond.code ({ cls := "SignMachineModel", name := "take", desc := "()V" } : Jvm.MethodName) prog_11_method_18_code (3 : Nat) (Option.none : Option Jvm.ClassFile.FieldType))) ∈ tb := mt 1379 (by decide +kernel) rfl
theorem k_1380 : ((Jvm.Cond.constant "SignMachineModel" (141 : Nat) (262144 : Int32))) ∈ tb := mt 1380 (by decide +kernel) rfl
theorem k_1381 : ((Jvm.Cond.constantLong "SignMachineModel" (145 : Nat) (6 : Int64))) ∈ tb := mt 1381 (by decide +kernel) rfl
theorem k_1382 : ((Jvm.Cond.methodLink "SignMachineModel" (185 : Nat) ({ cls := "SignMachineModel", name := "isFieldRight", desc := "()Z" } : Jvm.MethodName))) ∈ tb := mt 1382 (by decide +kernel) rfl
theorem k_1384 : ((Jvm.Cond.instanceMethod ({ cls := "SignMachineModel", name := "isFieldRight", desc := "()Z" } : Jvm.MethodName))) ∈ tb := mt 1384 (by decide +kernel) rfl
theorem k_1385 : ((Jvm.Cond.code ({ cls := "SignMachineModel", name := "isFieldRight", desc := "()Z" } : Jvm.MethodName) prog_11_method_19_code (1 : Nat) (Option.some Jvm.ClassFile.FieldType.boolean))) ∈ tb := mt 1385 (by decide +kernel) rfl
theorem k_1386 : ((Jvm.Cond.methodLink "SignMachineModel" (150 : Nat) ({ cls := "SignMachineModel", name := "takesWord", desc := "(I)Z" } : Jvm.MethodName))) ∈ tb := mt 1386 (by decide +kernel) rfl
theorem k_1387 : ((Jvm.Cond.static ({ cls := "SignMachineModel", name := "takesWord", desc := "(I)Z" } : Jvm.MethodName))) ∈ tb := mt 1387 (by decide +kernel) rfl
theorem k_1388 : ((Jvm.Cond.code ({ cls := "SignMachineModel", name := "takesWord", desc := "(I)Z" } : Jvm.MethodName) prog_11_method_17_code (1 : Nat) (Option.some Jvm.ClassFile.FieldType.boolean))) ∈ tb := mt 1388 (by decide +kernel) rfl
theorem k_1389 : ((Jvm.Cond.methodLink "SignMachineModel" (153 : Nat) ({ cls := "SignMachineModel", name := "isField", desc := "(I)Z" } : Jvm.MethodName))) ∈ tb := mt 1389 (by decide +kernel) rfl
theorem k_1390 : ((Jvm.Cond.static ({ cls := "SignMachineModel", name := "isField", desc := "(I)Z" } : Jvm.MethodName))) ∈ tb := mt 1390 (by decide +kernel) rfl
theorem k_1391 : ((Jvm.Cond.code ({ cls := "SignMachineModel", name := "isField", desc := "(I)Z" } : Jvm.MethodName) prog_11_method_16_code (1 : Nat) (Option.some Jvm.ClassFile.FieldType.boolean))) ∈ tb := mt 1391 (by decide +kernel) rfl
theorem k_1392 : ((Jvm.Cond.methodLink "SignMachineModel" (189 : Nat) ({ cls := "SignMachineModel", name := "areAddresses", desc := "()Z" } : Jvm.MethodName))) ∈ tb := mt 1392 (by decide +kernel) rfl
theorem k_1394 : ((Jvm.Cond.instanceMethod ({ cls := "SignMachineModel", name := "areAddresses", desc := "()Z" } : Jvm.MethodName))) ∈ tb := mt 1394 (by decide +kernel) rfl
theorem k_1395 : ((Jvm.Cond.code ({ cls := "SignMachineModel", name := "areAddresses", desc := "()Z" } : Jvm.MethodName) prog_11_method_22_code (2 : Nat) (Option.some Jvm.ClassFile.FieldType.boolean))) ∈ tb := mt 1395 (by decide +kernel) rfl
theorem k_1396 : ((Jvm.Cond.methodLink "SignMachineModel" (158 : Nat) ({ cls := "SignMachineModel", name := "isWord", desc := "(J)Z" } : Jvm.MethodName))) ∈ tb := mt 1396 (by decide +kernel) rfl
theorem k_1397 : ((Jvm.Cond.static ({ cls := "SignMachineModel", name := "isWord", desc := "(J)Z" } : Jvm.MethodName))) ∈ tb := mt 1397 (by decide +kernel) rfl
theorem k_1398 : ((Jvm.Cond.code ({ cls := "SignMachineModel", name := "isWord", desc := "(J)Z" } : Jvm.MethodName) prog_11_method_20_code (2 : Nat) (Option.some Jvm.ClassFile.FieldType.boolean))) ∈ tb := mt 1398 (by decide +kernel) rfl
theorem k_1399 : ((Jvm.Cond.constantLong "SignMachineModel" (156 : Nat) (4000 : Int64))) ∈ tb := mt 1399 (by decide +kernel) rfl
theorem k_1400 : ((Jvm.Cond.methodLink "SignMachineModel" (162 : Nat) ({ cls := "SignMachineModel", name := "indexValue", desc := "(I)I" } : Jvm.MethodName))) ∈ tb := mt 1400 (by decide +kernel) rfl
theorem k_1402 : ((Jvm.Cond.instanceMethod ({ cls := "SignMachineModel", name := "indexValue", desc := "(I)I" } : Jvm.MethodName))) ∈ tb := mt 1402 (by decide +kernel) rfl
theorem k_1403 : ((Jvm.Cond.code ({ cls := "SignMachineModel", name := "indexValue", desc := "(I)I" } : Jvm.MethodName) prog_11_method_21_code (2 : Nat) (Option.some Jvm.ClassFile.FieldType.int))) ∈ tb := mt 1403 (by decide +kernel) rfl
theorem k_1404 : ((Jvm.Cond.methodLink "SignMachineModel" (192 : Nat) ({ cls := "SignMachineModel", name := "fitsIndex", desc := "()Z" } : Jvm.MethodName))) ∈ tb := mt 1404 (by decide +kernel) rfl
theorem k_1406 : ((Jvm.Cond.instanceMethod ({ cls := "SignMachineModel", name := "fitsIndex", desc := "()Z" } : Jvm.MethodName))) ∈ tb := mt 1406 (by decide +kernel) rfl
theorem k_1407 : ((Jvm.Cond.code ({ cls := "SignMachineModel", name := "fitsIndex", desc := "()Z" } : Jvm.MethodName) prog_11_method_24_code (3 : Nat) (Option.some Jvm.ClassFile.FieldType.boolean))) ∈ tb := mt 1407 (by decide +kernel) rfl
theorem k_1408 : ((Jvm.Cond.methodLink "SignMachineModel" (175 : Nat) ({ cls := "SignMachineModel", name := "takeValue", desc := "()V" } : Jvm.MethodName))) ∈ tb := mt 1408 (by decide +kernel) rfl
theorem k_1410 : ((Jvm.Cond.instanceMethod ({ cls := "SignMachineModel", name := "takeValue", desc := "()V" } : Jvm.MethodName))) ∈ tb := mt 1410 (by decide +kernel) rfl
theorem k_1411 : ((Jvm.Cond.code ({ cls := "SignMachineModel", name := "takeValue", desc := "()V" } : Jvm.MethodName) prog_11_method_23_code (3 : Nat) (Option.none : Option Jvm.ClassFile.FieldType))) ∈ tb := mt 1411 (by decide +kernel) rfl
theorem k_1412 : ((Jvm.Cond.methodLink "SignMachineModel" (168 : Nat) ({ cls := "SignMachineModel", name := "bytes", desc := "(III)I" } : Jvm.MethodName))) ∈ tb := mt 1412 (by decide +kernel) rfl
theorem k_1413 : ((Jvm.Cond.static ({ cls := "SignMachineModel", name := "bytes", desc := "(III)I" } : Jvm.MethodName))) ∈ tb := mt 1413 (by decide +kernel) rfl
theorem k_1414 : ((Jvm.Cond.code ({ cls := "SignMachineModel", name := "bytes", desc := "(III)I" } : Jvm.MethodName) prog_11_method_15_code (4 : Nat) (Option.some Jvm.ClassFile.FieldType.int))) ∈ tb := mt 1414 (by decide +kernel) rfl
theorem k_1415 : ((Jvm.Cond.methodLink "SignMachineModel" (128 : Nat) ({ cls := "SignMachineModel", name := "power", desc := "(I)I" } : Jvm.MethodName))) ∈ tb := mt 1415 (by decide +kernel) rfl
theorem k_1416 : ((Jvm.Cond.static ({ cls := "SignMachineModel", name := "power", desc := "(I)I" } : Jvm.MethodName))) ∈ tb := mt 1416 (by decide +kernel) rfl
theorem k_1417 : ((Jvm.Cond.code ({ cls := "SignMachineModel", name := "power", desc := "(I)I" } : Jvm.MethodName) prog_11_method_14_code (3 : Nat) (Option.some Jvm.ClassFile.FieldType.int))) ∈ tb := mt 1417 (by decide +kernel) rfl
theorem k_1418 : ((Jvm.Cond.constantLong "SignMachineModel" (178 : Nat) (-4095 : Int64))) ∈ tb := mt 1418 (by decide +kernel) rfl
theorem k_1419 : ((Jvm.Cond.methodLink "SignMachineModel" (195 : Nat) ({ cls := "SignMachineModel", name := "isBlock", desc := "()Z" } : Jvm.MethodName))) ∈ tb := mt 1419 (by decide +kernel) rfl
theorem k_1421 : ((Jvm.Cond.instanceMethod ({ cls := "SignMachineModel", name := "isBlock", desc := "()Z" } : Jvm.MethodName))) ∈ tb := mt 1421 (by decide +kernel) rfl
theorem k_1422 : ((Jvm.Cond.code ({ cls := "SignMachineModel", name := "isBlock", desc := "()Z" } : Jvm.MethodName) prog_11_method_25_code (1 : Nat) (Option.some Jvm.ClassFile.FieldType.boolean))) ∈ tb := mt 1422 (by decide +kernel) rfl
theorem k_1423 : ((Jvm.Cond.constantLong "SignMachineModel" (180 : Nat) (40 : Int64))) ∈ tb := mt 1423 (by decide +kernel) rfl
theorem k_1424 : ((Jvm.Cond.methodLink "SignMachineModel" (266 : Nat) ({ cls := "SignMachineModel", name := "done", desc := "()Z" } : Jvm.MethodName))) ∈ tb := mt 1424 (by decide +kernel) rfl
theorem k_1426 : ((Jvm.Cond.instanceMethod ({ cls := "SignMachineModel", name := "done", desc := "()Z" } : Jvm.MethodName))) ∈ tb := mt 1426 (by decide +kernel) rfl
theorem k_1427 : ((Jvm.Cond.code ({ cls := "SignMachineModel", name := "done", desc := "()Z" } : Jvm.MethodName) prog_11_method_44_code (2 : Nat) (Option.some Jvm.ClassFile.FieldType.boolean))) ∈ tb := mt 1427 (by decide +kernel) rfl
theorem k_1428 : ((Jvm.Cond.methodLink "SignMachineModel" (218 : Nat) ({ cls := "SignMachineModel", name := "passes", desc := "(I)V" } : Jvm.MethodName))) ∈ tb := mt 1428 (by decide +kernel) rfl
theorem k_1430 : ((Jvm.Cond.instanceMethod ({ cls := "SignMachineModel", name := "passes", desc := "(I)V" } : Jvm.MethodName))) ∈ tb := mt 1430 (by decide +kernel) rfl
theorem k_1431 : ((Jvm.Cond.code ({ cls := "SignMachineModel", name := "passes", desc := "(I)V" } : Jvm.MethodName) prog_11_method_27_code (2 : Nat) (Option.none : Option Jvm.ClassFile.FieldType))) ∈ tb := mt 1431 (by decide +kernel) rfl
theorem k_1432 : ((Jvm.Cond.constant "SignMachineModel" (198 : Nat) (1073741823 : Int32))) ∈ tb := mt 1432 (by decide +kernel) rfl
theorem k_1433 : ((Jvm.Cond.methodLink "SignMachineModel" (222 : Nat) ({ cls := "SignMachineModel", name := "goes39", desc := "()V" } : Jvm.MethodName))) ∈ tb := mt 1433 (by decide +kernel) rfl
theorem k_1435 : ((Jvm.Cond.instanceMethod ({ cls := "SignMachineModel", name := "goes39", desc := "()V" } : Jvm.MethodName))) ∈ tb := mt 1435 (by decide +kernel) rfl
theorem k_1436 : ((Jvm.Cond.code ({ cls := "SignMachineModel", name := "goes39", desc := "()V" } : Jvm.MethodName) prog_11_method_40_code (3 : Nat) (Option.none : Option Jvm.ClassFile.FieldType))) ∈ tb := mt 1436 (by decide +kernel) rfl
theorem k_1437 : ((Jvm.Cond.methodLink "SignMachineModel" (207 : Nat) ({ cls := "SignMachineModel", name := "goesByIndicator", desc := "()Z" } : Jvm.MethodName))) ∈ tb := mt 1437 (by decide +kernel) rfl
theorem k_1439 : ((Jvm.Cond.instanceMethod ({ cls := "SignMachineModel", name := "goesByIndicator", desc := "()Z" } : Jvm.MethodName))) ∈ tb := mt 1439 (by decide +kernel) rfl
theorem k_1440 : ((Jvm.Cond.code ({ cls := "SignMachineModel", name := "goesByIndicator", desc := "()Z" } : Jvm.MethodName) prog_11_method_39_code (1 : Nat) (Option.some Jvm.ClassFile.FieldType.boolean))) ∈ tb := mt 1440 (by decide +kernel) rfl
theorem k_1441 : ((Jvm.Cond.methodLink "SignMachineModel" (210 : Nat) ({ cls := "SignMachineModel", name := "goTo", desc := "(ZZ)V" } : Jvm.MethodName))) ∈ tb := mt 1441 (by decide +kernel) rfl
theorem k_1443 : ((Jvm.Cond.instanceMethod ({ cls := "SignMachineModel", name := "goTo", desc := "(ZZ)V" } : Jvm.MethodName))) ∈ tb := mt 1443 (by decide +kernel) rfl
theorem k_1444 : ((Jvm.Cond.code ({ cls := "SignMachineModel", name := "goTo", desc := "(ZZ)V" } : Jvm.MethodName) prog_11_method_37_code (3 : Nat) (Option.none : Option Jvm.ClassFile.FieldType))) ∈ tb := mt 1444 (by decide +kernel) rfl
theorem k_1445 : ((Jvm.Cond.methodLink "SignMachineModel" (225 : Nat) ({ cls := "SignMachineModel", name := "goesBy", desc := "(I)Z" } : Jvm.MethodName))) ∈ tb := mt 1445 (by decide +kernel) rfl
theorem k_1447 : ((Jvm.Cond.instanceMethod ({ cls := "SignMachineModel", name := "goesBy", desc := "(I)Z" } : Jvm.MethodName))) ∈ tb := mt 1447 (by decide +kernel) rfl
theorem k_1448 : ((Jvm.Cond.code ({ cls := "SignMachineModel", name := "goesBy", desc := "(I)Z" } : Jvm.MethodName) prog_11_method_38_code (3 : Nat) (Option.some Jvm.ClassFile.FieldType.boolean))) ∈ tb := mt 1448 (by decide +kernel) rfl
theorem k_1449 : ((Jvm.Cond.methodLink "SignMachineModel" (228 : Nat) ({ cls := "SignMachineModel", name := "compare", desc := "(I)V" } : Jvm.MethodName))) ∈ tb := mt 1449 (by decide +kernel) rfl
theorem k_1451 : ((Jvm.Cond.instanceMethod ({ cls := "SignMachineModel", name := "compare", desc := "(I)V" } : Jvm.MethodName))) ∈ tb := mt 1451 (by decide +kernel) rfl
theorem k_1452 : ((Jvm.Cond.code ({ cls := "SignMachineModel", name := "compare", desc := "(I)V" } : Jvm.MethodName) prog_11_method_42_code (7 : Nat) (Option.none : Option Jvm.ClassFile.FieldType))) ∈ tb := mt 1452 (by decide +kernel) rfl
theorem k_1453 : ((Jvm.Cond.methodLink "SignMachineModel" (231 : Nat) ({ cls := "SignMachineModel", name := "change", desc := "(I)V" } : Jvm.MethodName))) ∈ tb := mt 1453 (by decide +kernel) rfl
theorem k_1455 : ((Jvm.Cond.instanceMethod ({ cls := "SignMachineModel", name := "change", desc := "(I)V" } : Jvm.MethodName))) ∈ tb := mt 1455 (by decide +kernel) rfl
theorem k_1456 : ((Jvm.Cond.code ({ cls := "SignMachineModel", name := "change", desc := "(I)V" } : Jvm.MethodName) prog_11_method_41_code (2 : Nat) (Option.none : Option Jvm.ClassFile.FieldType))) ∈ tb := mt 1456 (by decide +kernel) rfl
theorem k_1457 : ((Jvm.Cond.methodLink "SignMachineModel" (214 : Nat) ({ cls := "SignMachineModel", name := "add", desc := "(III)V" } : Jvm.MethodName))) ∈ tb := mt 1457 (by decide +kernel) rfl
theorem k_1459 : ((Jvm.Cond.instanceMethod ({ cls := "SignMachineModel", name := "add", desc := "(III)V" } : Jvm.MethodName))) ∈ tb := mt 1459 (by decide +kernel) rfl
theorem k_1460 : ((Jvm.Cond.code ({ cls := "SignMachineModel", name := "add", desc := "(III)V" } : Jvm.MethodName) prog_11_method_28_code (10 : Nat) (Option.none : Option Jvm.ClassFile.FieldType))) ∈ tb := mt 1460 (by decide +kernel) rfl
theorem k_1461 : ((Jvm.Cond.constantLong "SignMachineModel" (199 : Nat) (1073741824 : Int64))) ∈ tb := mt 1461 (by decide +kernel) rfl
theorem k_1462 : ((Jvm.Cond.methodLink "SignMachineModel" (234 : Nat) ({ cls := "SignMachineModel", name := "doTape", desc := "()V" } : Jvm.MethodName))) ∈ tb := mt 1462 (by decide +kernel) rfl
theorem k_1464 : ((Jvm.Cond.instanceMethod ({ cls := "SignMachineModel", name := "doTape", desc := "()V" } : Jvm.MethodName))) ∈ tb := mt 1464 (by decide +kernel) rfl
theorem k_1465 : ((Jvm.Cond.code ({ cls := "SignMachineModel", name := "doTape", desc := "()V" } : Jvm.MethodName) prog_11_method_43_code (3 : Nat) (Option.none : Option Jvm.ClassFile.FieldType))) ∈ tb := mt 1465 (by decide +kernel) rfl
theorem k_1466 : ((Jvm.Cond.methodLink "SignMachineModel" (237 : Nat) ({ cls := "SignMachineModel", name := "store", desc := "(II)V" } : Jvm.MethodName))) ∈ tb := mt 1466 (by decide +kernel) rfl
theorem k_1468 : ((Jvm.Cond.instanceMethod ({ cls := "SignMachineModel", name := "store", desc := "(II)V" } : Jvm.MethodName))) ∈ tb := mt 1468 (by decide +kernel) rfl
theorem k_1469 : ((Jvm.Cond.code ({ cls := "SignMachineModel", name := "store", desc := "(II)V" } : Jvm.MethodName) prog_11_method_36_code (3 : Nat) (Option.none : Option Jvm.ClassFile.FieldType))) ∈ tb := mt 1469 (by decide +kernel) rfl
theorem k_1470 : ((Jvm.Cond.methodLink "SignMachineModel" (204 : Nat) ({ cls := "SignMachineModel", name := "stored", desc := "(III)I" } : Jvm.MethodName))) ∈ tb := mt 1470 (by decide +kernel) rfl
theorem k_1471 : ((Jvm.Cond.static ({ cls := "SignMachineModel", name := "stored", desc := "(III)I" } : Jvm.MethodName))) ∈ tb := mt 1471 (by decide +kernel) rfl
theorem k_1472 : ((Jvm.Cond.code ({ cls := "SignMachineModel", name := "stored", desc := "(III)I" } : Jvm.MethodName) prog_11_method_35_code (12 : Nat) (Option.some Jvm.ClassFile.FieldType.int))) ∈ tb := mt 1472 (by decide +kernel) rfl
theorem k_1473 : ((Jvm.Cond.constant "SignMachineModel" (203 : Nat) (1073741824 : Int32))) ∈ tb := mt 1473 (by decide +kernel) rfl
theorem k_1474 : ((Jvm.Cond.methodLink "SignMachineModel" (241 : Nat) ({ cls := "SignMachineModel", name := "doFirst", desc := "()V" } : Jvm.MethodName))) ∈ tb := mt 1474 (by decide +kernel) rfl
theorem k_1476 : ((Jvm.Cond.instanceMethod ({ cls := "SignMachineModel", name := "doFirst", desc := "()V" } : Jvm.MethodName))) ∈ tb := mt 1476 (by decide +kernel) rfl
theorem k_1477 : ((Jvm.Cond.code ({ cls := "SignMachineModel", name := "doFirst", desc := "()V" } : Jvm.MethodName) prog_11_method_45_code (1 : Nat) (Option.none : Option Jvm.ClassFile.FieldType))) ∈ tb := mt 1477 (by decide +kernel) rfl
theorem k_1478 : ((Jvm.Cond.methodLink "SignMachineModel" (244 : Nat) ({ cls := "SignMachineModel", name := "multiply", desc := "()V" } : Jvm.MethodName))) ∈ tb := mt 1478 (by decide +kernel) rfl
theorem k_1480 : ((Jvm.Cond.instanceMethod ({ cls := "SignMachineModel", name := "multiply", desc := "()V" } : Jvm.MethodName))) ∈ tb := mt 1480 (by decide +kernel) rfl
theorem k_1481 : ((Jvm.Cond.code ({ cls := "SignMachineModel", name := "multiply", desc := "()V" } : Jvm.MethodName) prog_11_method_29_code (4 : Nat) (Option.none : Option Jvm.ClassFile.FieldType))) ∈ tb := mt 1481 (by decide +kernel) rfl
theorem k_1482 : ((Jvm.Cond.methodLink "SignMachineModel" (247 : Nat) ({ cls := "SignMachineModel", name := "divide", desc := "()V" } : Jvm.MethodName))) ∈ tb := mt 1482 (by decide +kernel) rfl
theorem k_1484 : ((Jvm.Cond.instanceMethod ({ cls := "SignMachineModel", name := "divide", desc := "()V" } : Jvm.MethodName))) ∈ tb := mt 1484 (by decide +kernel) rfl
theorem k_1485 : ((Jvm.Cond.code ({ cls := "SignMachineModel", name := "divide", desc := "()V" } : Jvm.MethodName) prog_11_method_30_code (4 : Nat) (Option.none : Option Jvm.ClassFile.FieldType))) ∈ tb := mt 1485 (by decide +kernel) rfl
theorem k_1486 : ((Jvm.Cond.methodLink "SignMachineModel" (250 : Nat) ({ cls := "SignMachineModel", name := "digits", desc := "()V" } : Jvm.MethodName))) ∈ tb := mt 1486 (by decide +kernel) rfl
theorem k_1488 : ((Jvm.Cond.instanceMethod ({ cls := "SignMachineModel", name := "digits", desc := "()V" } : Jvm.MethodName))) ∈ tb := mt 1488 (by decide +kernel) rfl
theorem k_1489 : ((Jvm.Cond.code ({ cls := "SignMachineModel", name := "digits", desc := "()V" } : Jvm.MethodName) prog_11_method_31_code (5 : Nat) (Option.none : Option Jvm.ClassFile.FieldType))) ∈ tb := mt 1489 (by decide +kernel) rfl
theorem k_1490 : ((Jvm.Cond.constantLong "SignMachineModel" (201 : Nat) (10 : Int64))) ∈ tb := mt 1490 (by decide +kernel) rfl
theorem k_1491 : ((Jvm.Cond.methodLink "SignMachineModel" (253 : Nat) ({ cls := "SignMachineModel", name := "letters", desc := "()V" } : Jvm.MethodName))) ∈ tb := mt 1491 (by decide +kernel) rfl
theorem k_1493 : ((Jvm.Cond.instanceMethod ({ cls := "SignMachineModel", name := "letters", desc := "()V" } : Jvm.MethodName))) ∈ tb := mt 1493 (by decide +kernel) rfl
theorem k_1494 : ((Jvm.Cond.code ({ cls := "SignMachineModel", name := "letters", desc := "()V" } : Jvm.MethodName) prog_11_method_32_code (7 : Nat) (Option.none : Option Jvm.ClassFile.FieldType))) ∈ tb := mt 1494 (by decide +kernel) rfl
theorem k_1495 : ((Jvm.Cond.methodLink "SignMachineModel" (256 : Nat) ({ cls := "SignMachineModel", name := "shift", desc := "()V" } : Jvm.MethodName))) ∈ tb := mt 1495 (by decide +kernel) rfl
theorem k_1497 : ((Jvm.Cond.instanceMethod ({ cls := "SignMachineModel", name := "shift", desc := "()V" } : Jvm.MethodName))) ∈ tb := mt 1497 (by decide +kernel) rfl
theorem k_1498 : ((Jvm.Cond.code ({ cls := "SignMachineModel", name := "shift", desc := "()V" } : Jvm.MethodName) prog_11_method_33_code (7 : Nat) (Option.none : Option Jvm.ClassFile.FieldType))) ∈ tb := mt 1498 (by decide +kernel) rfl
theorem k_1499 : ((Jvm.Cond.methodLink "SignMachineModel" (259 : Nat) ({ cls := "SignMachineModel", name := "moveWords", desc := "()V" } : Jvm.MethodName))) ∈ tb := mt 1499 (by decide +kernel) rfl
theorem k_1501 : ((Jvm.Cond.instanceMethod ({ cls := "SignMachineModel", name := "moveWords", desc := "()V" } : Jvm.MethodName))) ∈ tb := mt 1501 (by decide +kernel) rfl
theorem k_1502 : ((Jvm.Cond.code ({ cls := "SignMachineModel", name := "moveWords", desc := "()V" } : Jvm.MethodName) prog_11_method_34_code (3 : Nat) (Option.none : Option Jvm.ClassFile.FieldType))) ∈ tb := mt 1502 (by decide +kernel) rfl
theorem k_1503 : ((Jvm.Cond.methodLink "SignMachineLaw" (35 : Nat) ({ cls := "SignMachineModel", name := "run", desc := "(I)I" } : Jvm.MethodName))) ∈ tb := mt 1503 (by decide +kernel) rfl
theorem k_1504 : ((Jvm.Cond.instanceMethod ({ cls := "SignMachineModel", name := "run", desc := "(I)I" } : Jvm.MethodName))) ∈ tb := mt 1504 (by decide +kernel) rfl
theorem k_1505 : ((Jvm.Cond.selects "SignMachineModel" ({ cls := "SignMachineModel", name := "run", desc := "(I)I" } : Jvm.MethodName) ({ cls := "SignMachineModel", name := "run", desc := "(I)I" } : Jvm.MethodName))) ∈ tb := mt 1505 (by decide +kernel) rfl
theorem k_1506 : ((Jvm.Cond.code ({ cls := "SignMachineModel", name := "run", desc := "(I)I" } : Jvm.MethodName) prog_11_method_48_code (3 : Nat) (Option.some Jvm.ClassFile.FieldType.int))) ∈ tb := mt 1506 (by decide +kernel) rfl
theorem k_1507 : ((Jvm.Cond.constantLong "SignMachineModel" (272 : Nat) (20000 : Int64))) ∈ tb := mt 1507 (by decide +kernel) rfl
theorem k_1508 : ((Jvm.Cond.methodLink "SignMachineLaw" (66 : Nat) ({ cls := "SignMachineModel", name := "feed", desc := "(IIIII)I" } : Jvm.MethodName))) ∈ tb := mt 1508 (by decide +kernel) rfl
theorem k_1509 : ((Jvm.Cond.instanceMethod ({ cls := "SignMachineModel", name := "feed", desc := "(IIIII)I" } : Jvm.MethodName))) ∈ tb := mt 1509 (by decide +kernel) rfl
theorem k_1510 : ((Jvm.Cond.selects "SignMachineModel" ({ cls := "SignMachineModel", name := "feed", desc := "(IIIII)I" } : Jvm.MethodName) ({ cls := "SignMachineModel", name := "feed", desc := "(IIIII)I" } : Jvm.MethodName))) ∈ tb := mt 1510 (by decide +kernel) rfl
theorem k_1511 : ((Jvm.Cond.code ({ cls := "SignMachineModel", name := "feed", desc := "(IIIII)I" } : Jvm.MethodName) prog_11_method_49_code (8 : Nat) (Option.some Jvm.ClassFile.FieldType.int))) ∈ tb := mt 1511 (by decide +kernel) rfl
theorem k_1512 : ((Jvm.Cond.methodLink "SignMachineLaw" (70 : Nat) ({ cls := "SignMachineModel", name := "end", desc := "(I)I" } : Jvm.MethodName))) ∈ tb := mt 1512 (by decide +kernel) rfl
theorem k_1513 : ((Jvm.Cond.instanceMethod ({ cls := "SignMachineModel", name := "end", desc := "(I)I" } : Jvm.MethodName))) ∈ tb := mt 1513 (by decide +kernel) rfl
theorem k_1514 : ((Jvm.Cond.selects "SignMachineModel" ({ cls := "SignMachineModel", name := "end", desc := "(I)I" } : Jvm.MethodName) ({ cls := "SignMachineModel", name := "end", desc := "(I)I" } : Jvm.MethodName))) ∈ tb := mt 1514 (by decide +kernel) rfl
theorem k_1515 : ((Jvm.Cond.code ({ cls := "SignMachineModel", name := "end", desc := "(I)I" } : Jvm.MethodName) prog_11_method_50_code (2 : Nat) (Option.some Jvm.ClassFile.FieldType.int))) ∈ tb := mt 1515 (by decide +kernel) rfl
theorem k_1516 : ((Jvm.Cond.constantLong "SignMachineModel" (277 : Nat) (20 : Int64))) ∈ tb := mt 1516 (by decide +kernel) rfl
theorem k_1517 : ((Jvm.Cond.methodLink "SignMachineLaw" (74 : Nat) ({ cls := "SignMachineModel", name := "assemble", desc := "()I" } : Jvm.MethodName))) ∈ tb := mt 1517 (by decide +kernel) rfl
theorem k_1518 : ((Jvm.Cond.instanceMethod ({ cls := "SignMachineModel", name := "assemble", desc := "()I" } : Jvm.MethodName))) ∈ tb := mt 1518 (by decide +kernel) rfl
theorem k_1519 : ((Jvm.Cond.selects "SignMachineModel" ({ cls := "SignMachineModel", name := "assemble", desc := "()I" } : Jvm.MethodName) ({ cls := "SignMachineModel", name := "assemble", desc := "()I" } : Jvm.MethodName))) ∈ tb := mt 1519 (by decide +kernel) rfl
theorem k_1520 : ((Jvm.Cond.code ({ cls := "SignMachineModel", name := "assemble", desc := "()I" } : Jvm.MethodName) prog_11_method_86_code (2 : Nat) (Option.some Jvm.ClassFile.FieldType.int))) ∈ tb := mt 1520 (by decide +kernel) rfl
theorem k_1521 : ((Jvm.Cond.methodLink "SignMachineModel" (565 : Nat) ({ cls := "SignMachineModel", name := "readText", desc := "()V" } : Jvm.MethodName))) ∈ tb := mt 1521 (by decide +kernel) rfl
theorem k_1523 : ((Jvm.Cond.instanceMethod ({ cls := "SignMachineModel", name := "readText", desc := "()V" } : Jvm.MethodName))) ∈ tb := mt 1523 (by decide +kernel) rfl
theorem k_1524 : ((Jvm.Cond.code ({ cls := "SignMachineModel", name := "readText", desc := "()V" } : Jvm.MethodName) prog_11_method_85_code (2 : Nat) (Option.none : Option Jvm.ClassFile.FieldType))) ∈ tb := mt 1524 (by decide +kernel) rfl
theorem k_1525 : ((Jvm.Cond.methodLink "SignMachineModel" (556 : Nat) ({ cls := "SignMachineModel", name := "isNothing", desc := "()Z" } : Jvm.MethodName))) ∈ tb := mt 1525 (by decide +kernel) rfl
theorem k_1527 : ((Jvm.Cond.instanceMethod ({ cls := "SignMachineModel", name := "isNothing", desc := "()Z" } : Jvm.MethodName))) ∈ tb := mt 1527 (by decide +kernel) rfl
theorem k_1528 : ((Jvm.Cond.code ({ cls := "SignMachineModel", name := "isNothing", desc := "()Z" } : Jvm.MethodName) prog_11_method_83_code (3 : Nat) (Option.some Jvm.ClassFile.FieldType.boolean))) ∈ tb := mt 1528 (by decide +kernel) rfl
theorem k_1529 : ((Jvm.Cond.methodLink "SignMachineModel" (559 : Nat) ({ cls := "SignMachineModel", name := "readLine", desc := "()V" } : Jvm.MethodName))) ∈ tb := mt 1529 (by decide +kernel) rfl
theorem k_1531 : ((Jvm.Cond.instanceMethod ({ cls := "SignMachineModel", name := "readLine", desc := "()V" } : Jvm.MethodName))) ∈ tb := mt 1531 (by decide +kernel) rfl
theorem k_1532 : ((Jvm.Cond.code ({ cls := "SignMachineModel", name := "readLine", desc := "()V" } : Jvm.MethodName) prog_11_method_82_code (8 : Nat) (Option.none : Option Jvm.ClassFile.FieldType))) ∈ tb := mt 1532 (by decide +kernel) rfl
theorem k_1533 : ((Jvm.Cond.methodLink "SignMachineModel" (520 : Nat) ({ cls := "SignMachineModel", name := "readLabel", desc := "()V" } : Jvm.MethodName))) ∈ tb := mt 1533 (by decide +kernel) rfl
theorem k_1535 : ((Jvm.Cond.instanceMethod ({ cls := "SignMachineModel", name := "readLabel", desc := "()V" } : Jvm.MethodName))) ∈ tb := mt 1535 (by decide +kernel) rfl
theorem k_1536 : ((Jvm.Cond.code ({ cls := "SignMachineModel", name := "readLabel", desc := "()V" } : Jvm.MethodName) prog_11_method_76_code (2 : Nat) (Option.none : Option Jvm.ClassFile.FieldType))) ∈ tb := mt 1536 (by decide +kernel) rfl
theorem k_1537 : ((Jvm.Cond.methodLink "SignMachineModel" (288 : Nat) ({ cls := "SignMachineModel", name := "here", desc := "()I" } : Jvm.MethodName))) ∈ tb := mt 1537 (by decide +kernel) rfl
theorem k_1539 : ((Jvm.Cond.instanceMethod ({ cls := "SignMachineModel", name := "here", desc := "()I" } : Jvm.MethodName))) ∈ tb := mt 1539 (by decide +kernel) rfl
theorem k_1540 : ((Jvm.Cond.code ({ cls := "SignMachineModel", name := "here", desc := "()I" } : Jvm.MethodName) prog_11_method_52_code (1 : Nat) (Option.some Jvm.ClassFile.FieldType.int))) ∈ tb := mt 1540 (by decide +kernel) rfl
theorem k_1541 : ((Jvm.Cond.methodLink "SignMachineModel" (324 : Nat) ({ cls := "SignMachineModel", name := "readName", desc := "()V" } : Jvm.MethodName))) ∈ tb := mt 1541 (by decide +kernel) rfl
theorem k_1543 : ((Jvm.Cond.instanceMethod ({ cls := "SignMachineModel", name := "readName", desc := "()V" } : Jvm.MethodName))) ∈ tb := mt 1543 (by decide +kernel) rfl
theorem k_1544 : ((Jvm.Cond.code ({ cls := "SignMachineModel", name := "readName", desc := "()V" } : Jvm.MethodName) prog_11_method_55_code (9 : Nat) (Option.none : Option Jvm.ClassFile.FieldType))) ∈ tb := mt 1544 (by decide +kernel) rfl
theorem k_1545 : ((Jvm.Cond.methodLink "SignMachineModel" (291 : Nat) ({ cls := "SignMachineModel", name := "isLetter", desc := "(I)Z" } : Jvm.MethodName))) ∈ tb := mt 1545 (by decide +kernel) rfl
theorem k_1546 : ((Jvm.Cond.static ({ cls := "SignMachineModel", name := "isLetter", desc := "(I)Z" } : Jvm.MethodName))) ∈ tb := mt 1546 (by decide +kernel) rfl
theorem k_1547 : ((Jvm.Cond.code ({ cls := "SignMachineModel", name := "isLetter", desc := "(I)Z" } : Jvm.MethodName) prog_11_method_53_code (1 : Nat) (Option.some Jvm.ClassFile.FieldType.boolean))) ∈ tb := mt 1547 (by decide +kernel) rfl
theorem k_1548 : ((Jvm.Cond.methodLink "SignMachineModel" (294 : Nat) ({ cls := "SignMachineModel", name := "isDigit", desc := "(I)Z" } : Jvm.MethodName))) ∈ tb := mt 1548 (by decide +kernel) rfl
theorem k_1549 : ((Jvm.Cond.static ({ cls := "SignMachineModel", name := "isDigit", desc := "(I)Z" } : Jvm.MethodName))) ∈ tb := mt 1549 (by decide +kernel) rfl
theorem k_1550 : ((Jvm.Cond.code ({ cls := "SignMachineModel", name := "isDigit", desc := "(I)Z" } : Jvm.MethodName) prog_11_method_54_code (1 : Nat) (Option.some Jvm.ClassFile.FieldType.boolean))) ∈ tb := mt 1550 (by decide +kernel) rfl
theorem k_1551 : ((Jvm.Cond.constantLong "SignMachineModel" (297 : Nat) (48 : Int64))) ∈ tb := mt 1551 (by decide +kernel) rfl
theorem k_1552 : ((Jvm.Cond.methodLink "SignMachineModel" (299 : Nat) ({ cls := "SignMachineModel", name := "bad", desc := "(I)V" } : Jvm.MethodName))) ∈ tb := mt 1552 (by decide +kernel) rfl
theorem k_1554 : ((Jvm.Cond.instanceMethod ({ cls := "SignMachineModel", name := "bad", desc := "(I)V" } : Jvm.MethodName))) ∈ tb := mt 1554 (by decide +kernel) rfl
theorem k_1555 : ((Jvm.Cond.code ({ cls := "SignMachineModel", name := "bad", desc := "(I)V" } : Jvm.MethodName) prog_11_method_51_code (2 : Nat) (Option.none : Option Jvm.ClassFile.FieldType))) ∈ tb := mt 1555 (by decide +kernel) rfl
theorem k_1556 : ((Jvm.Cond.methodLink "SignMachineModel" (523 : Nat) ({ cls := "SignMachineModel", name := "skipBlanks", desc := "()V" } : Jvm.MethodName))) ∈ tb := mt 1556 (by decide +kernel) rfl
theorem k_1558 : ((Jvm.Cond.instanceMethod ({ cls := "SignMachineModel", name := "skipBlanks", desc := "()V" } : Jvm.MethodName))) ∈ tb := mt 1558 (by decide +kernel) rfl
theorem k_1559 : ((Jvm.Cond.code ({ cls := "SignMachineModel", name := "skipBlanks", desc := "()V" } : Jvm.MethodName) prog_11_method_78_code (1 : Nat) (Option.none : Option Jvm.ClassFile.FieldType))) ∈ tb := mt 1559 (by decide +kernel) rfl
theorem k_1560 : ((Jvm.Cond.constantLong "SignMachineModel" (526 : Nat) (-1 : Int64))) ∈ tb := mt 1560 (by decide +kernel) rfl
theorem k_1561 : ((Jvm.Cond.constantLong "SignMachineModel" (528 : Nat) (4542805 : Int64))) ∈ tb := mt 1561 (by decide +kernel) rfl
theorem k_1562 : ((Jvm.Cond.constantLong "SignMachineModel" (530 : Nat) (1330792775 : Int64))) ∈ tb := mt 1562 (by decide +kernel) rfl
theorem k_1563 : ((Jvm.Cond.constantLong "SignMachineModel" (532 : Nat) (4411214 : Int64))) ∈ tb := mt 1563 (by decide +kernel) rfl
theorem k_1564 : ((Jvm.Cond.constantLong "SignMachineModel" (534 : Nat) (4279366 : Int64))) ∈ tb := mt 1564 (by decide +kernel) rfl
theorem k_1565 : ((Jvm.Cond.constantLong "SignMachineModel" (536 : Nat) (4542020 : Int64))) ∈ tb := mt 1565 (by decide +kernel) rfl
theorem k_1566 : ((Jvm.Cond.methodLink "SignMachineModel" (538 : Nat) ({ cls := "SignMachineModel", name := "opOf", desc := "(II)I" } : Jvm.MethodName))) ∈ tb := mt 1566 (by decide +kernel) rfl
theorem k_1568 : ((Jvm.Cond.instanceMethod ({ cls := "SignMachineModel", name := "opOf", desc := "(II)I" } : Jvm.MethodName))) ∈ tb := mt 1568 (by decide +kernel) rfl
theorem k_1569 : ((Jvm.Cond.code ({ cls := "SignMachineModel", name := "opOf", desc := "(II)I" } : Jvm.MethodName) prog_11_method_74_code (12 : Nat) (Option.some Jvm.ClassFile.FieldType.int))) ∈ tb := mt 1569 (by decide +kernel) rfl
theorem k_1570 : ((Jvm.Cond.methodLink "SignMachineModel" (474 : Nat) ({ cls := "SignMachineModel", name := "plainOps", desc := "(J)I" } : Jvm.MethodName))) ∈ tb := mt 1570 (by decide +kernel) rfl
theorem k_1571 : ((Jvm.Cond.static ({ cls := "SignMachineModel", name := "plainOps", desc := "(J)I" } : Jvm.MethodName))) ∈ tb := mt 1571 (by decide +kernel) rfl
theorem k_1572 : ((Jvm.Cond.code ({ cls := "SignMachineModel", name := "plainOps", desc := "(J)I" } : Jvm.MethodName) prog_11_method_71_code (3 : Nat) (Option.some Jvm.ClassFile.FieldType.int))) ∈ tb := mt 1572 (by decide +kernel) rfl
theorem k_1573 : ((Jvm.Cond.constantLong "SignMachineModel" (398 : Nat) (5132112 : Int64))) ∈ tb := mt 1573 (by decide +kernel) rfl
theorem k_1574 : ((Jvm.Cond.constantLong "SignMachineModel" (400 : Nat) (4277316 : Int64))) ∈ tb := mt 1574 (by decide +kernel) rfl
theorem k_1575 : ((Jvm.Cond.constantLong "SignMachineModel" (402 : Nat) (5461314 : Int64))) ∈ tb := mt 1575 (by decide +kernel) rfl
theorem k_1576 : ((Jvm.Cond.constantLong "SignMachineModel" (404 : Nat) (5068108 : Int64))) ∈ tb := mt 1576 (by decide +kernel) rfl
theorem k_1577 : ((Jvm.Cond.constantLong "SignMachineModel" (406 : Nat) (4475222 : Int64))) ∈ tb := mt 1577 (by decide +kernel) rfl
theorem k_1578 : ((Jvm.Cond.constantLong "SignMachineModel" (408 : Nat) (5133645 : Int64))) ∈ tb := mt 1578 (by decide +kernel) rfl
theorem k_1579 : ((Jvm.Cond.constantLong "SignMachineModel" (410 : Nat) (1128808786 : Int64))) ∈ tb := mt 1579 (by decide +kernel) rfl
theorem k_1580 : ((Jvm.Cond.constantLong "SignMachineModel" (412 : Nat) (4738132 : Int64))) ∈ tb := mt 1580 (by decide +kernel) rfl
theorem k_1581 : ((Jvm.Cond.constantLong "SignMachineModel" (414 : Nat) (5459009 : Int64))) ∈ tb := mt 1581 (by decide +kernel) rfl
theorem k_1582 : ((Jvm.Cond.constantLong "SignMachineModel" (416 : Nat) (5460545 : Int64))) ∈ tb := mt 1582 (by decide +kernel) rfl
theorem k_1583 : ((Jvm.Cond.constantLong "SignMachineModel" (418 : Nat) (1397506392 : Int64))) ∈ tb := mt 1583 (by decide +kernel) rfl
theorem k_1584 : ((Jvm.Cond.constantLong "SignMachineModel" (420 : Nat) (1397899608 : Int64))) ∈ tb := mt 1584 (by decide +kernel) rfl
theorem k_1585 : ((Jvm.Cond.constantLong "SignMachineModel" (422 : Nat) (5459011 : Int64))) ∈ tb := mt 1585 (by decide +kernel) rfl
theorem k_1586 : ((Jvm.Cond.constantLong "SignMachineModel" (424 : Nat) (5460547 : Int64))) ∈ tb := mt 1586 (by decide +kernel) rfl
theorem k_1587 : ((Jvm.Cond.constantLong "SignMachineModel" (426 : Nat) (1297045061 : Int64))) ∈ tb := mt 1587 (by decide +kernel) rfl
theorem k_1588 : ((Jvm.Cond.constantLong "SignMachineModel" (428 : Nat) (5461066 : Int64))) ∈ tb := mt 1588 (by decide +kernel) rfl
theorem k_1589 : ((Jvm.Cond.constantLong "SignMachineModel" (430 : Nat) (5461082 : Int64))) ∈ tb := mt 1589 (by decide +kernel) rfl
theorem k_1590 : ((Jvm.Cond.constantLong "SignMachineModel" (432 : Nat) (1245861203 : Int64))) ∈ tb := mt 1590 (by decide +kernel) rfl
theorem k_1591 : ((Jvm.Cond.constantLong "SignMachineModel" (434 : Nat) (4804419 : Int64))) ∈ tb := mt 1591 (by decide +kernel) rfl
theorem k_1592 : ((Jvm.Cond.constantLong "SignMachineModel" (436 : Nat) (18766 : Int64))) ∈ tb := mt 1592 (by decide +kernel) rfl
theorem k_1593 : ((Jvm.Cond.constantLong "SignMachineModel" (438 : Nat) (5199188 : Int64))) ∈ tb := mt 1593 (by decide +kernel) rfl
theorem k_1594 : ((Jvm.Cond.constantLong "SignMachineModel" (440 : Nat) (1246905668 : Int64))) ∈ tb := mt 1594 (by decide +kernel) rfl
theorem k_1595 : ((Jvm.Cond.constantLong "SignMachineModel" (442 : Nat) (4869456 : Int64))) ∈ tb := mt 1595 (by decide +kernel) rfl
theorem k_1596 : ((Jvm.Cond.constantLong "SignMachineModel" (444 : Nat) (4870986 : Int64))) ∈ tb := mt 1596 (by decide +kernel) rfl
theorem k_1597 : ((Jvm.Cond.constantLong "SignMachineModel" (446 : Nat) (4869974 : Int64))) ∈ tb := mt 1597 (by decide +kernel) rfl
theorem k_1598 : ((Jvm.Cond.constantLong "SignMachineModel" (448 : Nat) (1246646102 : Int64))) ∈ tb := mt 1598 (by decide +kernel) rfl
theorem k_1599 : ((Jvm.Cond.constantLong "SignMachineModel" (450 : Nat) (19020 : Int64))) ∈ tb := mt 1599 (by decide +kernel) rfl
theorem k_1600 : ((Jvm.Cond.constantLong "SignMachineModel" (452 : Nat) (19013 : Int64))) ∈ tb := mt 1600 (by decide +kernel) rfl
theorem k_1601 : ((Jvm.Cond.constantLong "SignMachineModel" (454 : Nat) (19015 : Int64))) ∈ tb := mt 1601 (by decide +kernel) rfl
theorem k_1602 : ((Jvm.Cond.constantLong "SignMachineModel" (456 : Nat) (4867909 : Int64))) ∈ tb := mt 1602 (by decide +kernel) rfl
theorem k_1603 : ((Jvm.Cond.constantLong "SignMachineModel" (458 : Nat) (4869701 : Int64))) ∈ tb := mt 1603 (by decide +kernel) rfl
theorem k_1604 : ((Jvm.Cond.constantLong "SignMachineModel" (460 : Nat) (4869189 : Int64))) ∈ tb := mt 1604 (by decide +kernel) rfl
theorem k_1605 : ((Jvm.Cond.methodLink "SignMachineModel" (477 : Nat) ({ cls := "SignMachineModel", name := "registerOf", desc := "(I)I" } : Jvm.MethodName))) ∈ tb := mt 1605 (by decide +kernel) rfl
theorem k_1606 : ((Jvm.Cond.static ({ cls := "SignMachineModel", name := "registerOf", desc := "(I)I" } : Jvm.MethodName))) ∈ tb := mt 1606 (by decide +kernel) rfl
theorem k_1607 : ((Jvm.Cond.code ({ cls := "SignMachineModel", name := "registerOf", desc := "(I)I" } : Jvm.MethodName) prog_11_method_72_code (1 : Nat) (Option.some Jvm.ClassFile.FieldType.int))) ∈ tb := mt 1607 (by decide +kernel) rfl
theorem k_1608 : ((Jvm.Cond.methodLink "SignMachineModel" (480 : Nat) ({ cls := "SignMachineModel", name := "jumpOf", desc := "(J)I" } : Jvm.MethodName))) ∈ tb := mt 1608 (by decide +kernel) rfl
theorem k_1609 : ((Jvm.Cond.static ({ cls := "SignMachineModel", name := "jumpOf", desc := "(J)I" } : Jvm.MethodName))) ∈ tb := mt 1609 (by decide +kernel) rfl
theorem k_1610 : ((Jvm.Cond.code ({ cls := "SignMachineModel", name := "jumpOf", desc := "(J)I" } : Jvm.MethodName) prog_11_method_73_code (2 : Nat) (Option.some Jvm.ClassFile.FieldType.int))) ∈ tb := mt 1610 (by decide +kernel) rfl
theorem k_1611 : ((Jvm.Cond.constantLong "SignMachineModel" (462 : Nat) (78 : Int64))) ∈ tb := mt 1611 (by decide +kernel) rfl
theorem k_1612 : ((Jvm.Cond.constantLong "SignMachineModel" (464 : Nat) (90 : Int64))) ∈ tb := mt 1612 (by decide +kernel) rfl
theorem k_1613 : ((Jvm.Cond.constantLong "SignMachineModel" (466 : Nat) (80 : Int64))) ∈ tb := mt 1613 (by decide +kernel) rfl
theorem k_1614 : ((Jvm.Cond.constantLong "SignMachineModel" (468 : Nat) (20046 : Int64))) ∈ tb := mt 1614 (by decide +kernel) rfl
theorem k_1615 : ((Jvm.Cond.constantLong "SignMachineModel" (470 : Nat) (20058 : Int64))) ∈ tb := mt 1615 (by decide +kernel) rfl
theorem k_1616 : ((Jvm.Cond.constantLong "SignMachineModel" (472 : Nat) (20048 : Int64))) ∈ tb := mt 1616 (by decide +kernel) rfl
theorem k_1617 : ((Jvm.Cond.constantLong "SignMachineModel" (483 : Nat) (4804163 : Int64))) ∈ tb := mt 1617 (by decide +kernel) rfl
theorem k_1618 : ((Jvm.Cond.constantLong "SignMachineModel" (485 : Nat) (4474179 : Int64))) ∈ tb := mt 1618 (by decide +kernel) rfl
theorem k_1619 : ((Jvm.Cond.constantLong "SignMachineModel" (487 : Nat) (4542036 : Int64))) ∈ tb := mt 1619 (by decide +kernel) rfl
theorem k_1620 : ((Jvm.Cond.constantLong "SignMachineModel" (489 : Nat) (4542030 : Int64))) ∈ tb := mt 1620 (by decide +kernel) rfl
theorem k_1621 : ((Jvm.Cond.constantLong "SignMachineModel" (491 : Nat) (4410704 : Int64))) ∈ tb := mt 1621 (by decide +kernel) rfl
theorem k_1622 : ((Jvm.Cond.methodLink "SignMachineModel" (541 : Nat) ({ cls := "SignMachineModel", name := "tellLabel", desc := "(J)V" } : Jvm.MethodName))) ∈ tb := mt 1622 (by decide +kernel) rfl
theorem k_1624 : ((Jvm.Cond.instanceMethod ({ cls := "SignMachineModel", name := "tellLabel", desc := "(J)V" } : Jvm.MethodName))) ∈ tb := mt 1624 (by decide +kernel) rfl
theorem k_1625 : ((Jvm.Cond.code ({ cls := "SignMachineModel", name := "tellLabel", desc := "(J)V" } : Jvm.MethodName) prog_11_method_77_code (4 : Nat) (Option.none : Option Jvm.ClassFile.FieldType))) ∈ tb := mt 1625 (by decide +kernel) rfl
theorem k_1626 : ((Jvm.Cond.methodLink "SignMachineModel" (327 : Nat) ({ cls := "SignMachineModel", name := "findSymbol", desc := "(J)I" } : Jvm.MethodName))) ∈ tb := mt 1626 (by decide +kernel) rfl
theorem k_1628 : ((Jvm.Cond.instanceMethod ({ cls := "SignMachineModel", name := "findSymbol", desc := "(J)I" } : Jvm.MethodName))) ∈ tb := mt 1628 (by decide +kernel) rfl
theorem k_1629 : ((Jvm.Cond.code ({ cls := "SignMachineModel", name := "findSymbol", desc := "(J)I" } : Jvm.MethodName) prog_11_method_56_code (4 : Nat) (Option.some Jvm.ClassFile.FieldType.int))) ∈ tb := mt 1629 (by decide +kernel) rfl
theorem k_1630 : ((Jvm.Cond.methodLink "SignMachineModel" (359 : Nat) ({ cls := "SignMachineModel", name := "newSymbol", desc := "(J)I" } : Jvm.MethodName))) ∈ tb := mt 1630 (by decide +kernel) rfl
theorem k_1632 : ((Jvm.Cond.instanceMethod ({ cls := "SignMachineModel", name := "newSymbol", desc := "(J)I" } : Jvm.MethodName))) ∈ tb := mt 1632 (by decide +kernel) rfl
theorem k_1633 : ((Jvm.Cond.code ({ cls := "SignMachineModel", name := "newSymbol", desc := "(J)I" } : Jvm.MethodName) prog_11_method_57_code (3 : Nat) (Option.some Jvm.ClassFile.FieldType.int))) ∈ tb := mt 1633 (by decide +kernel) rfl
theorem k_1634 : ((Jvm.Cond.methodLink "SignMachineModel" (544 : Nat) ({ cls := "SignMachineModel", name := "readAlf", desc := "()V" } : Jvm.MethodName))) ∈ tb := mt 1634 (by decide +kernel) rfl
theorem k_1636 : ((Jvm.Cond.instanceMethod ({ cls := "SignMachineModel", name := "readAlf", desc := "()V" } : Jvm.MethodName))) ∈ tb := mt 1636 (by decide +kernel) rfl
theorem k_1637 : ((Jvm.Cond.code ({ cls := "SignMachineModel", name := "readAlf", desc := "()V" } : Jvm.MethodName) prog_11_method_79_code (5 : Nat) (Option.none : Option Jvm.ClassFile.FieldType))) ∈ tb := mt 1637 (by decide +kernel) rfl
theorem k_1638 : ((Jvm.Cond.methodLink "SignMachineModel" (505 : Nat) ({ cls := "SignMachineModel", name := "codeOf", desc := "(I)I" } : Jvm.MethodName))) ∈ tb := mt 1638 (by decide +kernel) rfl
theorem k_1639 : ((Jvm.Cond.static ({ cls := "SignMachineModel", name := "codeOf", desc := "(I)I" } : Jvm.MethodName))) ∈ tb := mt 1639 (by decide +kernel) rfl
theorem k_1640 : ((Jvm.Cond.code ({ cls := "SignMachineModel", name := "codeOf", desc := "(I)I" } : Jvm.MethodName) prog_11_method_75_code (3 : Nat) (Option.some Jvm.ClassFile.FieldType.int))) ∈ tb := mt 1640 (by decide +kernel) rfl
theorem k_1641 : ((Jvm.Cond.methodLink "SignMachineModel" (388 : Nat) ({ cls := "SignMachineModel", name := "comes", desc := "(II)I" } : Jvm.MethodName))) ∈ tb := mt 1641 (by decide +kernel) rfl
theorem k_1643 : ((Jvm.Cond.instanceMethod ({ cls := "SignMachineModel", name := "comes", desc := "(II)I" } : Jvm.MethodName))) ∈ tb := mt 1643 (by decide +kernel) rfl
theorem k_1644 : ((Jvm.Cond.code ({ cls := "SignMachineModel", name := "comes", desc := "(II)I" } : Jvm.MethodName) prog_11_method_66_code (3 : Nat) (Option.some Jvm.ClassFile.FieldType.int))) ∈ tb := mt 1644 (by decide +kernel) rfl
theorem k_1645 : ((Jvm.Cond.methodLink "SignMachineModel" (508 : Nat) ({ cls := "SignMachineModel", name := "wholeWord", desc := "()V" } : Jvm.MethodName))) ∈ tb := mt 1645 (by decide +kernel) rfl
theorem k_1647 : ((Jvm.Cond.instanceMethod ({ cls := "SignMachineModel", name := "wholeWord", desc := "()V" } : Jvm.MethodName))) ∈ tb := mt 1647 (by decide +kernel) rfl
theorem k_1648 : ((Jvm.Cond.code ({ cls := "SignMachineModel", name := "wholeWord", desc := "()V" } : Jvm.MethodName) prog_11_method_80_code (1 : Nat) (Option.none : Option Jvm.ClassFile.FieldType))) ∈ tb := mt 1648 (by decide +kernel) rfl
theorem k_1649 : ((Jvm.Cond.methodLink "SignMachineModel" (372 : Nat) ({ cls := "SignMachineModel", name := "readWord", desc := "()V" } : Jvm.MethodName))) ∈ tb := mt 1649 (by decide +kernel) rfl
theorem k_1651 : ((Jvm.Cond.instanceMethod ({ cls := "SignMachineModel", name := "readWord", desc := "()V" } : Jvm.MethodName))) ∈ tb := mt 1651 (by decide +kernel) rfl
theorem k_1652 : ((Jvm.Cond.code ({ cls := "SignMachineModel", name := "readWord", desc := "()V" } : Jvm.MethodName) prog_11_method_64_code (7 : Nat) (Option.none : Option Jvm.ClassFile.FieldType))) ∈ tb := mt 1652 (by decide +kernel) rfl
theorem k_1653 : ((Jvm.Cond.methodLink "SignMachineModel" (347 : Nat) ({ cls := "SignMachineModel", name := "expression", desc := "()J" } : Jvm.MethodName))) ∈ tb := mt 1653 (by decide +kernel) rfl
theorem k_1655 : ((Jvm.Cond.instanceMethod ({ cls := "SignMachineModel", name := "expression", desc := "()J" } : Jvm.MethodName))) ∈ tb := mt 1655 (by decide +kernel) rfl
theorem k_1656 : ((Jvm.Cond.code ({ cls := "SignMachineModel", name := "expression", desc := "()J" } : Jvm.MethodName) prog_11_method_61_code (4 : Nat) (Option.some Jvm.ClassFile.FieldType.long))) ∈ tb := mt 1656 (by decide +kernel) rfl
theorem k_1657 : ((Jvm.Cond.methodLink "SignMachineModel" (331 : Nat) ({ cls := "SignMachineModel", name := "atom", desc := "()J" } : Jvm.MethodName))) ∈ tb := mt 1657 (by decide +kernel) rfl
theorem k_1659 : ((Jvm.Cond.instanceMethod ({ cls := "SignMachineModel", name := "atom", desc := "()J" } : Jvm.MethodName))) ∈ tb := mt 1659 (by decide +kernel) rfl
theorem k_1660 : ((Jvm.Cond.code ({ cls := "SignMachineModel", name := "atom", desc := "()J" } : Jvm.MethodName) prog_11_method_59_code (2 : Nat) (Option.some Jvm.ClassFile.FieldType.long))) ∈ tb := mt 1660 (by decide +kernel) rfl
theorem k_1661 : ((Jvm.Cond.methodLink "SignMachineModel" (320 : Nat) ({ cls := "SignMachineModel", name := "looked", desc := "(J)J" } : Jvm.MethodName))) ∈ tb := mt 1661 (by decide +kernel) rfl
theorem k_1663 : ((Jvm.Cond.instanceMethod ({ cls := "SignMachineModel", name := "looked", desc := "(J)J" } : Jvm.MethodName))) ∈ tb := mt 1663 (by decide +kernel) rfl
theorem k_1664 : ((Jvm.Cond.code ({ cls := "SignMachineModel", name := "looked", desc := "(J)J" } : Jvm.MethodName) prog_11_method_58_code (3 : Nat) (Option.some Jvm.ClassFile.FieldType.long))) ∈ tb := mt 1664 (by decide +kernel) rfl
theorem k_1665 : ((Jvm.Cond.constantLong "SignMachineModel" (315 : Nat) (-1073741824 : Int64))) ∈ tb := mt 1665 (by decide +kernel) rfl
theorem k_1666 : ((Jvm.Cond.methodLink "SignMachineModel" (335 : Nat) ({ cls := "SignMachineModel", name := "behindAtom", desc := "(J)J" } : Jvm.MethodName))) ∈ tb := mt 1666 (by decide +kernel) rfl
theorem k_1668 : ((Jvm.Cond.instanceMethod ({ cls := "SignMachineModel", name := "behindAtom", desc := "(J)J" } : Jvm.MethodName))) ∈ tb := mt 1668 (by decide +kernel) rfl
theorem k_1669 : ((Jvm.Cond.code ({ cls := "SignMachineModel", name := "behindAtom", desc := "(J)J" } : Jvm.MethodName) prog_11_method_62_code (8 : Nat) (Option.some Jvm.ClassFile.FieldType.long))) ∈ tb := mt 1669 (by decide +kernel) rfl
theorem k_1670 : ((Jvm.Cond.methodLink "SignMachineModel" (338 : Nat) ({ cls := "SignMachineModel", name := "isOperator", desc := "(I)Z" } : Jvm.MethodName))) ∈ tb := mt 1670 (by decide +kernel) rfl
theorem k_1671 : ((Jvm.Cond.static ({ cls := "SignMachineModel", name := "isOperator", desc := "(I)Z" } : Jvm.MethodName))) ∈ tb := mt 1671 (by decide +kernel) rfl
theorem k_1672 : ((Jvm.Cond.code ({ cls := "SignMachineModel", name := "isOperator", desc := "(I)Z" } : Jvm.MethodName) prog_11_method_60_code (1 : Nat) (Option.some Jvm.ClassFile.FieldType.boolean))) ∈ tb := mt 1672 (by decide +kernel) rfl
theorem k_1673 : ((Jvm.Cond.constantLong "SignMachineModel" (350 : Nat) (5 : Int64))) ∈ tb := mt 1673 (by decide +kernel) rfl
theorem k_1674 : ((Jvm.Cond.methodLink "SignMachineModel" (352 : Nat) ({ cls := "SignMachineModel", name := "take", desc := "(I)V" } : Jvm.MethodName))) ∈ tb := mt 1674 (by decide +kernel) rfl
theorem k_1676 : ((Jvm.Cond.instanceMethod ({ cls := "SignMachineModel", name := "take", desc := "(I)V" } : Jvm.MethodName))) ∈ tb := mt 1676 (by decide +kernel) rfl
theorem k_1677 : ((Jvm.Cond.code ({ cls := "SignMachineModel", name := "take", desc := "(I)V" } : Jvm.MethodName) prog_11_method_63_code (2 : Nat) (Option.none : Option Jvm.ClassFile.FieldType))) ∈ tb := mt 1677 (by decide +kernel) rfl
theorem k_1678 : ((Jvm.Cond.constantLong "SignMachineModel" (354 : Nat) (63 : Int64))) ∈ tb := mt 1678 (by decide +kernel) rfl
theorem k_1679 : ((Jvm.Cond.methodLink "SignMachineModel" (511 : Nat) ({ cls := "SignMachineModel", name := "wordValue", desc := "()J" } : Jvm.MethodName))) ∈ tb := mt 1679 (by decide +kernel) rfl
theorem k_1681 : ((Jvm.Cond.instanceMethod ({ cls := "SignMachineModel", name := "wordValue", desc := "()J" } : Jvm.MethodName))) ∈ tb := mt 1681 (by decide +kernel) rfl
theorem k_1682 : ((Jvm.Cond.code ({ cls := "SignMachineModel", name := "wordValue", desc := "()J" } : Jvm.MethodName) prog_11_method_65_code (1 : Nat) (Option.some Jvm.ClassFile.FieldType.long))) ∈ tb := mt 1682 (by decide +kernel) rfl
theorem k_1683 : ((Jvm.Cond.methodLink "SignMachineModel" (547 : Nat) ({ cls := "SignMachineModel", name := "readEnd", desc := "()V" } : Jvm.MethodName))) ∈ tb := mt 1683 (by decide +kernel) rfl
theorem k_1685 : ((Jvm.Cond.instanceMethod ({ cls := "SignMachineModel", name := "readEnd", desc := "()V" } : Jvm.MethodName))) ∈ tb := mt 1685 (by decide +kernel) rfl
theorem k_1686 : ((Jvm.Cond.code ({ cls := "SignMachineModel", name := "readEnd", desc := "()V" } : Jvm.MethodName) prog_11_method_81_code (7 : Nat) (Option.none : Option Jvm.ClassFile.FieldType))) ∈ tb := mt 1686 (by decide +kernel) rfl
theorem k_1687 : ((Jvm.Cond.methodLink "SignMachineModel" (550 : Nat) ({ cls := "SignMachineModel", name := "operation", desc := "(II)V" } : Jvm.MethodName))) ∈ tb := mt 1687 (by decide +kernel) rfl
theorem k_1689 : ((Jvm.Cond.instanceMethod ({ cls := "SignMachineModel", name := "operation", desc := "(II)V" } : Jvm.MethodName))) ∈ tb := mt 1689 (by decide +kernel) rfl
theorem k_1690 : ((Jvm.Cond.code ({ cls := "SignMachineModel", name := "operation", desc := "(II)V" } : Jvm.MethodName) prog_11_method_70_code (12 : Nat) (Option.none : Option Jvm.ClassFile.FieldType))) ∈ tb := mt 1690 (by decide +kernel) rfl
theorem k_1691 : ((Jvm.Cond.methodLink "SignMachineModel" (385 : Nat) ({ cls := "SignMachineModel", name := "addressPart", desc := "()J" } : Jvm.MethodName))) ∈ tb := mt 1691 (by decide +kernel) rfl
theorem k_1693 : ((Jvm.Cond.instanceMethod ({ cls := "SignMachineModel", name := "addressPart", desc := "()J" } : Jvm.MethodName))) ∈ tb := mt 1693 (by decide +kernel) rfl
theorem k_1694 : ((Jvm.Cond.code ({ cls := "SignMachineModel", name := "addressPart", desc := "()J" } : Jvm.MethodName) prog_11_method_69_code (5 : Nat) (Option.some Jvm.ClassFile.FieldType.long))) ∈ tb := mt 1694 (by decide +kernel) rfl
theorem k_1695 : ((Jvm.Cond.methodLink "SignMachineModel" (378 : Nat) ({ cls := "SignMachineModel", name := "isAlone", desc := "()Z" } : Jvm.MethodName))) ∈ tb := mt 1695 (by decide +kernel) rfl
theorem k_1697 : ((Jvm.Cond.instanceMethod ({ cls := "SignMachineModel", name := "isAlone", desc := "()Z" } : Jvm.MethodName))) ∈ tb := mt 1697 (by decide +kernel) rfl
theorem k_1698 : ((Jvm.Cond.code ({ cls := "SignMachineModel", name := "isAlone", desc := "()Z" } : Jvm.MethodName) prog_11_method_68_code (2 : Nat) (Option.some Jvm.ClassFile.FieldType.boolean))) ∈ tb := mt 1698 (by decide +kernel) rfl
theorem k_1699 : ((Jvm.Cond.methodLink "SignMachineModel" (381 : Nat) ({ cls := "SignMachineModel", name := "laterSymbol", desc := "(J)V" } : Jvm.MethodName))) ∈ tb := mt 1699 (by decide +kernel) rfl
theorem k_1701 : ((Jvm.Cond.instanceMethod ({ cls := "SignMachineModel", name := "laterSymbol", desc := "(J)V" } : Jvm.MethodName))) ∈ tb := mt 1701 (by decide +kernel) rfl
theorem k_1702 : ((Jvm.Cond.code ({ cls := "SignMachineModel", name := "laterSymbol", desc := "(J)V" } : Jvm.MethodName) prog_11_method_67_code (4 : Nat) (Option.none : Option Jvm.ClassFile.FieldType))) ∈ tb := mt 1702 (by decide +kernel) rfl
theorem k_1703 : ((Jvm.Cond.methodLink "SignMachineModel" (562 : Nat) ({ cls := "SignMachineModel", name := "putIn", desc := "()V" } : Jvm.MethodName))) ∈ tb := mt 1703 (by decide +kernel) rfl
theorem k_1705 : ((Jvm.Cond.instanceMethod ({ cls := "SignMachineModel", name := "putIn", desc := "()V" } : Jvm.MethodName))) ∈ tb := mt 1705 (by decide +kernel) rfl
theorem k_1706 : ((Jvm.Cond.code ({ cls := "SignMachineModel", name := "putIn", desc := "()V" } : Jvm.MethodName) prog_11_method_84_code (7 : Nat) (Option.none : Option Jvm.ClassFile.FieldType))) ∈ tb := mt 1706 (by decide +kernel) rfl
theorem k_1707 : ((Jvm.Cond.methodLink "SignMachineLaw" (78 : Nat) ({ cls := "SignMachineModel", name := "about", desc := "(I)I" } : Jvm.MethodName))) ∈ tb := mt 1707 (by decide +kernel) rfl
theorem k_1708 : ((Jvm.Cond.instanceMethod ({ cls := "SignMachineModel", name := "about", desc := "(I)I" } : Jvm.MethodName))) ∈ tb := mt 1708 (by decide +kernel) rfl
theorem k_1709 : ((Jvm.Cond.selects "SignMachineModel" ({ cls := "SignMachineModel", name := "about", desc := "(I)I" } : Jvm.MethodName) ({ cls := "SignMachineModel", name := "about", desc := "(I)I" } : Jvm.MethodName))) ∈ tb := mt 1709 (by decide +kernel) rfl
theorem k_1710 : ((Jvm.Cond.code ({ cls := "SignMachineModel", name := "about", desc := "(I)I" } : Jvm.MethodName) prog_11_method_87_code (2 : Nat) (Option.some Jvm.ClassFile.FieldType.int))) ∈ tb := mt 1710 (by decide +kernel) rfl
theorem k_obj : (Cond.code Lib.objectInit ⟨#[0xb1]⟩ 1 none) ∈ tb := mt 141 (by decide +kernel) rfl
