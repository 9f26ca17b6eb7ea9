theorem k_0 : (Cond.selects "SignMachine$Machine" ⟨"SignMachine$Machine", "decode", "(I)V"⟩ ⟨"SignMachine$Machine", "decode", "(I)V"⟩) ∈ tb := mt 0 (by decide +kernel) rfl
theorem k_1 : (Cond.selects "SignMachine$Machine" ⟨"SignMachine$Machine", "reasonAgainst", "()I"⟩ ⟨"SignMachine$Machine", "reasonAgainst", "()I"⟩) ∈ tb := mt 1 (by decide +kernel) rfl
theorem k_2 : (Cond.selects "SignMachine$Machine" ⟨"SignMachine$Machine", "shapeCanBe", "()Z"⟩ ⟨"SignMachine$Machine", "shapeCanBe", "()Z"⟩) ∈ tb := mt 2 (by decide +kernel) rfl
theorem k_3 : (Cond.selects "SignMachine$Machine" ⟨"SignMachine$Machine", "hasFieldOfWord", "()Z"⟩ ⟨"SignMachine$Machine", "hasFieldOfWord", "()Z"⟩) ∈ tb := mt 3 (by decide +kernel) rfl
theorem k_4 : (Cond.selects "SignMachine$Machine" ⟨"SignMachine$Machine", "addressCanBe", "()Z"⟩ ⟨"SignMachine$Machine", "addressCanBe", "()Z"⟩) ∈ tb := mt 4 (by decide +kernel) rfl
theorem k_5 : (Cond.selects "SignMachine$Machine" ⟨"SignMachine$Machine", "canMove", "()Z"⟩ ⟨"SignMachine$Machine", "canMove", "()Z"⟩) ∈ tb := mt 5 (by decide +kernel) rfl
theorem k_6 : (Cond.selects "SignMachine$Machine" ⟨"SignMachine$Machine", "indexCanBe", "()Z"⟩ ⟨"SignMachine$Machine", "indexCanBe", "()Z"⟩) ∈ tb := mt 6 (by decide +kernel) rfl
theorem k_7 : (Cond.selects "SignMachine$Machine" ⟨"SignMachine$Machine", "value", "()I"⟩ ⟨"SignMachine$Machine", "value", "()I"⟩) ∈ tb := mt 7 (by decide +kernel) rfl
theorem k_8 : (Cond.selects "SignMachine$Machine" ⟨"SignMachine$Machine", "numberByAddress", "()I"⟩ ⟨"SignMachine$Machine", "numberByAddress", "()I"⟩) ∈ tb := mt 8 (by decide +kernel) rfl
theorem k_9 : (Cond.selects "SignMachine$Machine" ⟨"SignMachine$Machine", "blockCanBe", "()Z"⟩ ⟨"SignMachine$Machine", "blockCanBe", "()Z"⟩) ∈ tb := mt 9 (by decide +kernel) rfl
theorem k_10 : (Cond.selects "SignMachine$Machine" ⟨"SignMachine$Machine", "duration", "()I"⟩ ⟨"SignMachine$Machine", "duration", "()I"⟩) ∈ tb := mt 10 (by decide +kernel) rfl
theorem k_11 : (Cond.selects "SignMachine$Machine" ⟨"SignMachine$Machine", "perform", "()V"⟩ ⟨"SignMachine$Machine", "perform", "()V"⟩) ∈ tb := mt 11 (by decide +kernel) rfl
theorem k_12 : (Cond.selects "SignMachine$Machine" ⟨"SignMachine$Machine", "performLow", "()V"⟩ ⟨"SignMachine$Machine", "performLow", "()V"⟩) ∈ tb := mt 12 (by decide +kernel) rfl
theorem k_13 : (Cond.selects "SignMachine$Machine" ⟨"SignMachine$Machine", "addTo", "(II)V"⟩ ⟨"SignMachine$Machine", "addTo", "(II)V"⟩) ∈ tb := mt 13 (by decide +kernel) rfl
theorem k_14 : (Cond.selects "SignMachine$Machine" ⟨"SignMachine$Machine", "multiply", "(I)V"⟩ ⟨"SignMachine$Machine", "multiply", "(I)V"⟩) ∈ tb := mt 14 (by decide +kernel) rfl
theorem k_15 : (Cond.selects "SignMachine$Machine" ⟨"SignMachine$Machine", "divide", "(I)V"⟩ ⟨"SignMachine$Machine", "divide", "(I)V"⟩) ∈ tb := mt 15 (by decide +kernel) rfl
theorem k_16 : (Cond.selects "SignMachine$Machine" ⟨"SignMachine$Machine", "sizeOfAX", "()J"⟩ ⟨"SignMachine$Machine", "sizeOfAX", "()J"⟩) ∈ tb := mt 16 (by decide +kernel) rfl
theorem k_17 : (Cond.selects "SignMachine$Machine" ⟨"SignMachine$Machine", "convert", "()V"⟩ ⟨"SignMachine$Machine", "convert", "()V"⟩) ∈ tb := mt 17 (by decide +kernel) rfl
theorem k_18 : (Cond.selects "SignMachine$Machine" ⟨"SignMachine$Machine", "becomeNumber", "()V"⟩ ⟨"SignMachine$Machine", "becomeNumber", "()V"⟩) ∈ tb := mt 18 (by decide +kernel) rfl
theorem k_19 : (Cond.selects "SignMachine$Machine" ⟨"SignMachine$Machine", "becomeDigits", "()V"⟩ ⟨"SignMachine$Machine", "becomeDigits", "()V"⟩) ∈ tb := mt 19 (by decide +kernel) rfl
theorem k_20 : (Cond.selects "SignMachine$Machine" ⟨"SignMachine$Machine", "putSizesOfAX", "(J)V"⟩ ⟨"SignMachine$Machine", "putSizesOfAX", "(J)V"⟩) ∈ tb := mt 20 (by decide +kernel) rfl
theorem k_21 : (Cond.selects "SignMachine$Machine" ⟨"SignMachine$Machine", "shift", "()V"⟩ ⟨"SignMachine$Machine", "shift", "()V"⟩) ∈ tb := mt 21 (by decide +kernel) rfl
theorem k_22 : (Cond.selects "SignMachine$Machine" ⟨"SignMachine$Machine", "moveWords", "()V"⟩ ⟨"SignMachine$Machine", "moveWords", "()V"⟩) ∈ tb := mt 22 (by decide +kernel) rfl
theorem k_23 : (Cond.selects "SignMachine$Machine" ⟨"SignMachine$Machine", "storeWord", "(I)V"⟩ ⟨"SignMachine$Machine", "storeWord", "(I)V"⟩) ∈ tb := mt 23 (by decide +kernel) rfl
theorem k_24 : (Cond.selects "SignMachine$Machine" ⟨"SignMachine$Machine", "performMiddle", "()V"⟩ ⟨"SignMachine$Machine", "performMiddle", "()V"⟩) ∈ tb := mt 24 (by decide +kernel) rfl
theorem k_25 : (Cond.selects "SignMachine$Machine" ⟨"SignMachine$Machine", "wind", "()V"⟩ ⟨"SignMachine$Machine", "wind", "()V"⟩) ∈ tb := mt 25 (by decide +kernel) rfl
theorem k_26 : (Cond.selects "SignMachine$Machine" ⟨"SignMachine$Machine", "readBlock", "()V"⟩ ⟨"SignMachine$Machine", "readBlock", "()V"⟩) ∈ tb := mt 26 (by decide +kernel) rfl
theorem k_27 : (Cond.selects "SignMachine$Machine" ⟨"SignMachine$Machine", "writeBlock", "()V"⟩ ⟨"SignMachine$Machine", "writeBlock", "()V"⟩) ∈ tb := mt 27 (by decide +kernel) rfl
theorem k_28 : (Cond.selects "SignMachine$Machine" ⟨"SignMachine$Machine", "goIf", "(Z)V"⟩ ⟨"SignMachine$Machine", "goIf", "(Z)V"⟩) ∈ tb := mt 28 (by decide +kernel) rfl
theorem k_29 : (Cond.selects "SignMachine$Machine" ⟨"SignMachine$Machine", "goByState", "()V"⟩ ⟨"SignMachine$Machine", "goByState", "()V"⟩) ∈ tb := mt 29 (by decide +kernel) rfl
theorem k_30 : (Cond.selects "SignMachine$Machine" ⟨"SignMachine$Machine", "registerIs", "(I)Z"⟩ ⟨"SignMachine$Machine", "registerIs", "(I)Z"⟩) ∈ tb := mt 30 (by decide +kernel) rfl
theorem k_31 : (Cond.selects "SignMachine$Machine" ⟨"SignMachine$Machine", "changeByAddress", "(I)V"⟩ ⟨"SignMachine$Machine", "changeByAddress", "(I)V"⟩) ∈ tb := mt 31 (by decide +kernel) rfl
theorem k_32 : (Cond.selects "SignMachine$Machine" ⟨"SignMachine$Machine", "compareField", "(I)V"⟩ ⟨"SignMachine$Machine", "compareField", "(I)V"⟩) ∈ tb := mt 32 (by decide +kernel) rfl
theorem k_33 : (Cond.selects "SignMachine" ⟨"SignMachine", "assembler", "()LSignMachine$Assembler;"⟩ ⟨"SignMachine", "assembler", "()LSignMachine$Assembler;"⟩) ∈ tb := mt 33 (by decide +kernel) rfl
theorem k_34 : (Cond.selects "SignMachine$Assembler" ⟨"SignMachine$Assembler", "isNothing", "()Z"⟩ ⟨"SignMachine$Assembler", "isNothing", "()Z"⟩) ∈ tb := mt 34 (by decide +kernel) rfl
theorem k_35 : (Cond.selects "SignMachine$Assembler" ⟨"SignMachine$Assembler", "readLabel", "()V"⟩ ⟨"SignMachine$Assembler", "readLabel", "()V"⟩) ∈ tb := mt 35 (by decide +kernel) rfl
theorem k_36 : (Cond.selects "SignMachine$Assembler" ⟨"SignMachine$Assembler", "fail", "(I)I"⟩ ⟨"SignMachine$Assembler", "fail", "(I)I"⟩) ∈ tb := mt 36 (by decide +kernel) rfl
theorem k_37 : (Cond.selects "SignMachine$Assembler" ⟨"SignMachine$Assembler", "readOp", "()V"⟩ ⟨"SignMachine$Assembler", "readOp", "()V"⟩) ∈ tb := mt 37 (by decide +kernel) rfl
theorem k_38 : (Cond.selects "SignMachine$Op" ⟨"SignMachine$Op", "fits", "(LSignMachine$Source;II)Z"⟩ ⟨"SignMachine$Op", "fits", "(LSignMachine$Source;II)Z"⟩) ∈ tb := mt 38 (by decide +kernel) rfl
theorem k_39 : (Cond.selects "SignMachine$Assembler" ⟨"SignMachine$Assembler", "tellLabel", "(I)V"⟩ ⟨"SignMachine$Assembler", "tellLabel", "(I)V"⟩) ∈ tb := mt 39 (by decide +kernel) rfl
theorem k_40 : (Cond.selects "SignMachine$Assembler" ⟨"SignMachine$Assembler", "tellSymbol", "(I)V"⟩ ⟨"SignMachine$Assembler", "tellSymbol", "(I)V"⟩) ∈ tb := mt 40 (by decide +kernel) rfl
theorem k_41 : (Cond.selects "SignMachine$Names" ⟨"SignMachine$Names", "add", "(JI)I"⟩ ⟨"SignMachine$Names", "add", "(JI)I"⟩) ∈ tb := mt 41 (by decide +kernel) rfl
theorem k_42 : (Cond.selects "SignMachine$Assembler" ⟨"SignMachine$Assembler", "takeCharacters", "()V"⟩ ⟨"SignMachine$Assembler", "takeCharacters", "()V"⟩) ∈ tb := mt 42 (by decide +kernel) rfl
theorem k_43 : (Cond.selects "SignMachine$Assembler" ⟨"SignMachine$Assembler", "putWord", "(I)V"⟩ ⟨"SignMachine$Assembler", "putWord", "(I)V"⟩) ∈ tb := mt 43 (by decide +kernel) rfl
theorem k_44 : (Cond.selects "SignMachine$Assembler" ⟨"SignMachine$Assembler", "putInstruction", "(I)V"⟩ ⟨"SignMachine$Assembler", "putInstruction", "(I)V"⟩) ∈ tb := mt 44 (by decide +kernel) rfl
theorem k_45 : (Cond.selects "SignMachine$Assembler" ⟨"SignMachine$Assembler", "takeOperation", "(I)V"⟩ ⟨"SignMachine$Assembler", "takeOperation", "(I)V"⟩) ∈ tb := mt 45 (by decide +kernel) rfl
theorem k_46 : (Cond.selects "SignMachine$Assembler" ⟨"SignMachine$Assembler", "readAddress", "()I"⟩ ⟨"SignMachine$Assembler", "readAddress", "()I"⟩) ∈ tb := mt 46 (by decide +kernel) rfl
theorem k_47 : (Cond.selects "SignMachine$Assembler" ⟨"SignMachine$Assembler", "readW", "()I"⟩ ⟨"SignMachine$Assembler", "readW", "()I"⟩) ∈ tb := mt 47 (by decide +kernel) rfl
theorem k_48 : (Cond.selects "SignMachine$Assembler" ⟨"SignMachine$Assembler", "readExp", "()I"⟩ ⟨"SignMachine$Assembler", "readExp", "()I"⟩) ∈ tb := mt 48 (by decide +kernel) rfl
theorem k_49 : (Cond.selects "SignMachine$Assembler" ⟨"SignMachine$Assembler", "atomValue", "()I"⟩ ⟨"SignMachine$Assembler", "atomValue", "()I"⟩) ∈ tb := mt 49 (by decide +kernel) rfl
theorem k_50 : (Cond.selects "SignMachine$Assembler" ⟨"SignMachine$Assembler", "reckon", "(JIJ)J"⟩ ⟨"SignMachine$Assembler", "reckon", "(JIJ)J"⟩) ∈ tb := mt 50 (by decide +kernel) rfl
theorem k_51 : (Cond.selects "SignMachine$Assembler" ⟨"SignMachine$Assembler", "expectBracket", "()V"⟩ ⟨"SignMachine$Assembler", "expectBracket", "()V"⟩) ∈ tb := mt 51 (by decide +kernel) rfl
theorem k_52 : (Cond.selects "SignMachine$Assembler" ⟨"SignMachine$Assembler", "takeLiteral", "(I)V"⟩ ⟨"SignMachine$Assembler", "takeLiteral", "(I)V"⟩) ∈ tb := mt 52 (by decide +kernel) rfl
theorem k_53 : (Cond.selects "SignMachine$Assembler" ⟨"SignMachine$Assembler", "readLaterName", "()Z"⟩ ⟨"SignMachine$Assembler", "readLaterName", "()Z"⟩) ∈ tb := mt 53 (by decide +kernel) rfl
theorem k_54 : (Cond.selects "SignMachine$Assembler" ⟨"SignMachine$Assembler", "isLaterSymbol", "(J)Z"⟩ ⟨"SignMachine$Assembler", "isLaterSymbol", "(J)Z"⟩) ∈ tb := mt 54 (by decide +kernel) rfl
theorem k_55 : (Cond.selects "SignMachine$Assembler" ⟨"SignMachine$Assembler", "expectEnd", "()V"⟩ ⟨"SignMachine$Assembler", "expectEnd", "()V"⟩) ∈ tb := mt 55 (by decide +kernel) rfl
theorem k_56 : (Cond.selects "SignMachine$Assembler" ⟨"SignMachine$Assembler", "takePlace", "(I)V"⟩ ⟨"SignMachine$Assembler", "takePlace", "(I)V"⟩) ∈ tb := mt 56 (by decide +kernel) rfl
theorem k_57 : (Cond.selects "SignMachine$Assembler" ⟨"SignMachine$Assembler", "putPending", "()V"⟩ ⟨"SignMachine$Assembler", "putPending", "()V"⟩) ∈ tb := mt 57 (by decide +kernel) rfl
theorem k_58 : (Cond.selects "SignMachine$Assembler" ⟨"SignMachine$Assembler", "close", "(I)V"⟩ ⟨"SignMachine$Assembler", "close", "(I)V"⟩) ∈ tb := mt 58 (by decide +kernel) rfl
theorem k_59 : (Cond.selects "SignMachine" ⟨"SignMachine", "load", "(LSignMachine$Output;)V"⟩ ⟨"SignMachine", "load", "(LSignMachine$Output;)V"⟩) ∈ tb := mt 59 (by decide +kernel) rfl
theorem k_116 : ((Jvm.Cond.initialized "SignMachine")) ∈ tb := mt 116 (by decide +kernel) rfl
theorem k_117 : ((Jvm.Cond.initialized "SignMachine$Machine")) ∈ tb := mt 117 (by decide +kernel) rfl
theorem k_118 : ((Jvm.Cond.initialized "SignMachine$Tape")) ∈ tb := mt 118 (by decide +kernel) rfl
theorem k_120 : ((Jvm.Cond.initialized "SignMachine$Word")) ∈ tb := mt 120 (by decide +kernel) rfl
theorem k_121 : ((Jvm.Cond.initialized "java/lang/Math")) ∈ tb := mt 121 (by decide +kernel) rfl
theorem k_122 : ((Jvm.Cond.initialized "java/lang/Integer")) ∈ tb := mt 122 (by decide +kernel) rfl
theorem k_123 : ((Jvm.Cond.initialized "SignMachine$Assembler")) ∈ tb := mt 123 (by decide +kernel) rfl
theorem k_124 : ((Jvm.Cond.initialized "SignMachine$Source")) ∈ tb := mt 124 (by decide +kernel) rfl
theorem k_125 : ((Jvm.Cond.initialized "SignMachine$Names")) ∈ tb := mt 125 (by decide +kernel) rfl
theorem k_126 : ((Jvm.Cond.initialized "SignMachine$Output")) ∈ tb := mt 126 (by decide +kernel) rfl
theorem k_128 : ((Jvm.Cond.initialized "SignMachine$Op")) ∈ tb := mt 128 (by decide +kernel) rfl
theorem k_129 : ((Jvm.Cond.initialized "java/lang/String")) ∈ tb := mt 129 (by decide +kernel) rfl
theorem k_130 : ((Jvm.Cond.initialized "java/lang/StringLatin1")) ∈ tb := mt 130 (by decide +kernel) rfl
theorem k_131 : ((Jvm.Cond.initialized "jdk/internal/util/Preconditions")) ∈ tb := mt 131 (by decide +kernel) rfl
theorem k_134 : ((Jvm.Cond.classLink "SignMachineLaw" (7 : Nat) "SignMachine")) ∈ tb := mt 134 (by decide +kernel) rfl
theorem k_135 : ((Jvm.Cond.instantiable "SignMachine" (2 : Nat))) ∈ tb := mt 135 (by decide +kernel) rfl
theorem k_136 : ((Jvm.Cond.methodLink "SignMachineLaw" (9 : Nat) ({ cls := "SignMachine", name := "<init>", desc := "()V" } : Jvm.MethodName))) ∈ tb := mt 136 (by decide +kernel) rfl
theorem k_137 : ((Jvm.Cond.instanceMethod ({ cls := "SignMachine", name := "<init>", desc := "()V" } : Jvm.MethodName))) ∈ tb := mt 137 (by decide +kernel) rfl
theorem k_138 : ((Jvm.Cond.code ({ cls := "SignMachine", name := "<init>", desc := "()V" } : Jvm.MethodName) prog_1_method_1_code (1 : Nat) (Option.none : Option Jvm.ClassFile.FieldType))) ∈ tb := mt 138 (by decide +kernel) rfl
theorem k_139 : ((Jvm.Cond.methodLink "SignMachine" (1 : Nat) ({ cls := "java/lang/Object", name := "<init>", desc := "()V" } : Jvm.MethodName))) ∈ tb := mt 139 (by decide +kernel) rfl
theorem k_142 : ((Jvm.Cond.classLink "SignMachine" (7 : Nat) "SignMachine$Machine")) ∈ tb := mt 142 (by decide +kernel) rfl
theorem k_143 : ((Jvm.Cond.instantiable "SignMachine$Machine" (14 : Nat))) ∈ tb := mt 143 (by decide +kernel) rfl
theorem k_145 : ((Jvm.Cond.instanceMethod ({ cls := "SignMachine$Machine", name := "<init>", desc := "()V" } : Jvm.MethodName))) ∈ tb := mt 145 (by decide +kernel) rfl
theorem k_146 : ((Jvm.Cond.code ({ cls := "SignMachine$Machine", name := "<init>", desc := "()V" } : Jvm.MethodName) prog_3_method_1_code (1 : Nat) (Option.none : Option Jvm.ClassFile.FieldType))) ∈ tb := mt 146 (by decide +kernel) rfl
theorem k_147 : ((Jvm.Cond.methodLink "SignMachine$Machine" (3 : Nat) ({ cls := "java/lang/Object", name := "<init>", desc := "()V" } : Jvm.MethodName))) ∈ tb := mt 147 (by decide +kernel) rfl
theorem k_148 : ((Jvm.Cond.classLink "SignMachine$Machine" (18 : Nat) "SignMachine$Tape")) ∈ tb := mt 148 (by decide +kernel) rfl
theorem k_149 : ((Jvm.Cond.instantiable "SignMachine$Tape" (2 : Nat))) ∈ tb := mt 149 (by decide +kernel) rfl
theorem k_151 : ((Jvm.Cond.instanceMethod ({ cls := "SignMachine$Tape", name := "<init>", desc := "()V" } : Jvm.MethodName))) ∈ tb := mt 151 (by decide +kernel) rfl
theorem k_152 : ((Jvm.Cond.code ({ cls := "SignMachine$Tape", name := "<init>", desc := "()V" } : Jvm.MethodName) prog_8_method_1_code (1 : Nat) (Option.none : Option Jvm.ClassFile.FieldType))) ∈ tb := mt 152 (by decide +kernel) rfl
theorem k_153 : ((Jvm.Cond.methodLink "SignMachine$Tape" (1 : Nat) ({ cls := "java/lang/Object", name := "<init>", desc := "()V" } : Jvm.MethodName))) ∈ tb := mt 153 (by decide +kernel) rfl
theorem k_156 : ((Jvm.Cond.fieldLink "SignMachine$Tape" (9 : Nat) "SignMachine$Tape" "words" "[I")) ∈ tb := mt 156 (by decide +kernel) rfl
theorem k_163 : ((Jvm.Cond.fieldLink "SignMachine$Machine" (9 : Nat) "SignMachine$Machine" "memory" "[I")) ∈ tb := mt 163 (by decide +kernel) rfl
theorem k_164 : ((Jvm.Cond.fieldLink "SignMachine$Machine" (15 : Nat) "SignMachine$Machine" "registers" "[I")) ∈ tb := mt 164 (by decide +kernel) rfl
theorem k_165 : ((Jvm.Cond.fieldLink "SignMachine$Machine" (21 : Nat) "SignMachine$Machine" "firstTape" "LSignMachine$Tape;")) ∈ tb := mt 165 (by decide +kernel) rfl
theorem k_166 : ((Jvm.Cond.fieldLink "SignMachine$Machine" (25 : Nat) "SignMachine$Machine" "secondTape" "LSignMachine$Tape;")) ∈ tb := mt 166 (by decide +kernel) rfl
theorem k_168 : ((Jvm.Cond.fieldLink "SignMachine$Machine" (196 : Nat) "SignMachine$Machine" "toggle" "Z")) ∈ tb := mt 168 (by decide +kernel) rfl
theorem k_170 : ((Jvm.Cond.fieldLink "SignMachine$Machine" (244 : Nat) "SignMachine$Machine" "indicator" "I")) ∈ tb := mt 170 (by decide +kernel) rfl
theorem k_172 : ((Jvm.Cond.fieldLink "SignMachine$Machine" (51 : Nat) "SignMachine$Machine" "time" "I")) ∈ tb := mt 172 (by decide +kernel) rfl
theorem k_174 : ((Jvm.Cond.fieldLink "SignMachine$Machine" (32 : Nat) "SignMachine$Machine" "next" "I")) ∈ tb := mt 174 (by decide +kernel) rfl
theorem k_176 : ((Jvm.Cond.fieldLink "SignMachine$Machine" (61 : Nat) "SignMachine$Machine" "code" "I")) ∈ tb := mt 176 (by decide +kernel) rfl
theorem k_177 : ((Jvm.Cond.fieldLink "SignMachine$Machine" (64 : Nat) "SignMachine$Machine" "field" "I")) ∈ tb := mt 177 (by decide +kernel) rfl
theorem k_178 : ((Jvm.Cond.fieldLink "SignMachine$Machine" (72 : Nat) "SignMachine$Machine" "index" "I")) ∈ tb := mt 178 (by decide +kernel) rfl
theorem k_179 : ((Jvm.Cond.fieldLink "SignMachine$Machine" (81 : Nat) "SignMachine$Machine" "m" "I")) ∈ tb := mt 179 (by decide +kernel) rfl
theorem k_180 : ((Jvm.Cond.fieldLink "SignMachine$Machine" (78 : Nat) "SignMachine$Machine" "signOfZero" "I")) ∈ tb := mt 180 (by decide +kernel) rfl
theorem k_210 : ((Jvm.Cond.fieldLink "SignMachine" (10 : Nat) "SignMachine" "machine" "LSignMachine$Machine;")) ∈ tb := mt 210 (by decide +kernel) rfl
theorem k_211 : ((Jvm.Cond.fieldLink "SignMachine" (167 : Nat) "SignMachine" "assembler" "LSignMachine$Assembler;")) ∈ tb := mt 211 (by decide +kernel) rfl
theorem k_217 : ((Jvm.Cond.methodLink "SignMachineLaw" (13 : Nat) ({ cls := "SignMachine", name := "poke", desc := "(III)Z" } : Jvm.MethodName))) ∈ tb := mt 217 (by decide +kernel) rfl
theorem k_218 : ((Jvm.Cond.instanceMethod ({ cls := "SignMachine", name := "poke", desc := "(III)Z" } : Jvm.MethodName))) ∈ tb := mt 218 (by decide +kernel) rfl
theorem k_219 : ((Jvm.Cond.selects "SignMachine" ({ cls := "SignMachine", name := "poke", desc := "(III)Z" } : Jvm.MethodName) ({ cls := "SignMachine", name := "poke", desc := "(III)Z" } : Jvm.MethodName))) ∈ tb := mt 219 (by decide +kernel) rfl
theorem k_220 : ((Jvm.Cond.code ({ cls := "SignMachine", name := "poke", desc := "(III)Z" } : Jvm.MethodName) prog_1_method_2_code (4 : Nat) (Option.some Jvm.ClassFile.FieldType.boolean))) ∈ tb := mt 220 (by decide +kernel) rfl
theorem k_221 : ((Jvm.Cond.methodLink "SignMachine" (16 : Nat) ({ cls := "SignMachine$Machine", name := "isAddress", desc := "(I)Z" } : Jvm.MethodName))) ∈ tb := mt 221 (by decide +kernel) rfl
theorem k_222 : ((Jvm.Cond.static ({ cls := "SignMachine$Machine", name := "isAddress", desc := "(I)Z" } : Jvm.MethodName))) ∈ tb := mt 222 (by decide +kernel) rfl
theorem k_223 : ((Jvm.Cond.code ({ cls := "SignMachine$Machine", name := "isAddress", desc := "(I)Z" } : Jvm.MethodName) prog_3_method_2_code (1 : Nat) (Option.some Jvm.ClassFile.FieldType.boolean))) ∈ tb := mt 223 (by decide +kernel) rfl
theorem k_224 : ((Jvm.Cond.methodLink "SignMachine" (20 : Nat) ({ cls := "SignMachine$Word", name := "isWord", desc := "(II)Z" } : Jvm.MethodName))) ∈ tb := mt 224 (by decide +kernel) rfl
theorem k_225 : ((Jvm.Cond.static ({ cls := "SignMachine$Word", name := "isWord", desc := "(II)Z" } : Jvm.MethodName))) ∈ tb := mt 225 (by decide +kernel) rfl
theorem k_226 : ((Jvm.Cond.code ({ cls := "SignMachine$Word", name := "isWord", desc := "(II)Z" } : Jvm.MethodName) prog_9_method_2_code (2 : Nat) (Option.some Jvm.ClassFile.FieldType.boolean))) ∈ tb := mt 226 (by decide +kernel) rfl
theorem k_227 : ((Jvm.Cond.constant "SignMachine$Word" (9 : Nat) (1073741823 : Int32))) ∈ tb := mt 227 (by decide +kernel) rfl
theorem k_228 : ((Jvm.Cond.methodLink "SignMachine" (26 : Nat) ({ cls := "SignMachine$Word", name := "make", desc := "(II)I" } : Jvm.MethodName))) ∈ tb := mt 228 (by decide +kernel) rfl
theorem k_229 : ((Jvm.Cond.static ({ cls := "SignMachine$Word", name := "make", desc := "(II)I" } : Jvm.MethodName))) ∈ tb := mt 229 (by decide +kernel) rfl
theorem k_230 : ((Jvm.Cond.code ({ cls := "SignMachine$Word", name := "make", desc := "(II)I" } : Jvm.MethodName) prog_9_method_3_code (2 : Nat) (Option.some Jvm.ClassFile.FieldType.int))) ∈ tb := mt 230 (by decide +kernel) rfl
theorem k_231 : ((Jvm.Cond.constant "SignMachine$Word" (10 : Nat) (1073741824 : Int32))) ∈ tb := mt 231 (by decide +kernel) rfl
theorem k_232 : ((Jvm.Cond.methodLink "SignMachine" (30 : Nat) ({ cls := "SignMachine$Machine", name := "putWord", desc := "(II)V" } : Jvm.MethodName))) ∈ tb := mt 232 (by decide +kernel) rfl
theorem k_233 : ((Jvm.Cond.instanceMethod ({ cls := "SignMachine$Machine", name := "putWord", desc := "(II)V" } : Jvm.MethodName))) ∈ tb := mt 233 (by decide +kernel) rfl
theorem k_234 : ((Jvm.Cond.selects "SignMachine$Machine" ({ cls := "SignMachine$Machine", name := "putWord", desc := "(II)V" } : Jvm.MethodName) ({ cls := "SignMachine$Machine", name := "putWord", desc := "(II)V" } : Jvm.MethodName))) ∈ tb := mt 234 (by decide +kernel) rfl
theorem k_235 : ((Jvm.Cond.code ({ cls := "SignMachine$Machine", name := "putWord", desc := "(II)V" } : Jvm.MethodName) prog_3_method_7_code (3 : Nat) (Option.none : Option Jvm.ClassFile.FieldType))) ∈ tb := mt 235 (by decide +kernel) rfl
theorem k_236 : ((Jvm.Cond.methodLink "SignMachineLaw" (18 : Nat) ({ cls := "SignMachine", name := "peekSign", desc := "(I)I" } : Jvm.MethodName))) ∈ tb := mt 236 (by decide +kernel) rfl
theorem k_237 : ((Jvm.Cond.instanceMethod ({ cls := "SignMachine", name := "peekSign", desc := "(I)I" } : Jvm.MethodName))) ∈ tb := mt 237 (by decide +kernel) rfl
theorem k_238 : ((Jvm.Cond.selects "SignMachine" ({ cls := "SignMachine", name := "peekSign", desc := "(I)I" } : Jvm.MethodName) ({ cls := "SignMachine", name := "peekSign", desc := "(I)I" } : Jvm.MethodName))) ∈ tb := mt 238 (by decide +kernel) rfl
theorem k_239 : ((Jvm.Cond.code ({ cls := "SignMachine", name := "peekSign", desc := "(I)I" } : Jvm.MethodName) prog_1_method_3_code (2 : Nat) (Option.some Jvm.ClassFile.FieldType.int))) ∈ tb := mt 239 (by decide +kernel) rfl
theorem k_240 : ((Jvm.Cond.methodLink "SignMachine" (34 : Nat) ({ cls := "SignMachine$Machine", name := "wordAt", desc := "(I)I" } : Jvm.MethodName))) ∈ tb := mt 240 (by decide +kernel) rfl
theorem k_241 : ((Jvm.Cond.instanceMethod ({ cls := "SignMachine$Machine", name := "wordAt", desc := "(I)I" } : Jvm.MethodName))) ∈ tb := mt 241 (by decide +kernel) rfl
theorem k_242 : ((Jvm.Cond.selects "SignMachine$Machine" ({ cls := "SignMachine$Machine", name := "wordAt", desc := "(I)I" } : Jvm.MethodName) ({ cls := "SignMachine$Machine", name := "wordAt", desc := "(I)I" } : Jvm.MethodName))) ∈ tb := mt 242 (by decide +kernel) rfl
theorem k_243 : ((Jvm.Cond.code ({ cls := "SignMachine$Machine", name := "wordAt", desc := "(I)I" } : Jvm.MethodName) prog_3_method_6_code (2 : Nat) (Option.some Jvm.ClassFile.FieldType.int))) ∈ tb := mt 243 (by decide +kernel) rfl
theorem k_244 : ((Jvm.Cond.methodLink "SignMachine" (38 : Nat) ({ cls := "SignMachine$Word", name := "sign", desc := "(I)I" } : Jvm.MethodName))) ∈ tb := mt 244 (by decide +kernel) rfl
theorem k_245 : ((Jvm.Cond.static ({ cls := "SignMachine$Word", name := "sign", desc := "(I)I" } : Jvm.MethodName))) ∈ tb := mt 245 (by decide +kernel) rfl
theorem k_246 : ((Jvm.Cond.code ({ cls := "SignMachine$Word", name := "sign", desc := "(I)I" } : Jvm.MethodName) prog_9_method_4_code (1 : Nat) (Option.some Jvm.ClassFile.FieldType.int))) ∈ tb := mt 246 (by decide +kernel) rfl
theorem k_247 : ((Jvm.Cond.methodLink "SignMachineLaw" (23 : Nat) ({ cls := "SignMachine", name := "peekSize", desc := "(I)I" } : Jvm.MethodName))) ∈ tb := mt 247 (by decide +kernel) rfl
theorem k_248 : ((Jvm.Cond.instanceMethod ({ cls := "SignMachine", name := "peekSize", desc := "(I)I" } : Jvm.MethodName))) ∈ tb := mt 248 (by decide +kernel) rfl
theorem k_249 : ((Jvm.Cond.selects "SignMachine" ({ cls := "SignMachine", name := "peekSize", desc := "(I)I" } : Jvm.MethodName) ({ cls := "SignMachine", name := "peekSize", desc := "(I)I" } : Jvm.MethodName))) ∈ tb := mt 249 (by decide +kernel) rfl
theorem k_250 : ((Jvm.Cond.code ({ cls := "SignMachine", name := "peekSize", desc := "(I)I" } : Jvm.MethodName) prog_1_method_4_code (2 : Nat) (Option.some Jvm.ClassFile.FieldType.int))) ∈ tb := mt 250 (by decide +kernel) rfl
theorem k_251 : ((Jvm.Cond.methodLink "SignMachine" (41 : Nat) ({ cls := "SignMachine$Word", name := "size", desc := "(I)I" } : Jvm.MethodName))) ∈ tb := mt 251 (by decide +kernel) rfl
theorem k_252 : ((Jvm.Cond.static ({ cls := "SignMachine$Word", name := "size", desc := "(I)I" } : Jvm.MethodName))) ∈ tb := mt 252 (by decide +kernel) rfl
theorem k_253 : ((Jvm.Cond.code ({ cls := "SignMachine$Word", name := "size", desc := "(I)I" } : Jvm.MethodName) prog_9_method_5_code (1 : Nat) (Option.some Jvm.ClassFile.FieldType.int))) ∈ tb := mt 253 (by decide +kernel) rfl
theorem k_254 : ((Jvm.Cond.methodLink "SignMachineLaw" (27 : Nat) ({ cls := "SignMachine", name := "step", desc := "()I" } : Jvm.MethodName))) ∈ tb := mt 254 (by decide +kernel) rfl
theorem k_255 : ((Jvm.Cond.instanceMethod ({ cls := "SignMachine", name := "step", desc := "()I" } : Jvm.MethodName))) ∈ tb := mt 255 (by decide +kernel) rfl
theorem k_256 : ((Jvm.Cond.selects "SignMachine" ({ cls := "SignMachine", name := "step", desc := "()I" } : Jvm.MethodName) ({ cls := "SignMachine", name := "step", desc := "()I" } : Jvm.MethodName))) ∈ tb := mt 256 (by decide +kernel) rfl
theorem k_257 : ((Jvm.Cond.code ({ cls := "SignMachine", name := "step", desc := "()I" } : Jvm.MethodName) prog_1_method_5_code (1 : Nat) (Option.some Jvm.ClassFile.FieldType.int))) ∈ tb := mt 257 (by decide +kernel) rfl
theorem k_258 : ((Jvm.Cond.methodLink "SignMachine" (44 : Nat) ({ cls := "SignMachine$Machine", name := "execute", desc := "()I" } : Jvm.MethodName))) ∈ tb := mt 258 (by decide +kernel) rfl
theorem k_259 : ((Jvm.Cond.instanceMethod ({ cls := "SignMachine$Machine", name := "execute", desc := "()I" } : Jvm.MethodName))) ∈ tb := mt 259 (by decide +kernel) rfl
theorem k_260 : ((Jvm.Cond.selects "SignMachine$Machine" ({ cls := "SignMachine$Machine", name := "execute", desc := "()I" } : Jvm.MethodName) ({ cls := "SignMachine$Machine", name := "execute", desc := "()I" } : Jvm.MethodName))) ∈ tb := mt 260 (by decide +kernel) rfl
theorem k_261 : ((Jvm.Cond.code ({ cls := "SignMachine$Machine", name := "execute", desc := "()I" } : Jvm.MethodName) prog_3_method_11_code (2 : Nat) (Option.some Jvm.ClassFile.FieldType.int))) ∈ tb := mt 261 (by decide +kernel) rfl
theorem k_262 : ((Jvm.Cond.methodLink "SignMachine$Machine" (36 : Nat) ({ cls := "SignMachine$Machine", name := "isAddress", desc := "(I)Z" } : Jvm.MethodName))) ∈ tb := mt 262 (by decide +kernel) rfl
theorem k_263 : ((Jvm.Cond.methodLink "SignMachine$Machine" (39 : Nat) ({ cls := "SignMachine$Machine", name := "wordAt", desc := "(I)I" } : Jvm.MethodName))) ∈ tb := mt 263 (by decide +kernel) rfl
theorem k_264 : ((Jvm.Cond.methodLink "SignMachine$Machine" (43 : Nat) ({ cls := "SignMachine$Machine", name := "decode", desc := "(I)V" } : Jvm.MethodName))) ∈ tb := mt 264 (by decide +kernel) rfl
theorem k_266 : ((Jvm.Cond.instanceMethod ({ cls := "SignMachine$Machine", name := "decode", desc := "(I)V" } : Jvm.MethodName))) ∈ tb := mt 266 (by decide +kernel) rfl
theorem k_267 : ((Jvm.Cond.code ({ cls := "SignMachine$Machine", name := "decode", desc := "(I)V" } : Jvm.MethodName) prog_3_method_12_code (4 : Nat) (Option.none : Option Jvm.ClassFile.FieldType))) ∈ tb := mt 267 (by decide +kernel) rfl
theorem k_268 : ((Jvm.Cond.methodLink "SignMachine$Machine" (67 : Nat) ({ cls := "SignMachine$Word", name := "size", desc := "(I)I" } : Jvm.MethodName))) ∈ tb := mt 268 (by decide +kernel) rfl
theorem k_269 : ((Jvm.Cond.methodLink "SignMachine$Machine" (75 : Nat) ({ cls := "SignMachine$Word", name := "sign", desc := "(I)I" } : Jvm.MethodName))) ∈ tb := mt 269 (by decide +kernel) rfl
theorem k_270 : ((Jvm.Cond.methodLink "SignMachine$Machine" (28 : Nat) ({ cls := "SignMachine$Machine", name := "isIndex", desc := "(I)Z" } : Jvm.MethodName))) ∈ tb := mt 270 (by decide +kernel) rfl
theorem k_271 : ((Jvm.Cond.static ({ cls := "SignMachine$Machine", name := "isIndex", desc := "(I)Z" } : Jvm.MethodName))) ∈ tb := mt 271 (by decide +kernel) rfl
theorem k_272 : ((Jvm.Cond.code ({ cls := "SignMachine$Machine", name := "isIndex", desc := "(I)Z" } : Jvm.MethodName) prog_3_method_4_code (1 : Nat) (Option.some Jvm.ClassFile.FieldType.boolean))) ∈ tb := mt 272 (by decide +kernel) rfl
theorem k_273 : ((Jvm.Cond.methodLink "SignMachine$Machine" (84 : Nat) ({ cls := "SignMachine$Machine", name := "register", desc := "(I)I" } : Jvm.MethodName))) ∈ tb := mt 273 (by decide +kernel) rfl
theorem k_274 : ((Jvm.Cond.instanceMethod ({ cls := "SignMachine$Machine", name := "register", desc := "(I)I" } : Jvm.MethodName))) ∈ tb := mt 274 (by decide +kernel) rfl
theorem k_275 : ((Jvm.Cond.selects "SignMachine$Machine" ({ cls := "SignMachine$Machine", name := "register", desc := "(I)I" } : Jvm.MethodName) ({ cls := "SignMachine$Machine", name := "register", desc := "(I)I" } : Jvm.MethodName))) ∈ tb := mt 275 (by decide +kernel) rfl
theorem k_276 : ((Jvm.Cond.code ({ cls := "SignMachine$Machine", name := "register", desc := "(I)I" } : Jvm.MethodName) prog_3_method_8_code (2 : Nat) (Option.some Jvm.ClassFile.FieldType.int))) ∈ tb := mt 276 (by decide +kernel) rfl
theorem k_277 : ((Jvm.Cond.methodLink "SignMachine$Machine" (87 : Nat) ({ cls := "SignMachine$Word", name := "number", desc := "(I)I" } : Jvm.MethodName))) ∈ tb := mt 277 (by decide +kernel) rfl
theorem k_278 : ((Jvm.Cond.static ({ cls := "SignMachine$Word", name := "number", desc := "(I)I" } : Jvm.MethodName))) ∈ tb := mt 278 (by decide +kernel) rfl
theorem k_279 : ((Jvm.Cond.code ({ cls := "SignMachine$Word", name := "number", desc := "(I)I" } : Jvm.MethodName) prog_9_method_6_code (1 : Nat) (Option.some Jvm.ClassFile.FieldType.int))) ∈ tb := mt 279 (by decide +kernel) rfl
theorem k_280 : ((Jvm.Cond.methodLink "SignMachine$Machine" (47 : Nat) ({ cls := "SignMachine$Machine", name := "reasonAgainst", desc := "()I" } : Jvm.MethodName))) ∈ tb := mt 280 (by decide +kernel) rfl
theorem k_282 : ((Jvm.Cond.instanceMethod ({ cls := "SignMachine$Machine", name := "reasonAgainst", desc := "()I" } : Jvm.MethodName))) ∈ tb := mt 282 (by decide +kernel) rfl
theorem k_283 : ((Jvm.Cond.code ({ cls := "SignMachine$Machine", name := "reasonAgainst", desc := "()I" } : Jvm.MethodName) prog_3_method_13_code (1 : Nat) (Option.some Jvm.ClassFile.FieldType.int))) ∈ tb := mt 283 (by decide +kernel) rfl
theorem k_284 : ((Jvm.Cond.methodLink "SignMachine$Machine" (90 : Nat) ({ cls := "SignMachine$Machine", name := "shapeCanBe", desc := "()Z" } : Jvm.MethodName))) ∈ tb := mt 284 (by decide +kernel) rfl
theorem k_286 : ((Jvm.Cond.instanceMethod ({ cls := "SignMachine$Machine", name := "shapeCanBe", desc := "()Z" } : Jvm.MethodName))) ∈ tb := mt 286 (by decide +kernel) rfl
theorem k_287 : ((Jvm.Cond.code ({ cls := "SignMachine$Machine", name := "shapeCanBe", desc := "()Z" } : Jvm.MethodName) prog_3_method_15_code (1 : Nat) (Option.some Jvm.ClassFile.FieldType.boolean))) ∈ tb := mt 287 (by decide +kernel) rfl
theorem k_288 : ((Jvm.Cond.methodLink "SignMachine$Machine" (103 : Nat) ({ cls := "SignMachine$Machine", name := "hasFieldOfWord", desc := "()Z" } : Jvm.MethodName))) ∈ tb := mt 288 (by decide +kernel) rfl
theorem k_290 : ((Jvm.Cond.instanceMethod ({ cls := "SignMachine$Machine", name := "hasFieldOfWord", desc := "()Z" } : Jvm.MethodName))) ∈ tb := mt 290 (by decide +kernel) rfl
theorem k_291 : ((Jvm.Cond.code ({ cls := "SignMachine$Machine", name := "hasFieldOfWord", desc := "()Z" } : Jvm.MethodName) prog_3_method_14_code (1 : Nat) (Option.some Jvm.ClassFile.FieldType.boolean))) ∈ tb := mt 291 (by decide +kernel) rfl
theorem k_292 : ((Jvm.Cond.methodLink "SignMachine$Machine" (106 : Nat) ({ cls := "SignMachine$Word", name := "isField", desc := "(I)Z" } : Jvm.MethodName))) ∈ tb := mt 292 (by decide +kernel) rfl
theorem k_293 : ((Jvm.Cond.static ({ cls := "SignMachine$Word", name := "isField", desc := "(I)Z" } : Jvm.MethodName))) ∈ tb := mt 293 (by decide +kernel) rfl
theorem k_294 : ((Jvm.Cond.code ({ cls := "SignMachine$Word", name := "isField", desc := "(I)Z" } : Jvm.MethodName) prog_9_method_9_code (3 : Nat) (Option.some Jvm.ClassFile.FieldType.boolean))) ∈ tb := mt 294 (by decide +kernel) rfl
theorem k_295 : ((Jvm.Cond.methodLink "SignMachine$Machine" (94 : Nat) ({ cls := "SignMachine$Machine", name := "addressCanBe", desc := "()Z" } : Jvm.MethodName))) ∈ tb := mt 295 (by decide +kernel) rfl
theorem k_297 : ((Jvm.Cond.instanceMethod ({ cls := "SignMachine$Machine", name := "addressCanBe", desc := "()Z" } : Jvm.MethodName))) ∈ tb := mt 297 (by decide +kernel) rfl
theorem k_298 : ((Jvm.Cond.code ({ cls := "SignMachine$Machine", name := "addressCanBe", desc := "()Z" } : Jvm.MethodName) prog_3_method_16_code (1 : Nat) (Option.some Jvm.ClassFile.FieldType.boolean))) ∈ tb := mt 298 (by decide +kernel) rfl
theorem k_299 : ((Jvm.Cond.methodLink "SignMachine$Machine" (109 : Nat) ({ cls := "SignMachine$Machine", name := "canMove", desc := "()Z" } : Jvm.MethodName))) ∈ tb := mt 299 (by decide +kernel) rfl
theorem k_301 : ((Jvm.Cond.instanceMethod ({ cls := "SignMachine$Machine", name := "canMove", desc := "()Z" } : Jvm.MethodName))) ∈ tb := mt 301 (by decide +kernel) rfl
theorem k_302 : ((Jvm.Cond.code ({ cls := "SignMachine$Machine", name := "canMove", desc := "()Z" } : Jvm.MethodName) prog_3_method_17_code (1 : Nat) (Option.some Jvm.ClassFile.FieldType.boolean))) ∈ tb := mt 302 (by decide +kernel) rfl
theorem k_303 : ((Jvm.Cond.methodLink "SignMachine$Machine" (112 : Nat) ({ cls := "SignMachine$Machine", name := "hasWords", desc := "(II)Z" } : Jvm.MethodName))) ∈ tb := mt 303 (by decide +kernel) rfl
theorem k_304 : ((Jvm.Cond.static ({ cls := "SignMachine$Machine", name := "hasWords", desc := "(II)Z" } : Jvm.MethodName))) ∈ tb := mt 304 (by decide +kernel) rfl
theorem k_305 : ((Jvm.Cond.code ({ cls := "SignMachine$Machine", name := "hasWords", desc := "(II)Z" } : Jvm.MethodName) prog_3_method_18_code (2 : Nat) (Option.some Jvm.ClassFile.FieldType.boolean))) ∈ tb := mt 305 (by decide +kernel) rfl
theorem k_306 : ((Jvm.Cond.methodLink "SignMachine$Machine" (97 : Nat) ({ cls := "SignMachine$Machine", name := "indexCanBe", desc := "()Z" } : Jvm.MethodName))) ∈ tb := mt 306 (by decide +kernel) rfl
theorem k_308 : ((Jvm.Cond.instanceMethod ({ cls := "SignMachine$Machine", name := "indexCanBe", desc := "()Z" } : Jvm.MethodName))) ∈ tb := mt 308 (by decide +kernel) rfl
theorem k_309 : ((Jvm.Cond.code ({ cls := "SignMachine$Machine", name := "indexCanBe", desc := "()Z" } : Jvm.MethodName) prog_3_method_19_code (1 : Nat) (Option.some Jvm.ClassFile.FieldType.boolean))) ∈ tb := mt 309 (by decide +kernel) rfl
theorem k_310 : ((Jvm.Cond.methodLink "SignMachine$Machine" (116 : Nat) ({ cls := "SignMachine$Machine", name := "value", desc := "()I" } : Jvm.MethodName))) ∈ tb := mt 310 (by decide +kernel) rfl
theorem k_312 : ((Jvm.Cond.instanceMethod ({ cls := "SignMachine$Machine", name := "value", desc := "()I" } : Jvm.MethodName))) ∈ tb := mt 312 (by decide +kernel) rfl
theorem k_313 : ((Jvm.Cond.code ({ cls := "SignMachine$Machine", name := "value", desc := "()I" } : Jvm.MethodName) prog_3_method_22_code (1 : Nat) (Option.some Jvm.ClassFile.FieldType.int))) ∈ tb := mt 313 (by decide +kernel) rfl
theorem k_314 : ((Jvm.Cond.methodLink "SignMachine$Machine" (134 : Nat) ({ cls := "SignMachine$Word", name := "field", desc := "(II)I" } : Jvm.MethodName))) ∈ tb := mt 314 (by decide +kernel) rfl
theorem k_315 : ((Jvm.Cond.static ({ cls := "SignMachine$Word", name := "field", desc := "(II)I" } : Jvm.MethodName))) ∈ tb := mt 315 (by decide +kernel) rfl
theorem k_316 : ((Jvm.Cond.code ({ cls := "SignMachine$Word", name := "field", desc := "(II)I" } : Jvm.MethodName) prog_9_method_12_code (3 : Nat) (Option.some Jvm.ClassFile.FieldType.int))) ∈ tb := mt 316 (by decide +kernel) rfl
theorem k_317 : ((Jvm.Cond.methodLink "SignMachine$Word" (15 : Nat) ({ cls := "SignMachine$Word", name := "size", desc := "(I)I" } : Jvm.MethodName))) ∈ tb := mt 317 (by decide +kernel) rfl
theorem k_318 : ((Jvm.Cond.methodLink "SignMachine$Word" (19 : Nat) ({ cls := "SignMachine$Word", name := "bitsBehind", desc := "(I)I" } : Jvm.MethodName))) ∈ tb := mt 318 (by decide +kernel) rfl
theorem k_319 : ((Jvm.Cond.static ({ cls := "SignMachine$Word", name := "bitsBehind", desc := "(I)I" } : Jvm.MethodName))) ∈ tb := mt 319 (by decide +kernel) rfl
theorem k_320 : ((Jvm.Cond.code ({ cls := "SignMachine$Word", name := "bitsBehind", desc := "(I)I" } : Jvm.MethodName) prog_9_method_11_code (1 : Nat) (Option.some Jvm.ClassFile.FieldType.int))) ∈ tb := mt 320 (by decide +kernel) rfl
theorem k_321 : ((Jvm.Cond.methodLink "SignMachine$Word" (22 : Nat) ({ cls := "SignMachine$Word", name := "maskOf", desc := "(I)I" } : Jvm.MethodName))) ∈ tb := mt 321 (by decide +kernel) rfl
theorem k_322 : ((Jvm.Cond.static ({ cls := "SignMachine$Word", name := "maskOf", desc := "(I)I" } : Jvm.MethodName))) ∈ tb := mt 322 (by decide +kernel) rfl
theorem k_323 : ((Jvm.Cond.code ({ cls := "SignMachine$Word", name := "maskOf", desc := "(I)I" } : Jvm.MethodName) prog_9_method_10_code (4 : Nat) (Option.some Jvm.ClassFile.FieldType.int))) ∈ tb := mt 323 (by decide +kernel) rfl
theorem k_324 : ((Jvm.Cond.methodLink "SignMachine$Word" (25 : Nat) ({ cls := "SignMachine$Word", name := "sign", desc := "(I)I" } : Jvm.MethodName))) ∈ tb := mt 324 (by decide +kernel) rfl
theorem k_325 : ((Jvm.Cond.methodLink "SignMachine$Word" (11 : Nat) ({ cls := "SignMachine$Word", name := "make", desc := "(II)I" } : Jvm.MethodName))) ∈ tb := mt 325 (by decide +kernel) rfl
theorem k_326 : ((Jvm.Cond.methodLink "SignMachine$Machine" (119 : Nat) ({ cls := "SignMachine$Machine", name := "numberByAddress", desc := "()I" } : Jvm.MethodName))) ∈ tb := mt 326 (by decide +kernel) rfl
theorem k_328 : ((Jvm.Cond.instanceMethod ({ cls := "SignMachine$Machine", name := "numberByAddress", desc := "()I" } : Jvm.MethodName))) ∈ tb := mt 328 (by decide +kernel) rfl
theorem k_329 : ((Jvm.Cond.code ({ cls := "SignMachine$Machine", name := "numberByAddress", desc := "()I" } : Jvm.MethodName) prog_3_method_43_code (2 : Nat) (Option.some Jvm.ClassFile.FieldType.int))) ∈ tb := mt 329 (by decide +kernel) rfl
theorem k_330 : ((Jvm.Cond.methodLink "SignMachine$Machine" (122 : Nat) ({ cls := "java/lang/Math", name := "abs", desc := "(I)I" } : Jvm.MethodName))) ∈ tb := mt 330 (by decide +kernel) rfl
theorem k_331 : ((Jvm.Cond.static ({ cls := "java/lang/Math", name := "abs", desc := "(I)I" } : Jvm.MethodName))) ∈ tb := mt 331 (by decide +kernel) rfl
theorem k_333 : ((Jvm.Cond.methodLink "SignMachine$Machine" (100 : Nat) ({ cls := "SignMachine$Machine", name := "blockCanBe", desc := "()Z" } : Jvm.MethodName))) ∈ tb := mt 333 (by decide +kernel) rfl
theorem k_335 : ((Jvm.Cond.instanceMethod ({ cls := "SignMachine$Machine", name := "blockCanBe", desc := "()Z" } : Jvm.MethodName))) ∈ tb := mt 335 (by decide +kernel) rfl
theorem k_336 : ((Jvm.Cond.code ({ cls := "SignMachine$Machine", name := "blockCanBe", desc := "()Z" } : Jvm.MethodName) prog_3_method_20_code (2 : Nat) (Option.some Jvm.ClassFile.FieldType.boolean))) ∈ tb := mt 336 (by decide +kernel) rfl
theorem k_337 : ((Jvm.Cond.methodLink "SignMachine$Machine" (127 : Nat) ({ cls := "SignMachine$Machine", name := "unit", desc := "(I)LSignMachine$Tape;" } : Jvm.MethodName))) ∈ tb := mt 337 (by decide +kernel) rfl
theorem k_338 : ((Jvm.Cond.instanceMethod ({ cls := "SignMachine$Machine", name := "unit", desc := "(I)LSignMachine$Tape;" } : Jvm.MethodName))) ∈ tb := mt 338 (by decide +kernel) rfl
theorem k_339 : ((Jvm.Cond.selects "SignMachine$Machine" ({ cls := "SignMachine$Machine", name := "unit", desc := "(I)LSignMachine$Tape;" } : Jvm.MethodName) ({ cls := "SignMachine$Machine", name := "unit", desc := "(I)LSignMachine$Tape;" } : Jvm.MethodName))) ∈ tb := mt 339 (by decide +kernel) rfl
theorem k_340 : ((Jvm.Cond.code ({ cls := "SignMachine$Machine", name := "unit", desc := "(I)LSignMachine$Tape;" } : Jvm.MethodName) prog_3_method_10_code (2 : Nat) (Option.some (Jvm.ClassFile.FieldType.object "SignMachine$Tape")))) ∈ tb := mt 340 (by decide +kernel) rfl
theorem k_341 : ((Jvm.Cond.methodLink "SignMachine$Machine" (54 : Nat) ({ cls := "SignMachine$Machine", name := "duration", desc := "()I" } : Jvm.MethodName))) ∈ tb := mt 341 (by decide +kernel) rfl
theorem k_343 : ((Jvm.Cond.instanceMethod ({ cls := "SignMachine$Machine", name := "duration", desc := "()I" } : Jvm.MethodName))) ∈ tb := mt 343 (by decide +kernel) rfl
theorem k_344 : ((Jvm.Cond.code ({ cls := "SignMachine$Machine", name := "duration", desc := "()I" } : Jvm.MethodName) prog_3_method_21_code (1 : Nat) (Option.some Jvm.ClassFile.FieldType.int))) ∈ tb := mt 344 (by decide +kernel) rfl
theorem k_345 : ((Jvm.Cond.constant "SignMachine$Machine" (57 : Nat) (1073741823 : Int32))) ∈ tb := mt 345 (by decide +kernel) rfl
theorem k_346 : ((Jvm.Cond.methodLink "SignMachine$Machine" (58 : Nat) ({ cls := "SignMachine$Machine", name := "perform", desc := "()V" } : Jvm.MethodName))) ∈ tb := mt 346 (by decide +kernel) rfl
theorem k_348 : ((Jvm.Cond.instanceMethod ({ cls := "SignMachine$Machine", name := "perform", desc := "()V" } : Jvm.MethodName))) ∈ tb := mt 348 (by decide +kernel) rfl
theorem k_349 : ((Jvm.Cond.code ({ cls := "SignMachine$Machine", name := "perform", desc := "()V" } : Jvm.MethodName) prog_3_method_23_code (1 : Nat) (Option.none : Option Jvm.ClassFile.FieldType))) ∈ tb := mt 349 (by decide +kernel) rfl
theorem k_350 : ((Jvm.Cond.methodLink "SignMachine$Machine" (137 : Nat) ({ cls := "SignMachine$Machine", name := "performLow", desc := "()V" } : Jvm.MethodName))) ∈ tb := mt 350 (by decide +kernel) rfl
theorem k_352 : ((Jvm.Cond.instanceMethod ({ cls := "SignMachine$Machine", name := "performLow", desc := "()V" } : Jvm.MethodName))) ∈ tb := mt 352 (by decide +kernel) rfl
theorem k_353 : ((Jvm.Cond.code ({ cls := "SignMachine$Machine", name := "performLow", desc := "()V" } : Jvm.MethodName) prog_3_method_24_code (1 : Nat) (Option.none : Option Jvm.ClassFile.FieldType))) ∈ tb := mt 353 (by decide +kernel) rfl
theorem k_354 : ((Jvm.Cond.methodLink "SignMachine$Machine" (166 : Nat) ({ cls := "SignMachine$Machine", name := "addTo", desc := "(II)V" } : Jvm.MethodName))) ∈ tb := mt 354 (by decide +kernel) rfl
theorem k_356 : ((Jvm.Cond.instanceMethod ({ cls := "SignMachine$Machine", name := "addTo", desc := "(II)V" } : Jvm.MethodName))) ∈ tb := mt 356 (by decide +kernel) rfl
theorem k_357 : ((Jvm.Cond.code ({ cls := "SignMachine$Machine", name := "addTo", desc := "(II)V" } : Jvm.MethodName) prog_3_method_26_code (5 : Nat) (Option.none : Option Jvm.ClassFile.FieldType))) ∈ tb := mt 357 (by decide +kernel) rfl
theorem k_358 : ((Jvm.Cond.constant "SignMachine$Machine" (200 : Nat) (1073741824 : Int32))) ∈ tb := mt 358 (by decide +kernel) rfl
theorem k_359 : ((Jvm.Cond.methodLink "SignMachine$Machine" (201 : Nat) ({ cls := "SignMachine$Word", name := "of", desc := "(II)I" } : Jvm.MethodName))) ∈ tb := mt 359 (by decide +kernel) rfl
theorem k_360 : ((Jvm.Cond.static ({ cls := "SignMachine$Word", name := "of", desc := "(II)I" } : Jvm.MethodName))) ∈ tb := mt 360 (by decide +kernel) rfl
theorem k_361 : ((Jvm.Cond.code ({ cls := "SignMachine$Word", name := "of", desc := "(II)I" } : Jvm.MethodName) prog_9_method_8_code (2 : Nat) (Option.some Jvm.ClassFile.FieldType.int))) ∈ tb := mt 361 (by decide +kernel) rfl
theorem k_362 : ((Jvm.Cond.methodLink "SignMachine$Machine" (140 : Nat) ({ cls := "SignMachine$Machine", name := "putRegister", desc := "(II)V" } : Jvm.MethodName))) ∈ tb := mt 362 (by decide +kernel) rfl
theorem k_363 : ((Jvm.Cond.instanceMethod ({ cls := "SignMachine$Machine", name := "putRegister", desc := "(II)V" } : Jvm.MethodName))) ∈ tb := mt 363 (by decide +kernel) rfl
theorem k_364 : ((Jvm.Cond.selects "SignMachine$Machine" ({ cls := "SignMachine$Machine", name := "putRegister", desc := "(II)V" } : Jvm.MethodName) ({ cls := "SignMachine$Machine", name := "putRegister", desc := "(II)V" } : Jvm.MethodName))) ∈ tb := mt 364 (by decide +kernel) rfl
theorem k_365 : ((Jvm.Cond.code ({ cls := "SignMachine$Machine", name := "putRegister", desc := "(II)V" } : Jvm.MethodName) prog_3_method_9_code (3 : Nat) (Option.none : Option Jvm.ClassFile.FieldType))) ∈ tb := mt 365 (by decide +kernel) rfl
theorem k_366 : ((Jvm.Cond.methodLink "SignMachine$Machine" (169 : Nat) ({ cls := "SignMachine$Machine", name := "multiply", desc := "(I)V" } : Jvm.MethodName))) ∈ tb := mt 366 (by decide +kernel) rfl
theorem k_368 : ((Jvm.Cond.instanceMethod ({ cls := "SignMachine$Machine", name := "multiply", desc := "(I)V" } : Jvm.MethodName))) ∈ tb := mt 368 (by decide +kernel) rfl
theorem k_369 : ((Jvm.Cond.code ({ cls := "SignMachine$Machine", name := "multiply", desc := "(I)V" } : Jvm.MethodName) prog_3_method_29_code (6 : Nat) (Option.none : Option Jvm.ClassFile.FieldType))) ∈ tb := mt 369 (by decide +kernel) rfl
theorem k_370 : ((Jvm.Cond.methodLink "SignMachine$Machine" (204 : Nat) ({ cls := "SignMachine$Word", name := "make", desc := "(II)I" } : Jvm.MethodName))) ∈ tb := mt 370 (by decide +kernel) rfl
theorem k_371 : ((Jvm.Cond.methodLink "SignMachine$Machine" (172 : Nat) ({ cls := "SignMachine$Machine", name := "divide", desc := "(I)V" } : Jvm.MethodName))) ∈ tb := mt 371 (by decide +kernel) rfl
theorem k_373 : ((Jvm.Cond.instanceMethod ({ cls := "SignMachine$Machine", name := "divide", desc := "(I)V" } : Jvm.MethodName))) ∈ tb := mt 373 (by decide +kernel) rfl
theorem k_374 : ((Jvm.Cond.code ({ cls := "SignMachine$Machine", name := "divide", desc := "(I)V" } : Jvm.MethodName) prog_3_method_30_code (6 : Nat) (Option.none : Option Jvm.ClassFile.FieldType))) ∈ tb := mt 374 (by decide +kernel) rfl
theorem k_375 : ((Jvm.Cond.methodLink "SignMachine$Machine" (207 : Nat) ({ cls := "SignMachine$Machine", name := "sizeOfAX", desc := "()J" } : Jvm.MethodName))) ∈ tb := mt 375 (by decide +kernel) rfl
theorem k_377 : ((Jvm.Cond.instanceMethod ({ cls := "SignMachine$Machine", name := "sizeOfAX", desc := "()J" } : Jvm.MethodName))) ∈ tb := mt 377 (by decide +kernel) rfl
theorem k_378 : ((Jvm.Cond.code ({ cls := "SignMachine$Machine", name := "sizeOfAX", desc := "()J" } : Jvm.MethodName) prog_3_method_27_code (1 : Nat) (Option.some Jvm.ClassFile.FieldType.long))) ∈ tb := mt 378 (by decide +kernel) rfl
theorem k_379 : ((Jvm.Cond.methodLink "SignMachine$Machine" (175 : Nat) ({ cls := "SignMachine$Machine", name := "convert", desc := "()V" } : Jvm.MethodName))) ∈ tb := mt 379 (by decide +kernel) rfl
theorem k_381 : ((Jvm.Cond.instanceMethod ({ cls := "SignMachine$Machine", name := "convert", desc := "()V" } : Jvm.MethodName))) ∈ tb := mt 381 (by decide +kernel) rfl
theorem k_382 : ((Jvm.Cond.code ({ cls := "SignMachine$Machine", name := "convert", desc := "()V" } : Jvm.MethodName) prog_3_method_31_code (1 : Nat) (Option.none : Option Jvm.ClassFile.FieldType))) ∈ tb := mt 382 (by decide +kernel) rfl
theorem k_383 : ((Jvm.Cond.methodLink "SignMachine$Machine" (211 : Nat) ({ cls := "SignMachine$Machine", name := "becomeNumber", desc := "()V" } : Jvm.MethodName))) ∈ tb := mt 383 (by decide +kernel) rfl
theorem k_385 : ((Jvm.Cond.instanceMethod ({ cls := "SignMachine$Machine", name := "becomeNumber", desc := "()V" } : Jvm.MethodName))) ∈ tb := mt 385 (by decide +kernel) rfl
theorem k_386 : ((Jvm.Cond.code ({ cls := "SignMachine$Machine", name := "becomeNumber", desc := "()V" } : Jvm.MethodName) prog_3_method_32_code (6 : Nat) (Option.none : Option Jvm.ClassFile.FieldType))) ∈ tb := mt 386 (by decide +kernel) rfl
theorem k_387 : ((Jvm.Cond.constantLong "SignMachine$Machine" (217 : Nat) (10 : Int64))) ∈ tb := mt 387 (by decide +kernel) rfl
theorem k_388 : ((Jvm.Cond.constantLong "SignMachine$Machine" (219 : Nat) (63 : Int64))) ∈ tb := mt 388 (by decide +kernel) rfl
theorem k_389 : ((Jvm.Cond.constantLong "SignMachine$Machine" (221 : Nat) (1073741823 : Int64))) ∈ tb := mt 389 (by decide +kernel) rfl
theorem k_390 : ((Jvm.Cond.constantLong "SignMachine$Machine" (223 : Nat) (1073741824 : Int64))) ∈ tb := mt 390 (by decide +kernel) rfl
theorem k_391 : ((Jvm.Cond.methodLink "SignMachine$Machine" (214 : Nat) ({ cls := "SignMachine$Machine", name := "becomeDigits", desc := "()V" } : Jvm.MethodName))) ∈ tb := mt 391 (by decide +kernel) rfl
theorem k_393 : ((Jvm.Cond.instanceMethod ({ cls := "SignMachine$Machine", name := "becomeDigits", desc := "()V" } : Jvm.MethodName))) ∈ tb := mt 393 (by decide +kernel) rfl
theorem k_394 : ((Jvm.Cond.code ({ cls := "SignMachine$Machine", name := "becomeDigits", desc := "()V" } : Jvm.MethodName) prog_3_method_33_code (5 : Nat) (Option.none : Option Jvm.ClassFile.FieldType))) ∈ tb := mt 394 (by decide +kernel) rfl
theorem k_395 : ((Jvm.Cond.methodLink "SignMachine$Machine" (225 : Nat) ({ cls := "SignMachine$Machine", name := "putSizesOfAX", desc := "(J)V" } : Jvm.MethodName))) ∈ tb := mt 395 (by decide +kernel) rfl
theorem k_397 : ((Jvm.Cond.instanceMethod ({ cls := "SignMachine$Machine", name := "putSizesOfAX", desc := "(J)V" } : Jvm.MethodName))) ∈ tb := mt 397 (by decide +kernel) rfl
theorem k_398 : ((Jvm.Cond.code ({ cls := "SignMachine$Machine", name := "putSizesOfAX", desc := "(J)V" } : Jvm.MethodName) prog_3_method_28_code (5 : Nat) (Option.none : Option Jvm.ClassFile.FieldType))) ∈ tb := mt 398 (by decide +kernel) rfl
theorem k_399 : ((Jvm.Cond.methodLink "SignMachine$Machine" (178 : Nat) ({ cls := "SignMachine$Machine", name := "shift", desc := "()V" } : Jvm.MethodName))) ∈ tb := mt 399 (by decide +kernel) rfl
theorem k_401 : ((Jvm.Cond.instanceMethod ({ cls := "SignMachine$Machine", name := "shift", desc := "()V" } : Jvm.MethodName))) ∈ tb := mt 401 (by decide +kernel) rfl
theorem k_402 : ((Jvm.Cond.code ({ cls := "SignMachine$Machine", name := "shift", desc := "()V" } : Jvm.MethodName) prog_3_method_34_code (5 : Nat) (Option.none : Option Jvm.ClassFile.FieldType))) ∈ tb := mt 402 (by decide +kernel) rfl
theorem k_403 : ((Jvm.Cond.methodLink "SignMachine$Machine" (229 : Nat) ({ cls := "java/lang/Math", name := "min", desc := "(II)I" } : Jvm.MethodName))) ∈ tb := mt 403 (by decide +kernel) rfl
theorem k_404 : ((Jvm.Cond.static ({ cls := "java/lang/Math", name := "min", desc := "(II)I" } : Jvm.MethodName))) ∈ tb := mt 404 (by decide +kernel) rfl
theorem k_406 : ((Jvm.Cond.methodLink "SignMachine$Machine" (181 : Nat) ({ cls := "SignMachine$Machine", name := "moveWords", desc := "()V" } : Jvm.MethodName))) ∈ tb := mt 406 (by decide +kernel) rfl
theorem k_408 : ((Jvm.Cond.instanceMethod ({ cls := "SignMachine$Machine", name := "moveWords", desc := "()V" } : Jvm.MethodName))) ∈ tb := mt 408 (by decide +kernel) rfl
theorem k_409 : ((Jvm.Cond.code ({ cls := "SignMachine$Machine", name := "moveWords", desc := "()V" } : Jvm.MethodName) prog_3_method_35_code (3 : Nat) (Option.none : Option Jvm.ClassFile.FieldType))) ∈ tb := mt 409 (by decide +kernel) rfl
theorem k_410 : ((Jvm.Cond.methodLink "SignMachine$Machine" (232 : Nat) ({ cls := "SignMachine$Machine", name := "putWord", desc := "(II)V" } : Jvm.MethodName))) ∈ tb := mt 410 (by decide +kernel) rfl
theorem k_411 : ((Jvm.Cond.methodLink "SignMachine$Machine" (144 : Nat) ({ cls := "SignMachine$Word", name := "opposite", desc := "(I)I" } : Jvm.MethodName))) ∈ tb := mt 411 (by decide +kernel) rfl
theorem k_412 : ((Jvm.Cond.static ({ cls := "SignMachine$Word", name := "opposite", desc := "(I)I" } : Jvm.MethodName))) ∈ tb := mt 412 (by decide +kernel) rfl
theorem k_413 : ((Jvm.Cond.code ({ cls := "SignMachine$Word", name := "opposite", desc := "(I)I" } : Jvm.MethodName) prog_9_method_7_code (1 : Nat) (Option.some Jvm.ClassFile.FieldType.int))) ∈ tb := mt 413 (by decide +kernel) rfl
theorem k_414 : ((Jvm.Cond.methodLink "SignMachine$Machine" (147 : Nat) ({ cls := "SignMachine$Machine", name := "storeWord", desc := "(I)V" } : Jvm.MethodName))) ∈ tb := mt 414 (by decide +kernel) rfl
theorem k_416 : ((Jvm.Cond.instanceMethod ({ cls := "SignMachine$Machine", name := "storeWord", desc := "(I)V" } : Jvm.MethodName))) ∈ tb := mt 416 (by decide +kernel) rfl
theorem k_417 : ((Jvm.Cond.code ({ cls := "SignMachine$Machine", name := "storeWord", desc := "(I)V" } : Jvm.MethodName) prog_3_method_36_code (2 : Nat) (Option.none : Option Jvm.ClassFile.FieldType))) ∈ tb := mt 417 (by decide +kernel) rfl
theorem k_418 : ((Jvm.Cond.methodLink "SignMachine$Machine" (235 : Nat) ({ cls := "SignMachine$Word", name := "store", desc := "(III)I" } : Jvm.MethodName))) ∈ tb := mt 418 (by decide +kernel) rfl
theorem k_419 : ((Jvm.Cond.static ({ cls := "SignMachine$Word", name := "store", desc := "(III)I" } : Jvm.MethodName))) ∈ tb := mt 419 (by decide +kernel) rfl
theorem k_420 : ((Jvm.Cond.code ({ cls := "SignMachine$Word", name := "store", desc := "(III)I" } : Jvm.MethodName) prog_9_method_13_code (6 : Nat) (Option.some Jvm.ClassFile.FieldType.int))) ∈ tb := mt 420 (by decide +kernel) rfl
theorem k_421 : ((Jvm.Cond.methodLink "SignMachine$Machine" (150 : Nat) ({ cls := "SignMachine$Machine", name := "performMiddle", desc := "()V" } : Jvm.MethodName))) ∈ tb := mt 421 (by decide +kernel) rfl
theorem k_423 : ((Jvm.Cond.instanceMethod ({ cls := "SignMachine$Machine", name := "performMiddle", desc := "()V" } : Jvm.MethodName))) ∈ tb := mt 423 (by decide +kernel) rfl
theorem k_424 : ((Jvm.Cond.code ({ cls := "SignMachine$Machine", name := "performMiddle", desc := "()V" } : Jvm.MethodName) prog_3_method_25_code (1 : Nat) (Option.none : Option Jvm.ClassFile.FieldType))) ∈ tb := mt 424 (by decide +kernel) rfl
theorem k_425 : ((Jvm.Cond.methodLink "SignMachine$Machine" (184 : Nat) ({ cls := "SignMachine$Machine", name := "wind", desc := "()V" } : Jvm.MethodName))) ∈ tb := mt 425 (by decide +kernel) rfl
theorem k_427 : ((Jvm.Cond.instanceMethod ({ cls := "SignMachine$Machine", name := "wind", desc := "()V" } : Jvm.MethodName))) ∈ tb := mt 427 (by decide +kernel) rfl
theorem k_428 : ((Jvm.Cond.code ({ cls := "SignMachine$Machine", name := "wind", desc := "()V" } : Jvm.MethodName) prog_3_method_37_code (2 : Nat) (Option.none : Option Jvm.ClassFile.FieldType))) ∈ tb := mt 428 (by decide +kernel) rfl
theorem k_429 : ((Jvm.Cond.methodLink "SignMachine$Machine" (187 : Nat) ({ cls := "SignMachine$Machine", name := "readBlock", desc := "()V" } : Jvm.MethodName))) ∈ tb := mt 429 (by decide +kernel) rfl
theorem k_431 : ((Jvm.Cond.instanceMethod ({ cls := "SignMachine$Machine", name := "readBlock", desc := "()V" } : Jvm.MethodName))) ∈ tb := mt 431 (by decide +kernel) rfl
theorem k_432 : ((Jvm.Cond.code ({ cls := "SignMachine$Machine", name := "readBlock", desc := "()V" } : Jvm.MethodName) prog_3_method_38_code (3 : Nat) (Option.none : Option Jvm.ClassFile.FieldType))) ∈ tb := mt 432 (by decide +kernel) rfl
theorem k_433 : ((Jvm.Cond.methodLink "SignMachine$Machine" (239 : Nat) ({ cls := "SignMachine$Tape", name := "wordAt", desc := "(II)I" } : Jvm.MethodName))) ∈ tb := mt 433 (by decide +kernel) rfl
theorem k_434 : ((Jvm.Cond.instanceMethod ({ cls := "SignMachine$Tape", name := "wordAt", desc := "(II)I" } : Jvm.MethodName))) ∈ tb := mt 434 (by decide +kernel) rfl
theorem k_435 : ((Jvm.Cond.selects "SignMachine$Tape" ({ cls := "SignMachine$Tape", name := "wordAt", desc := "(II)I" } : Jvm.MethodName) ({ cls := "SignMachine$Tape", name := "wordAt", desc := "(II)I" } : Jvm.MethodName))) ∈ tb := mt 435 (by decide +kernel) rfl
theorem k_436 : ((Jvm.Cond.code ({ cls := "SignMachine$Tape", name := "wordAt", desc := "(II)I" } : Jvm.MethodName) prog_8_method_3_code (3 : Nat) (Option.some Jvm.ClassFile.FieldType.int))) ∈ tb := mt 436 (by decide +kernel) rfl
theorem k_437 : ((Jvm.Cond.methodLink "SignMachine$Tape" (13 : Nat) ({ cls := "SignMachine$Tape", name := "isWord", desc := "(II)Z" } : Jvm.MethodName))) ∈ tb := mt 437 (by decide +kernel) rfl
theorem k_438 : ((Jvm.Cond.static ({ cls := "SignMachine$Tape", name := "isWord", desc := "(II)Z" } : Jvm.MethodName))) ∈ tb := mt 438 (by decide +kernel) rfl
theorem k_439 : ((Jvm.Cond.code ({ cls := "SignMachine$Tape", name := "isWord", desc := "(II)Z" } : Jvm.MethodName) prog_8_method_2_code (2 : Nat) (Option.some Jvm.ClassFile.FieldType.boolean))) ∈ tb := mt 439 (by decide +kernel) rfl
theorem k_440 : ((Jvm.Cond.methodLink "SignMachine$Machine" (190 : Nat) ({ cls := "SignMachine$Machine", name := "writeBlock", desc := "()V" } : Jvm.MethodName))) ∈ tb := mt 440 (by decide +kernel) rfl
theorem k_442 : ((Jvm.Cond.instanceMethod ({ cls := "SignMachine$Machine", name := "writeBlock", desc := "()V" } : Jvm.MethodName))) ∈ tb := mt 442 (by decide +kernel) rfl
theorem k_443 : ((Jvm.Cond.code ({ cls := "SignMachine$Machine", name := "writeBlock", desc := "()V" } : Jvm.MethodName) prog_3_method_39_code (3 : Nat) (Option.none : Option Jvm.ClassFile.FieldType))) ∈ tb := mt 443 (by decide +kernel) rfl
theorem k_444 : ((Jvm.Cond.methodLink "SignMachine$Machine" (241 : Nat) ({ cls := "SignMachine$Tape", name := "putWord", desc := "(III)V" } : Jvm.MethodName))) ∈ tb := mt 444 (by decide +kernel) rfl
theorem k_445 : ((Jvm.Cond.instanceMethod ({ cls := "SignMachine$Tape", name := "putWord", desc := "(III)V" } : Jvm.MethodName))) ∈ tb := mt 445 (by decide +kernel) rfl
theorem k_446 : ((Jvm.Cond.selects "SignMachine$Tape" ({ cls := "SignMachine$Tape", name := "putWord", desc := "(III)V" } : Jvm.MethodName) ({ cls := "SignMachine$Tape", name := "putWord", desc := "(III)V" } : Jvm.MethodName))) ∈ tb := mt 446 (by decide +kernel) rfl
theorem k_447 : ((Jvm.Cond.code ({ cls := "SignMachine$Tape", name := "putWord", desc := "(III)V" } : Jvm.MethodName) prog_8_method_4_code (4 : Nat) (Option.none : Option Jvm.ClassFile.FieldType))) ∈ tb := mt 447 (by decide +kernel) rfl
theorem k_448 : ((Jvm.Cond.methodLink "SignMachine$Machine" (156 : Nat) ({ cls := "SignMachine$Machine", name := "goIf", desc := "(Z)V" } : Jvm.MethodName))) ∈ tb := mt 448 (by decide +kernel) rfl
theorem k_450 : ((Jvm.Cond.instanceMethod ({ cls := "SignMachine$Machine", name := "goIf", desc := "(Z)V" } : Jvm.MethodName))) ∈ tb := mt 450 (by decide +kernel) rfl
theorem k_451 : ((Jvm.Cond.code ({ cls := "SignMachine$Machine", name := "goIf", desc := "(Z)V" } : Jvm.MethodName) prog_3_method_40_code (2 : Nat) (Option.none : Option Jvm.ClassFile.FieldType))) ∈ tb := mt 451 (by decide +kernel) rfl
theorem k_452 : ((Jvm.Cond.methodLink "SignMachine$Machine" (193 : Nat) ({ cls := "SignMachine$Machine", name := "goByState", desc := "()V" } : Jvm.MethodName))) ∈ tb := mt 452 (by decide +kernel) rfl
theorem k_454 : ((Jvm.Cond.instanceMethod ({ cls := "SignMachine$Machine", name := "goByState", desc := "()V" } : Jvm.MethodName))) ∈ tb := mt 454 (by decide +kernel) rfl
theorem k_455 : ((Jvm.Cond.code ({ cls := "SignMachine$Machine", name := "goByState", desc := "()V" } : Jvm.MethodName) prog_3_method_41_code (2 : Nat) (Option.none : Option Jvm.ClassFile.FieldType))) ∈ tb := mt 455 (by decide +kernel) rfl
theorem k_456 : ((Jvm.Cond.methodLink "SignMachine$Machine" (153 : Nat) ({ cls := "SignMachine$Machine", name := "registerIs", desc := "(I)Z" } : Jvm.MethodName))) ∈ tb := mt 456 (by decide +kernel) rfl
theorem k_458 : ((Jvm.Cond.instanceMethod ({ cls := "SignMachine$Machine", name := "registerIs", desc := "(I)Z" } : Jvm.MethodName))) ∈ tb := mt 458 (by decide +kernel) rfl
theorem k_459 : ((Jvm.Cond.code ({ cls := "SignMachine$Machine", name := "registerIs", desc := "(I)Z" } : Jvm.MethodName) prog_3_method_42_code (2 : Nat) (Option.some Jvm.ClassFile.FieldType.boolean))) ∈ tb := mt 459 (by decide +kernel) rfl
theorem k_460 : ((Jvm.Cond.methodLink "SignMachine$Machine" (160 : Nat) ({ cls := "SignMachine$Machine", name := "changeByAddress", desc := "(I)V" } : Jvm.MethodName))) ∈ tb := mt 460 (by decide +kernel) rfl
theorem k_462 : ((Jvm.Cond.instanceMethod ({ cls := "SignMachine$Machine", name := "changeByAddress", desc := "(I)V" } : Jvm.MethodName))) ∈ tb := mt 462 (by decide +kernel) rfl
theorem k_463 : ((Jvm.Cond.code ({ cls := "SignMachine$Machine", name := "changeByAddress", desc := "(I)V" } : Jvm.MethodName) prog_3_method_44_code (2 : Nat) (Option.none : Option Jvm.ClassFile.FieldType))) ∈ tb := mt 463 (by decide +kernel) rfl
theorem k_464 : ((Jvm.Cond.methodLink "SignMachine$Machine" (163 : Nat) ({ cls := "SignMachine$Machine", name := "compareField", desc := "(I)V" } : Jvm.MethodName))) ∈ tb := mt 464 (by decide +kernel) rfl
theorem k_466 : ((Jvm.Cond.instanceMethod ({ cls := "SignMachine$Machine", name := "compareField", desc := "(I)V" } : Jvm.MethodName))) ∈ tb := mt 466 (by decide +kernel) rfl
theorem k_467 : ((Jvm.Cond.code ({ cls := "SignMachine$Machine", name := "compareField", desc := "(I)V" } : Jvm.MethodName) prog_3_method_45_code (2 : Nat) (Option.none : Option Jvm.ClassFile.FieldType))) ∈ tb := mt 467 (by decide +kernel) rfl
theorem k_468 : ((Jvm.Cond.methodLink "SignMachine$Machine" (247 : Nat) ({ cls := "java/lang/Integer", name := "compare", desc := "(II)I" } : Jvm.MethodName))) ∈ tb := mt 468 (by decide +kernel) rfl
theorem k_469 : ((Jvm.Cond.static ({ cls := "java/lang/Integer", name := "compare", desc := "(II)I" } : Jvm.MethodName))) ∈ tb := mt 469 (by decide +kernel) rfl
theorem k_470 : ((Jvm.Cond.code ({ cls := "java/lang/Integer", name := "compare", desc := "(II)I" } : Jvm.MethodName) prog_14_method_40_code (2 : Nat) (Option.some Jvm.ClassFile.FieldType.int))) ∈ tb := mt 470 (by decide +kernel) rfl
theorem k_471 : ((Jvm.Cond.methodLink "SignMachineLaw" (32 : Nat) ({ cls := "SignMachine", name := "run", desc := "(I)I" } : Jvm.MethodName))) ∈ tb := mt 471 (by decide +kernel) rfl
theorem k_472 : ((Jvm.Cond.instanceMethod ({ cls := "SignMachine", name := "run", desc := "(I)I" } : Jvm.MethodName))) ∈ tb := mt 472 (by decide +kernel) rfl
theorem k_473 : ((Jvm.Cond.selects "SignMachine" ({ cls := "SignMachine", name := "run", desc := "(I)I" } : Jvm.MethodName) ({ cls := "SignMachine", name := "run", desc := "(I)I" } : Jvm.MethodName))) ∈ tb := mt 473 (by decide +kernel) rfl
theorem k_474 : ((Jvm.Cond.code ({ cls := "SignMachine", name := "run", desc := "(I)I" } : Jvm.MethodName) prog_1_method_6_code (5 : Nat) (Option.some Jvm.ClassFile.FieldType.int))) ∈ tb := mt 474 (by decide +kernel) rfl
theorem k_475 : ((Jvm.Cond.methodLink "SignMachineLaw" (36 : Nat) ({ cls := "SignMachine", name := "registerSign", desc := "(I)I" } : Jvm.MethodName))) ∈ tb := mt 475 (by decide +kernel) rfl
theorem k_476 : ((Jvm.Cond.instanceMethod ({ cls := "SignMachine", name := "registerSign", desc := "(I)I" } : Jvm.MethodName))) ∈ tb := mt 476 (by decide +kernel) rfl
theorem k_477 : ((Jvm.Cond.selects "SignMachine" ({ cls := "SignMachine", name := "registerSign", desc := "(I)I" } : Jvm.MethodName) ({ cls := "SignMachine", name := "registerSign", desc := "(I)I" } : Jvm.MethodName))) ∈ tb := mt 477 (by decide +kernel) rfl
theorem k_478 : ((Jvm.Cond.code ({ cls := "SignMachine", name := "registerSign", desc := "(I)I" } : Jvm.MethodName) prog_1_method_7_code (2 : Nat) (Option.some Jvm.ClassFile.FieldType.int))) ∈ tb := mt 478 (by decide +kernel) rfl
theorem k_479 : ((Jvm.Cond.methodLink "SignMachine" (52 : Nat) ({ cls := "SignMachine$Machine", name := "isRegister", desc := "(I)Z" } : Jvm.MethodName))) ∈ tb := mt 479 (by decide +kernel) rfl
theorem k_480 : ((Jvm.Cond.static ({ cls := "SignMachine$Machine", name := "isRegister", desc := "(I)Z" } : Jvm.MethodName))) ∈ tb := mt 480 (by decide +kernel) rfl
theorem k_481 : ((Jvm.Cond.code ({ cls := "SignMachine$Machine", name := "isRegister", desc := "(I)Z" } : Jvm.MethodName) prog_3_method_3_code (1 : Nat) (Option.some Jvm.ClassFile.FieldType.boolean))) ∈ tb := mt 481 (by decide +kernel) rfl
theorem k_482 : ((Jvm.Cond.methodLink "SignMachine" (55 : Nat) ({ cls := "SignMachine$Machine", name := "register", desc := "(I)I" } : Jvm.MethodName))) ∈ tb := mt 482 (by decide +kernel) rfl
theorem k_483 : ((Jvm.Cond.methodLink "SignMachineLaw" (40 : Nat) ({ cls := "SignMachine", name := "registerSize", desc := "(I)I" } : Jvm.MethodName))) ∈ tb := mt 483 (by decide +kernel) rfl
theorem k_484 : ((Jvm.Cond.instanceMethod ({ cls := "SignMachine", name := "registerSize", desc := "(I)I" } : Jvm.MethodName))) ∈ tb := mt 484 (by decide +kernel) rfl
theorem k_485 : ((Jvm.Cond.selects "SignMachine" ({ cls := "SignMachine", name := "registerSize", desc := "(I)I" } : Jvm.MethodName) ({ cls := "SignMachine", name := "registerSize", desc := "(I)I" } : Jvm.MethodName))) ∈ tb := mt 485 (by decide +kernel) rfl
theorem k_486 : ((Jvm.Cond.code ({ cls := "SignMachine", name := "registerSize", desc := "(I)I" } : Jvm.MethodName) prog_1_method_8_code (2 : Nat) (Option.some Jvm.ClassFile.FieldType.int))) ∈ tb := mt 486 (by decide +kernel) rfl
theorem k_487 : ((Jvm.Cond.methodLink "SignMachineLaw" (44 : Nat) ({ cls := "SignMachine", name := "set", desc := "(III)Z" } : Jvm.MethodName))) ∈ tb := mt 487 (by decide +kernel) rfl
theorem k_488 : ((Jvm.Cond.instanceMethod ({ cls := "SignMachine", name := "set", desc := "(III)Z" } : Jvm.MethodName))) ∈ tb := mt 488 (by decide +kernel) rfl
theorem k_489 : ((Jvm.Cond.selects "SignMachine" ({ cls := "SignMachine", name := "set", desc := "(III)Z" } : Jvm.MethodName) ({ cls := "SignMachine", name := "set", desc := "(III)Z" } : Jvm.MethodName))) ∈ tb := mt 489 (by decide +kernel) rfl
theorem k_490 : ((Jvm.Cond.code ({ cls := "SignMachine", name := "set", desc := "(III)Z" } : Jvm.MethodName) prog_1_method_9_code (4 : Nat) (Option.some Jvm.ClassFile.FieldType.boolean))) ∈ tb := mt 490 (by decide +kernel) rfl
theorem k_491 : ((Jvm.Cond.methodLink "SignMachine" (58 : Nat) ({ cls := "SignMachine$Machine", name := "isShort", desc := "(I)Z" } : Jvm.MethodName))) ∈ tb := mt 491 (by decide +kernel) rfl
theorem k_492 : ((Jvm.Cond.static ({ cls := "SignMachine$Machine", name := "isShort", desc := "(I)Z" } : Jvm.MethodName))) ∈ tb := mt 492 (by decide +kernel) rfl
theorem k_493 : ((Jvm.Cond.code ({ cls := "SignMachine$Machine", name := "isShort", desc := "(I)Z" } : Jvm.MethodName) prog_3_method_5_code (1 : Nat) (Option.some Jvm.ClassFile.FieldType.boolean))) ∈ tb := mt 493 (by decide +kernel) rfl
theorem k_494 : ((Jvm.Cond.methodLink "SignMachine" (61 : Nat) ({ cls := "SignMachine$Machine", name := "putRegister", desc := "(II)V" } : Jvm.MethodName))) ∈ tb := mt 494 (by decide +kernel) rfl
theorem k_495 : ((Jvm.Cond.methodLink "SignMachineLaw" (48 : Nat) ({ cls := "SignMachine", name := "state", desc := "(I)I" } : Jvm.MethodName))) ∈ tb := mt 495 (by decide +kernel) rfl
theorem k_496 : ((Jvm.Cond.instanceMethod ({ cls := "SignMachine", name := "state", desc := "(I)I" } : Jvm.MethodName))) ∈ tb := mt 496 (by decide +kernel) rfl
theorem k_497 : ((Jvm.Cond.selects "SignMachine" ({ cls := "SignMachine", name := "state", desc := "(I)I" } : Jvm.MethodName) ({ cls := "SignMachine", name := "state", desc := "(I)I" } : Jvm.MethodName))) ∈ tb := mt 497 (by decide +kernel) rfl
theorem k_498 : ((Jvm.Cond.code ({ cls := "SignMachine", name := "state", desc := "(I)I" } : Jvm.MethodName) prog_1_method_10_code (2 : Nat) (Option.some Jvm.ClassFile.FieldType.int))) ∈ tb := mt 498 (by decide +kernel) rfl
theorem k_499 : ((Jvm.Cond.methodLink "SignMachine" (77 : Nat) ({ cls := "SignMachine$Machine", name := "unit", desc := "(I)LSignMachine$Tape;" } : Jvm.MethodName))) ∈ tb := mt 499 (by decide +kernel) rfl
theorem k_500 : ((Jvm.Cond.methodLink "SignMachineLaw" (52 : Nat) ({ cls := "SignMachine", name := "go", desc := "(I)Z" } : Jvm.MethodName))) ∈ tb := mt 500 (by decide +kernel) rfl
theorem k_501 : ((Jvm.Cond.instanceMethod ({ cls := "SignMachine", name := "go", desc := "(I)Z" } : Jvm.MethodName))) ∈ tb := mt 501 (by decide +kernel) rfl
theorem k_502 : ((Jvm.Cond.selects "SignMachine" ({ cls := "SignMachine", name := "go", desc := "(I)Z" } : Jvm.MethodName) ({ cls := "SignMachine", name := "go", desc := "(I)Z" } : Jvm.MethodName))) ∈ tb := mt 502 (by decide +kernel) rfl
theorem k_503 : ((Jvm.Cond.code ({ cls := "SignMachine", name := "go", desc := "(I)Z" } : Jvm.MethodName) prog_1_method_11_code (2 : Nat) (Option.some Jvm.ClassFile.FieldType.boolean))) ∈ tb := mt 503 (by decide +kernel) rfl
theorem k_504 : ((Jvm.Cond.methodLink "SignMachineLaw" (57 : Nat) ({ cls := "SignMachine", name := "tape", desc := "(III)I" } : Jvm.MethodName))) ∈ tb := mt 504 (by decide +kernel) rfl
theorem k_505 : ((Jvm.Cond.instanceMethod ({ cls := "SignMachine", name := "tape", desc := "(III)I" } : Jvm.MethodName))) ∈ tb := mt 505 (by decide +kernel) rfl
theorem k_506 : ((Jvm.Cond.selects "SignMachine" ({ cls := "SignMachine", name := "tape", desc := "(III)I" } : Jvm.MethodName) ({ cls := "SignMachine", name := "tape", desc := "(III)I" } : Jvm.MethodName))) ∈ tb := mt 506 (by decide +kernel) rfl
theorem k_507 : ((Jvm.Cond.code ({ cls := "SignMachine", name := "tape", desc := "(III)I" } : Jvm.MethodName) prog_1_method_12_code (5 : Nat) (Option.some Jvm.ClassFile.FieldType.int))) ∈ tb := mt 507 (by decide +kernel) rfl
theorem k_508 : ((Jvm.Cond.methodLink "SignMachine" (86 : Nat) ({ cls := "SignMachine$Tape", name := "isWord", desc := "(II)Z" } : Jvm.MethodName))) ∈ tb := mt 508 (by decide +kernel) rfl
theorem k_509 : ((Jvm.Cond.constant "SignMachine" (87 : Nat) (-2000000000 : Int32))) ∈ tb := mt 509 (by decide +kernel) rfl
theorem k_510 : ((Jvm.Cond.methodLink "SignMachine" (88 : Nat) ({ cls := "SignMachine$Tape", name := "wordAt", desc := "(II)I" } : Jvm.MethodName))) ∈ tb := mt 510 (by decide +kernel) rfl
theorem k_511 : ((Jvm.Cond.constant "SignMachine" (90 : Nat) (1073741824 : Int32))) ∈ tb := mt 511 (by decide +kernel) rfl
theorem k_512 : ((Jvm.Cond.constant "SignMachine" (91 : Nat) (-1073741824 : Int32))) ∈ tb := mt 512 (by decide +kernel) rfl
theorem k_513 : ((Jvm.Cond.methodLink "SignMachine" (92 : Nat) ({ cls := "SignMachine$Word", name := "number", desc := "(I)I" } : Jvm.MethodName))) ∈ tb := mt 513 (by decide +kernel) rfl
theorem k_514 : ((Jvm.Cond.methodLink "SignMachineLaw" (62 : Nat) ({ cls := "SignMachine", name := "feed", desc := "(IIIII)I" } : Jvm.MethodName))) ∈ tb := mt 514 (by decide +kernel) rfl
theorem k_515 : ((Jvm.Cond.instanceMethod ({ cls := "SignMachine", name := "feed", desc := "(IIIII)I" } : Jvm.MethodName))) ∈ tb := mt 515 (by decide +kernel) rfl
theorem k_516 : ((Jvm.Cond.selects "SignMachine" ({ cls := "SignMachine", name := "feed", desc := "(IIIII)I" } : Jvm.MethodName) ({ cls := "SignMachine", name := "feed", desc := "(IIIII)I" } : Jvm.MethodName))) ∈ tb := mt 516 (by decide +kernel) rfl
theorem k_517 : ((Jvm.Cond.code ({ cls := "SignMachine", name := "feed", desc := "(IIIII)I" } : Jvm.MethodName) prog_1_method_13_code (7 : Nat) (Option.some Jvm.ClassFile.FieldType.int))) ∈ tb := mt 517 (by decide +kernel) rfl
theorem k_518 : ((Jvm.Cond.methodLink "SignMachine" (95 : Nat) ({ cls := "SignMachine", name := "assembler", desc := "()LSignMachine$Assembler;" } : Jvm.MethodName))) ∈ tb := mt 518 (by decide +kernel) rfl
theorem k_520 : ((Jvm.Cond.instanceMethod ({ cls := "SignMachine", name := "assembler", desc := "()LSignMachine$Assembler;" } : Jvm.MethodName))) ∈ tb := mt 520 (by decide +kernel) rfl
theorem k_521 : ((Jvm.Cond.code ({ cls := "SignMachine", name := "assembler", desc := "()LSignMachine$Assembler;" } : Jvm.MethodName) prog_1_method_18_code (1 : Nat) (Option.some (Jvm.ClassFile.FieldType.object "SignMachine$Assembler")))) ∈ tb := mt 521 (by decide +kernel) rfl
theorem k_522 : ((Jvm.Cond.classLink "SignMachine" (100 : Nat) "SignMachine$Assembler")) ∈ tb := mt 522 (by decide +kernel) rfl
theorem k_523 : ((Jvm.Cond.instantiable "SignMachine$Assembler" (15 : Nat))) ∈ tb := mt 523 (by decide +kernel) rfl
theorem k_525 : ((Jvm.Cond.instanceMethod ({ cls := "SignMachine$Assembler", name := "<init>", desc := "()V" } : Jvm.MethodName))) ∈ tb := mt 525 (by decide +kernel) rfl
theorem k_526 : ((Jvm.Cond.code ({ cls := "SignMachine$Assembler", name := "<init>", desc := "()V" } : Jvm.MethodName) prog_2_method_1_code (1 : Nat) (Option.none : Option Jvm.ClassFile.FieldType))) ∈ tb := mt 526 (by decide +kernel) rfl
theorem k_527 : ((Jvm.Cond.methodLink "SignMachine$Assembler" (3 : Nat) ({ cls := "java/lang/Object", name := "<init>", desc := "()V" } : Jvm.MethodName))) ∈ tb := mt 527 (by decide +kernel) rfl
theorem k_528 : ((Jvm.Cond.classLink "SignMachine$Assembler" (9 : Nat) "SignMachine$Source")) ∈ tb := mt 528 (by decide +kernel) rfl
theorem k_529 : ((Jvm.Cond.instantiable "SignMachine$Source" (9 : Nat))) ∈ tb := mt 529 (by decide +kernel) rfl
theorem k_531 : ((Jvm.Cond.instanceMethod ({ cls := "SignMachine$Source", name := "<init>", desc := "()V" } : Jvm.MethodName))) ∈ tb := mt 531 (by decide +kernel) rfl
theorem k_532 : ((Jvm.Cond.code ({ cls := "SignMachine$Source", name := "<init>", desc := "()V" } : Jvm.MethodName) prog_7_method_1_code (1 : Nat) (Option.none : Option Jvm.ClassFile.FieldType))) ∈ tb := mt 532 (by decide +kernel) rfl
theorem k_533 : ((Jvm.Cond.methodLink "SignMachine$Source" (1 : Nat) ({ cls := "java/lang/Object", name := "<init>", desc := "()V" } : Jvm.MethodName))) ∈ tb := mt 533 (by decide +kernel) rfl
theorem k_534 : ((Jvm.Cond.fieldLink "SignMachine$Source" (9 : Nat) "SignMachine$Source" "bytes" "[B")) ∈ tb := mt 534 (by decide +kernel) rfl
theorem k_535 : ((Jvm.Cond.fieldLink "SignMachine$Source" (13 : Nat) "SignMachine$Source" "length" "I")) ∈ tb := mt 535 (by decide +kernel) rfl
theorem k_538 : ((Jvm.Cond.fieldLink "SignMachine$Source" (17 : Nat) "SignMachine$Source" "line" "I")) ∈ tb := mt 538 (by decide +kernel) rfl
theorem k_540 : ((Jvm.Cond.fieldLink "SignMachine$Source" (23 : Nat) "SignMachine$Source" "at" "I")) ∈ tb := mt 540 (by decide +kernel) rfl
theorem k_542 : ((Jvm.Cond.fieldLink "SignMachine$Source" (26 : Nat) "SignMachine$Source" "stop" "I")) ∈ tb := mt 542 (by decide +kernel) rfl
theorem k_543 : ((Jvm.Cond.fieldLink "SignMachine$Source" (20 : Nat) "SignMachine$Source" "following" "I")) ∈ tb := mt 543 (by decide +kernel) rfl
theorem k_545 : ((Jvm.Cond.fieldLink "SignMachine$Source" (37 : Nat) "SignMachine$Source" "kind" "I")) ∈ tb := mt 545 (by decide +kernel) rfl
theorem k_547 : ((Jvm.Cond.fieldLink "SignMachine$Source" (54 : Nat) "SignMachine$Source" "name" "J")) ∈ tb := mt 547 (by decide +kernel) rfl
theorem k_548 : ((Jvm.Cond.fieldLink "SignMachine$Source" (62 : Nat) "SignMachine$Source" "number" "I")) ∈ tb := mt 548 (by decide +kernel) rfl
theorem k_569 : ((Jvm.Cond.arrayClass Jvm.ClassFile.FieldType.byte)) ∈ tb := mt 569 (by decide +kernel) rfl
theorem k_570 : ((Jvm.Cond.classLink "SignMachine$Assembler" (18 : Nat) "SignMachine$Names")) ∈ tb := mt 570 (by decide +kernel) rfl
theorem k_571 : ((Jvm.Cond.instantiable "SignMachine$Names" (7 : Nat))) ∈ tb := mt 571 (by decide +kernel) rfl
theorem k_573 : ((Jvm.Cond.instanceMethod ({ cls := "SignMachine$Names", name := "<init>", desc := "()V" } : Jvm.MethodName))) ∈ tb := mt 573 (by decide +kernel) rfl
theorem k_574 : ((Jvm.Cond.code ({ cls := "SignMachine$Names", name := "<init>", desc := "()V" } : Jvm.MethodName) prog_4_method_1_code (1 : Nat) (Option.none : Option Jvm.ClassFile.FieldType))) ∈ tb := mt 574 (by decide +kernel) rfl
theorem k_575 : ((Jvm.Cond.methodLink "SignMachine$Names" (5 : Nat) ({ cls := "java/lang/Object", name := "<init>", desc := "()V" } : Jvm.MethodName))) ∈ tb := mt 575 (by decide +kernel) rfl
theorem k_576 : ((Jvm.Cond.fieldLink "SignMachine$Names" (11 : Nat) "SignMachine$Names" "names" "[J")) ∈ tb := mt 576 (by decide +kernel) rfl
theorem k_577 : ((Jvm.Cond.fieldLink "SignMachine$Names" (15 : Nat) "SignMachine$Names" "values" "[I")) ∈ tb := mt 577 (by decide +kernel) rfl
theorem k_578 : ((Jvm.Cond.fieldLink "SignMachine$Names" (19 : Nat) "SignMachine$Names" "told" "[Z")) ∈ tb := mt 578 (by decide +kernel) rfl
theorem k_579 : ((Jvm.Cond.fieldLink "SignMachine$Names" (23 : Nat) "SignMachine$Names" "localValues" "[I")) ∈ tb := mt 579 (by decide +kernel) rfl
theorem k_580 : ((Jvm.Cond.fieldLink "SignMachine$Names" (26 : Nat) "SignMachine$Names" "localTold" "[Z")) ∈ tb := mt 580 (by decide +kernel) rfl
theorem k_581 : ((Jvm.Cond.fieldLink "SignMachine$Names" (35 : Nat) "SignMachine$Names" "count" "I")) ∈ tb := mt 581 (by decide +kernel) rfl
theorem k_583 : ((Jvm.Cond.fieldLink "SignMachine$Names" (39 : Nat) "SignMachine$Names" "symbols" "I")) ∈ tb := mt 583 (by decide +kernel) rfl
theorem k_601 : ((Jvm.Cond.classLink "SignMachine$Assembler" (25 : Nat) "SignMachine$Output")) ∈ tb := mt 601 (by decide +kernel) rfl
theorem k_602 : ((Jvm.Cond.instantiable "SignMachine$Output" (7 : Nat))) ∈ tb := mt 602 (by decide +kernel) rfl
theorem k_604 : ((Jvm.Cond.instanceMethod ({ cls := "SignMachine$Output", name := "<init>", desc := "()V" } : Jvm.MethodName))) ∈ tb := mt 604 (by decide +kernel) rfl
theorem k_605 : ((Jvm.Cond.code ({ cls := "SignMachine$Output", name := "<init>", desc := "()V" } : Jvm.MethodName) prog_6_method_1_code (1 : Nat) (Option.none : Option Jvm.ClassFile.FieldType))) ∈ tb := mt 605 (by decide +kernel) rfl
theorem k_606 : ((Jvm.Cond.methodLink "SignMachine$Output" (7 : Nat) ({ cls := "java/lang/Object", name := "<init>", desc := "()V" } : Jvm.MethodName))) ∈ tb := mt 606 (by decide +kernel) rfl
theorem k_607 : ((Jvm.Cond.fieldLink "SignMachine$Output" (15 : Nat) "SignMachine$Output" "places" "[I")) ∈ tb := mt 607 (by decide +kernel) rfl
theorem k_608 : ((Jvm.Cond.fieldLink "SignMachine$Output" (19 : Nat) "SignMachine$Output" "words" "[I")) ∈ tb := mt 608 (by decide +kernel) rfl
theorem k_609 : ((Jvm.Cond.fieldLink "SignMachine$Output" (22 : Nat) "SignMachine$Output" "lines" "[I")) ∈ tb := mt 609 (by decide +kernel) rfl
theorem k_610 : ((Jvm.Cond.fieldLink "SignMachine$Output" (25 : Nat) "SignMachine$Output" "kinds" "[B")) ∈ tb := mt 610 (by decide +kernel) rfl
theorem k_611 : ((Jvm.Cond.fieldLink "SignMachine$Output" (29 : Nat) "SignMachine$Output" "goals" "[I")) ∈ tb := mt 611 (by decide +kernel) rfl
theorem k_612 : ((Jvm.Cond.fieldLink "SignMachine$Output" (32 : Nat) "SignMachine$Output" "lastOpen" "[I")) ∈ tb := mt 612 (by decide +kernel) rfl
theorem k_613 : ((Jvm.Cond.fieldLink "SignMachine$Output" (35 : Nat) "SignMachine$Output" "count" "I")) ∈ tb := mt 613 (by decide +kernel) rfl
theorem k_631 : ((Jvm.Cond.fieldLink "SignMachine$Assembler" (12 : Nat) "SignMachine$Assembler" "source" "LSignMachine$Source;")) ∈ tb := mt 631 (by decide +kernel) rfl
theorem k_633 : ((Jvm.Cond.fieldLink "SignMachine$Assembler" (21 : Nat) "SignMachine$Assembler" "names" "LSignMachine$Names;")) ∈ tb := mt 633 (by decide +kernel) rfl
theorem k_634 : ((Jvm.Cond.fieldLink "SignMachine$Assembler" (28 : Nat) "SignMachine$Assembler" "output" "LSignMachine$Output;")) ∈ tb := mt 634 (by decide +kernel) rfl
theorem k_636 : ((Jvm.Cond.fieldLink "SignMachine$Assembler" (43 : Nat) "SignMachine$Assembler" "fault" "I")) ∈ tb := mt 636 (by decide +kernel) rfl
theorem k_638 : ((Jvm.Cond.fieldLink "SignMachine$Assembler" (46 : Nat) "SignMachine$Assembler" "faultLine" "I")) ∈ tb := mt 638 (by decide +kernel) rfl
theorem k_640 : ((Jvm.Cond.fieldLink "SignMachine$Assembler" (32 : Nat) "SignMachine$Assembler" "firstFree" "I")) ∈ tb := mt 640 (by decide +kernel) rfl
theorem k_643 : ((Jvm.Cond.fieldLink "SignMachine$Assembler" (233 : Nat) "SignMachine$Assembler" "start" "I")) ∈ tb := mt 643 (by decide +kernel) rfl
theorem k_644 : ((Jvm.Cond.fieldLink "SignMachine$Assembler" (49 : Nat) "SignMachine$Assembler" "place" "I")) ∈ tb := mt 644 (by decide +kernel) rfl
theorem k_645 : ((Jvm.Cond.fieldLink "SignMachine$Assembler" (52 : Nat) "SignMachine$Assembler" "ended" "Z")) ∈ tb := mt 645 (by decide +kernel) rfl
theorem k_646 : ((Jvm.Cond.fieldLink "SignMachine$Assembler" (64 : Nat) "SignMachine$Assembler" "label" "J")) ∈ tb := mt 646 (by decide +kernel) rfl
theorem k_647 : ((Jvm.Cond.fieldLink "SignMachine$Assembler" (139 : Nat) "SignMachine$Assembler" "labelValue" "I")) ∈ tb := mt 647 (by decide +kernel) rfl
theorem k_648 : ((Jvm.Cond.fieldLink "SignMachine$Assembler" (60 : Nat) "SignMachine$Assembler" "op" "LSignMachine$Op;")) ∈ tb := mt 648 (by decide +kernel) rfl
theorem k_649 : ((Jvm.Cond.fieldLink "SignMachine$Assembler" (205 : Nat) "SignMachine$Assembler" "code" "I")) ∈ tb := mt 649 (by decide +kernel) rfl
theorem k_650 : ((Jvm.Cond.fieldLink "SignMachine$Assembler" (268 : Nat) "SignMachine$Assembler" "kind" "I")) ∈ tb := mt 650 (by decide +kernel) rfl
theorem k_651 : ((Jvm.Cond.fieldLink "SignMachine$Assembler" (269 : Nat) "SignMachine$Assembler" "goal" "I")) ∈ tb := mt 651 (by decide +kernel) rfl
theorem k_683 : ((Jvm.Cond.methodLink "SignMachine" (105 : Nat) ({ cls := "SignMachine$Source", name := "hasRoom", desc := "()Z" } : Jvm.MethodName))) ∈ tb := mt 683 (by decide +kernel) rfl
theorem k_684 : ((Jvm.Cond.instanceMethod ({ cls := "SignMachine$Source", name := "hasRoom", desc := "()Z" } : Jvm.MethodName))) ∈ tb := mt 684 (by decide +kernel) rfl
theorem k_685 : ((Jvm.Cond.selects "SignMachine$Source" ({ cls := "SignMachine$Source", name := "hasRoom", desc := "()Z" } : Jvm.MethodName) ({ cls := "SignMachine$Source", name := "hasRoom", desc := "()Z" } : Jvm.MethodName))) ∈ tb := mt 685 (by decide +kernel) rfl
theorem k_686 : ((Jvm.Cond.code ({ cls := "SignMachine$Source", name := "hasRoom", desc := "()Z" } : Jvm.MethodName) prog_7_method_2_code (1 : Nat) (Option.some Jvm.ClassFile.FieldType.boolean))) ∈ tb := mt 686 (by decide +kernel) rfl
theorem k_687 : ((Jvm.Cond.methodLink "SignMachine" (111 : Nat) ({ cls := "SignMachine$Source", name := "append", desc := "(I)V" } : Jvm.MethodName))) ∈ tb := mt 687 (by decide +kernel) rfl
theorem k_688 : ((Jvm.Cond.instanceMethod ({ cls := "SignMachine$Source", name := "append", desc := "(I)V" } : Jvm.MethodName))) ∈ tb := mt 688 (by decide +kernel) rfl
theorem k_689 : ((Jvm.Cond.selects "SignMachine$Source" ({ cls := "SignMachine$Source", name := "append", desc := "(I)V" } : Jvm.MethodName) ({ cls := "SignMachine$Source", name := "append", desc := "(I)V" } : Jvm.MethodName))) ∈ tb := mt 689 (by decide +kernel) rfl
theorem k_690 : ((Jvm.Cond.code ({ cls := "SignMachine$Source", name := "append", desc := "(I)V" } : Jvm.MethodName) prog_7_method_3_code (3 : Nat) (Option.none : Option Jvm.ClassFile.FieldType))) ∈ tb := mt 690 (by decide +kernel) rfl
theorem k_691 : ((Jvm.Cond.methodLink "SignMachineLaw" (67 : Nat) ({ cls := "SignMachine", name := "end", desc := "(I)I" } : Jvm.MethodName))) ∈ tb := mt 691 (by decide +kernel) rfl
theorem k_692 : ((Jvm.Cond.instanceMethod ({ cls := "SignMachine", name := "end", desc := "(I)I" } : Jvm.MethodName))) ∈ tb := mt 692 (by decide +kernel) rfl
theorem k_693 : ((Jvm.Cond.selects "SignMachine" ({ cls := "SignMachine", name := "end", desc := "(I)I" } : Jvm.MethodName) ({ cls := "SignMachine", name := "end", desc := "(I)I" } : Jvm.MethodName))) ∈ tb := mt 693 (by decide +kernel) rfl
theorem k_694 : ((Jvm.Cond.code ({ cls := "SignMachine", name := "end", desc := "(I)I" } : Jvm.MethodName) prog_1_method_14_code (3 : Nat) (Option.some Jvm.ClassFile.FieldType.int))) ∈ tb := mt 694 (by decide +kernel) rfl
theorem k_695 : ((Jvm.Cond.methodLink "SignMachineLaw" (71 : Nat) ({ cls := "SignMachine", name := "assemble", desc := "()I" } : Jvm.MethodName))) ∈ tb := mt 695 (by decide +kernel) rfl
theorem k_696 : ((Jvm.Cond.instanceMethod ({ cls := "SignMachine", name := "assemble", desc := "()I" } : Jvm.MethodName))) ∈ tb := mt 696 (by decide +kernel) rfl
theorem k_697 : ((Jvm.Cond.selects "SignMachine" ({ cls := "SignMachine", name := "assemble", desc := "()I" } : Jvm.MethodName) ({ cls := "SignMachine", name := "assemble", desc := "()I" } : Jvm.MethodName))) ∈ tb := mt 697 (by decide +kernel) rfl
theorem k_698 : ((Jvm.Cond.code ({ cls := "SignMachine", name := "assemble", desc := "()I" } : Jvm.MethodName) prog_1_method_15_code (3 : Nat) (Option.some Jvm.ClassFile.FieldType.int))) ∈ tb := mt 698 (by decide +kernel) rfl
theorem k_699 : ((Jvm.Cond.methodLink "SignMachine" (118 : Nat) ({ cls := "SignMachine$Assembler", name := "begin", desc := "()V" } : Jvm.MethodName))) ∈ tb := mt 699 (by decide +kernel) rfl
theorem k_700 : ((Jvm.Cond.instanceMethod ({ cls := "SignMachine$Assembler", name := "begin", desc := "()V" } : Jvm.MethodName))) ∈ tb := mt 700 (by decide +kernel) rfl
theorem k_701 : ((Jvm.Cond.selects "SignMachine$Assembler" ({ cls := "SignMachine$Assembler", name := "begin", desc := "()V" } : Jvm.MethodName) ({ cls := "SignMachine$Assembler", name := "begin", desc := "()V" } : Jvm.MethodName))) ∈ tb := mt 701 (by decide +kernel) rfl
theorem k_702 : ((Jvm.Cond.code ({ cls := "SignMachine$Assembler", name := "begin", desc := "()V" } : Jvm.MethodName) prog_2_method_2_code (1 : Nat) (Option.none : Option Jvm.ClassFile.FieldType))) ∈ tb := mt 702 (by decide +kernel) rfl
theorem k_703 : ((Jvm.Cond.methodLink "SignMachine$Assembler" (36 : Nat) ({ cls := "SignMachine$Source", name := "begin", desc := "()V" } : Jvm.MethodName))) ∈ tb := mt 703 (by decide +kernel) rfl
theorem k_704 : ((Jvm.Cond.instanceMethod ({ cls := "SignMachine$Source", name := "begin", desc := "()V" } : Jvm.MethodName))) ∈ tb := mt 704 (by decide +kernel) rfl
theorem k_705 : ((Jvm.Cond.selects "SignMachine$Source" ({ cls := "SignMachine$Source", name := "begin", desc := "()V" } : Jvm.MethodName) ({ cls := "SignMachine$Source", name := "begin", desc := "()V" } : Jvm.MethodName))) ∈ tb := mt 705 (by decide +kernel) rfl
theorem k_706 : ((Jvm.Cond.code ({ cls := "SignMachine$Source", name := "begin", desc := "()V" } : Jvm.MethodName) prog_7_method_4_code (1 : Nat) (Option.none : Option Jvm.ClassFile.FieldType))) ∈ tb := mt 706 (by decide +kernel) rfl
theorem k_707 : ((Jvm.Cond.methodLink "SignMachine$Assembler" (39 : Nat) ({ cls := "SignMachine$Names", name := "clear", desc := "()V" } : Jvm.MethodName))) ∈ tb := mt 707 (by decide +kernel) rfl
theorem k_708 : ((Jvm.Cond.instanceMethod ({ cls := "SignMachine$Names", name := "clear", desc := "()V" } : Jvm.MethodName))) ∈ tb := mt 708 (by decide +kernel) rfl
theorem k_709 : ((Jvm.Cond.selects "SignMachine$Names" ({ cls := "SignMachine$Names", name := "clear", desc := "()V" } : Jvm.MethodName) ({ cls := "SignMachine$Names", name := "clear", desc := "()V" } : Jvm.MethodName))) ∈ tb := mt 709 (by decide +kernel) rfl
theorem k_710 : ((Jvm.Cond.code ({ cls := "SignMachine$Names", name := "clear", desc := "()V" } : Jvm.MethodName) prog_4_method_6_code (2 : Nat) (Option.none : Option Jvm.ClassFile.FieldType))) ∈ tb := mt 710 (by decide +kernel) rfl
theorem k_711 : ((Jvm.Cond.methodLink "SignMachine$Assembler" (42 : Nat) ({ cls := "SignMachine$Output", name := "clear", desc := "()V" } : Jvm.MethodName))) ∈ tb := mt 711 (by decide +kernel) rfl
theorem k_712 : ((Jvm.Cond.instanceMethod ({ cls := "SignMachine$Output", name := "clear", desc := "()V" } : Jvm.MethodName))) ∈ tb := mt 712 (by decide +kernel) rfl
theorem k_713 : ((Jvm.Cond.selects "SignMachine$Output" ({ cls := "SignMachine$Output", name := "clear", desc := "()V" } : Jvm.MethodName) ({ cls := "SignMachine$Output", name := "clear", desc := "()V" } : Jvm.MethodName))) ∈ tb := mt 713 (by decide +kernel) rfl
theorem k_714 : ((Jvm.Cond.code ({ cls := "SignMachine$Output", name := "clear", desc := "()V" } : Jvm.MethodName) prog_6_method_2_code (2 : Nat) (Option.none : Option Jvm.ClassFile.FieldType))) ∈ tb := mt 714 (by decide +kernel) rfl
theorem k_715 : ((Jvm.Cond.methodLink "SignMachine" (121 : Nat) ({ cls := "SignMachine$Assembler", name := "hasLine", desc := "()Z" } : Jvm.MethodName))) ∈ tb := mt 715 (by decide +kernel) rfl
theorem k_716 : ((Jvm.Cond.instanceMethod ({ cls := "SignMachine$Assembler", name := "hasLine", desc := "()Z" } : Jvm.MethodName))) ∈ tb := mt 716 (by decide +kernel) rfl
theorem k_717 : ((Jvm.Cond.selects "SignMachine$Assembler" ({ cls := "SignMachine$Assembler", name := "hasLine", desc := "()Z" } : Jvm.MethodName) ({ cls := "SignMachine$Assembler", name := "hasLine", desc := "()Z" } : Jvm.MethodName))) ∈ tb := mt 717 (by decide +kernel) rfl
theorem k_718 : ((Jvm.Cond.code ({ cls := "SignMachine$Assembler", name := "hasLine", desc := "()Z" } : Jvm.MethodName) prog_2_method_3_code (1 : Nat) (Option.some Jvm.ClassFile.FieldType.boolean))) ∈ tb := mt 718 (by decide +kernel) rfl
theorem k_719 : ((Jvm.Cond.methodLink "SignMachine$Assembler" (56 : Nat) ({ cls := "SignMachine$Source", name := "hasLine", desc := "()Z" } : Jvm.MethodName))) ∈ tb := mt 719 (by decide +kernel) rfl
theorem k_720 : ((Jvm.Cond.instanceMethod ({ cls := "SignMachine$Source", name := "hasLine", desc := "()Z" } : Jvm.MethodName))) ∈ tb := mt 720 (by decide +kernel) rfl
theorem k_721 : ((Jvm.Cond.selects "SignMachine$Source" ({ cls := "SignMachine$Source", name := "hasLine", desc := "()Z" } : Jvm.MethodName) ({ cls := "SignMachine$Source", name := "hasLine", desc := "()Z" } : Jvm.MethodName))) ∈ tb := mt 721 (by decide +kernel) rfl
theorem k_722 : ((Jvm.Cond.code ({ cls := "SignMachine$Source", name := "hasLine", desc := "()Z" } : Jvm.MethodName) prog_7_method_5_code (1 : Nat) (Option.some Jvm.ClassFile.FieldType.boolean))) ∈ tb := mt 722 (by decide +kernel) rfl
theorem k_723 : ((Jvm.Cond.methodLink "SignMachine" (124 : Nat) ({ cls := "SignMachine$Assembler", name := "takeHead", desc := "()V" } : Jvm.MethodName))) ∈ tb := mt 723 (by decide +kernel) rfl
theorem k_724 : ((Jvm.Cond.instanceMethod ({ cls := "SignMachine$Assembler", name := "takeHead", desc := "()V" } : Jvm.MethodName))) ∈ tb := mt 724 (by decide +kernel) rfl
theorem k_725 : ((Jvm.Cond.selects "SignMachine$Assembler" ({ cls := "SignMachine$Assembler", name := "takeHead", desc := "()V" } : Jvm.MethodName) ({ cls := "SignMachine$Assembler", name := "takeHead", desc := "()V" } : Jvm.MethodName))) ∈ tb := mt 725 (by decide +kernel) rfl
theorem k_726 : ((Jvm.Cond.code ({ cls := "SignMachine$Assembler", name := "takeHead", desc := "()V" } : Jvm.MethodName) prog_2_method_4_code (1 : Nat) (Option.none : Option Jvm.ClassFile.FieldType))) ∈ tb := mt 726 (by decide +kernel) rfl
theorem k_727 : ((Jvm.Cond.methodLink "SignMachine$Assembler" (68 : Nat) ({ cls := "SignMachine$Source", name := "nextLine", desc := "()V" } : Jvm.MethodName))) ∈ tb := mt 727 (by decide +kernel) rfl
theorem k_728 : ((Jvm.Cond.instanceMethod ({ cls := "SignMachine$Source", name := "nextLine", desc := "()V" } : Jvm.MethodName))) ∈ tb := mt 728 (by decide +kernel) rfl
theorem k_729 : ((Jvm.Cond.selects "SignMachine$Source" ({ cls := "SignMachine$Source", name := "nextLine", desc := "()V" } : Jvm.MethodName) ({ cls := "SignMachine$Source", name := "nextLine", desc := "()V" } : Jvm.MethodName))) ∈ tb := mt 729 (by decide +kernel) rfl
theorem k_730 : ((Jvm.Cond.code ({ cls := "SignMachine$Source", name := "nextLine", desc := "()V" } : Jvm.MethodName) prog_7_method_6_code (2 : Nat) (Option.none : Option Jvm.ClassFile.FieldType))) ∈ tb := mt 730 (by decide +kernel) rfl
theorem k_731 : ((Jvm.Cond.methodLink "SignMachine$Source" (29 : Nat) ({ cls := "SignMachine$Source", name := "byteAt", desc := "(I)I" } : Jvm.MethodName))) ∈ tb := mt 731 (by decide +kernel) rfl
theorem k_732 : ((Jvm.Cond.instanceMethod ({ cls := "SignMachine$Source", name := "byteAt", desc := "(I)I" } : Jvm.MethodName))) ∈ tb := mt 732 (by decide +kernel) rfl
theorem k_733 : ((Jvm.Cond.selects "SignMachine$Source" ({ cls := "SignMachine$Source", name := "byteAt", desc := "(I)I" } : Jvm.MethodName) ({ cls := "SignMachine$Source", name := "byteAt", desc := "(I)I" } : Jvm.MethodName))) ∈ tb := mt 733 (by decide +kernel) rfl
theorem k_734 : ((Jvm.Cond.code ({ cls := "SignMachine$Source", name := "byteAt", desc := "(I)I" } : Jvm.MethodName) prog_7_method_7_code (2 : Nat) (Option.some Jvm.ClassFile.FieldType.int))) ∈ tb := mt 734 (by decide +kernel) rfl
theorem k_735 : ((Jvm.Cond.methodLink "SignMachine$Assembler" (71 : Nat) ({ cls := "SignMachine$Assembler", name := "isNothing", desc := "()Z" } : Jvm.MethodName))) ∈ tb := mt 735 (by decide +kernel) rfl
theorem k_737 : ((Jvm.Cond.instanceMethod ({ cls := "SignMachine$Assembler", name := "isNothing", desc := "()Z" } : Jvm.MethodName))) ∈ tb := mt 737 (by decide +kernel) rfl
theorem k_738 : ((Jvm.Cond.code ({ cls := "SignMachine$Assembler", name := "isNothing", desc := "()Z" } : Jvm.MethodName) prog_2_method_11_code (3 : Nat) (Option.some Jvm.ClassFile.FieldType.boolean))) ∈ tb := mt 738 (by decide +kernel) rfl
theorem k_739 : ((Jvm.Cond.methodLink "SignMachine$Assembler" (80 : Nat) ({ cls := "SignMachine$Source", name := "peek", desc := "()I" } : Jvm.MethodName))) ∈ tb := mt 739 (by decide +kernel) rfl
theorem k_740 : ((Jvm.Cond.instanceMethod ({ cls := "SignMachine$Source", name := "peek", desc := "()I" } : Jvm.MethodName))) ∈ tb := mt 740 (by decide +kernel) rfl
theorem k_741 : ((Jvm.Cond.selects "SignMachine$Source" ({ cls := "SignMachine$Source", name := "peek", desc := "()I" } : Jvm.MethodName) ({ cls := "SignMachine$Source", name := "peek", desc := "()I" } : Jvm.MethodName))) ∈ tb := mt 741 (by decide +kernel) rfl
theorem k_742 : ((Jvm.Cond.code ({ cls := "SignMachine$Source", name := "peek", desc := "()I" } : Jvm.MethodName) prog_7_method_8_code (1 : Nat) (Option.some Jvm.ClassFile.FieldType.int))) ∈ tb := mt 742 (by decide +kernel) rfl
theorem k_743 : ((Jvm.Cond.methodLink "SignMachine$Assembler" (77 : Nat) ({ cls := "SignMachine$Source", name := "skipBlanks", desc := "()V" } : Jvm.MethodName))) ∈ tb := mt 743 (by decide +kernel) rfl
theorem k_744 : ((Jvm.Cond.instanceMethod ({ cls := "SignMachine$Source", name := "skipBlanks", desc := "()V" } : Jvm.MethodName))) ∈ tb := mt 744 (by decide +kernel) rfl
theorem k_745 : ((Jvm.Cond.selects "SignMachine$Source" ({ cls := "SignMachine$Source", name := "skipBlanks", desc := "()V" } : Jvm.MethodName) ({ cls := "SignMachine$Source", name := "skipBlanks", desc := "()V" } : Jvm.MethodName))) ∈ tb := mt 745 (by decide +kernel) rfl
theorem k_746 : ((Jvm.Cond.code ({ cls := "SignMachine$Source", name := "skipBlanks", desc := "()V" } : Jvm.MethodName) prog_7_method_11_code (2 : Nat) (Option.none : Option Jvm.ClassFile.FieldType))) ∈ tb := mt 746 (by decide +kernel) rfl
theorem k_747 : ((Jvm.Cond.methodLink "SignMachine$Source" (33 : Nat) ({ cls := "SignMachine$Source", name := "peek", desc := "()I" } : Jvm.MethodName))) ∈ tb := mt 747 (by decide +kernel) rfl
theorem k_748 : ((Jvm.Cond.methodLink "SignMachine$Assembler" (74 : Nat) ({ cls := "SignMachine$Assembler", name := "readLabel", desc := "()V" } : Jvm.MethodName))) ∈ tb := mt 748 (by decide +kernel) rfl
theorem k_750 : ((Jvm.Cond.instanceMethod ({ cls := "SignMachine$Assembler", name := "readLabel", desc := "()V" } : Jvm.MethodName))) ∈ tb := mt 750 (by decide +kernel) rfl
theorem k_751 : ((Jvm.Cond.code ({ cls := "SignMachine$Assembler", name := "readLabel", desc := "()V" } : Jvm.MethodName) prog_2_method_12_code (1 : Nat) (Option.none : Option Jvm.ClassFile.FieldType))) ∈ tb := mt 751 (by decide +kernel) rfl
theorem k_752 : ((Jvm.Cond.methodLink "SignMachine$Assembler" (185 : Nat) ({ cls := "SignMachine$Source", name := "readToken", desc := "()V" } : Jvm.MethodName))) ∈ tb := mt 752 (by decide +kernel) rfl
theorem k_753 : ((Jvm.Cond.instanceMethod ({ cls := "SignMachine$Source", name := "readToken", desc := "()V" } : Jvm.MethodName))) ∈ tb := mt 753 (by decide +kernel) rfl
theorem k_754 : ((Jvm.Cond.selects "SignMachine$Source" ({ cls := "SignMachine$Source", name := "readToken", desc := "()V" } : Jvm.MethodName) ({ cls := "SignMachine$Source", name := "readToken", desc := "()V" } : Jvm.MethodName))) ∈ tb := mt 754 (by decide +kernel) rfl
theorem k_755 : ((Jvm.Cond.code ({ cls := "SignMachine$Source", name := "readToken", desc := "()V" } : Jvm.MethodName) prog_7_method_13_code (9 : Nat) (Option.none : Option Jvm.ClassFile.FieldType))) ∈ tb := mt 755 (by decide +kernel) rfl
theorem k_756 : ((Jvm.Cond.methodLink "SignMachine$Source" (40 : Nat) ({ cls := "SignMachine$Names", name := "codeOf", desc := "(I)I" } : Jvm.MethodName))) ∈ tb := mt 756 (by decide +kernel) rfl
theorem k_757 : ((Jvm.Cond.static ({ cls := "SignMachine$Names", name := "codeOf", desc := "(I)I" } : Jvm.MethodName))) ∈ tb := mt 757 (by decide +kernel) rfl
theorem k_758 : ((Jvm.Cond.code ({ cls := "SignMachine$Names", name := "codeOf", desc := "(I)I" } : Jvm.MethodName) prog_4_method_2_code (1 : Nat) (Option.some Jvm.ClassFile.FieldType.int))) ∈ tb := mt 758 (by decide +kernel) rfl
theorem k_759 : ((Jvm.Cond.methodLink "SignMachine$Source" (45 : Nat) ({ cls := "SignMachine$Names", name := "isLetter", desc := "(I)Z" } : Jvm.MethodName))) ∈ tb := mt 759 (by decide +kernel) rfl
theorem k_760 : ((Jvm.Cond.static ({ cls := "SignMachine$Names", name := "isLetter", desc := "(I)Z" } : Jvm.MethodName))) ∈ tb := mt 760 (by decide +kernel) rfl
theorem k_761 : ((Jvm.Cond.code ({ cls := "SignMachine$Names", name := "isLetter", desc := "(I)Z" } : Jvm.MethodName) prog_4_method_3_code (1 : Nat) (Option.some Jvm.ClassFile.FieldType.boolean))) ∈ tb := mt 761 (by decide +kernel) rfl
theorem k_762 : ((Jvm.Cond.constantLong "SignMachine$Source" (49 : Nat) (10 : Int64))) ∈ tb := mt 762 (by decide +kernel) rfl
theorem k_763 : ((Jvm.Cond.methodLink "SignMachine$Source" (51 : Nat) ({ cls := "SignMachine$Names", name := "digitOf", desc := "(I)I" } : Jvm.MethodName))) ∈ tb := mt 763 (by decide +kernel) rfl
theorem k_764 : ((Jvm.Cond.static ({ cls := "SignMachine$Names", name := "digitOf", desc := "(I)I" } : Jvm.MethodName))) ∈ tb := mt 764 (by decide +kernel) rfl
theorem k_765 : ((Jvm.Cond.code ({ cls := "SignMachine$Names", name := "digitOf", desc := "(I)I" } : Jvm.MethodName) prog_4_method_4_code (1 : Nat) (Option.some Jvm.ClassFile.FieldType.int))) ∈ tb := mt 765 (by decide +kernel) rfl
theorem k_766 : ((Jvm.Cond.constantLong "SignMachine$Source" (60 : Nat) (1073741823 : Int64))) ∈ tb := mt 766 (by decide +kernel) rfl
theorem k_767 : ((Jvm.Cond.methodLink "SignMachine$Assembler" (84 : Nat) ({ cls := "SignMachine$Assembler", name := "fail", desc := "(I)I" } : Jvm.MethodName))) ∈ tb := mt 767 (by decide +kernel) rfl
theorem k_769 : ((Jvm.Cond.instanceMethod ({ cls := "SignMachine$Assembler", name := "fail", desc := "(I)I" } : Jvm.MethodName))) ∈ tb := mt 769 (by decide +kernel) rfl
theorem k_770 : ((Jvm.Cond.code ({ cls := "SignMachine$Assembler", name := "fail", desc := "(I)I" } : Jvm.MethodName) prog_2_method_10_code (2 : Nat) (Option.some Jvm.ClassFile.FieldType.int))) ∈ tb := mt 770 (by decide +kernel) rfl
theorem k_771 : ((Jvm.Cond.methodLink "SignMachine$Assembler" (135 : Nat) ({ cls := "SignMachine$Names", name := "localDigit", desc := "(JI)I" } : Jvm.MethodName))) ∈ tb := mt 771 (by decide +kernel) rfl
theorem k_772 : ((Jvm.Cond.static ({ cls := "SignMachine$Names", name := "localDigit", desc := "(JI)I" } : Jvm.MethodName))) ∈ tb := mt 772 (by decide +kernel) rfl
theorem k_773 : ((Jvm.Cond.code ({ cls := "SignMachine$Names", name := "localDigit", desc := "(JI)I" } : Jvm.MethodName) prog_4_method_5_code (6 : Nat) (Option.some Jvm.ClassFile.FieldType.int))) ∈ tb := mt 773 (by decide +kernel) rfl
theorem k_774 : ((Jvm.Cond.constantLong "SignMachine$Names" (29 : Nat) (27 : Int64))) ∈ tb := mt 774 (by decide +kernel) rfl
theorem k_775 : ((Jvm.Cond.constantLong "SignMachine$Names" (31 : Nat) (63 : Int64))) ∈ tb := mt 775 (by decide +kernel) rfl
theorem k_776 : ((Jvm.Cond.constantLong "SignMachine$Names" (33 : Nat) (10 : Int64))) ∈ tb := mt 776 (by decide +kernel) rfl
theorem k_777 : ((Jvm.Cond.methodLink "SignMachine$Assembler" (88 : Nat) ({ cls := "SignMachine$Assembler", name := "readOp", desc := "()V" } : Jvm.MethodName))) ∈ tb := mt 777 (by decide +kernel) rfl
theorem k_779 : ((Jvm.Cond.instanceMethod ({ cls := "SignMachine$Assembler", name := "readOp", desc := "()V" } : Jvm.MethodName))) ∈ tb := mt 779 (by decide +kernel) rfl
theorem k_780 : ((Jvm.Cond.code ({ cls := "SignMachine$Assembler", name := "readOp", desc := "()V" } : Jvm.MethodName) prog_2_method_13_code (2 : Nat) (Option.none : Option Jvm.ClassFile.FieldType))) ∈ tb := mt 780 (by decide +kernel) rfl
theorem k_781 : ((Jvm.Cond.methodLink "SignMachine$Assembler" (194 : Nat) ({ cls := "SignMachine$Source", name := "skipToBlank", desc := "()V" } : Jvm.MethodName))) ∈ tb := mt 781 (by decide +kernel) rfl
theorem k_782 : ((Jvm.Cond.instanceMethod ({ cls := "SignMachine$Source", name := "skipToBlank", desc := "()V" } : Jvm.MethodName))) ∈ tb := mt 782 (by decide +kernel) rfl
theorem k_783 : ((Jvm.Cond.selects "SignMachine$Source" ({ cls := "SignMachine$Source", name := "skipToBlank", desc := "()V" } : Jvm.MethodName) ({ cls := "SignMachine$Source", name := "skipToBlank", desc := "()V" } : Jvm.MethodName))) ∈ tb := mt 783 (by decide +kernel) rfl
theorem k_784 : ((Jvm.Cond.code ({ cls := "SignMachine$Source", name := "skipToBlank", desc := "()V" } : Jvm.MethodName) prog_7_method_12_code (2 : Nat) (Option.none : Option Jvm.ClassFile.FieldType))) ∈ tb := mt 784 (by decide +kernel) rfl
theorem k_785 : ((Jvm.Cond.methodLink "SignMachine$Assembler" (197 : Nat) ({ cls := "SignMachine$Op", name := "find", desc := "(LSignMachine$Source;II)LSignMachine$Op;" } : Jvm.MethodName))) ∈ tb := mt 785 (by decide +kernel) rfl
theorem k_786 : ((Jvm.Cond.static ({ cls := "SignMachine$Op", name := "find", desc := "(LSignMachine$Source;II)LSignMachine$Op;" } : Jvm.MethodName))) ∈ tb := mt 786 (by decide +kernel) rfl
theorem k_787 : ((Jvm.Cond.code ({ cls := "SignMachine$Op", name := "find", desc := "(LSignMachine$Source;II)LSignMachine$Op;" } : Jvm.MethodName) prog_5_method_4_code (4 : Nat) (Option.some (Jvm.ClassFile.FieldType.object "SignMachine$Op")))) ∈ tb := mt 787 (by decide +kernel) rfl
theorem k_788 : ((Jvm.Cond.fieldLink "SignMachine$Op" (187 : Nat) "SignMachine$Op" "ALL" "[LSignMachine$Op;")) ∈ tb := mt 788 (by decide +kernel) rfl
theorem k_790 : ((Jvm.Cond.methodLink "SignMachine$Op" (190 : Nat) ({ cls := "SignMachine$Op", name := "fits", desc := "(LSignMachine$Source;II)Z" } : Jvm.MethodName))) ∈ tb := mt 790 (by decide +kernel) rfl
theorem k_792 : ((Jvm.Cond.instanceMethod ({ cls := "SignMachine$Op", name := "fits", desc := "(LSignMachine$Source;II)Z" } : Jvm.MethodName))) ∈ tb := mt 792 (by decide +kernel) rfl
theorem k_794 : ((Jvm.Cond.code ({ cls := "SignMachine$Op", name := "fits", desc := "(LSignMachine$Source;II)Z" } : Jvm.MethodName) prog_5_method_5_code (7 : Nat) (Option.some Jvm.ClassFile.FieldType.boolean))) ∈ tb := mt 794 (by decide +kernel) rfl
theorem k_795 : ((Jvm.Cond.methodLink "SignMachine$Op" (194 : Nat) ({ cls := "java/lang/String", name := "length", desc := "()I" } : Jvm.MethodName))) ∈ tb := mt 795 (by decide +kernel) rfl
theorem k_796 : ((Jvm.Cond.instanceMethod ({ cls := "java/lang/String", name := "length", desc := "()I" } : Jvm.MethodName))) ∈ tb := mt 796 (by decide +kernel) rfl
theorem k_797 : ((Jvm.Cond.selects "java/lang/String" ({ cls := "java/lang/String", name := "length", desc := "()I" } : Jvm.MethodName) ({ cls := "java/lang/String", name := "length", desc := "()I" } : Jvm.MethodName))) ∈ tb := mt 797 (by decide +kernel) rfl
theorem k_798 : ((Jvm.Cond.code ({ cls := "java/lang/String", name := "length", desc := "()I" } : Jvm.MethodName) prog_16_method_54_code (1 : Nat) (Option.some Jvm.ClassFile.FieldType.int))) ∈ tb := mt 798 (by decide +kernel) rfl
theorem k_799 : ((Jvm.Cond.methodLink "java/lang/String" (335 : Nat) ({ cls := "java/lang/String", name := "coder", desc := "()B" } : Jvm.MethodName))) ∈ tb := mt 799 (by decide +kernel) rfl
theorem k_800 : ((Jvm.Cond.instanceMethod ({ cls := "java/lang/String", name := "coder", desc := "()B" } : Jvm.MethodName))) ∈ tb := mt 800 (by decide +kernel) rfl
theorem k_801 : ((Jvm.Cond.selects "java/lang/String" ({ cls := "java/lang/String", name := "coder", desc := "()B" } : Jvm.MethodName) ({ cls := "java/lang/String", name := "coder", desc := "()B" } : Jvm.MethodName))) ∈ tb := mt 801 (by decide +kernel) rfl
theorem k_802 : ((Jvm.Cond.code ({ cls := "java/lang/String", name := "coder", desc := "()B" } : Jvm.MethodName) prog_16_method_152_code (1 : Nat) (Option.some Jvm.ClassFile.FieldType.byte))) ∈ tb := mt 802 (by decide +kernel) rfl
theorem k_803 : ((Jvm.Cond.fieldLink "java/lang/String" (38 : Nat) "java/lang/String" "COMPACT_STRINGS" "Z")) ∈ tb := mt 803 (by decide +kernel) rfl
theorem k_805 : ((Jvm.Cond.methodLink "SignMachine$Op" (200 : Nat) ({ cls := "java/lang/String", name := "charAt", desc := "(I)C" } : Jvm.MethodName))) ∈ tb := mt 805 (by decide +kernel) rfl
theorem k_806 : ((Jvm.Cond.instanceMethod ({ cls := "java/lang/String", name := "charAt", desc := "(I)C" } : Jvm.MethodName))) ∈ tb := mt 806 (by decide +kernel) rfl
theorem k_807 : ((Jvm.Cond.selects "java/lang/String" ({ cls := "java/lang/String", name := "charAt", desc := "(I)C" } : Jvm.MethodName) ({ cls := "java/lang/String", name := "charAt", desc := "(I)C" } : Jvm.MethodName))) ∈ tb := mt 807 (by decide +kernel) rfl
theorem k_808 : ((Jvm.Cond.code ({ cls := "java/lang/String", name := "charAt", desc := "(I)C" } : Jvm.MethodName) prog_16_method_56_code (2 : Nat) (Option.some Jvm.ClassFile.FieldType.char))) ∈ tb := mt 808 (by decide +kernel) rfl
theorem k_809 : ((Jvm.Cond.methodLink "java/lang/String" (492 : Nat) ({ cls := "java/lang/String", name := "isLatin1", desc := "()Z" } : Jvm.MethodName))) ∈ tb := mt 809 (by decide +kernel) rfl
theorem k_810 : ((Jvm.Cond.instanceMethod ({ cls := "java/lang/String", name := "isLatin1", desc := "()Z" } : Jvm.MethodName))) ∈ tb := mt 810 (by decide +kernel) rfl
theorem k_811 : ((Jvm.Cond.selects "java/lang/String" ({ cls := "java/lang/String", name := "isLatin1", desc := "()Z" } : Jvm.MethodName) ({ cls := "java/lang/String", name := "isLatin1", desc := "()Z" } : Jvm.MethodName))) ∈ tb := mt 811 (by decide +kernel) rfl
theorem k_812 : ((Jvm.Cond.code ({ cls := "java/lang/String", name := "isLatin1", desc := "()Z" } : Jvm.MethodName) prog_16_method_154_code (1 : Nat) (Option.some Jvm.ClassFile.FieldType.boolean))) ∈ tb := mt 812 (by decide +kernel) rfl
theorem k_813 : ((Jvm.Cond.methodLink "java/lang/String" (495 : Nat) ({ cls := "java/lang/StringLatin1", name := "charAt", desc := "([BI)C" } : Jvm.MethodName))) ∈ tb := mt 813 (by decide +kernel) rfl
theorem k_814 : ((Jvm.Cond.static ({ cls := "java/lang/StringLatin1", name := "charAt", desc := "([BI)C" } : Jvm.MethodName))) ∈ tb := mt 814 (by decide +kernel) rfl
theorem k_815 : ((Jvm.Cond.code ({ cls := "java/lang/StringLatin1", name := "charAt", desc := "([BI)C" } : Jvm.MethodName) prog_17_method_2_code (2 : Nat) (Option.some Jvm.ClassFile.FieldType.char))) ∈ tb := mt 815 (by decide +kernel) rfl
theorem k_816 : ((Jvm.Cond.methodLink "java/lang/StringLatin1" (9 : Nat) ({ cls := "java/lang/String", name := "checkIndex", desc := "(II)V" } : Jvm.MethodName))) ∈ tb := mt 816 (by decide +kernel) rfl
theorem k_817 : ((Jvm.Cond.static ({ cls := "java/lang/String", name := "checkIndex", desc := "(II)V" } : Jvm.MethodName))) ∈ tb := mt 817 (by decide +kernel) rfl
theorem k_818 : ((Jvm.Cond.code ({ cls := "java/lang/String", name := "checkIndex", desc := "(II)V" } : Jvm.MethodName) prog_16_method_155_code (2 : Nat) (Option.none : Option Jvm.ClassFile.FieldType))) ∈ tb := mt 818 (by decide +kernel) rfl
theorem k_819 : ((Jvm.Cond.fieldLink "java/lang/String" (1053 : Nat) "jdk/internal/util/Preconditions" "SIOOBE_FORMATTER" "Ljava/util/function/BiFunction;")) ∈ tb := mt 819 (by decide +kernel) rfl
theorem k_821 : ((Jvm.Cond.methodLink "java/lang/String" (1059 : Nat) ({ cls := "jdk/internal/util/Preconditions", name := "checkIndex", desc := "(IILjava/util/function/BiFunction;)I" } : Jvm.MethodName))) ∈ tb := mt 821 (by decide +kernel) rfl
theorem k_822 : ((Jvm.Cond.static ({ cls := "jdk/internal/util/Preconditions", name := "checkIndex", desc := "(IILjava/util/function/BiFunction;)I" } : Jvm.MethodName))) ∈ tb := mt 822 (by decide +kernel) rfl
theorem k_823 : ((Jvm.Cond.code ({ cls := "jdk/internal/util/Preconditions", name := "checkIndex", desc := "(IILjava/util/function/BiFunction;)I" } : Jvm.MethodName) prog_19_method_11_code (3 : Nat) (Option.some Jvm.ClassFile.FieldType.int))) ∈ tb := mt 823 (by decide +kernel) rfl
theorem k_843 : ((Jvm.Cond.methodLink "SignMachine$Op" (204 : Nat) ({ cls := "SignMachine$Source", name := "byteAt", desc := "(I)I" } : Jvm.MethodName))) ∈ tb := mt 843 (by decide +kernel) rfl
theorem k_845 : ((Jvm.Cond.methodLink "SignMachine$Op" (212 : Nat) ({ cls := "java/lang/String", name := "indexOf", desc := "(I)I" } : Jvm.MethodName))) ∈ tb := mt 845 (by decide +kernel) rfl
theorem k_846 : ((Jvm.Cond.instanceMethod ({ cls := "java/lang/String", name := "indexOf", desc := "(I)I" } : Jvm.MethodName))) ∈ tb := mt 846 (by decide +kernel) rfl
theorem k_847 : ((Jvm.Cond.selects "java/lang/String" ({ cls := "java/lang/String", name := "indexOf", desc := "(I)I" } : Jvm.MethodName) ({ cls := "java/lang/String", name := "indexOf", desc := "(I)I" } : Jvm.MethodName))) ∈ tb := mt 847 (by decide +kernel) rfl
theorem k_848 : ((Jvm.Cond.code ({ cls := "java/lang/String", name := "indexOf", desc := "(I)I" } : Jvm.MethodName) prog_16_method_79_code (2 : Nat) (Option.some Jvm.ClassFile.FieldType.int))) ∈ tb := mt 848 (by decide +kernel) rfl
theorem k_849 : ((Jvm.Cond.methodLink "java/lang/String" (633 : Nat) ({ cls := "java/lang/String", name := "indexOf", desc := "(II)I" } : Jvm.MethodName))) ∈ tb := mt 849 (by decide +kernel) rfl
theorem k_850 : ((Jvm.Cond.instanceMethod ({ cls := "java/lang/String", name := "indexOf", desc := "(II)I" } : Jvm.MethodName))) ∈ tb := mt 850 (by decide +kernel) rfl
theorem k_851 : ((Jvm.Cond.selects "java/lang/String" ({ cls := "java/lang/String", name := "indexOf", desc := "(II)I" } : Jvm.MethodName) ({ cls := "java/lang/String", name := "indexOf", desc := "(II)I" } : Jvm.MethodName))) ∈ tb := mt 851 (by decide +kernel) rfl
theorem k_852 : ((Jvm.Cond.code ({ cls := "java/lang/String", name := "indexOf", desc := "(II)I" } : Jvm.MethodName) prog_16_method_80_code (3 : Nat) (Option.some Jvm.ClassFile.FieldType.int))) ∈ tb := mt 852 (by decide +kernel) rfl
theorem k_853 : ((Jvm.Cond.methodLink "java/lang/String" (505 : Nat) ({ cls := "java/lang/String", name := "length", desc := "()I" } : Jvm.MethodName))) ∈ tb := mt 853 (by decide +kernel) rfl
theorem k_854 : ((Jvm.Cond.methodLink "java/lang/String" (637 : Nat) ({ cls := "java/lang/StringLatin1", name := "indexOf", desc := "([BIII)I" } : Jvm.MethodName))) ∈ tb := mt 854 (by decide +kernel) rfl
theorem k_855 : ((Jvm.Cond.static ({ cls := "java/lang/StringLatin1", name := "indexOf", desc := "([BIII)I" } : Jvm.MethodName))) ∈ tb := mt 855 (by decide +kernel) rfl
theorem k_856 : ((Jvm.Cond.code ({ cls := "java/lang/StringLatin1", name := "indexOf", desc := "([BIII)I" } : Jvm.MethodName) prog_17_method_22_code (4 : Nat) (Option.some Jvm.ClassFile.FieldType.int))) ∈ tb := mt 856 (by decide +kernel) rfl
theorem k_857 : ((Jvm.Cond.methodLink "java/lang/StringLatin1" (88 : Nat) ({ cls := "java/lang/StringLatin1", name := "canEncode", desc := "(I)Z" } : Jvm.MethodName))) ∈ tb := mt 857 (by decide +kernel) rfl
theorem k_858 : ((Jvm.Cond.static ({ cls := "java/lang/StringLatin1", name := "canEncode", desc := "(I)Z" } : Jvm.MethodName))) ∈ tb := mt 858 (by decide +kernel) rfl
theorem k_859 : ((Jvm.Cond.code ({ cls := "java/lang/StringLatin1", name := "canEncode", desc := "(I)Z" } : Jvm.MethodName) prog_17_method_4_code (1 : Nat) (Option.some Jvm.ClassFile.FieldType.boolean))) ∈ tb := mt 859 (by decide +kernel) rfl
theorem k_860 : ((Jvm.Cond.methodLink "java/lang/StringLatin1" (92 : Nat) ({ cls := "java/lang/Math", name := "max", desc := "(II)I" } : Jvm.MethodName))) ∈ tb := mt 860 (by decide +kernel) rfl
theorem k_861 : ((Jvm.Cond.static ({ cls := "java/lang/Math", name := "max", desc := "(II)I" } : Jvm.MethodName))) ∈ tb := mt 861 (by decide +kernel) rfl
theorem k_863 : ((Jvm.Cond.methodLink "java/lang/StringLatin1" (38 : Nat) ({ cls := "java/lang/Math", name := "min", desc := "(II)I" } : Jvm.MethodName))) ∈ tb := mt 863 (by decide +kernel) rfl
theorem k_864 : ((Jvm.Cond.methodLink "java/lang/StringLatin1" (95 : Nat) ({ cls := "java/lang/StringLatin1", name := "indexOfChar", desc := "([BIII)I" } : Jvm.MethodName))) ∈ tb := mt 864 (by decide +kernel) rfl
theorem k_865 : ((Jvm.Cond.static ({ cls := "java/lang/StringLatin1", name := "indexOfChar", desc := "([BIII)I" } : Jvm.MethodName))) ∈ tb := mt 865 (by decide +kernel) rfl
theorem k_866 : ((Jvm.Cond.code ({ cls := "java/lang/StringLatin1", name := "indexOfChar", desc := "([BIII)I" } : Jvm.MethodName) prog_17_method_23_code (6 : Nat) (Option.some Jvm.ClassFile.FieldType.int))) ∈ tb := mt 866 (by decide +kernel) rfl
theorem k_902 : ((Jvm.Cond.methodLink "SignMachine$Assembler" (201 : Nat) ({ cls := "SignMachine$Op", name := "codeIn", desc := "(LSignMachine$Source;I)I" } : Jvm.MethodName))) ∈ tb := mt 902 (by decide +kernel) rfl
theorem k_903 : ((Jvm.Cond.instanceMethod ({ cls := "SignMachine$Op", name := "codeIn", desc := "(LSignMachine$Source;I)I" } : Jvm.MethodName))) ∈ tb := mt 903 (by decide +kernel) rfl
theorem k_904 : ((Jvm.Cond.selects "SignMachine$Op" ({ cls := "SignMachine$Op", name := "codeIn", desc := "(LSignMachine$Source;I)I" } : Jvm.MethodName) ({ cls := "SignMachine$Op", name := "codeIn", desc := "(LSignMachine$Source;I)I" } : Jvm.MethodName))) ∈ tb := mt 904 (by decide +kernel) rfl
theorem k_905 : ((Jvm.Cond.code ({ cls := "SignMachine$Op", name := "codeIn", desc := "(LSignMachine$Source;I)I" } : Jvm.MethodName) prog_5_method_6_code (4 : Nat) (Option.some Jvm.ClassFile.FieldType.int))) ∈ tb := mt 905 (by decide +kernel) rfl
theorem k_906 : ((Jvm.Cond.methodLink "SignMachine$Op" (215 : Nat) ({ cls := "java/lang/Math", name := "max", desc := "(II)I" } : Jvm.MethodName))) ∈ tb := mt 906 (by decide +kernel) rfl
theorem k_907 : ((Jvm.Cond.fieldLink "SignMachine$Assembler" (91 : Nat) "SignMachine$Op" "EQU" "LSignMachine$Op;")) ∈ tb := mt 907 (by decide +kernel) rfl
theorem k_909 : ((Jvm.Cond.methodLink "SignMachine$Assembler" (96 : Nat) ({ cls := "SignMachine$Assembler", name := "tellLabel", desc := "(I)V" } : Jvm.MethodName))) ∈ tb := mt 909 (by decide +kernel) rfl
theorem k_911 : ((Jvm.Cond.instanceMethod ({ cls := "SignMachine$Assembler", name := "tellLabel", desc := "(I)V" } : Jvm.MethodName))) ∈ tb := mt 911 (by decide +kernel) rfl
theorem k_912 : ((Jvm.Cond.code ({ cls := "SignMachine$Assembler", name := "tellLabel", desc := "(I)V" } : Jvm.MethodName) prog_2_method_14_code (3 : Nat) (Option.none : Option Jvm.ClassFile.FieldType))) ∈ tb := mt 912 (by decide +kernel) rfl
theorem k_913 : ((Jvm.Cond.methodLink "SignMachine$Assembler" (206 : Nat) ({ cls := "SignMachine$Output", name := "closeLocal", desc := "(II)V" } : Jvm.MethodName))) ∈ tb := mt 913 (by decide +kernel) rfl
theorem k_914 : ((Jvm.Cond.instanceMethod ({ cls := "SignMachine$Output", name := "closeLocal", desc := "(II)V" } : Jvm.MethodName))) ∈ tb := mt 914 (by decide +kernel) rfl
theorem k_915 : ((Jvm.Cond.selects "SignMachine$Output" ({ cls := "SignMachine$Output", name := "closeLocal", desc := "(II)V" } : Jvm.MethodName) ({ cls := "SignMachine$Output", name := "closeLocal", desc := "(II)V" } : Jvm.MethodName))) ∈ tb := mt 915 (by decide +kernel) rfl
theorem k_916 : ((Jvm.Cond.code ({ cls := "SignMachine$Output", name := "closeLocal", desc := "(II)V" } : Jvm.MethodName) prog_6_method_4_code (6 : Nat) (Option.none : Option Jvm.ClassFile.FieldType))) ∈ tb := mt 916 (by decide +kernel) rfl
theorem k_917 : ((Jvm.Cond.methodLink "SignMachine$Output" (39 : Nat) ({ cls := "SignMachine$Output", name := "isWord", desc := "(I)Z" } : Jvm.MethodName))) ∈ tb := mt 917 (by decide +kernel) rfl
theorem k_918 : ((Jvm.Cond.static ({ cls := "SignMachine$Output", name := "isWord", desc := "(I)Z" } : Jvm.MethodName))) ∈ tb := mt 918 (by decide +kernel) rfl
theorem k_919 : ((Jvm.Cond.code ({ cls := "SignMachine$Output", name := "isWord", desc := "(I)Z" } : Jvm.MethodName) prog_6_method_5_code (1 : Nat) (Option.some Jvm.ClassFile.FieldType.boolean))) ∈ tb := mt 919 (by decide +kernel) rfl
theorem k_920 : ((Jvm.Cond.methodLink "SignMachine$Assembler" (209 : Nat) ({ cls := "SignMachine$Assembler", name := "tellSymbol", desc := "(I)V" } : Jvm.MethodName))) ∈ tb := mt 920 (by decide +kernel) rfl
theorem k_922 : ((Jvm.Cond.instanceMethod ({ cls := "SignMachine$Assembler", name := "tellSymbol", desc := "(I)V" } : Jvm.MethodName))) ∈ tb := mt 922 (by decide +kernel) rfl
theorem k_923 : ((Jvm.Cond.code ({ cls := "SignMachine$Assembler", name := "tellSymbol", desc := "(I)V" } : Jvm.MethodName) prog_2_method_15_code (3 : Nat) (Option.none : Option Jvm.ClassFile.FieldType))) ∈ tb := mt 923 (by decide +kernel) rfl
theorem k_924 : ((Jvm.Cond.methodLink "SignMachine$Assembler" (212 : Nat) ({ cls := "SignMachine$Names", name := "find", desc := "(J)I" } : Jvm.MethodName))) ∈ tb := mt 924 (by decide +kernel) rfl
theorem k_925 : ((Jvm.Cond.instanceMethod ({ cls := "SignMachine$Names", name := "find", desc := "(J)I" } : Jvm.MethodName))) ∈ tb := mt 925 (by decide +kernel) rfl
theorem k_926 : ((Jvm.Cond.selects "SignMachine$Names" ({ cls := "SignMachine$Names", name := "find", desc := "(J)I" } : Jvm.MethodName) ({ cls := "SignMachine$Names", name := "find", desc := "(J)I" } : Jvm.MethodName))) ∈ tb := mt 926 (by decide +kernel) rfl
theorem k_927 : ((Jvm.Cond.code ({ cls := "SignMachine$Names", name := "find", desc := "(J)I" } : Jvm.MethodName) prog_4_method_7_code (4 : Nat) (Option.some Jvm.ClassFile.FieldType.int))) ∈ tb := mt 927 (by decide +kernel) rfl
theorem k_928 : ((Jvm.Cond.methodLink "SignMachine$Assembler" (215 : Nat) ({ cls := "SignMachine$Names", name := "isTold", desc := "(I)Z" } : Jvm.MethodName))) ∈ tb := mt 928 (by decide +kernel) rfl
theorem k_929 : ((Jvm.Cond.instanceMethod ({ cls := "SignMachine$Names", name := "isTold", desc := "(I)Z" } : Jvm.MethodName))) ∈ tb := mt 929 (by decide +kernel) rfl
theorem k_930 : ((Jvm.Cond.selects "SignMachine$Names" ({ cls := "SignMachine$Names", name := "isTold", desc := "(I)Z" } : Jvm.MethodName) ({ cls := "SignMachine$Names", name := "isTold", desc := "(I)Z" } : Jvm.MethodName))) ∈ tb := mt 930 (by decide +kernel) rfl
theorem k_931 : ((Jvm.Cond.code ({ cls := "SignMachine$Names", name := "isTold", desc := "(I)Z" } : Jvm.MethodName) prog_4_method_12_code (2 : Nat) (Option.some Jvm.ClassFile.FieldType.boolean))) ∈ tb := mt 931 (by decide +kernel) rfl
theorem k_932 : ((Jvm.Cond.methodLink "SignMachine$Assembler" (219 : Nat) ({ cls := "SignMachine$Names", name := "addSymbol", desc := "(J)I" } : Jvm.MethodName))) ∈ tb := mt 932 (by decide +kernel) rfl
theorem k_933 : ((Jvm.Cond.instanceMethod ({ cls := "SignMachine$Names", name := "addSymbol", desc := "(J)I" } : Jvm.MethodName))) ∈ tb := mt 933 (by decide +kernel) rfl
theorem k_934 : ((Jvm.Cond.selects "SignMachine$Names" ({ cls := "SignMachine$Names", name := "addSymbol", desc := "(J)I" } : Jvm.MethodName) ({ cls := "SignMachine$Names", name := "addSymbol", desc := "(J)I" } : Jvm.MethodName))) ∈ tb := mt 934 (by decide +kernel) rfl
theorem k_935 : ((Jvm.Cond.code ({ cls := "SignMachine$Names", name := "addSymbol", desc := "(J)I" } : Jvm.MethodName) prog_4_method_8_code (3 : Nat) (Option.some Jvm.ClassFile.FieldType.int))) ∈ tb := mt 935 (by decide +kernel) rfl
theorem k_936 : ((Jvm.Cond.methodLink "SignMachine$Names" (42 : Nat) ({ cls := "SignMachine$Names", name := "add", desc := "(JI)I" } : Jvm.MethodName))) ∈ tb := mt 936 (by decide +kernel) rfl
theorem k_938 : ((Jvm.Cond.instanceMethod ({ cls := "SignMachine$Names", name := "add", desc := "(JI)I" } : Jvm.MethodName))) ∈ tb := mt 938 (by decide +kernel) rfl
theorem k_939 : ((Jvm.Cond.code ({ cls := "SignMachine$Names", name := "add", desc := "(JI)I" } : Jvm.MethodName) prog_4_method_10_code (4 : Nat) (Option.some Jvm.ClassFile.FieldType.int))) ∈ tb := mt 939 (by decide +kernel) rfl
theorem k_940 : ((Jvm.Cond.methodLink "SignMachine$Assembler" (222 : Nat) ({ cls := "SignMachine$Names", name := "tell", desc := "(II)V" } : Jvm.MethodName))) ∈ tb := mt 940 (by decide +kernel) rfl
theorem k_941 : ((Jvm.Cond.instanceMethod ({ cls := "SignMachine$Names", name := "tell", desc := "(II)V" } : Jvm.MethodName))) ∈ tb := mt 941 (by decide +kernel) rfl
theorem k_942 : ((Jvm.Cond.selects "SignMachine$Names" ({ cls := "SignMachine$Names", name := "tell", desc := "(II)V" } : Jvm.MethodName) ({ cls := "SignMachine$Names", name := "tell", desc := "(II)V" } : Jvm.MethodName))) ∈ tb := mt 942 (by decide +kernel) rfl
theorem k_943 : ((Jvm.Cond.code ({ cls := "SignMachine$Names", name := "tell", desc := "(II)V" } : Jvm.MethodName) prog_4_method_13_code (3 : Nat) (Option.none : Option Jvm.ClassFile.FieldType))) ∈ tb := mt 943 (by decide +kernel) rfl
theorem k_944 : ((Jvm.Cond.methodLink "SignMachine" (127 : Nat) ({ cls := "SignMachine$Assembler", name := "takeArgument", desc := "()V" } : Jvm.MethodName))) ∈ tb := mt 944 (by decide +kernel) rfl
theorem k_945 : ((Jvm.Cond.instanceMethod ({ cls := "SignMachine$Assembler", name := "takeArgument", desc := "()V" } : Jvm.MethodName))) ∈ tb := mt 945 (by decide +kernel) rfl
theorem k_946 : ((Jvm.Cond.selects "SignMachine$Assembler" ({ cls := "SignMachine$Assembler", name := "takeArgument", desc := "()V" } : Jvm.MethodName) ({ cls := "SignMachine$Assembler", name := "takeArgument", desc := "()V" } : Jvm.MethodName))) ∈ tb := mt 946 (by decide +kernel) rfl
theorem k_947 : ((Jvm.Cond.code ({ cls := "SignMachine$Assembler", name := "takeArgument", desc := "()V" } : Jvm.MethodName) prog_2_method_5_code (2 : Nat) (Option.none : Option Jvm.ClassFile.FieldType))) ∈ tb := mt 947 (by decide +kernel) rfl
theorem k_948 : ((Jvm.Cond.fieldLink "SignMachine$Assembler" (100 : Nat) "SignMachine$Op" "ALF" "LSignMachine$Op;")) ∈ tb := mt 948 (by decide +kernel) rfl
theorem k_950 : ((Jvm.Cond.methodLink "SignMachine$Assembler" (103 : Nat) ({ cls := "SignMachine$Assembler", name := "takeCharacters", desc := "()V" } : Jvm.MethodName))) ∈ tb := mt 950 (by decide +kernel) rfl
theorem k_952 : ((Jvm.Cond.instanceMethod ({ cls := "SignMachine$Assembler", name := "takeCharacters", desc := "()V" } : Jvm.MethodName))) ∈ tb := mt 952 (by decide +kernel) rfl
theorem k_953 : ((Jvm.Cond.code ({ cls := "SignMachine$Assembler", name := "takeCharacters", desc := "()V" } : Jvm.MethodName) prog_2_method_18_code (4 : Nat) (Option.none : Option Jvm.ClassFile.FieldType))) ∈ tb := mt 953 (by decide +kernel) rfl
theorem k_954 : ((Jvm.Cond.methodLink "SignMachine$Assembler" (240 : Nat) ({ cls := "SignMachine$Source", name := "takes", desc := "(I)Z" } : Jvm.MethodName))) ∈ tb := mt 954 (by decide +kernel) rfl
theorem k_955 : ((Jvm.Cond.instanceMethod ({ cls := "SignMachine$Source", name := "takes", desc := "(I)Z" } : Jvm.MethodName))) ∈ tb := mt 955 (by decide +kernel) rfl
theorem k_956 : ((Jvm.Cond.selects "SignMachine$Source" ({ cls := "SignMachine$Source", name := "takes", desc := "(I)Z" } : Jvm.MethodName) ({ cls := "SignMachine$Source", name := "takes", desc := "(I)Z" } : Jvm.MethodName))) ∈ tb := mt 956 (by decide +kernel) rfl
theorem k_957 : ((Jvm.Cond.code ({ cls := "SignMachine$Source", name := "takes", desc := "(I)Z" } : Jvm.MethodName) prog_7_method_10_code (2 : Nat) (Option.some Jvm.ClassFile.FieldType.boolean))) ∈ tb := mt 957 (by decide +kernel) rfl
theorem k_959 : ((Jvm.Cond.methodLink "SignMachine$Assembler" (245 : Nat) ({ cls := "java/lang/String", name := "indexOf", desc := "(I)I" } : Jvm.MethodName))) ∈ tb := mt 959 (by decide +kernel) rfl
theorem k_960 : ((Jvm.Cond.methodLink "SignMachine$Assembler" (250 : Nat) ({ cls := "SignMachine$Source", name := "skip", desc := "()V" } : Jvm.MethodName))) ∈ tb := mt 960 (by decide +kernel) rfl
theorem k_961 : ((Jvm.Cond.instanceMethod ({ cls := "SignMachine$Source", name := "skip", desc := "()V" } : Jvm.MethodName))) ∈ tb := mt 961 (by decide +kernel) rfl
theorem k_962 : ((Jvm.Cond.selects "SignMachine$Source" ({ cls := "SignMachine$Source", name := "skip", desc := "()V" } : Jvm.MethodName) ({ cls := "SignMachine$Source", name := "skip", desc := "()V" } : Jvm.MethodName))) ∈ tb := mt 962 (by decide +kernel) rfl
theorem k_963 : ((Jvm.Cond.code ({ cls := "SignMachine$Source", name := "skip", desc := "()V" } : Jvm.MethodName) prog_7_method_9_code (1 : Nat) (Option.none : Option Jvm.ClassFile.FieldType))) ∈ tb := mt 963 (by decide +kernel) rfl
theorem k_964 : ((Jvm.Cond.methodLink "SignMachine$Assembler" (129 : Nat) ({ cls := "SignMachine$Assembler", name := "putWord", desc := "(I)V" } : Jvm.MethodName))) ∈ tb := mt 964 (by decide +kernel) rfl
theorem k_966 : ((Jvm.Cond.instanceMethod ({ cls := "SignMachine$Assembler", name := "putWord", desc := "(I)V" } : Jvm.MethodName))) ∈ tb := mt 966 (by decide +kernel) rfl
theorem k_967 : ((Jvm.Cond.code ({ cls := "SignMachine$Assembler", name := "putWord", desc := "(I)V" } : Jvm.MethodName) prog_2_method_20_code (2 : Nat) (Option.none : Option Jvm.ClassFile.FieldType))) ∈ tb := mt 967 (by decide +kernel) rfl
theorem k_968 : ((Jvm.Cond.methodLink "SignMachine$Assembler" (265 : Nat) ({ cls := "SignMachine$Assembler", name := "putInstruction", desc := "(I)V" } : Jvm.MethodName))) ∈ tb := mt 968 (by decide +kernel) rfl
theorem k_970 : ((Jvm.Cond.instanceMethod ({ cls := "SignMachine$Assembler", name := "putInstruction", desc := "(I)V" } : Jvm.MethodName))) ∈ tb := mt 970 (by decide +kernel) rfl
theorem k_971 : ((Jvm.Cond.code ({ cls := "SignMachine$Assembler", name := "putInstruction", desc := "(I)V" } : Jvm.MethodName) prog_2_method_21_code (2 : Nat) (Option.none : Option Jvm.ClassFile.FieldType))) ∈ tb := mt 971 (by decide +kernel) rfl
theorem k_972 : ((Jvm.Cond.methodLink "SignMachine$Assembler" (225 : Nat) ({ cls := "SignMachine$Machine", name := "isAddress", desc := "(I)Z" } : Jvm.MethodName))) ∈ tb := mt 972 (by decide +kernel) rfl
theorem k_973 : ((Jvm.Cond.methodLink "SignMachine$Assembler" (272 : Nat) ({ cls := "SignMachine$Output", name := "add", desc := "(IIIII)V" } : Jvm.MethodName))) ∈ tb := mt 973 (by decide +kernel) rfl
theorem k_974 : ((Jvm.Cond.instanceMethod ({ cls := "SignMachine$Output", name := "add", desc := "(IIIII)V" } : Jvm.MethodName))) ∈ tb := mt 974 (by decide +kernel) rfl
theorem k_975 : ((Jvm.Cond.selects "SignMachine$Output" ({ cls := "SignMachine$Output", name := "add", desc := "(IIIII)V" } : Jvm.MethodName) ({ cls := "SignMachine$Output", name := "add", desc := "(IIIII)V" } : Jvm.MethodName))) ∈ tb := mt 975 (by decide +kernel) rfl
theorem k_976 : ((Jvm.Cond.code ({ cls := "SignMachine$Output", name := "add", desc := "(IIIII)V" } : Jvm.MethodName) prog_6_method_3_code (6 : Nat) (Option.none : Option Jvm.ClassFile.FieldType))) ∈ tb := mt 976 (by decide +kernel) rfl
theorem k_977 : ((Jvm.Cond.methodLink "SignMachine$Assembler" (112 : Nat) ({ cls := "SignMachine$Assembler", name := "takeOperation", desc := "(I)V" } : Jvm.MethodName))) ∈ tb := mt 977 (by decide +kernel) rfl
theorem k_979 : ((Jvm.Cond.instanceMethod ({ cls := "SignMachine$Assembler", name := "takeOperation", desc := "(I)V" } : Jvm.MethodName))) ∈ tb := mt 979 (by decide +kernel) rfl
theorem k_980 : ((Jvm.Cond.code ({ cls := "SignMachine$Assembler", name := "takeOperation", desc := "(I)V" } : Jvm.MethodName) prog_2_method_19_code (5 : Nat) (Option.none : Option Jvm.ClassFile.FieldType))) ∈ tb := mt 980 (by decide +kernel) rfl
theorem k_981 : ((Jvm.Cond.methodLink "SignMachine$Assembler" (253 : Nat) ({ cls := "SignMachine$Assembler", name := "readAddress", desc := "()I" } : Jvm.MethodName))) ∈ tb := mt 981 (by decide +kernel) rfl
theorem k_983 : ((Jvm.Cond.instanceMethod ({ cls := "SignMachine$Assembler", name := "readAddress", desc := "()I" } : Jvm.MethodName))) ∈ tb := mt 983 (by decide +kernel) rfl
theorem k_984 : ((Jvm.Cond.code ({ cls := "SignMachine$Assembler", name := "readAddress", desc := "()I" } : Jvm.MethodName) prog_2_method_22_code (2 : Nat) (Option.some Jvm.ClassFile.FieldType.int))) ∈ tb := mt 984 (by decide +kernel) rfl
theorem k_985 : ((Jvm.Cond.methodLink "SignMachine$Assembler" (115 : Nat) ({ cls := "SignMachine$Assembler", name := "readW", desc := "()I" } : Jvm.MethodName))) ∈ tb := mt 985 (by decide +kernel) rfl
theorem k_987 : ((Jvm.Cond.instanceMethod ({ cls := "SignMachine$Assembler", name := "readW", desc := "()I" } : Jvm.MethodName))) ∈ tb := mt 987 (by decide +kernel) rfl
theorem k_988 : ((Jvm.Cond.code ({ cls := "SignMachine$Assembler", name := "readW", desc := "()I" } : Jvm.MethodName) prog_2_method_28_code (5 : Nat) (Option.some Jvm.ClassFile.FieldType.int))) ∈ tb := mt 988 (by decide +kernel) rfl
theorem k_989 : ((Jvm.Cond.methodLink "SignMachine$Assembler" (256 : Nat) ({ cls := "SignMachine$Assembler", name := "readExp", desc := "()I" } : Jvm.MethodName))) ∈ tb := mt 989 (by decide +kernel) rfl
theorem k_991 : ((Jvm.Cond.instanceMethod ({ cls := "SignMachine$Assembler", name := "readExp", desc := "()I" } : Jvm.MethodName))) ∈ tb := mt 991 (by decide +kernel) rfl
theorem k_992 : ((Jvm.Cond.code ({ cls := "SignMachine$Assembler", name := "readExp", desc := "()I" } : Jvm.MethodName) prog_2_method_29_code (7 : Nat) (Option.some Jvm.ClassFile.FieldType.int))) ∈ tb := mt 992 (by decide +kernel) rfl
theorem k_993 : ((Jvm.Cond.methodLink "SignMachine$Assembler" (302 : Nat) ({ cls := "SignMachine$Assembler", name := "atomValue", desc := "()I" } : Jvm.MethodName))) ∈ tb := mt 993 (by decide +kernel) rfl
theorem k_995 : ((Jvm.Cond.instanceMethod ({ cls := "SignMachine$Assembler", name := "atomValue", desc := "()I" } : Jvm.MethodName))) ∈ tb := mt 995 (by decide +kernel) rfl
theorem k_996 : ((Jvm.Cond.code ({ cls := "SignMachine$Assembler", name := "atomValue", desc := "()I" } : Jvm.MethodName) prog_2_method_32_code (3 : Nat) (Option.some Jvm.ClassFile.FieldType.int))) ∈ tb := mt 996 (by decide +kernel) rfl
theorem k_997 : ((Jvm.Cond.methodLink "SignMachine$Assembler" (318 : Nat) ({ cls := "SignMachine$Names", name := "isLocalTold", desc := "(I)Z" } : Jvm.MethodName))) ∈ tb := mt 997 (by decide +kernel) rfl
theorem k_998 : ((Jvm.Cond.instanceMethod ({ cls := "SignMachine$Names", name := "isLocalTold", desc := "(I)Z" } : Jvm.MethodName))) ∈ tb := mt 998 (by decide +kernel) rfl
theorem k_999 : ((Jvm.Cond.selects "SignMachine$Names" ({ cls := "SignMachine$Names", name := "isLocalTold", desc := "(I)Z" } : Jvm.MethodName) ({ cls := "SignMachine$Names", name := "isLocalTold", desc := "(I)Z" } : Jvm.MethodName))) ∈ tb := mt 999 (by decide +kernel) rfl
theorem k_1000 : ((Jvm.Cond.code ({ cls := "SignMachine$Names", name := "isLocalTold", desc := "(I)Z" } : Jvm.MethodName) prog_4_method_14_code (2 : Nat) (Option.some Jvm.ClassFile.FieldType.boolean))) ∈ tb := mt 1000 (by decide +kernel) rfl
theorem k_1001 : ((Jvm.Cond.methodLink "SignMachine$Assembler" (321 : Nat) ({ cls := "SignMachine$Names", name := "localValue", desc := "(I)I" } : Jvm.MethodName))) ∈ tb := mt 1001 (by decide +kernel) rfl
theorem k_1002 : ((Jvm.Cond.instanceMethod ({ cls := "SignMachine$Names", name := "localValue", desc := "(I)I" } : Jvm.MethodName))) ∈ tb := mt 1002 (by decide +kernel) rfl
theorem k_1003 : ((Jvm.Cond.selects "SignMachine$Names" ({ cls := "SignMachine$Names", name := "localValue", desc := "(I)I" } : Jvm.MethodName) ({ cls := "SignMachine$Names", name := "localValue", desc := "(I)I" } : Jvm.MethodName))) ∈ tb := mt 1003 (by decide +kernel) rfl
theorem k_1004 : ((Jvm.Cond.code ({ cls := "SignMachine$Names", name := "localValue", desc := "(I)I" } : Jvm.MethodName) prog_4_method_15_code (2 : Nat) (Option.some Jvm.ClassFile.FieldType.int))) ∈ tb := mt 1004 (by decide +kernel) rfl
theorem k_1005 : ((Jvm.Cond.methodLink "SignMachine$Assembler" (161 : Nat) ({ cls := "SignMachine$Names", name := "valueOf", desc := "(I)I" } : Jvm.MethodName))) ∈ tb := mt 1005 (by decide +kernel) rfl
theorem k_1006 : ((Jvm.Cond.instanceMethod ({ cls := "SignMachine$Names", name := "valueOf", desc := "(I)I" } : Jvm.MethodName))) ∈ tb := mt 1006 (by decide +kernel) rfl
theorem k_1007 : ((Jvm.Cond.selects "SignMachine$Names" ({ cls := "SignMachine$Names", name := "valueOf", desc := "(I)I" } : Jvm.MethodName) ({ cls := "SignMachine$Names", name := "valueOf", desc := "(I)I" } : Jvm.MethodName))) ∈ tb := mt 1007 (by decide +kernel) rfl
theorem k_1008 : ((Jvm.Cond.code ({ cls := "SignMachine$Names", name := "valueOf", desc := "(I)I" } : Jvm.MethodName) prog_4_method_11_code (2 : Nat) (Option.some Jvm.ClassFile.FieldType.int))) ∈ tb := mt 1008 (by decide +kernel) rfl
theorem k_1009 : ((Jvm.Cond.methodLink "SignMachine$Assembler" (305 : Nat) ({ cls := "SignMachine$Assembler", name := "reckon", desc := "(JIJ)J" } : Jvm.MethodName))) ∈ tb := mt 1009 (by decide +kernel) rfl
theorem k_1011 : ((Jvm.Cond.instanceMethod ({ cls := "SignMachine$Assembler", name := "reckon", desc := "(JIJ)J" } : Jvm.MethodName))) ∈ tb := mt 1011 (by decide +kernel) rfl
theorem k_1012 : ((Jvm.Cond.code ({ cls := "SignMachine$Assembler", name := "reckon", desc := "(JIJ)J" } : Jvm.MethodName) prog_2_method_31_code (8 : Nat) (Option.some Jvm.ClassFile.FieldType.long))) ∈ tb := mt 1012 (by decide +kernel) rfl
theorem k_1013 : ((Jvm.Cond.constantLong "SignMachine$Assembler" (309 : Nat) (8 : Int64))) ∈ tb := mt 1013 (by decide +kernel) rfl
theorem k_1014 : ((Jvm.Cond.methodLink "SignMachine$Assembler" (311 : Nat) ({ cls := "java/lang/Math", name := "abs", desc := "(J)J" } : Jvm.MethodName))) ∈ tb := mt 1014 (by decide +kernel) rfl
theorem k_1015 : ((Jvm.Cond.static ({ cls := "java/lang/Math", name := "abs", desc := "(J)J" } : Jvm.MethodName))) ∈ tb := mt 1015 (by decide +kernel) rfl
theorem k_1017 : ((Jvm.Cond.constantLong "SignMachine$Assembler" (314 : Nat) (1073741823 : Int64))) ∈ tb := mt 1017 (by decide +kernel) rfl
theorem k_1018 : ((Jvm.Cond.methodLink "SignMachine$Assembler" (285 : Nat) ({ cls := "SignMachine$Assembler", name := "isOperator", desc := "(I)Z" } : Jvm.MethodName))) ∈ tb := mt 1018 (by decide +kernel) rfl
theorem k_1019 : ((Jvm.Cond.static ({ cls := "SignMachine$Assembler", name := "isOperator", desc := "(I)Z" } : Jvm.MethodName))) ∈ tb := mt 1019 (by decide +kernel) rfl
theorem k_1020 : ((Jvm.Cond.code ({ cls := "SignMachine$Assembler", name := "isOperator", desc := "(I)Z" } : Jvm.MethodName) prog_2_method_30_code (1 : Nat) (Option.some Jvm.ClassFile.FieldType.boolean))) ∈ tb := mt 1020 (by decide +kernel) rfl
theorem k_1021 : ((Jvm.Cond.methodLink "SignMachine$Assembler" (259 : Nat) ({ cls := "SignMachine$Assembler", name := "expectBracket", desc := "()V" } : Jvm.MethodName))) ∈ tb := mt 1021 (by decide +kernel) rfl
theorem k_1023 : ((Jvm.Cond.instanceMethod ({ cls := "SignMachine$Assembler", name := "expectBracket", desc := "()V" } : Jvm.MethodName))) ∈ tb := mt 1023 (by decide +kernel) rfl
theorem k_1024 : ((Jvm.Cond.code ({ cls := "SignMachine$Assembler", name := "expectBracket", desc := "()V" } : Jvm.MethodName) prog_2_method_27_code (1 : Nat) (Option.none : Option Jvm.ClassFile.FieldType))) ∈ tb := mt 1024 (by decide +kernel) rfl
theorem k_1025 : ((Jvm.Cond.methodLink "SignMachine$Assembler" (292 : Nat) ({ cls := "SignMachine$Word", name := "isField", desc := "(I)Z" } : Jvm.MethodName))) ∈ tb := mt 1025 (by decide +kernel) rfl
theorem k_1026 : ((Jvm.Cond.methodLink "SignMachine$Assembler" (295 : Nat) ({ cls := "SignMachine$Word", name := "of", desc := "(II)I" } : Jvm.MethodName))) ∈ tb := mt 1026 (by decide +kernel) rfl
theorem k_1027 : ((Jvm.Cond.methodLink "SignMachine$Assembler" (298 : Nat) ({ cls := "SignMachine$Word", name := "store", desc := "(III)I" } : Jvm.MethodName))) ∈ tb := mt 1027 (by decide +kernel) rfl
theorem k_1028 : ((Jvm.Cond.methodLink "SignMachine$Assembler" (276 : Nat) ({ cls := "SignMachine$Assembler", name := "takeLiteral", desc := "(I)V" } : Jvm.MethodName))) ∈ tb := mt 1028 (by decide +kernel) rfl
theorem k_1030 : ((Jvm.Cond.instanceMethod ({ cls := "SignMachine$Assembler", name := "takeLiteral", desc := "(I)V" } : Jvm.MethodName))) ∈ tb := mt 1030 (by decide +kernel) rfl
theorem k_1031 : ((Jvm.Cond.code ({ cls := "SignMachine$Assembler", name := "takeLiteral", desc := "(I)V" } : Jvm.MethodName) prog_2_method_23_code (2 : Nat) (Option.none : Option Jvm.ClassFile.FieldType))) ∈ tb := mt 1031 (by decide +kernel) rfl
theorem k_1032 : ((Jvm.Cond.methodLink "SignMachine$Assembler" (282 : Nat) ({ cls := "SignMachine$Names", name := "addLiteral", desc := "(I)I" } : Jvm.MethodName))) ∈ tb := mt 1032 (by decide +kernel) rfl
theorem k_1033 : ((Jvm.Cond.instanceMethod ({ cls := "SignMachine$Names", name := "addLiteral", desc := "(I)I" } : Jvm.MethodName))) ∈ tb := mt 1033 (by decide +kernel) rfl
theorem k_1034 : ((Jvm.Cond.selects "SignMachine$Names" ({ cls := "SignMachine$Names", name := "addLiteral", desc := "(I)I" } : Jvm.MethodName) ({ cls := "SignMachine$Names", name := "addLiteral", desc := "(I)I" } : Jvm.MethodName))) ∈ tb := mt 1034 (by decide +kernel) rfl
theorem k_1035 : ((Jvm.Cond.code ({ cls := "SignMachine$Names", name := "addLiteral", desc := "(I)I" } : Jvm.MethodName) prog_4_method_9_code (2 : Nat) (Option.some Jvm.ClassFile.FieldType.int))) ∈ tb := mt 1035 (by decide +kernel) rfl
theorem k_1036 : ((Jvm.Cond.methodLink "SignMachine$Assembler" (279 : Nat) ({ cls := "SignMachine$Assembler", name := "readLaterName", desc := "()Z" } : Jvm.MethodName))) ∈ tb := mt 1036 (by decide +kernel) rfl
theorem k_1038 : ((Jvm.Cond.instanceMethod ({ cls := "SignMachine$Assembler", name := "readLaterName", desc := "()Z" } : Jvm.MethodName))) ∈ tb := mt 1038 (by decide +kernel) rfl
theorem k_1039 : ((Jvm.Cond.code ({ cls := "SignMachine$Assembler", name := "readLaterName", desc := "()Z" } : Jvm.MethodName) prog_2_method_24_code (3 : Nat) (Option.some Jvm.ClassFile.FieldType.boolean))) ∈ tb := mt 1039 (by decide +kernel) rfl
theorem k_1040 : ((Jvm.Cond.methodLink "SignMachine$Assembler" (288 : Nat) ({ cls := "SignMachine$Assembler", name := "isLaterSymbol", desc := "(J)Z" } : Jvm.MethodName))) ∈ tb := mt 1040 (by decide +kernel) rfl
theorem k_1042 : ((Jvm.Cond.instanceMethod ({ cls := "SignMachine$Assembler", name := "isLaterSymbol", desc := "(J)Z" } : Jvm.MethodName))) ∈ tb := mt 1042 (by decide +kernel) rfl
theorem k_1043 : ((Jvm.Cond.code ({ cls := "SignMachine$Assembler", name := "isLaterSymbol", desc := "(J)Z" } : Jvm.MethodName) prog_2_method_25_code (3 : Nat) (Option.some Jvm.ClassFile.FieldType.boolean))) ∈ tb := mt 1043 (by decide +kernel) rfl
theorem k_1044 : ((Jvm.Cond.methodLink "SignMachine$Assembler" (118 : Nat) ({ cls := "SignMachine$Assembler", name := "expectEnd", desc := "()V" } : Jvm.MethodName))) ∈ tb := mt 1044 (by decide +kernel) rfl
theorem k_1046 : ((Jvm.Cond.instanceMethod ({ cls := "SignMachine$Assembler", name := "expectEnd", desc := "()V" } : Jvm.MethodName))) ∈ tb := mt 1046 (by decide +kernel) rfl
theorem k_1047 : ((Jvm.Cond.code ({ cls := "SignMachine$Assembler", name := "expectEnd", desc := "()V" } : Jvm.MethodName) prog_2_method_26_code (2 : Nat) (Option.none : Option Jvm.ClassFile.FieldType))) ∈ tb := mt 1047 (by decide +kernel) rfl
theorem k_1048 : ((Jvm.Cond.methodLink "SignMachine$Assembler" (167 : Nat) ({ cls := "java/lang/Math", name := "abs", desc := "(I)I" } : Jvm.MethodName))) ∈ tb := mt 1048 (by decide +kernel) rfl
theorem k_1049 : ((Jvm.Cond.methodLink "SignMachine$Assembler" (262 : Nat) ({ cls := "SignMachine$Assembler", name := "addressPart", desc := "(I)I" } : Jvm.MethodName))) ∈ tb := mt 1049 (by decide +kernel) rfl
theorem k_1050 : ((Jvm.Cond.static ({ cls := "SignMachine$Assembler", name := "addressPart", desc := "(I)I" } : Jvm.MethodName))) ∈ tb := mt 1050 (by decide +kernel) rfl
theorem k_1051 : ((Jvm.Cond.code ({ cls := "SignMachine$Assembler", name := "addressPart", desc := "(I)I" } : Jvm.MethodName) prog_2_method_9_code (1 : Nat) (Option.some Jvm.ClassFile.FieldType.int))) ∈ tb := mt 1051 (by decide +kernel) rfl
theorem k_1052 : ((Jvm.Cond.methodLink "SignMachine$Assembler" (175 : Nat) ({ cls := "SignMachine$Word", name := "make", desc := "(II)I" } : Jvm.MethodName))) ∈ tb := mt 1052 (by decide +kernel) rfl
theorem k_1053 : ((Jvm.Cond.methodLink "SignMachine$Assembler" (121 : Nat) ({ cls := "SignMachine$Word", name := "number", desc := "(I)I" } : Jvm.MethodName))) ∈ tb := mt 1053 (by decide +kernel) rfl
theorem k_1054 : ((Jvm.Cond.fieldLink "SignMachine$Assembler" (126 : Nat) "SignMachine$Op" "CON" "LSignMachine$Op;")) ∈ tb := mt 1054 (by decide +kernel) rfl
theorem k_1056 : ((Jvm.Cond.methodLink "SignMachine$Assembler" (132 : Nat) ({ cls := "SignMachine$Assembler", name := "takePlace", desc := "(I)V" } : Jvm.MethodName))) ∈ tb := mt 1056 (by decide +kernel) rfl
theorem k_1058 : ((Jvm.Cond.instanceMethod ({ cls := "SignMachine$Assembler", name := "takePlace", desc := "(I)V" } : Jvm.MethodName))) ∈ tb := mt 1058 (by decide +kernel) rfl
theorem k_1059 : ((Jvm.Cond.code ({ cls := "SignMachine$Assembler", name := "takePlace", desc := "(I)V" } : Jvm.MethodName) prog_2_method_16_code (2 : Nat) (Option.none : Option Jvm.ClassFile.FieldType))) ∈ tb := mt 1059 (by decide +kernel) rfl
theorem k_1060 : ((Jvm.Cond.fieldLink "SignMachine$Assembler" (230 : Nat) "SignMachine$Op" "ORIG" "LSignMachine$Op;")) ∈ tb := mt 1060 (by decide +kernel) rfl
theorem k_1062 : ((Jvm.Cond.methodLink "SignMachine$Assembler" (236 : Nat) ({ cls := "SignMachine$Assembler", name := "putPending", desc := "()V" } : Jvm.MethodName))) ∈ tb := mt 1062 (by decide +kernel) rfl
theorem k_1064 : ((Jvm.Cond.instanceMethod ({ cls := "SignMachine$Assembler", name := "putPending", desc := "()V" } : Jvm.MethodName))) ∈ tb := mt 1064 (by decide +kernel) rfl
theorem k_1065 : ((Jvm.Cond.code ({ cls := "SignMachine$Assembler", name := "putPending", desc := "()V" } : Jvm.MethodName) prog_2_method_17_code (3 : Nat) (Option.none : Option Jvm.ClassFile.FieldType))) ∈ tb := mt 1065 (by decide +kernel) rfl
theorem k_1066 : ((Jvm.Cond.methodLink "SignMachine" (130 : Nat) ({ cls := "SignMachine$Assembler", name := "leaveLine", desc := "()V" } : Jvm.MethodName))) ∈ tb := mt 1066 (by decide +kernel) rfl
theorem k_1067 : ((Jvm.Cond.instanceMethod ({ cls := "SignMachine$Assembler", name := "leaveLine", desc := "()V" } : Jvm.MethodName))) ∈ tb := mt 1067 (by decide +kernel) rfl
theorem k_1068 : ((Jvm.Cond.selects "SignMachine$Assembler" ({ cls := "SignMachine$Assembler", name := "leaveLine", desc := "()V" } : Jvm.MethodName) ({ cls := "SignMachine$Assembler", name := "leaveLine", desc := "()V" } : Jvm.MethodName))) ∈ tb := mt 1068 (by decide +kernel) rfl
theorem k_1069 : ((Jvm.Cond.code ({ cls := "SignMachine$Assembler", name := "leaveLine", desc := "()V" } : Jvm.MethodName) prog_2_method_6_code (1 : Nat) (Option.none : Option Jvm.ClassFile.FieldType))) ∈ tb := mt 1069 (by decide +kernel) rfl
theorem k_1070 : ((Jvm.Cond.methodLink "SignMachine$Assembler" (142 : Nat) ({ cls := "SignMachine$Names", name := "tellLocal", desc := "(II)V" } : Jvm.MethodName))) ∈ tb := mt 1070 (by decide +kernel) rfl
theorem k_1071 : ((Jvm.Cond.instanceMethod ({ cls := "SignMachine$Names", name := "tellLocal", desc := "(II)V" } : Jvm.MethodName))) ∈ tb := mt 1071 (by decide +kernel) rfl
theorem k_1072 : ((Jvm.Cond.selects "SignMachine$Names" ({ cls := "SignMachine$Names", name := "tellLocal", desc := "(II)V" } : Jvm.MethodName) ({ cls := "SignMachine$Names", name := "tellLocal", desc := "(II)V" } : Jvm.MethodName))) ∈ tb := mt 1072 (by decide +kernel) rfl
theorem k_1073 : ((Jvm.Cond.code ({ cls := "SignMachine$Names", name := "tellLocal", desc := "(II)V" } : Jvm.MethodName) prog_4_method_16_code (3 : Nat) (Option.none : Option Jvm.ClassFile.FieldType))) ∈ tb := mt 1073 (by decide +kernel) rfl
theorem k_1074 : ((Jvm.Cond.methodLink "SignMachine" (133 : Nat) ({ cls := "SignMachine$Assembler", name := "finish", desc := "()V" } : Jvm.MethodName))) ∈ tb := mt 1074 (by decide +kernel) rfl
theorem k_1075 : ((Jvm.Cond.instanceMethod ({ cls := "SignMachine$Assembler", name := "finish", desc := "()V" } : Jvm.MethodName))) ∈ tb := mt 1075 (by decide +kernel) rfl
theorem k_1076 : ((Jvm.Cond.selects "SignMachine$Assembler" ({ cls := "SignMachine$Assembler", name := "finish", desc := "()V" } : Jvm.MethodName) ({ cls := "SignMachine$Assembler", name := "finish", desc := "()V" } : Jvm.MethodName))) ∈ tb := mt 1076 (by decide +kernel) rfl
theorem k_1077 : ((Jvm.Cond.code ({ cls := "SignMachine$Assembler", name := "finish", desc := "()V" } : Jvm.MethodName) prog_2_method_7_code (2 : Nat) (Option.none : Option Jvm.ClassFile.FieldType))) ∈ tb := mt 1077 (by decide +kernel) rfl
theorem k_1078 : ((Jvm.Cond.methodLink "SignMachine$Assembler" (152 : Nat) ({ cls := "SignMachine$Assembler", name := "close", desc := "(I)V" } : Jvm.MethodName))) ∈ tb := mt 1078 (by decide +kernel) rfl
theorem k_1080 : ((Jvm.Cond.instanceMethod ({ cls := "SignMachine$Assembler", name := "close", desc := "(I)V" } : Jvm.MethodName))) ∈ tb := mt 1080 (by decide +kernel) rfl
theorem k_1081 : ((Jvm.Cond.code ({ cls := "SignMachine$Assembler", name := "close", desc := "(I)V" } : Jvm.MethodName) prog_2_method_8_code (4 : Nat) (Option.none : Option Jvm.ClassFile.FieldType))) ∈ tb := mt 1081 (by decide +kernel) rfl
theorem k_1082 : ((Jvm.Cond.methodLink "SignMachine$Assembler" (155 : Nat) ({ cls := "SignMachine$Output", name := "kindOf", desc := "(I)I" } : Jvm.MethodName))) ∈ tb := mt 1082 (by decide +kernel) rfl
theorem k_1083 : ((Jvm.Cond.instanceMethod ({ cls := "SignMachine$Output", name := "kindOf", desc := "(I)I" } : Jvm.MethodName))) ∈ tb := mt 1083 (by decide +kernel) rfl
theorem k_1084 : ((Jvm.Cond.selects "SignMachine$Output" ({ cls := "SignMachine$Output", name := "kindOf", desc := "(I)I" } : Jvm.MethodName) ({ cls := "SignMachine$Output", name := "kindOf", desc := "(I)I" } : Jvm.MethodName))) ∈ tb := mt 1084 (by decide +kernel) rfl
theorem k_1085 : ((Jvm.Cond.code ({ cls := "SignMachine$Output", name := "kindOf", desc := "(I)I" } : Jvm.MethodName) prog_6_method_9_code (2 : Nat) (Option.some Jvm.ClassFile.FieldType.int))) ∈ tb := mt 1085 (by decide +kernel) rfl
theorem k_1086 : ((Jvm.Cond.methodLink "SignMachine$Assembler" (158 : Nat) ({ cls := "SignMachine$Output", name := "goalOf", desc := "(I)I" } : Jvm.MethodName))) ∈ tb := mt 1086 (by decide +kernel) rfl
theorem k_1087 : ((Jvm.Cond.instanceMethod ({ cls := "SignMachine$Output", name := "goalOf", desc := "(I)I" } : Jvm.MethodName))) ∈ tb := mt 1087 (by decide +kernel) rfl
theorem k_1088 : ((Jvm.Cond.selects "SignMachine$Output" ({ cls := "SignMachine$Output", name := "goalOf", desc := "(I)I" } : Jvm.MethodName) ({ cls := "SignMachine$Output", name := "goalOf", desc := "(I)I" } : Jvm.MethodName))) ∈ tb := mt 1088 (by decide +kernel) rfl
theorem k_1089 : ((Jvm.Cond.code ({ cls := "SignMachine$Output", name := "goalOf", desc := "(I)I" } : Jvm.MethodName) prog_6_method_10_code (2 : Nat) (Option.some Jvm.ClassFile.FieldType.int))) ∈ tb := mt 1089 (by decide +kernel) rfl
theorem k_1090 : ((Jvm.Cond.methodLink "SignMachine$Assembler" (164 : Nat) ({ cls := "SignMachine$Output", name := "lineOf", desc := "(I)I" } : Jvm.MethodName))) ∈ tb := mt 1090 (by decide +kernel) rfl
theorem k_1091 : ((Jvm.Cond.instanceMethod ({ cls := "SignMachine$Output", name := "lineOf", desc := "(I)I" } : Jvm.MethodName))) ∈ tb := mt 1091 (by decide +kernel) rfl
theorem k_1092 : ((Jvm.Cond.selects "SignMachine$Output" ({ cls := "SignMachine$Output", name := "lineOf", desc := "(I)I" } : Jvm.MethodName) ({ cls := "SignMachine$Output", name := "lineOf", desc := "(I)I" } : Jvm.MethodName))) ∈ tb := mt 1092 (by decide +kernel) rfl
theorem k_1093 : ((Jvm.Cond.code ({ cls := "SignMachine$Output", name := "lineOf", desc := "(I)I" } : Jvm.MethodName) prog_6_method_8_code (2 : Nat) (Option.some Jvm.ClassFile.FieldType.int))) ∈ tb := mt 1093 (by decide +kernel) rfl
theorem k_1094 : ((Jvm.Cond.methodLink "SignMachine$Assembler" (172 : Nat) ({ cls := "SignMachine$Output", name := "putAddress", desc := "(II)V" } : Jvm.MethodName))) ∈ tb := mt 1094 (by decide +kernel) rfl
theorem k_1095 : ((Jvm.Cond.instanceMethod ({ cls := "SignMachine$Output", name := "putAddress", desc := "(II)V" } : Jvm.MethodName))) ∈ tb := mt 1095 (by decide +kernel) rfl
theorem k_1096 : ((Jvm.Cond.selects "SignMachine$Output" ({ cls := "SignMachine$Output", name := "putAddress", desc := "(II)V" } : Jvm.MethodName) ({ cls := "SignMachine$Output", name := "putAddress", desc := "(II)V" } : Jvm.MethodName))) ∈ tb := mt 1096 (by decide +kernel) rfl
theorem k_1097 : ((Jvm.Cond.code ({ cls := "SignMachine$Output", name := "putAddress", desc := "(II)V" } : Jvm.MethodName) prog_6_method_11_code (3 : Nat) (Option.none : Option Jvm.ClassFile.FieldType))) ∈ tb := mt 1097 (by decide +kernel) rfl
theorem k_1098 : ((Jvm.Cond.methodLink "SignMachine$Output" (43 : Nat) ({ cls := "SignMachine$Assembler", name := "addressPart", desc := "(I)I" } : Jvm.MethodName))) ∈ tb := mt 1098 (by decide +kernel) rfl
theorem k_1099 : ((Jvm.Cond.methodLink "SignMachine" (143 : Nat) ({ cls := "SignMachine", name := "load", desc := "(LSignMachine$Output;)V" } : Jvm.MethodName))) ∈ tb := mt 1099 (by decide +kernel) rfl
theorem k_1101 : ((Jvm.Cond.instanceMethod ({ cls := "SignMachine", name := "load", desc := "(LSignMachine$Output;)V" } : Jvm.MethodName))) ∈ tb := mt 1101 (by decide +kernel) rfl
theorem k_1102 : ((Jvm.Cond.code ({ cls := "SignMachine", name := "load", desc := "(LSignMachine$Output;)V" } : Jvm.MethodName) prog_1_method_17_code (3 : Nat) (Option.none : Option Jvm.ClassFile.FieldType))) ∈ tb := mt 1102 (by decide +kernel) rfl
theorem k_1103 : ((Jvm.Cond.methodLink "SignMachine" (161 : Nat) ({ cls := "SignMachine$Output", name := "placeOf", desc := "(I)I" } : Jvm.MethodName))) ∈ tb := mt 1103 (by decide +kernel) rfl
theorem k_1104 : ((Jvm.Cond.instanceMethod ({ cls := "SignMachine$Output", name := "placeOf", desc := "(I)I" } : Jvm.MethodName))) ∈ tb := mt 1104 (by decide +kernel) rfl
theorem k_1105 : ((Jvm.Cond.selects "SignMachine$Output" ({ cls := "SignMachine$Output", name := "placeOf", desc := "(I)I" } : Jvm.MethodName) ({ cls := "SignMachine$Output", name := "placeOf", desc := "(I)I" } : Jvm.MethodName))) ∈ tb := mt 1105 (by decide +kernel) rfl
theorem k_1106 : ((Jvm.Cond.code ({ cls := "SignMachine$Output", name := "placeOf", desc := "(I)I" } : Jvm.MethodName) prog_6_method_6_code (2 : Nat) (Option.some Jvm.ClassFile.FieldType.int))) ∈ tb := mt 1106 (by decide +kernel) rfl
theorem k_1107 : ((Jvm.Cond.methodLink "SignMachine" (164 : Nat) ({ cls := "SignMachine$Output", name := "wordOf", desc := "(I)I" } : Jvm.MethodName))) ∈ tb := mt 1107 (by decide +kernel) rfl
theorem k_1108 : ((Jvm.Cond.instanceMethod ({ cls := "SignMachine$Output", name := "wordOf", desc := "(I)I" } : Jvm.MethodName))) ∈ tb := mt 1108 (by decide +kernel) rfl
theorem k_1109 : ((Jvm.Cond.selects "SignMachine$Output" ({ cls := "SignMachine$Output", name := "wordOf", desc := "(I)I" } : Jvm.MethodName) ({ cls := "SignMachine$Output", name := "wordOf", desc := "(I)I" } : Jvm.MethodName))) ∈ tb := mt 1109 (by decide +kernel) rfl
theorem k_1110 : ((Jvm.Cond.code ({ cls := "SignMachine$Output", name := "wordOf", desc := "(I)I" } : Jvm.MethodName) prog_6_method_7_code (2 : Nat) (Option.some Jvm.ClassFile.FieldType.int))) ∈ tb := mt 1110 (by decide +kernel) rfl
theorem k_1111 : ((Jvm.Cond.methodLink "SignMachineLaw" (75 : Nat) ({ cls := "SignMachine", name := "about", desc := "(I)I" } : Jvm.MethodName))) ∈ tb := mt 1111 (by decide +kernel) rfl
theorem k_1112 : ((Jvm.Cond.instanceMethod ({ cls := "SignMachine", name := "about", desc := "(I)I" } : Jvm.MethodName))) ∈ tb := mt 1112 (by decide +kernel) rfl
theorem k_1113 : ((Jvm.Cond.selects "SignMachine" ({ cls := "SignMachine", name := "about", desc := "(I)I" } : Jvm.MethodName) ({ cls := "SignMachine", name := "about", desc := "(I)I" } : Jvm.MethodName))) ∈ tb := mt 1113 (by decide +kernel) rfl
theorem k_1114 : ((Jvm.Cond.code ({ cls := "SignMachine", name := "about", desc := "(I)I" } : Jvm.MethodName) prog_1_method_16_code (3 : Nat) (Option.some Jvm.ClassFile.FieldType.int))) ∈ tb := mt 1114 (by decide +kernel) rfl
theorem k_1711 : ((Jvm.Cond.fieldLink "SignMachine$Op" (176 : Nat) "SignMachine$Op" "pattern" "Ljava/lang/String;")) ∈ tb := mt 1711 (by decide +kernel) rfl
theorem k_1712 : ((Jvm.Cond.fieldLink "java/lang/String" (9 : Nat) "java/lang/String" "value" "[B")) ∈ tb := mt 1712 (by decide +kernel) rfl
theorem k_1713 : ((Jvm.Cond.fieldLink "java/lang/String" (15 : Nat) "java/lang/String" "coder" "B")) ∈ tb := mt 1713 (by decide +kernel) rfl
theorem k_1714 : ((Jvm.Cond.fieldLink "SignMachine$Op" (180 : Nat) "SignMachine$Op" "code" "I")) ∈ tb := mt 1714 (by decide +kernel) rfl
theorem n_144 : ((Jvm.Cond.methodLinkNest "SignMachine" (9 : Nat) ({ cls := "SignMachine$Machine", name := "<init>", desc := "()V" } : Jvm.MethodName) "SignMachine")) ∈ nst := nn 144 (by decide +kernel) rfl
theorem n_150 : ((Jvm.Cond.methodLinkNest "SignMachine$Machine" (20 : Nat) ({ cls := "SignMachine$Tape", name := "<init>", desc := "()V" } : Jvm.MethodName) "SignMachine")) ∈ nst := nn 150 (by decide +kernel) rfl
theorem n_154 : ((Jvm.Cond.fieldLinkNest "SignMachine" (81 : Nat) "SignMachine$Tape" "place" "I" "SignMachine")) ∈ nst := nn 154 (by decide +kernel) rfl
theorem n_155 : ((Jvm.Cond.fieldLinkNest "SignMachine$Machine" (131 : Nat) "SignMachine$Tape" "place" "I" "SignMachine")) ∈ nst := nn 155 (by decide +kernel) rfl
theorem n_167 : ((Jvm.Cond.fieldLinkNest "SignMachine" (67 : Nat) "SignMachine$Machine" "toggle" "Z" "SignMachine")) ∈ nst := nn 167 (by decide +kernel) rfl
theorem n_169 : ((Jvm.Cond.fieldLinkNest "SignMachine" (71 : Nat) "SignMachine$Machine" "indicator" "I" "SignMachine")) ∈ nst := nn 169 (by decide +kernel) rfl
theorem n_171 : ((Jvm.Cond.fieldLinkNest "SignMachine" (74 : Nat) "SignMachine$Machine" "time" "I" "SignMachine")) ∈ nst := nn 171 (by decide +kernel) rfl
theorem n_173 : ((Jvm.Cond.fieldLinkNest "SignMachine" (64 : Nat) "SignMachine$Machine" "next" "I" "SignMachine")) ∈ nst := nn 173 (by decide +kernel) rfl
theorem n_175 : ((Jvm.Cond.fieldLinkNest "SignMachine" (48 : Nat) "SignMachine$Machine" "ending" "I" "SignMachine")) ∈ nst := nn 175 (by decide +kernel) rfl
theorem n_524 : ((Jvm.Cond.methodLinkNest "SignMachine" (170 : Nat) ({ cls := "SignMachine$Assembler", name := "<init>", desc := "()V" } : Jvm.MethodName) "SignMachine")) ∈ nst := nn 524 (by decide +kernel) rfl
theorem n_530 : ((Jvm.Cond.methodLinkNest "SignMachine$Assembler" (11 : Nat) ({ cls := "SignMachine$Source", name := "<init>", desc := "()V" } : Jvm.MethodName) "SignMachine")) ∈ nst := nn 530 (by decide +kernel) rfl
theorem n_536 : ((Jvm.Cond.fieldLinkNest "SignMachine$Assembler" (146 : Nat) "SignMachine$Source" "length" "I" "SignMachine")) ∈ nst := nn 536 (by decide +kernel) rfl
theorem n_537 : ((Jvm.Cond.fieldLinkNest "SignMachine" (115 : Nat) "SignMachine$Source" "length" "I" "SignMachine")) ∈ nst := nn 537 (by decide +kernel) rfl
theorem n_539 : ((Jvm.Cond.fieldLinkNest "SignMachine$Assembler" (179 : Nat) "SignMachine$Source" "line" "I" "SignMachine")) ∈ nst := nn 539 (by decide +kernel) rfl
theorem n_541 : ((Jvm.Cond.fieldLinkNest "SignMachine$Assembler" (182 : Nat) "SignMachine$Source" "at" "I" "SignMachine")) ∈ nst := nn 541 (by decide +kernel) rfl
theorem n_544 : ((Jvm.Cond.fieldLinkNest "SignMachine$Assembler" (188 : Nat) "SignMachine$Source" "kind" "I" "SignMachine")) ∈ nst := nn 544 (by decide +kernel) rfl
theorem n_546 : ((Jvm.Cond.fieldLinkNest "SignMachine$Assembler" (191 : Nat) "SignMachine$Source" "name" "J" "SignMachine")) ∈ nst := nn 546 (by decide +kernel) rfl
theorem n_549 : ((Jvm.Cond.fieldLinkNest "SignMachine$Assembler" (316 : Nat) "SignMachine$Source" "number" "I" "SignMachine")) ∈ nst := nn 549 (by decide +kernel) rfl
theorem n_572 : ((Jvm.Cond.methodLinkNest "SignMachine$Assembler" (20 : Nat) ({ cls := "SignMachine$Names", name := "<init>", desc := "()V" } : Jvm.MethodName) "SignMachine")) ∈ nst := nn 572 (by decide +kernel) rfl
theorem n_582 : ((Jvm.Cond.fieldLinkNest "SignMachine$Assembler" (239 : Nat) "SignMachine$Names" "count" "I" "SignMachine")) ∈ nst := nn 582 (by decide +kernel) rfl
theorem n_603 : ((Jvm.Cond.methodLinkNest "SignMachine$Assembler" (27 : Nat) ({ cls := "SignMachine$Output", name := "<init>", desc := "()V" } : Jvm.MethodName) "SignMachine")) ∈ nst := nn 603 (by decide +kernel) rfl
theorem n_614 : ((Jvm.Cond.fieldLinkNest "SignMachine$Assembler" (149 : Nat) "SignMachine$Output" "count" "I" "SignMachine")) ∈ nst := nn 614 (by decide +kernel) rfl
theorem n_615 : ((Jvm.Cond.fieldLinkNest "SignMachine" (156 : Nat) "SignMachine$Output" "count" "I" "SignMachine")) ∈ nst := nn 615 (by decide +kernel) rfl
theorem n_632 : ((Jvm.Cond.fieldLinkNest "SignMachine" (99 : Nat) "SignMachine$Assembler" "source" "LSignMachine$Source;" "SignMachine")) ∈ nst := nn 632 (by decide +kernel) rfl
theorem n_635 : ((Jvm.Cond.fieldLinkNest "SignMachine" (139 : Nat) "SignMachine$Assembler" "output" "LSignMachine$Output;" "SignMachine")) ∈ nst := nn 635 (by decide +kernel) rfl
theorem n_637 : ((Jvm.Cond.fieldLinkNest "SignMachine" (136 : Nat) "SignMachine$Assembler" "fault" "I" "SignMachine")) ∈ nst := nn 637 (by decide +kernel) rfl
theorem n_639 : ((Jvm.Cond.fieldLinkNest "SignMachine" (150 : Nat) "SignMachine$Assembler" "faultLine" "I" "SignMachine")) ∈ nst := nn 639 (by decide +kernel) rfl
theorem n_641 : ((Jvm.Cond.fieldLinkNest "SignMachine" (153 : Nat) "SignMachine$Assembler" "firstFree" "I" "SignMachine")) ∈ nst := nn 641 (by decide +kernel) rfl
theorem n_642 : ((Jvm.Cond.fieldLinkNest "SignMachine" (147 : Nat) "SignMachine$Assembler" "start" "I" "SignMachine")) ∈ nst := nn 642 (by decide +kernel) rfl
theorem n_1715 : ((Jvm.Cond.fieldLinkNest "SignMachine$Assembler" (106 : Nat) "SignMachine$Op" "code" "I" "SignMachine")) ∈ nst := nn 1715 (by decide +kernel) rfl
theorem n_1716 : ((Jvm.Cond.fieldLinkNest "SignMachine$Assembler" (109 : Nat) "SignMachine$Op" "field" "I" "SignMachine")) ∈ nst := nn 1716 (by decide +kernel) rfl
theorem k_absc : (Cond.code Lib.Math.abs.name Lib.Math.abs.code 1 (some .int)) ∈ tb := mt 332 (by decide +kernel) rfl
theorem k_minc : (Cond.code Lib.Math.min.name Lib.Math.min.code 2 (some .int)) ∈ tb := mt 405 (by decide +kernel) rfl
theorem k_maxc : (Cond.code Lib.Math.max.name Lib.Math.max.code 2 (some .int)) ∈ tb := mt 862 (by decide +kernel) rfl
theorem k_abslc : (Cond.code Lib.MathLoose.abs_long.x Lib.MathLoose.abs_long.code 2 (some .long)) ∈ tb := mt 1016 (by decide +kernel) rfl
