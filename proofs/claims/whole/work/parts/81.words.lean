/-! the words that the walks use, the fields, the selected methods -/
theorem tw_0 : Cond.methodLink "PromiseVats$Turn" 1 objectInit ∈ tb_ := tb_in 46 (by decide +kernel) rfl
theorem tw_1 : Cond.instanceMethod objectInit ∈ tb_ := tb_in 27 (by decide +kernel) rfl
theorem tw_2 : Cond.code objectInit ⟨#[0xb1]⟩ 1 none ∈ tb_ := tb_in 28 (by decide +kernel) rfl
theorem tw_3 : Cond.arrayClass FieldType.int ∈ tb_ := tb_in 83 (by decide +kernel) rfl
theorem tw_4 : Cond.fieldLink "PromiseVats$Program" 15 "PromiseVats$Program" "xs" "[I" ∈ tb_ := tb_in 73 (by decide +kernel) rfl
theorem tw_5 : Cond.fieldLink "PromiseVats$Program" 9 "PromiseVats$Program" "ops" "[I" ∈ tb_ := tb_in 71 (by decide +kernel) rfl
theorem tw_6 : Cond.methodLink "PromiseVats$Program" 3 objectInit ∈ tb_ := tb_in 70 (by decide +kernel) rfl
theorem tw_7 : Cond.fieldLink "PromiseVats$Entity" 25 "PromiseVats$Entity" "home" "I" ∈ tb_ := tb_in 105 (by decide +kernel) rfl
theorem tw_8 : Cond.fieldLink "PromiseVats$Entity" 21 "PromiseVats$Entity" "id" "I" ∈ tb_ := tb_in 99 (by decide +kernel) rfl
theorem tw_9 : Cond.fieldLink "PromiseVats$Entity" 18 "PromiseVats$Entity" "gifts" "[I" ∈ tb_ := tb_in 127 (by decide +kernel) rfl
theorem tw_10 : Cond.fieldLink "PromiseVats$Entity" 15 "PromiseVats$Entity" "imports" "[I" ∈ tb_ := tb_in 121 (by decide +kernel) rfl
theorem tw_11 : Cond.fieldLink "PromiseVats$Entity" 9 "PromiseVats$Entity" "exports" "[I" ∈ tb_ := tb_in 115 (by decide +kernel) rfl
theorem tw_12 : Cond.methodLink "PromiseVats$Entity" 3 objectInit ∈ tb_ := tb_in 92 (by decide +kernel) rfl
theorem tw_13 : Cond.classLink "PromiseVats$VatObject" 4 "PromiseVats$Entity" ∈ tb_ := tb_in 93 (by decide +kernel) rfl
theorem tw_14 : Cond.fieldLink "PromiseVats$VatObject" 15 "PromiseVats$VatObject" "program" "I" ∈ tb_ := tb_in 94 (by decide +kernel) rfl
theorem tw_15 : Cond.fieldLink "PromiseVats$VatObject" 9 "PromiseVats$VatObject" "slots" "[LPromiseVats$Entity;" ∈ tb_ := tb_in 97 (by decide +kernel) rfl
theorem tw_16 : Cond.initialized "PromiseVats$Entity" ∈ tb_ := tb_in 5 (by decide +kernel) rfl
theorem tw_17 : Cond.code ⟨"PromiseVats$Entity", "<init>", "(II)V"⟩ prog_4_method_1_code 3 (Option.none : Option FieldType) ∈ tb_ := tb_in 91 (by decide +kernel) rfl
theorem tw_18 : Cond.methodLink "PromiseVats$VatObject" 3 ⟨"PromiseVats$Entity", "<init>", "(II)V"⟩ ∈ tb_ := tb_in 89 (by decide +kernel) rfl
theorem tw_19 : Cond.instanceMethod ⟨"PromiseVats$Entity", "<init>", "(II)V"⟩ ∈ tb_ := tb_in 90 (by decide +kernel) rfl
theorem tw_20 : Cond.methodLink "java/util/AbstractCollection" 1 objectInit ∈ tb_ := tb_in 166 (by decide +kernel) rfl
theorem tw_21 : Cond.fieldLink "java/util/AbstractList" 7 "java/util/AbstractList" "modCount" "I" ∈ tb_ := tb_in 171 (by decide +kernel) rfl
theorem tw_22 : Cond.initialized "java/util/AbstractCollection" ∈ tb_ := tb_in 8 (by decide +kernel) rfl
theorem tw_23 : Cond.code ⟨"java/util/AbstractCollection", "<init>", "()V"⟩ prog_18_method_1_code 1 (Option.none : Option FieldType) ∈ tb_ := tb_in 165 (by decide +kernel) rfl
theorem tw_24 : Cond.methodLink "java/util/AbstractList" 1 ⟨"java/util/AbstractCollection", "<init>", "()V"⟩ ∈ tb_ := tb_in 163 (by decide +kernel) rfl
theorem tw_25 : Cond.instanceMethod ⟨"java/util/AbstractCollection", "<init>", "()V"⟩ ∈ tb_ := tb_in 164 (by decide +kernel) rfl
theorem tw_26 : Cond.fieldLink "java/util/ArrayList" 9 "java/util/ArrayList" "elementData" "[Ljava/lang/Object;" ∈ tb_ := tb_in 169 (by decide +kernel) rfl
theorem tw_27 : Cond.fieldLink "java/util/ArrayList" 39 "java/util/ArrayList" "DEFAULTCAPACITY_EMPTY_ELEMENTDATA" "[Ljava/lang/Object;" ∈ tb_ := tb_in 167 (by decide +kernel) rfl
theorem tw_28 : Cond.initialized "java/util/AbstractList" ∈ tb_ := tb_in 9 (by decide +kernel) rfl
theorem tw_29 : Cond.code ⟨"java/util/AbstractList", "<init>", "()V"⟩ prog_19_method_1_code 1 (Option.none : Option FieldType) ∈ tb_ := tb_in 162 (by decide +kernel) rfl
theorem tw_30 : Cond.methodLink "java/util/ArrayList" 1 ⟨"java/util/AbstractList", "<init>", "()V"⟩ ∈ tb_ := tb_in 160 (by decide +kernel) rfl
theorem tw_31 : Cond.instanceMethod ⟨"java/util/AbstractList", "<init>", "()V"⟩ ∈ tb_ := tb_in 161 (by decide +kernel) rfl
theorem tw_32 : Cond.fieldLink "PromiseVats$Channel" 10 "PromiseVats$Channel" "messages" "Ljava/util/ArrayList;" ∈ tb_ := tb_in 190 (by decide +kernel) rfl
theorem tw_33 : Cond.initialized "java/util/ArrayList" ∈ tb_ := tb_in 10 (by decide +kernel) rfl
theorem tw_34 : Cond.code ⟨"java/util/ArrayList", "<init>", "()V"⟩ prog_20_method_2_code 1 (Option.none : Option FieldType) ∈ tb_ := tb_in 159 (by decide +kernel) rfl
theorem tw_35 : Cond.methodLink "PromiseVats$Channel" 9 ⟨"java/util/ArrayList", "<init>", "()V"⟩ ∈ tb_ := tb_in 189 (by decide +kernel) rfl
theorem tw_36 : Cond.instanceMethod ⟨"java/util/ArrayList", "<init>", "()V"⟩ ∈ tb_ := tb_in 158 (by decide +kernel) rfl
theorem tw_37 : Cond.classLink "PromiseVats$Channel" 7 "java/util/ArrayList" ∈ tb_ := tb_in 188 (by decide +kernel) rfl
theorem tw_38 : Cond.instantiable "java/util/ArrayList" 3 ∈ tb_ := tb_in 156 (by decide +kernel) rfl
theorem tw_39 : Cond.methodLink "PromiseVats$Channel" 1 objectInit ∈ tb_ := tb_in 187 (by decide +kernel) rfl
theorem tw_40 : Cond.classLink "PromiseVats$Vat" 26 "PromiseVats$Channel" ∈ tb_ := tb_in 181 (by decide +kernel) rfl
theorem tw_41 : Cond.fieldLink "PromiseVats$Vat" 28 "PromiseVats$Vat" "channels" "[LPromiseVats$Channel;" ∈ tb_ := tb_in 199 (by decide +kernel) rfl
theorem tw_42 : Cond.fieldLink "PromiseVats$Vat" 22 "PromiseVats$Vat" "root" "LPromiseVats$VatObject;" ∈ tb_ := tb_in 195 (by decide +kernel) rfl
theorem tw_43 : Cond.fieldLink "PromiseVats$Vat" 18 "PromiseVats$Vat" "latest" "[I" ∈ tb_ := tb_in 201 (by decide +kernel) rfl
theorem tw_44 : Cond.fieldLink "PromiseVats$Vat" 12 "PromiseVats$Vat" "calls" "Ljava/util/ArrayList;" ∈ tb_ := tb_in 197 (by decide +kernel) rfl
theorem tw_45 : Cond.methodLink "PromiseVats$Vat" 11 ⟨"java/util/ArrayList", "<init>", "()V"⟩ ∈ tb_ := tb_in 157 (by decide +kernel) rfl
theorem tw_46 : Cond.classLink "PromiseVats$Vat" 9 "java/util/ArrayList" ∈ tb_ := tb_in 155 (by decide +kernel) rfl
theorem tw_47 : Cond.methodLink "PromiseVats$Vat" 3 objectInit ∈ tb_ := tb_in 154 (by decide +kernel) rfl
theorem tw_48 : Cond.initialized "PromiseVats$Channel" ∈ tb_ := tb_in 11 (by decide +kernel) rfl
theorem tw_49 : Cond.code ⟨"PromiseVats$Channel", "<init>", "()V"⟩ prog_3_method_1_code 1 (Option.none : Option FieldType) ∈ tb_ := tb_in 186 (by decide +kernel) rfl
theorem tw_50 : Cond.instanceMethod ⟨"PromiseVats$Channel", "<init>", "()V"⟩ ∈ tb_ := tb_in 185 (by decide +kernel) rfl
theorem tw_51 : Cond.instantiable "PromiseVats$Channel" 1 ∈ tb_ := tb_in 183 (by decide +kernel) rfl
theorem tw_52 : Cond.classLink "PromiseVats" 18 "PromiseVats$Vat" ∈ tb_ := tb_in 35 (by decide +kernel) rfl
theorem tw_53 : Cond.classLink "PromiseVats" 24 "PromiseVats$Program" ∈ tb_ := tb_in 37 (by decide +kernel) rfl
theorem tw_54 : Cond.classLink "PromiseVats" 30 "PromiseVats$Entity" ∈ tb_ := tb_in 39 (by decide +kernel) rfl
theorem tw_55 : Cond.classLink "PromiseVats" 43 "PromiseVats$Promise" ∈ tb_ := tb_in 64 (by decide +kernel) rfl
theorem tw_56 : Cond.fieldLink "PromiseVats" 49 "PromiseVats" "found" "[LPromiseVats$Entity;" ∈ tb_ := tb_in 224 (by decide +kernel) rfl
theorem tw_57 : Cond.fieldLink "PromiseVats" 45 "PromiseVats" "lost" "[LPromiseVats$Promise;" ∈ tb_ := tb_in 222 (by decide +kernel) rfl
theorem tw_58 : Cond.fieldLink "PromiseVats" 39 "PromiseVats" "running" "LPromiseVats$Turn;" ∈ tb_ := tb_in 221 (by decide +kernel) rfl
theorem tw_59 : Cond.initialized "PromiseVats$Turn" ∈ tb_ := tb_in 3 (by decide +kernel) rfl
theorem tw_60 : Cond.code ⟨"PromiseVats$Turn", "<init>", "()V"⟩ prog_8_method_1_code 1 (Option.none : Option FieldType) ∈ tb_ := tb_in 45 (by decide +kernel) rfl
theorem tw_61 : Cond.instanceMethod ⟨"PromiseVats$Turn", "<init>", "()V"⟩ ∈ tb_ := tb_in 44 (by decide +kernel) rfl
theorem tw_62 : Cond.classLink "PromiseVats" 36 "PromiseVats$Turn" ∈ tb_ := tb_in 41 (by decide +kernel) rfl
theorem tw_63 : Cond.instantiable "PromiseVats$Turn" 4 ∈ tb_ := tb_in 42 (by decide +kernel) rfl
theorem tw_64 : Cond.fieldLink "PromiseVats" 32 "PromiseVats" "entities" "[LPromiseVats$Entity;" ∈ tb_ := tb_in 218 (by decide +kernel) rfl
theorem tw_65 : Cond.fieldLink "PromiseVats" 26 "PromiseVats" "programs" "[LPromiseVats$Program;" ∈ tb_ := tb_in 217 (by decide +kernel) rfl
theorem tw_66 : Cond.fieldLink "PromiseVats" 20 "PromiseVats" "vats" "[LPromiseVats$Vat;" ∈ tb_ := tb_in 216 (by decide +kernel) rfl
theorem tw_67 : Cond.initialized "java/lang/Math" ∈ tb_ := tb_in 2 (by decide +kernel) rfl
theorem tw_68 : Cond.code ⟨"java/lang/Math", "max", "(II)I"⟩ prog_16_method_65_code 2 (Option.some FieldType.int) ∈ tb_ := tb_in 34 (by decide +kernel) rfl
theorem tw_69 : Cond.methodLink "PromiseVats" 15 ⟨"java/lang/Math", "max", "(II)I"⟩ ∈ tb_ := tb_in 32 (by decide +kernel) rfl
theorem tw_70 : Cond.static ⟨"java/lang/Math", "max", "(II)I"⟩ ∈ tb_ := tb_in 33 (by decide +kernel) rfl
theorem tw_71 : Cond.code ⟨"java/lang/Math", "min", "(II)I"⟩ prog_16_method_69_code 2 (Option.some FieldType.int) ∈ tb_ := tb_in 31 (by decide +kernel) rfl
theorem tw_72 : Cond.methodLink "PromiseVats" 9 ⟨"java/lang/Math", "min", "(II)I"⟩ ∈ tb_ := tb_in 29 (by decide +kernel) rfl
theorem tw_73 : Cond.static ⟨"java/lang/Math", "min", "(II)I"⟩ ∈ tb_ := tb_in 30 (by decide +kernel) rfl
theorem tw_74 : Cond.methodLink "PromiseVats" 1 objectInit ∈ tb_ := tb_in 26 (by decide +kernel) rfl
theorem tw_75 : Cond.initialized "PromiseVats$Program" ∈ tb_ := tb_in 4 (by decide +kernel) rfl
theorem tw_76 : Cond.code ⟨"PromiseVats$Program", "<init>", "()V"⟩ prog_6_method_1_code 1 (Option.none : Option FieldType) ∈ tb_ := tb_in 69 (by decide +kernel) rfl
theorem tw_77 : Cond.instanceMethod ⟨"PromiseVats$Program", "<init>", "()V"⟩ ∈ tb_ := tb_in 68 (by decide +kernel) rfl
theorem tw_78 : Cond.instantiable "PromiseVats$Program" 3 ∈ tb_ := tb_in 66 (by decide +kernel) rfl
theorem tw_79 : Cond.fieldLink "PromiseVats" 61 "PromiseVats" "objectsMade" "I" ∈ tb_ := tb_in 219 (by decide +kernel) rfl
theorem tw_80 : Cond.initialized "PromiseVats$Vat" ∈ tb_ := tb_in 7 (by decide +kernel) rfl
theorem tw_81 : Cond.code ⟨"PromiseVats$Vat", "<init>", "(LPromiseVats$VatObject;I)V"⟩ prog_9_method_1_code 4 (Option.none : Option FieldType) ∈ tb_ := tb_in 153 (by decide +kernel) rfl
theorem tw_82 : Cond.methodLink "PromiseVats" 58 ⟨"PromiseVats$Vat", "<init>", "(LPromiseVats$VatObject;I)V"⟩ ∈ tb_ := tb_in 151 (by decide +kernel) rfl
theorem tw_83 : Cond.instanceMethod ⟨"PromiseVats$Vat", "<init>", "(LPromiseVats$VatObject;I)V"⟩ ∈ tb_ := tb_in 152 (by decide +kernel) rfl
theorem tw_84 : Cond.instantiable "PromiseVats$Vat" 5 ∈ tb_ := tb_in 150 (by decide +kernel) rfl
theorem tw_85 : Cond.initialized "PromiseVats$VatObject" ∈ tb_ := tb_in 6 (by decide +kernel) rfl
theorem tw_86 : Cond.code ⟨"PromiseVats$VatObject", "<init>", "(III)V"⟩ prog_10_method_1_code 4 (Option.none : Option FieldType) ∈ tb_ := tb_in 88 (by decide +kernel) rfl
theorem tw_87 : Cond.methodLink "PromiseVats" 55 ⟨"PromiseVats$VatObject", "<init>", "(III)V"⟩ ∈ tb_ := tb_in 86 (by decide +kernel) rfl
theorem tw_88 : Cond.instanceMethod ⟨"PromiseVats$VatObject", "<init>", "(III)V"⟩ ∈ tb_ := tb_in 87 (by decide +kernel) rfl
theorem tw_89 : Cond.classLink "PromiseVats" 53 "PromiseVats$VatObject" ∈ tb_ := tb_in 84 (by decide +kernel) rfl
theorem tw_90 : Cond.instantiable "PromiseVats$VatObject" 10 ∈ tb_ := tb_in 85 (by decide +kernel) rfl
theorem tw_91 : Cond.initialized "PromiseVats" ∈ tb_ := tb_in 1 (by decide +kernel) rfl
theorem tw_92 : Cond.code ⟨"PromiseVats", "isProgram", "(I)Z"⟩ prog_1_method_20_code 1 (Option.some FieldType.boolean) ∈ tb_ := tb_in 253 (by decide +kernel) rfl
theorem tw_93 : Cond.methodLink "PromiseVats" 65 ⟨"PromiseVats", "isProgram", "(I)Z"⟩ ∈ tb_ := tb_in 251 (by decide +kernel) rfl
theorem tw_94 : Cond.static ⟨"PromiseVats", "isProgram", "(I)Z"⟩ ∈ tb_ := tb_in 252 (by decide +kernel) rfl
theorem tw_95 : Cond.code ⟨"PromiseVats", "isSlot", "(I)Z"⟩ prog_1_method_21_code 1 (Option.some FieldType.boolean) ∈ tb_ := tb_in 259 (by decide +kernel) rfl
theorem tw_96 : Cond.methodLink "PromiseVats" 86 ⟨"PromiseVats", "isSlot", "(I)Z"⟩ ∈ tb_ := tb_in 257 (by decide +kernel) rfl
theorem tw_97 : Cond.static ⟨"PromiseVats", "isSlot", "(I)Z"⟩ ∈ tb_ := tb_in 258 (by decide +kernel) rfl
theorem tw_98 : Cond.fieldLink "PromiseVats" 73 "PromiseVats$Program" "length" "I" ∈ tb_ := tb_in 75 (by decide +kernel) rfl
theorem tw_99 : Cond.fieldLink "PromiseVats" 80 "PromiseVats$Program" "xs" "[I" ∈ tb_ := tb_in 74 (by decide +kernel) rfl
theorem tw_100 : Cond.fieldLink "PromiseVats" 76 "PromiseVats$Program" "ops" "[I" ∈ tb_ := tb_in 72 (by decide +kernel) rfl
theorem tw_101 : Cond.code ⟨"PromiseVats", "isInstruction", "(II)Z"⟩ prog_1_method_22_code 2 (Option.some FieldType.boolean) ∈ tb_ := tb_in 256 (by decide +kernel) rfl
theorem tw_102 : Cond.methodLink "PromiseVats" 69 ⟨"PromiseVats", "isInstruction", "(II)Z"⟩ ∈ tb_ := tb_in 254 (by decide +kernel) rfl
theorem tw_103 : Cond.static ⟨"PromiseVats", "isInstruction", "(II)Z"⟩ ∈ tb_ := tb_in 255 (by decide +kernel) rfl
theorem tw_104 : Cond.sameField "PromiseVats$VatObject" "PromiseVats$Entity" "imports" "[I" ∈ tb_ := tb_in 123 (by decide +kernel) rfl
theorem tw_105 : Cond.fieldLink "PromiseVats" 99 "PromiseVats$VatObject" "imports" "[I" ∈ tb_ := tb_in 122 (by decide +kernel) rfl
theorem tw_106 : Cond.sameField "PromiseVats$VatObject" "PromiseVats$Entity" "exports" "[I" ∈ tb_ := tb_in 117 (by decide +kernel) rfl
theorem tw_107 : Cond.fieldLink "PromiseVats" 96 "PromiseVats$VatObject" "exports" "[I" ∈ tb_ := tb_in 116 (by decide +kernel) rfl
theorem tw_108 : Cond.fieldLink "PromiseVats" 93 "PromiseVats$VatObject" "slots" "[LPromiseVats$Entity;" ∈ tb_ := tb_in 98 (by decide +kernel) rfl
theorem tw_109 : Cond.fieldLink "PromiseVats" 89 "PromiseVats$Vat" "root" "LPromiseVats$VatObject;" ∈ tb_ := tb_in 196 (by decide +kernel) rfl
theorem tw_110 : Cond.code ⟨"PromiseVats", "isVat", "(I)Z"⟩ prog_1_method_19_code 2 (Option.some FieldType.boolean) ∈ tb_ := tb_in 271 (by decide +kernel) rfl
theorem tw_111 : Cond.methodLink "PromiseVats" 83 ⟨"PromiseVats", "isVat", "(I)Z"⟩ ∈ tb_ := tb_in 268 (by decide +kernel) rfl
theorem tw_112 : Cond.instanceMethod ⟨"PromiseVats", "isVat", "(I)Z"⟩ ∈ tb_ := tb_in 270 (by decide +kernel) rfl
theorem tw_113 : Cond.selects "PromiseVats" ⟨"PromiseVats", "isVat", "(I)Z"⟩ ⟨"PromiseVats", "isVat", "(I)Z"⟩ ∈ tb_ := tb_se 0 (by decide +kernel) rfl
theorem tw_114 : Cond.fieldLink "java/util/ArrayList" 48 "java/util/ArrayList" "size" "I" ∈ tb_ := tb_in 170 (by decide +kernel) rfl
theorem tw_115 : Cond.fieldLink "PromiseVats$Call" 20 "PromiseVats$Call" "answe\x72" "LPromiseVats$Promise;" ∈ tb_ := tb_in 293 (by decide +kernel) rfl
theorem tw_116 : Cond.fieldLink "PromiseVats$Call" 17 "PromiseVats$Call" "argument" "LPromiseVats$Entity;" ∈ tb_ := tb_in 290 (by decide +kernel) rfl
theorem tw_117 : Cond.fieldLink "PromiseVats$Call" 13 "PromiseVats$Call" "value" "I" ∈ tb_ := tb_in 288 (by decide +kernel) rfl
theorem tw_118 : Cond.fieldLink "PromiseVats$Call" 7 "PromiseVats$Call" "target" "LPromiseVats$Entity;" ∈ tb_ := tb_in 286 (by decide +kernel) rfl
theorem tw_119 : Cond.methodLink "PromiseVats$Call" 1 objectInit ∈ tb_ := tb_in 285 (by decide +kernel) rfl
theorem tw_120 : Cond.fieldLink "PromiseVats" 288 "PromiseVats" "lostCount" "I" ∈ tb_ := tb_in 223 (by decide +kernel) rfl
theorem tw_121 : Cond.fieldLink "PromiseVats" 151 "PromiseVats$Call" "answe\x72" "LPromiseVats$Promise;" ∈ tb_ := tb_in 294 (by decide +kernel) rfl
theorem tw_122 : Cond.constant "jdk/internal/util/ArraysSupport" 200 (2147483639 : Int32) ∈ tb_ := tb_in 336 (by decide +kernel) rfl
theorem tw_123 : Cond.methodLink "jdk/internal/util/ArraysSupport" 194 ⟨"java/lang/Math", "max", "(II)I"⟩ ∈ tb_ := tb_in 335 (by decide +kernel) rfl
theorem tw_124 : Cond.initialized "jdk/internal/util/ArraysSupport" ∈ tb_ := tb_in 14 (by decide +kernel) rfl
theorem tw_125 : Cond.code ⟨"jdk/internal/util/ArraysSupport", "hugeLength", "(II)I"⟩ prog_27_method_28_code 3 (Option.some FieldType.int) ∈ tb_ := tb_in 339 (by decide +kernel) rfl
theorem tw_126 : Cond.methodLink "jdk/internal/util/ArraysSupport" 201 ⟨"jdk/internal/util/ArraysSupport", "hugeLength", "(II)I"⟩ ∈ tb_ := tb_in 337 (by decide +kernel) rfl
theorem tw_127 : Cond.static ⟨"jdk/internal/util/ArraysSupport", "hugeLength", "(II)I"⟩ ∈ tb_ := tb_in 338 (by decide +kernel) rfl
theorem tw_128 : Cond.classLink "java/util/Arrays" 110 "[Ljava/lang/Object;" ∈ tb_ := tb_in 361 (by decide +kernel) rfl
theorem tw_129 : Cond.classLink "java/util/Arrays" 2 "java/lang/Object" ∈ tb_ := tb_in 363 (by decide +kernel) rfl
theorem tw_130 : Cond.methodLink "java/util/Arrays" 150 ⟨"java/lang/System", "arraycopy", "(Ljava/lang/Object;ILjava/lang/Object;II)V"⟩ ∈ tb_ := tb_in 365 (by decide +kernel) rfl
theorem tw_131 : Cond.native ⟨"java/lang/System", "arraycopy", "(Ljava/lang/Object;ILjava/lang/Object;II)V"⟩ ∈ tb_ := tb_in 367 (by decide +kernel) rfl
theorem tw_132 : Cond.static ⟨"java/lang/System", "arraycopy", "(Ljava/lang/Object;ILjava/lang/Object;II)V"⟩ ∈ tb_ := tb_in 366 (by decide +kernel) rfl
theorem tw_133 : Cond.initialized "java/lang/System" ∈ tb_ := tb_in 16 (by decide +kernel) rfl
theorem tw_134 : Cond.methodLink "java/util/Arrays" 304 ⟨"java/lang/Math", "min", "(II)I"⟩ ∈ tb_ := tb_in 364 (by decide +kernel) rfl
theorem tw_135 : Cond.initialized "java/util/Arrays" ∈ tb_ := tb_in 15 (by decide +kernel) rfl
theorem tw_136 : Cond.code ⟨"java/util/Arrays", "copyOf", "([Ljava/lang/Object;ILjava/lang/Class;)[Ljava/lang/Object;"⟩ prog_21_method_120_code 4 (Option.some (FieldType.array (FieldType.object "java/lang/Object"))) ∈ tb_ := tb_in 360 (by decide +kernel) rfl
theorem tw_137 : Cond.methodLink "java/util/Arrays" 300 ⟨"java/util/Arrays", "copyOf", "([Ljava/lang/Object;ILjava/lang/Class;)[Ljava/lang/Object;"⟩ ∈ tb_ := tb_in 358 (by decide +kernel) rfl
theorem tw_138 : Cond.static ⟨"java/util/Arrays", "copyOf", "([Ljava/lang/Object;ILjava/lang/Class;)[Ljava/lang/Object;"⟩ ∈ tb_ := tb_in 359 (by decide +kernel) rfl
theorem tw_139 : Cond.methodLink "java/util/Arrays" 86 ⟨"java/lang/Object", "getClass", "()Ljava/lang/Class;"⟩ ∈ tb_ := tb_in 343 (by decide +kernel) rfl
theorem tw_140 : Cond.selects "[Ljava/lang/Object;" ⟨"java/lang/Object", "getClass", "()Ljava/lang/Class;"⟩ ⟨"java/lang/Object", "getClass", "()Ljava/lang/Class;"⟩ ∈ tb_ := tb_in 934 (by decide +kernel) rfl
theorem tw_141 : Cond.instanceMethod ⟨"java/lang/Object", "getClass", "()Ljava/lang/Class;"⟩ ∈ tb_ := tb_in 344 (by decide +kernel) rfl
theorem tw_142 : Cond.native ⟨"java/lang/Object", "getClass", "()Ljava/lang/Class;"⟩ ∈ tb_ := tb_in 357 (by decide +kernel) rfl
theorem tw_143 : Cond.classLink "java/util/ArrayList" 7 "java/lang/Object" ∈ tb_ := tb_in 369 (by decide +kernel) rfl
theorem tw_144 : Cond.methodLink "java/util/ArrayList" 79 ⟨"java/lang/Math", "max", "(II)I"⟩ ∈ tb_ := tb_in 368 (by decide +kernel) rfl
theorem tw_145 : Cond.code ⟨"java/util/Arrays", "copyOf", "([Ljava/lang/Object;I)[Ljava/lang/Object;"⟩ prog_21_method_119_code 2 (Option.some (FieldType.array (FieldType.object "java/lang/Object"))) ∈ tb_ := tb_in 342 (by decide +kernel) rfl
theorem tw_146 : Cond.methodLink "java/util/ArrayList" 66 ⟨"java/util/Arrays", "copyOf", "([Ljava/lang/Object;I)[Ljava/lang/Object;"⟩ ∈ tb_ := tb_in 340 (by decide +kernel) rfl
theorem tw_147 : Cond.static ⟨"java/util/Arrays", "copyOf", "([Ljava/lang/Object;I)[Ljava/lang/Object;"⟩ ∈ tb_ := tb_in 341 (by decide +kernel) rfl
theorem tw_148 : Cond.code ⟨"jdk/internal/util/ArraysSupport", "newLength", "(III)I"⟩ prog_27_method_27_code 4 (Option.some FieldType.int) ∈ tb_ := tb_in 334 (by decide +kernel) rfl
theorem tw_149 : Cond.methodLink "java/util/ArrayList" 73 ⟨"jdk/internal/util/ArraysSupport", "newLength", "(III)I"⟩ ∈ tb_ := tb_in 332 (by decide +kernel) rfl
theorem tw_150 : Cond.static ⟨"jdk/internal/util/ArraysSupport", "newLength", "(III)I"⟩ ∈ tb_ := tb_in 333 (by decide +kernel) rfl
theorem tw_151 : Cond.code ⟨"java/util/ArrayList", "grow", "(I)[Ljava/lang/Object;"⟩ prog_20_method_6_code 4 (Option.some (FieldType.array (FieldType.object "java/lang/Object"))) ∈ tb_ := tb_in 331 (by decide +kernel) rfl
theorem tw_152 : Cond.methodLink "java/util/ArrayList" 69 ⟨"java/util/ArrayList", "grow", "(I)[Ljava/lang/Object;"⟩ ∈ tb_ := tb_in 328 (by decide +kernel) rfl
theorem tw_153 : Cond.instanceMethod ⟨"java/util/ArrayList", "grow", "(I)[Ljava/lang/Object;"⟩ ∈ tb_ := tb_in 330 (by decide +kernel) rfl
theorem tw_154 : Cond.selects "java/util/ArrayList" ⟨"java/util/ArrayList", "grow", "(I)[Ljava/lang/Object;"⟩ ⟨"java/util/ArrayList", "grow", "(I)[Ljava/lang/Object;"⟩ ∈ tb_ := tb_se 6 (by decide +kernel) rfl
theorem tw_155 : Cond.code ⟨"java/util/ArrayList", "grow", "()[Ljava/lang/Object;"⟩ prog_20_method_7_code 1 (Option.some (FieldType.array (FieldType.object "java/lang/Object"))) ∈ tb_ := tb_in 327 (by decide +kernel) rfl
theorem tw_156 : Cond.methodLink "java/util/ArrayList" 129 ⟨"java/util/ArrayList", "grow", "()[Ljava/lang/Object;"⟩ ∈ tb_ := tb_in 324 (by decide +kernel) rfl
theorem tw_157 : Cond.instanceMethod ⟨"java/util/ArrayList", "grow", "()[Ljava/lang/Object;"⟩ ∈ tb_ := tb_in 326 (by decide +kernel) rfl
theorem tw_158 : Cond.selects "java/util/ArrayList" ⟨"java/util/ArrayList", "grow", "()[Ljava/lang/Object;"⟩ ⟨"java/util/ArrayList", "grow", "()[Ljava/lang/Object;"⟩ ∈ tb_ := tb_se 5 (by decide +kernel) rfl
theorem tw_159 : Cond.code ⟨"java/util/ArrayList", "add", "(Ljava/lang/Object;[Ljava/lang/Object;I)V"⟩ prog_20_method_24_code 4 (Option.none : Option FieldType) ∈ tb_ := tb_in 323 (by decide +kernel) rfl
theorem tw_160 : Cond.methodLink "java/util/ArrayList" 131 ⟨"java/util/ArrayList", "add", "(Ljava/lang/Object;[Ljava/lang/Object;I)V"⟩ ∈ tb_ := tb_in 320 (by decide +kernel) rfl
theorem tw_161 : Cond.instanceMethod ⟨"java/util/ArrayList", "add", "(Ljava/lang/Object;[Ljava/lang/Object;I)V"⟩ ∈ tb_ := tb_in 322 (by decide +kernel) rfl
theorem tw_162 : Cond.selects "java/util/ArrayList" ⟨"java/util/ArrayList", "add", "(Ljava/lang/Object;[Ljava/lang/Object;I)V"⟩ ⟨"java/util/ArrayList", "add", "(Ljava/lang/Object;[Ljava/lang/Object;I)V"⟩ ∈ tb_ := tb_se 4 (by decide +kernel) rfl
theorem tw_163 : Cond.sameField "java/util/ArrayList" "java/util/AbstractList" "modCount" "I" ∈ tb_ := tb_in 173 (by decide +kernel) rfl
theorem tw_164 : Cond.fieldLink "java/util/ArrayList" 63 "java/util/ArrayList" "modCount" "I" ∈ tb_ := tb_in 172 (by decide +kernel) rfl
theorem tw_165 : Cond.code ⟨"java/util/ArrayList", "add", "(Ljava/lang/Object;)Z"⟩ prog_20_method_25_code 2 (Option.some FieldType.boolean) ∈ tb_ := tb_in 319 (by decide +kernel) rfl
theorem tw_166 : Cond.methodLink "PromiseVats" 281 ⟨"java/util/ArrayList", "add", "(Ljava/lang/Object;)Z"⟩ ∈ tb_ := tb_in 316 (by decide +kernel) rfl
theorem tw_167 : Cond.instanceMethod ⟨"java/util/ArrayList", "add", "(Ljava/lang/Object;)Z"⟩ ∈ tb_ := tb_in 317 (by decide +kernel) rfl
theorem tw_168 : Cond.selects "java/util/ArrayList" ⟨"java/util/ArrayList", "add", "(Ljava/lang/Object;)Z"⟩ ⟨"java/util/ArrayList", "add", "(Ljava/lang/Object;)Z"⟩ ∈ tb_ := tb_in 318 (by decide +kernel) rfl
theorem tw_169 : Cond.fieldLink "PromiseVats" 285 "PromiseVats$Promise" "waiting" "Ljava/util/ArrayList;" ∈ tb_ := tb_in 458 (by decide +kernel) rfl
theorem tw_170 : Cond.code ⟨"PromiseVats", "lose", "(LPromiseVats$Call;)V"⟩ prog_1_method_31_code 2 (Option.none : Option FieldType) ∈ tb_ := tb_in 315 (by decide +kernel) rfl
theorem tw_171 : Cond.methodLink "PromiseVats" 277 ⟨"PromiseVats", "lose", "(LPromiseVats$Call;)V"⟩ ∈ tb_ := tb_in 312 (by decide +kernel) rfl
theorem tw_172 : Cond.instanceMethod ⟨"PromiseVats", "lose", "(LPromiseVats$Call;)V"⟩ ∈ tb_ := tb_in 314 (by decide +kernel) rfl
theorem tw_173 : Cond.selects "PromiseVats" ⟨"PromiseVats", "lose", "(LPromiseVats$Call;)V"⟩ ⟨"PromiseVats", "lose", "(LPromiseVats$Call;)V"⟩ ∈ tb_ := tb_se 3 (by decide +kernel) rfl
theorem tw_174 : Cond.code ⟨"java/util/ArrayList", "size", "()I"⟩ prog_20_method_8_code 1 (Option.some FieldType.int) ∈ tb_ := tb_in 279 (by decide +kernel) rfl
theorem tw_175 : Cond.methodLink "PromiseVats" 106 ⟨"java/util/ArrayList", "size", "()I"⟩ ∈ tb_ := tb_in 276 (by decide +kernel) rfl
theorem tw_176 : Cond.instanceMethod ⟨"java/util/ArrayList", "size", "()I"⟩ ∈ tb_ := tb_in 277 (by decide +kernel) rfl
theorem tw_177 : Cond.selects "java/util/ArrayList" ⟨"java/util/ArrayList", "size", "()I"⟩ ⟨"java/util/ArrayList", "size", "()I"⟩ ∈ tb_ := tb_in 278 (by decide +kernel) rfl
theorem tw_178 : Cond.fieldLink "PromiseVats$Message" 20 "PromiseVats$Message" "amount" "I" ∈ tb_ := tb_in 390 (by decide +kernel) rfl
theorem tw_179 : Cond.fieldLink "PromiseVats$Message" 17 "PromiseVats$Message" "argument" "LPromiseVats$Entity;" ∈ tb_ := tb_in 388 (by decide +kernel) rfl
theorem tw_180 : Cond.fieldLink "PromiseVats$Message" 13 "PromiseVats$Message" "subject" "LPromiseVats$Entity;" ∈ tb_ := tb_in 386 (by decide +kernel) rfl
theorem tw_181 : Cond.fieldLink "PromiseVats$Message" 7 "PromiseVats$Message" "kind" "I" ∈ tb_ := tb_in 384 (by decide +kernel) rfl
theorem tw_182 : Cond.methodLink "PromiseVats$Message" 1 objectInit ∈ tb_ := tb_in 383 (by decide +kernel) rfl
theorem tw_183 : Cond.fieldLink "PromiseVats" 172 "PromiseVats$Channel" "messages" "Ljava/util/ArrayList;" ∈ tb_ := tb_in 191 (by decide +kernel) rfl
theorem tw_184 : Cond.fieldLink "PromiseVats" 168 "PromiseVats$Vat" "channels" "[LPromiseVats$Channel;" ∈ tb_ := tb_in 200 (by decide +kernel) rfl
theorem tw_185 : Cond.fieldLink "PromiseVats" 218 "PromiseVats$Entity" "exports" "[I" ∈ tb_ := tb_in 118 (by decide +kernel) rfl
theorem tw_186 : Cond.code ⟨"PromiseVats", "post", "(IILPromiseVats$Message;)V"⟩ prog_1_method_38_code 4 (Option.none : Option FieldType) ∈ tb_ := tb_in 407 (by decide +kernel) rfl
theorem tw_187 : Cond.methodLink "PromiseVats" 298 ⟨"PromiseVats", "post", "(IILPromiseVats$Message;)V"⟩ ∈ tb_ := tb_in 404 (by decide +kernel) rfl
theorem tw_188 : Cond.instanceMethod ⟨"PromiseVats", "post", "(IILPromiseVats$Message;)V"⟩ ∈ tb_ := tb_in 406 (by decide +kernel) rfl
theorem tw_189 : Cond.selects "PromiseVats" ⟨"PromiseVats", "post", "(IILPromiseVats$Message;)V"⟩ ⟨"PromiseVats", "post", "(IILPromiseVats$Message;)V"⟩ ∈ tb_ := tb_se 9 (by decide +kernel) rfl
theorem tw_190 : Cond.initialized "PromiseVats$Message" ∈ tb_ := tb_in 17 (by decide +kernel) rfl
theorem tw_191 : Cond.code ⟨"PromiseVats$Message", "<init>", "(ILPromiseVats$Entity;LPromiseVats$Entity;I)V"⟩ prog_5_method_1_code 5 (Option.none : Option FieldType) ∈ tb_ := tb_in 382 (by decide +kernel) rfl
theorem tw_192 : Cond.methodLink "PromiseVats" 295 ⟨"PromiseVats$Message", "<init>", "(ILPromiseVats$Entity;LPromiseVats$Entity;I)V"⟩ ∈ tb_ := tb_in 380 (by decide +kernel) rfl
theorem tw_193 : Cond.instanceMethod ⟨"PromiseVats$Message", "<init>", "(ILPromiseVats$Entity;LPromiseVats$Entity;I)V"⟩ ∈ tb_ := tb_in 381 (by decide +kernel) rfl
theorem tw_194 : Cond.classLink "PromiseVats" 177 "PromiseVats$Message" ∈ tb_ := tb_in 378 (by decide +kernel) rfl
theorem tw_195 : Cond.instantiable "PromiseVats$Message" 5 ∈ tb_ := tb_in 379 (by decide +kernel) rfl
theorem tw_196 : Cond.fieldLink "PromiseVats" 219 "PromiseVats$Entity" "home" "I" ∈ tb_ := tb_in 106 (by decide +kernel) rfl
theorem tw_197 : Cond.fieldLink "PromiseVats" 314 "PromiseVats$Message" "call" "LPromiseVats$Call;" ∈ tb_ := tb_in 392 (by decide +kernel) rfl
theorem tw_198 : Cond.fieldLink "PromiseVats" 313 "PromiseVats$Call" "argument" "LPromiseVats$Entity;" ∈ tb_ := tb_in 292 (by decide +kernel) rfl
theorem tw_199 : Cond.fieldLink "PromiseVats" 129 "PromiseVats$Call" "target" "LPromiseVats$Entity;" ∈ tb_ := tb_in 287 (by decide +kernel) rfl
theorem tw_200 : Cond.code ⟨"PromiseVats", "packArgument", "(LPromiseVats$Entity;II)V"⟩ prog_1_method_36_code 4 (Option.none : Option FieldType) ∈ tb_ := tb_in 377 (by decide +kernel) rfl
theorem tw_201 : Cond.methodLink "PromiseVats" 292 ⟨"PromiseVats", "packArgument", "(LPromiseVats$Entity;II)V"⟩ ∈ tb_ := tb_in 374 (by decide +kernel) rfl
theorem tw_202 : Cond.instanceMethod ⟨"PromiseVats", "packArgument", "(LPromiseVats$Entity;II)V"⟩ ∈ tb_ := tb_in 376 (by decide +kernel) rfl
theorem tw_203 : Cond.selects "PromiseVats" ⟨"PromiseVats", "packArgument", "(LPromiseVats$Entity;II)V"⟩ ⟨"PromiseVats", "packArgument", "(LPromiseVats$Entity;II)V"⟩ ∈ tb_ := tb_se 8 (by decide +kernel) rfl
theorem tw_204 : Cond.fieldLink "PromiseVats" 102 "PromiseVats$Vat" "calls" "Ljava/util/ArrayList;" ∈ tb_ := tb_in 198 (by decide +kernel) rfl
theorem tw_205 : Cond.code ⟨"PromiseVats", "postCall", "(LPromiseVats$Call;I)V"⟩ prog_1_method_35_code 5 (Option.none : Option FieldType) ∈ tb_ := tb_in 373 (by decide +kernel) rfl
theorem tw_206 : Cond.methodLink "PromiseVats" 268 ⟨"PromiseVats", "postCall", "(LPromiseVats$Call;I)V"⟩ ∈ tb_ := tb_in 370 (by decide +kernel) rfl
theorem tw_207 : Cond.instanceMethod ⟨"PromiseVats", "postCall", "(LPromiseVats$Call;I)V"⟩ ∈ tb_ := tb_in 372 (by decide +kernel) rfl
theorem tw_208 : Cond.selects "PromiseVats" ⟨"PromiseVats", "postCall", "(LPromiseVats$Call;I)V"⟩ ⟨"PromiseVats", "postCall", "(LPromiseVats$Call;I)V"⟩ ∈ tb_ := tb_se 7 (by decide +kernel) rfl
theorem tw_209 : Cond.fieldLink "PromiseVats" 233 "PromiseVats$Promise" "outcome" "LPromiseVats$Entity;" ∈ tb_ := tb_in 456 (by decide +kernel) rfl
theorem tw_210 : Cond.code ⟨"PromiseVats", "waitAt", "(LPromiseVats$Promise;LPromiseVats$Call;)V"⟩ prog_1_method_30_code 3 (Option.none : Option FieldType) ∈ tb_ := tb_in 311 (by decide +kernel) rfl
theorem tw_211 : Cond.methodLink "PromiseVats" 273 ⟨"PromiseVats", "waitAt", "(LPromiseVats$Promise;LPromiseVats$Call;)V"⟩ ∈ tb_ := tb_in 308 (by decide +kernel) rfl
theorem tw_212 : Cond.instanceMethod ⟨"PromiseVats", "waitAt", "(LPromiseVats$Promise;LPromiseVats$Call;)V"⟩ ∈ tb_ := tb_in 310 (by decide +kernel) rfl
theorem tw_213 : Cond.selects "PromiseVats" ⟨"PromiseVats", "waitAt", "(LPromiseVats$Promise;LPromiseVats$Call;)V"⟩ ⟨"PromiseVats", "waitAt", "(LPromiseVats$Promise;LPromiseVats$Call;)V"⟩ ∈ tb_ := tb_se 2 (by decide +kernel) rfl
theorem tw_214 : Cond.fieldLink "PromiseVats" 229 "PromiseVats$Promise" "open" "Z" ∈ tb_ := tb_in 455 (by decide +kernel) rfl
theorem tw_215 : Cond.code ⟨"PromiseVats", "arrive", "(LPromiseVats$Call;I)V"⟩ prog_1_method_29_code 6 (Option.none : Option FieldType) ∈ tb_ := tb_in 307 (by decide +kernel) rfl
theorem tw_216 : Cond.methodLink "PromiseVats" 117 ⟨"PromiseVats", "arrive", "(LPromiseVats$Call;I)V"⟩ ∈ tb_ := tb_in 304 (by decide +kernel) rfl
theorem tw_217 : Cond.instanceMethod ⟨"PromiseVats", "arrive", "(LPromiseVats$Call;I)V"⟩ ∈ tb_ := tb_in 306 (by decide +kernel) rfl
theorem tw_218 : Cond.selects "PromiseVats" ⟨"PromiseVats", "arrive", "(LPromiseVats$Call;I)V"⟩ ⟨"PromiseVats", "arrive", "(LPromiseVats$Call;I)V"⟩ ∈ tb_ := tb_se 1 (by decide +kernel) rfl
theorem tw_219 : Cond.initialized "PromiseVats$Call" ∈ tb_ := tb_in 13 (by decide +kernel) rfl
theorem tw_220 : Cond.code ⟨"PromiseVats$Call", "<init>", "(LPromiseVats$Entity;ILPromiseVats$Entity;LPromiseVats$Promise;)V"⟩ prog_2_method_1_code 5 (Option.none : Option FieldType) ∈ tb_ := tb_in 284 (by decide +kernel) rfl
theorem tw_221 : Cond.methodLink "PromiseVats" 114 ⟨"PromiseVats$Call", "<init>", "(LPromiseVats$Entity;ILPromiseVats$Entity;LPromiseVats$Promise;)V"⟩ ∈ tb_ := tb_in 282 (by decide +kernel) rfl
theorem tw_222 : Cond.instanceMethod ⟨"PromiseVats$Call", "<init>", "(LPromiseVats$Entity;ILPromiseVats$Entity;LPromiseVats$Promise;)V"⟩ ∈ tb_ := tb_in 283 (by decide +kernel) rfl
theorem tw_223 : Cond.classLink "PromiseVats" 112 "PromiseVats$Call" ∈ tb_ := tb_in 280 (by decide +kernel) rfl
theorem tw_224 : Cond.instantiable "PromiseVats$Call" 4 ∈ tb_ := tb_in 281 (by decide +kernel) rfl
theorem tw_225 : Cond.initialized "jdk/internal/util/Preconditions" ∈ tb_ := tb_in 19 (by decide +kernel) rfl
theorem tw_226 : Cond.code ⟨"jdk/internal/util/Preconditions", "checkIndex", "(IILjava/util/function/BiFunction;)I"⟩ prog_28_method_11_code 3 (Option.some FieldType.int) ∈ tb_ := tb_in 425 (by decide +kernel) rfl
theorem tw_227 : Cond.methodLink "java/util/Objects" 105 ⟨"jdk/internal/util/Preconditions", "checkIndex", "(IILjava/util/function/BiFunction;)I"⟩ ∈ tb_ := tb_in 423 (by decide +kernel) rfl
theorem tw_228 : Cond.static ⟨"jdk/internal/util/Preconditions", "checkIndex", "(IILjava/util/function/BiFunction;)I"⟩ ∈ tb_ := tb_in 424 (by decide +kernel) rfl
theorem tw_229 : Cond.methodLink "java/util/ArrayList" 112 ⟨"java/lang/System", "arraycopy", "(Ljava/lang/Object;ILjava/lang/Object;II)V"⟩ ∈ tb_ := tb_in 430 (by decide +kernel) rfl
theorem tw_230 : Cond.code ⟨"java/util/ArrayList", "fastRemove", "([Ljava/lang/Object;I)V"⟩ prog_20_method_39_code 4 (Option.none : Option FieldType) ∈ tb_ := tb_in 429 (by decide +kernel) rfl
theorem tw_231 : Cond.methodLink "java/util/ArrayList" 144 ⟨"java/util/ArrayList", "fastRemove", "([Ljava/lang/Object;I)V"⟩ ∈ tb_ := tb_in 426 (by decide +kernel) rfl
theorem tw_232 : Cond.instanceMethod ⟨"java/util/ArrayList", "fastRemove", "([Ljava/lang/Object;I)V"⟩ ∈ tb_ := tb_in 428 (by decide +kernel) rfl
theorem tw_233 : Cond.selects "java/util/ArrayList" ⟨"java/util/ArrayList", "fastRemove", "([Ljava/lang/Object;I)V"⟩ ⟨"java/util/ArrayList", "fastRemove", "([Ljava/lang/Object;I)V"⟩ ∈ tb_ := tb_se 10 (by decide +kernel) rfl
theorem tw_234 : Cond.initialized "java/util/Objects" ∈ tb_ := tb_in 18 (by decide +kernel) rfl
theorem tw_235 : Cond.code ⟨"java/util/Objects", "checkIndex", "(II)I"⟩ prog_24_method_17_code 2 (Option.some FieldType.int) ∈ tb_ := tb_in 422 (by decide +kernel) rfl
theorem tw_236 : Cond.methodLink "java/util/ArrayList" 118 ⟨"java/util/Objects", "checkIndex", "(II)I"⟩ ∈ tb_ := tb_in 420 (by decide +kernel) rfl
theorem tw_237 : Cond.static ⟨"java/util/Objects", "checkIndex", "(II)I"⟩ ∈ tb_ := tb_in 421 (by decide +kernel) rfl
theorem tw_238 : Cond.fieldLink "PromiseVats$Turn" 27 "PromiseVats$Turn" "skips" "I" ∈ tb_ := tb_in 53 (by decide +kernel) rfl
theorem tw_239 : Cond.fieldLink "PromiseVats$Turn" 24 "PromiseVats$Turn" "reference" "LPromiseVats$Entity;" ∈ tb_ := tb_in 51 (by decide +kernel) rfl
theorem tw_240 : Cond.fieldLink "PromiseVats$Turn" 20 "PromiseVats$Call" "argument" "LPromiseVats$Entity;" ∈ tb_ := tb_in 291 (by decide +kernel) rfl
theorem tw_241 : Cond.fieldLink "PromiseVats$Turn" 19 "PromiseVats$Turn" "value" "I" ∈ tb_ := tb_in 49 (by decide +kernel) rfl
theorem tw_242 : Cond.fieldLink "PromiseVats$Turn" 13 "PromiseVats$Call" "value" "I" ∈ tb_ := tb_in 289 (by decide +kernel) rfl
theorem tw_243 : Cond.fieldLink "PromiseVats$Turn" 7 "PromiseVats$Turn" "self" "LPromiseVats$VatObject;" ∈ tb_ := tb_in 47 (by decide +kernel) rfl
theorem tw_244 : Cond.sameField "PromiseVats$VatObject" "PromiseVats$Entity" "id" "I" ∈ tb_ := tb_in 101 (by decide +kernel) rfl
theorem tw_245 : Cond.fieldLink "PromiseVats" 162 "PromiseVats$VatObject" "id" "I" ∈ tb_ := tb_in 100 (by decide +kernel) rfl
theorem tw_246 : Cond.fieldLink "PromiseVats" 155 "PromiseVats$Turn" "reference" "LPromiseVats$Entity;" ∈ tb_ := tb_in 52 (by decide +kernel) rfl
theorem tw_247 : Cond.fieldLink "PromiseVats" 226 "PromiseVats$VatObject" "amount" "I" ∈ tb_ := tb_in 96 (by decide +kernel) rfl
theorem tw_248 : Cond.fieldLink "PromiseVats" 246 "PromiseVats$Turn" "value" "I" ∈ tb_ := tb_in 50 (by decide +kernel) rfl
theorem tw_249 : Cond.sameField "PromiseVats$VatObject" "PromiseVats$Entity" "home" "I" ∈ tb_ := tb_in 108 (by decide +kernel) rfl
theorem tw_250 : Cond.fieldLink "PromiseVats" 257 "PromiseVats$VatObject" "home" "I" ∈ tb_ := tb_in 107 (by decide +kernel) rfl
theorem tw_251 : Cond.fieldLink "PromiseVats" 243 "PromiseVats$Turn" "self" "LPromiseVats$VatObject;" ∈ tb_ := tb_in 48 (by decide +kernel) rfl
theorem tw_252 : Cond.fieldLink "PromiseVats$Promise" 18 "PromiseVats$Promise" "waiting" "Ljava/util/ArrayList;" ∈ tb_ := tb_in 457 (by decide +kernel) rfl
theorem tw_253 : Cond.methodLink "PromiseVats$Promise" 15 ⟨"java/util/ArrayList", "<init>", "()V"⟩ ∈ tb_ := tb_in 453 (by decide +kernel) rfl
theorem tw_254 : Cond.classLink "PromiseVats$Promise" 13 "java/util/ArrayList" ∈ tb_ := tb_in 452 (by decide +kernel) rfl
theorem tw_255 : Cond.fieldLink "PromiseVats$Promise" 7 "PromiseVats$Promise" "open" "Z" ∈ tb_ := tb_in 454 (by decide +kernel) rfl
theorem tw_256 : Cond.methodLink "PromiseVats$Promise" 1 ⟨"PromiseVats$Entity", "<init>", "(II)V"⟩ ∈ tb_ := tb_in 451 (by decide +kernel) rfl
theorem tw_257 : Cond.sameField "PromiseVats$Promise" "PromiseVats$Entity" "imports" "[I" ∈ tb_ := tb_in 126 (by decide +kernel) rfl
theorem tw_258 : Cond.fieldLink "PromiseVats" 272 "PromiseVats$Promise" "imports" "[I" ∈ tb_ := tb_in 125 (by decide +kernel) rfl
theorem tw_259 : Cond.sameField "PromiseVats$Promise" "PromiseVats$Entity" "exports" "[I" ∈ tb_ := tb_in 120 (by decide +kernel) rfl
theorem tw_260 : Cond.fieldLink "PromiseVats" 271 "PromiseVats$Promise" "exports" "[I" ∈ tb_ := tb_in 119 (by decide +kernel) rfl
theorem tw_261 : Cond.sameField "PromiseVats$Promise" "PromiseVats$Entity" "id" "I" ∈ tb_ := tb_in 104 (by decide +kernel) rfl
theorem tw_262 : Cond.fieldLink "PromiseVats" 267 "PromiseVats$Promise" "id" "I" ∈ tb_ := tb_in 103 (by decide +kernel) rfl
theorem tw_263 : Cond.initialized "PromiseVats$Promise" ∈ tb_ := tb_in 20 (by decide +kernel) rfl
theorem tw_264 : Cond.code ⟨"PromiseVats$Promise", "<init>", "(II)V"⟩ prog_7_method_1_code 3 (Option.none : Option FieldType) ∈ tb_ := tb_in 450 (by decide +kernel) rfl
theorem tw_265 : Cond.methodLink "PromiseVats" 264 ⟨"PromiseVats$Promise", "<init>", "(II)V"⟩ ∈ tb_ := tb_in 448 (by decide +kernel) rfl
theorem tw_266 : Cond.instanceMethod ⟨"PromiseVats$Promise", "<init>", "(II)V"⟩ ∈ tb_ := tb_in 449 (by decide +kernel) rfl
theorem tw_267 : Cond.fieldLink "PromiseVats" 261 "PromiseVats" "promisesMade" "I" ∈ tb_ := tb_in 220 (by decide +kernel) rfl
theorem tw_268 : Cond.instantiable "PromiseVats$Promise" 10 ∈ tb_ := tb_in 447 (by decide +kernel) rfl
theorem tw_269 : Cond.fieldLink "PromiseVats$Vat" 39 "PromiseVats$Vat" "outputs" "I" ∈ tb_ := tb_in 203 (by decide +kernel) rfl
theorem tw_270 : Cond.methodLink "PromiseVats$Vat" 33 ⟨"java/lang/System", "arraycopy", "(Ljava/lang/Object;ILjava/lang/Object;II)V"⟩ ∈ tb_ := tb_in 477 (by decide +kernel) rfl
theorem tw_271 : Cond.code ⟨"PromiseVats", "makeObject", "(LPromiseVats$Turn;I)LPromiseVats$VatObject;"⟩ prog_1_method_27_code 4 (Option.some (FieldType.object "PromiseVats$VatObject")) ∈ tb_ := tb_in 442 (by decide +kernel) rfl
theorem tw_272 : Cond.methodLink "PromiseVats" 249 ⟨"PromiseVats", "makeObject", "(LPromiseVats$Turn;I)LPromiseVats$VatObject;"⟩ ∈ tb_ := tb_in 439 (by decide +kernel) rfl
theorem tw_273 : Cond.instanceMethod ⟨"PromiseVats", "makeObject", "(LPromiseVats$Turn;I)LPromiseVats$VatObject;"⟩ ∈ tb_ := tb_in 441 (by decide +kernel) rfl
theorem tw_274 : Cond.selects "PromiseVats" ⟨"PromiseVats", "makeObject", "(LPromiseVats$Turn;I)LPromiseVats$VatObject;"⟩ ⟨"PromiseVats", "makeObject", "(LPromiseVats$Turn;I)LPromiseVats$VatObject;"⟩ ∈ tb_ := tb_se 12 (by decide +kernel) rfl
theorem tw_275 : Cond.code ⟨"PromiseVats", "callFrom", "(LPromiseVats$Turn;LPromiseVats$Entity;)LPromiseVats$Promise;"⟩ prog_1_method_28_code 6 (Option.some (FieldType.object "PromiseVats$Promise")) ∈ tb_ := tb_in 446 (by decide +kernel) rfl
theorem tw_276 : Cond.methodLink "PromiseVats" 253 ⟨"PromiseVats", "callFrom", "(LPromiseVats$Turn;LPromiseVats$Entity;)LPromiseVats$Promise;"⟩ ∈ tb_ := tb_in 443 (by decide +kernel) rfl
theorem tw_277 : Cond.instanceMethod ⟨"PromiseVats", "callFrom", "(LPromiseVats$Turn;LPromiseVats$Entity;)LPromiseVats$Promise;"⟩ ∈ tb_ := tb_in 445 (by decide +kernel) rfl
theorem tw_278 : Cond.selects "PromiseVats" ⟨"PromiseVats", "callFrom", "(LPromiseVats$Turn;LPromiseVats$Entity;)LPromiseVats$Promise;"⟩ ⟨"PromiseVats", "callFrom", "(LPromiseVats$Turn;LPromiseVats$Entity;)LPromiseVats$Promise;"⟩ ∈ tb_ := tb_se 13 (by decide +kernel) rfl
theorem tw_279 : Cond.code ⟨"PromiseVats$Vat", "putOut", "(I)V"⟩ prog_9_method_2_code 2 (Option.none : Option FieldType) ∈ tb_ := tb_in 476 (by decide +kernel) rfl
theorem tw_280 : Cond.methodLink "PromiseVats" 258 ⟨"PromiseVats$Vat", "putOut", "(I)V"⟩ ∈ tb_ := tb_in 473 (by decide +kernel) rfl
theorem tw_281 : Cond.instanceMethod ⟨"PromiseVats$Vat", "putOut", "(I)V"⟩ ∈ tb_ := tb_in 474 (by decide +kernel) rfl
theorem tw_282 : Cond.selects "PromiseVats$Vat" ⟨"PromiseVats$Vat", "putOut", "(I)V"⟩ ⟨"PromiseVats$Vat", "putOut", "(I)V"⟩ ∈ tb_ := tb_in 475 (by decide +kernel) rfl
theorem tw_283 : Cond.fieldLink "PromiseVats" 140 "PromiseVats$Turn" "skips" "I" ∈ tb_ := tb_in 54 (by decide +kernel) rfl
theorem tw_284 : Cond.sameField "PromiseVats$Promise" "PromiseVats$Entity" "home" "I" ∈ tb_ := tb_in 110 (by decide +kernel) rfl
theorem tw_285 : Cond.fieldLink "PromiseVats" 291 "PromiseVats$Promise" "home" "I" ∈ tb_ := tb_in 109 (by decide +kernel) rfl
theorem tw_286 : Cond.code ⟨"java/util/ArrayList", "elementData", "(I)Ljava/lang/Object;"⟩ prog_20_method_18_code 2 (Option.some (FieldType.object "java/lang/Object")) ∈ tb_ := tb_in 496 (by decide +kernel) rfl
theorem tw_287 : Cond.methodLink "java/util/ArrayList" 123 ⟨"java/util/ArrayList", "elementData", "(I)Ljava/lang/Object;"⟩ ∈ tb_ := tb_in 493 (by decide +kernel) rfl
theorem tw_288 : Cond.instanceMethod ⟨"java/util/ArrayList", "elementData", "(I)Ljava/lang/Object;"⟩ ∈ tb_ := tb_in 494 (by decide +kernel) rfl
theorem tw_289 : Cond.selects "java/util/ArrayList" ⟨"java/util/ArrayList", "elementData", "(I)Ljava/lang/Object;"⟩ ⟨"java/util/ArrayList", "elementData", "(I)Ljava/lang/Object;"⟩ ∈ tb_ := tb_in 495 (by decide +kernel) rfl
theorem tw_290 : Cond.code ⟨"PromiseVats", "leadsTo", "(LPromiseVats$Entity;LPromiseVats$Promise;)Z"⟩ prog_1_method_34_code 5 (Option.some FieldType.boolean) ∈ tb_ := tb_in 488 (by decide +kernel) rfl
theorem tw_291 : Cond.methodLink "PromiseVats" 303 ⟨"PromiseVats", "leadsTo", "(LPromiseVats$Entity;LPromiseVats$Promise;)Z"⟩ ∈ tb_ := tb_in 486 (by decide +kernel) rfl
theorem tw_292 : Cond.static ⟨"PromiseVats", "leadsTo", "(LPromiseVats$Entity;LPromiseVats$Promise;)Z"⟩ ∈ tb_ := tb_in 487 (by decide +kernel) rfl
theorem tw_293 : Cond.sameField "PromiseVats$Promise" "PromiseVats$Entity" "freed" "Z" ∈ tb_ := tb_in 113 (by decide +kernel) rfl
theorem tw_294 : Cond.fieldLink "PromiseVats" 302 "PromiseVats$Promise" "freed" "Z" ∈ tb_ := tb_in 112 (by decide +kernel) rfl
theorem tw_295 : Cond.code ⟨"java/util/ArrayList", "get", "(I)Ljava/lang/Object;"⟩ prog_20_method_20_code 2 (Option.some (FieldType.object "java/lang/Object")) ∈ tb_ := tb_in 492 (by decide +kernel) rfl
theorem tw_296 : Cond.methodLink "PromiseVats" 307 ⟨"java/util/ArrayList", "get", "(I)Ljava/lang/Object;"⟩ ∈ tb_ := tb_in 489 (by decide +kernel) rfl
theorem tw_297 : Cond.instanceMethod ⟨"java/util/ArrayList", "get", "(I)Ljava/lang/Object;"⟩ ∈ tb_ := tb_in 490 (by decide +kernel) rfl
theorem tw_298 : Cond.selects "java/util/ArrayList" ⟨"java/util/ArrayList", "get", "(I)Ljava/lang/Object;"⟩ ⟨"java/util/ArrayList", "get", "(I)Ljava/lang/Object;"⟩ ∈ tb_ := tb_in 491 (by decide +kernel) rfl
theorem tw_299 : Cond.code ⟨"java/util/ArrayList", "clea\x72", "()V"⟩ prog_20_method_40_code 4 (Option.none : Option FieldType) ∈ tb_ := tb_in 500 (by decide +kernel) rfl
theorem tw_300 : Cond.methodLink "PromiseVats" 310 ⟨"java/util/ArrayList", "clea\x72", "()V"⟩ ∈ tb_ := tb_in 497 (by decide +kernel) rfl
theorem tw_301 : Cond.instanceMethod ⟨"java/util/ArrayList", "clea\x72", "()V"⟩ ∈ tb_ := tb_in 498 (by decide +kernel) rfl
theorem tw_302 : Cond.selects "java/util/ArrayList" ⟨"java/util/ArrayList", "clea\x72", "()V"⟩ ⟨"java/util/ArrayList", "clea\x72", "()V"⟩ ∈ tb_ := tb_in 499 (by decide +kernel) rfl
theorem tw_303 : Cond.code ⟨"PromiseVats", "resolveIn", "(ILPromiseVats$Promise;LPromiseVats$Entity;)V"⟩ prog_1_method_33_code 5 (Option.none : Option FieldType) ∈ tb_ := tb_in 485 (by decide +kernel) rfl
theorem tw_304 : Cond.methodLink "PromiseVats" 158 ⟨"PromiseVats", "resolveIn", "(ILPromiseVats$Promise;LPromiseVats$Entity;)V"⟩ ∈ tb_ := tb_in 482 (by decide +kernel) rfl
theorem tw_305 : Cond.instanceMethod ⟨"PromiseVats", "resolveIn", "(ILPromiseVats$Promise;LPromiseVats$Entity;)V"⟩ ∈ tb_ := tb_in 484 (by decide +kernel) rfl
theorem tw_306 : Cond.selects "PromiseVats" ⟨"PromiseVats", "resolveIn", "(ILPromiseVats$Promise;LPromiseVats$Entity;)V"⟩ ⟨"PromiseVats", "resolveIn", "(ILPromiseVats$Promise;LPromiseVats$Entity;)V"⟩ ∈ tb_ := tb_se 15 (by decide +kernel) rfl
theorem tw_307 : Cond.fieldLink "PromiseVats" 137 "PromiseVats$VatObject" "program" "I" ∈ tb_ := tb_in 95 (by decide +kernel) rfl
theorem tw_308 : Cond.code ⟨"PromiseVats$Turn", "begin", "(LPromiseVats$VatObject;LPromiseVats$Call;)V"⟩ prog_8_method_2_code 3 (Option.none : Option FieldType) ∈ tb_ := tb_in 434 (by decide +kernel) rfl
theorem tw_309 : Cond.methodLink "PromiseVats" 133 ⟨"PromiseVats$Turn", "begin", "(LPromiseVats$VatObject;LPromiseVats$Call;)V"⟩ ∈ tb_ := tb_in 431 (by decide +kernel) rfl
theorem tw_310 : Cond.instanceMethod ⟨"PromiseVats$Turn", "begin", "(LPromiseVats$VatObject;LPromiseVats$Call;)V"⟩ ∈ tb_ := tb_in 432 (by decide +kernel) rfl
theorem tw_311 : Cond.selects "PromiseVats$Turn" ⟨"PromiseVats$Turn", "begin", "(LPromiseVats$VatObject;LPromiseVats$Call;)V"⟩ ⟨"PromiseVats$Turn", "begin", "(LPromiseVats$VatObject;LPromiseVats$Call;)V"⟩ ∈ tb_ := tb_in 433 (by decide +kernel) rfl
theorem tw_312 : Cond.code ⟨"java/util/ArrayList", "remove", "(I)Ljava/lang/Object;"⟩ prog_20_method_29_code 4 (Option.some (FieldType.object "java/lang/Object")) ∈ tb_ := tb_in 419 (by decide +kernel) rfl
theorem tw_313 : Cond.methodLink "PromiseVats" 125 ⟨"java/util/ArrayList", "remove", "(I)Ljava/lang/Object;"⟩ ∈ tb_ := tb_in 416 (by decide +kernel) rfl
theorem tw_314 : Cond.instanceMethod ⟨"java/util/ArrayList", "remove", "(I)Ljava/lang/Object;"⟩ ∈ tb_ := tb_in 417 (by decide +kernel) rfl
theorem tw_315 : Cond.selects "java/util/ArrayList" ⟨"java/util/ArrayList", "remove", "(I)Ljava/lang/Object;"⟩ ⟨"java/util/ArrayList", "remove", "(I)Ljava/lang/Object;"⟩ ∈ tb_ := tb_in 418 (by decide +kernel) rfl
theorem tw_316 : Cond.code ⟨"java/util/ArrayList", "isEmpty", "()Z"⟩ prog_20_method_9_code 1 (Option.some FieldType.boolean) ∈ tb_ := tb_in 415 (by decide +kernel) rfl
theorem tw_317 : Cond.methodLink "PromiseVats" 121 ⟨"java/util/ArrayList", "isEmpty", "()Z"⟩ ∈ tb_ := tb_in 412 (by decide +kernel) rfl
theorem tw_318 : Cond.instanceMethod ⟨"java/util/ArrayList", "isEmpty", "()Z"⟩ ∈ tb_ := tb_in 413 (by decide +kernel) rfl
theorem tw_319 : Cond.selects "java/util/ArrayList" ⟨"java/util/ArrayList", "isEmpty", "()Z"⟩ ⟨"java/util/ArrayList", "isEmpty", "()Z"⟩ ∈ tb_ := tb_in 414 (by decide +kernel) rfl
theorem tw_320 : Cond.code ⟨"PromiseVats", "settleLost", "(I)V"⟩ prog_1_method_32_code 3 (Option.none : Option FieldType) ∈ tb_ := tb_in 481 (by decide +kernel) rfl
theorem tw_321 : Cond.methodLink "PromiseVats" 147 ⟨"PromiseVats", "settleLost", "(I)V"⟩ ∈ tb_ := tb_in 478 (by decide +kernel) rfl
theorem tw_322 : Cond.instanceMethod ⟨"PromiseVats", "settleLost", "(I)V"⟩ ∈ tb_ := tb_in 480 (by decide +kernel) rfl
theorem tw_323 : Cond.selects "PromiseVats" ⟨"PromiseVats", "settleLost", "(I)V"⟩ ⟨"PromiseVats", "settleLost", "(I)V"⟩ ∈ tb_ := tb_se 14 (by decide +kernel) rfl
theorem tw_324 : Cond.code ⟨"PromiseVats", "perform", "(LPromiseVats$Turn;II)V"⟩ prog_1_method_26_code 5 (Option.none : Option FieldType) ∈ tb_ := tb_in 438 (by decide +kernel) rfl
theorem tw_325 : Cond.methodLink "PromiseVats" 143 ⟨"PromiseVats", "perform", "(LPromiseVats$Turn;II)V"⟩ ∈ tb_ := tb_in 435 (by decide +kernel) rfl
theorem tw_326 : Cond.instanceMethod ⟨"PromiseVats", "perform", "(LPromiseVats$Turn;II)V"⟩ ∈ tb_ := tb_in 437 (by decide +kernel) rfl
theorem tw_327 : Cond.selects "PromiseVats" ⟨"PromiseVats", "perform", "(LPromiseVats$Turn;II)V"⟩ ⟨"PromiseVats", "perform", "(LPromiseVats$Turn;II)V"⟩ ∈ tb_ := tb_se 11 (by decide +kernel) rfl
theorem tw_328 : Cond.fieldLink "PromiseVats" 214 "PromiseVats$Entity" "imports" "[I" ∈ tb_ := tb_in 124 (by decide +kernel) rfl
theorem tw_329 : Cond.fieldLink "PromiseVats" 328 "PromiseVats$Entity" "gifts" "[I" ∈ tb_ := tb_in 128 (by decide +kernel) rfl
theorem tw_330 : Cond.fieldLink "PromiseVats" 179 "PromiseVats$Message" "argument" "LPromiseVats$Entity;" ∈ tb_ := tb_in 389 (by decide +kernel) rfl
theorem tw_331 : Cond.fieldLink "PromiseVats" 321 "PromiseVats$Message" "amount" "I" ∈ tb_ := tb_in 391 (by decide +kernel) rfl
theorem tw_332 : Cond.code ⟨"PromiseVats", "takeGift", "(LPromiseVats$Entity;II)V"⟩ prog_1_method_40_code 4 (Option.none : Option FieldType) ∈ tb_ := tb_in 519 (by decide +kernel) rfl
theorem tw_333 : Cond.methodLink "PromiseVats" 322 ⟨"PromiseVats", "takeGift", "(LPromiseVats$Entity;II)V"⟩ ∈ tb_ := tb_in 517 (by decide +kernel) rfl
theorem tw_334 : Cond.static ⟨"PromiseVats", "takeGift", "(LPromiseVats$Entity;II)V"⟩ ∈ tb_ := tb_in 518 (by decide +kernel) rfl
theorem tw_335 : Cond.code ⟨"PromiseVats", "takeRedeem", "(LPromiseVats$Entity;II)V"⟩ prog_1_method_41_code 4 (Option.none : Option FieldType) ∈ tb_ := tb_in 522 (by decide +kernel) rfl
theorem tw_336 : Cond.methodLink "PromiseVats" 325 ⟨"PromiseVats", "takeRedeem", "(LPromiseVats$Entity;II)V"⟩ ∈ tb_ := tb_in 520 (by decide +kernel) rfl
theorem tw_337 : Cond.static ⟨"PromiseVats", "takeRedeem", "(LPromiseVats$Entity;II)V"⟩ ∈ tb_ := tb_in 521 (by decide +kernel) rfl
theorem tw_338 : Cond.fieldLink "PromiseVats" 190 "PromiseVats$Message" "kind" "I" ∈ tb_ := tb_in 385 (by decide +kernel) rfl
theorem tw_339 : Cond.fieldLink "PromiseVats" 318 "PromiseVats$Message" "subject" "LPromiseVats$Entity;" ∈ tb_ := tb_in 387 (by decide +kernel) rfl
theorem tw_340 : Cond.code ⟨"PromiseVats", "takeMessage", "(LPromiseVats$Message;II)V"⟩ prog_1_method_39_code 6 (Option.none : Option FieldType) ∈ tb_ := tb_in 516 (by decide +kernel) rfl
theorem tw_341 : Cond.methodLink "PromiseVats" 186 ⟨"PromiseVats", "takeMessage", "(LPromiseVats$Message;II)V"⟩ ∈ tb_ := tb_in 513 (by decide +kernel) rfl
theorem tw_342 : Cond.instanceMethod ⟨"PromiseVats", "takeMessage", "(LPromiseVats$Message;II)V"⟩ ∈ tb_ := tb_in 515 (by decide +kernel) rfl
theorem tw_343 : Cond.selects "PromiseVats" ⟨"PromiseVats", "takeMessage", "(LPromiseVats$Message;II)V"⟩ ⟨"PromiseVats", "takeMessage", "(LPromiseVats$Message;II)V"⟩ ∈ tb_ := tb_se 17 (by decide +kernel) rfl
theorem tw_344 : Cond.code ⟨"PromiseVats", "unpackArgument", "(LPromiseVats$Entity;II)V"⟩ prog_1_method_37_code 4 (Option.none : Option FieldType) ∈ tb_ := tb_in 512 (by decide +kernel) rfl
theorem tw_345 : Cond.methodLink "PromiseVats" 182 ⟨"PromiseVats", "unpackArgument", "(LPromiseVats$Entity;II)V"⟩ ∈ tb_ := tb_in 509 (by decide +kernel) rfl
theorem tw_346 : Cond.instanceMethod ⟨"PromiseVats", "unpackArgument", "(LPromiseVats$Entity;II)V"⟩ ∈ tb_ := tb_in 511 (by decide +kernel) rfl
theorem tw_347 : Cond.selects "PromiseVats" ⟨"PromiseVats", "unpackArgument", "(LPromiseVats$Entity;II)V"⟩ ⟨"PromiseVats", "unpackArgument", "(LPromiseVats$Entity;II)V"⟩ ∈ tb_ := tb_se 16 (by decide +kernel) rfl
theorem tw_348 : Cond.code ⟨"PromiseVats", "flying", "(II)I"⟩ prog_1_method_9_code 3 (Option.some FieldType.int) ∈ tb_ := tb_in 508 (by decide +kernel) rfl
theorem tw_349 : Cond.methodLink "PromiseVats" 165 ⟨"PromiseVats", "flying", "(II)I"⟩ ∈ tb_ := tb_in 505 (by decide +kernel) rfl
theorem tw_350 : Cond.instanceMethod ⟨"PromiseVats", "flying", "(II)I"⟩ ∈ tb_ := tb_in 506 (by decide +kernel) rfl
theorem tw_351 : Cond.selects "PromiseVats" ⟨"PromiseVats", "flying", "(II)I"⟩ ⟨"PromiseVats", "flying", "(II)I"⟩ ∈ tb_ := tb_in 507 (by decide +kernel) rfl
theorem tw_352 : Cond.fieldLink "PromiseVats" 334 "PromiseVats" "foundCount" "I" ∈ tb_ := tb_in 225 (by decide +kernel) rfl
theorem tw_353 : Cond.fieldLink "PromiseVats" 331 "PromiseVats$Entity" "reached" "Z" ∈ tb_ := tb_in 114 (by decide +kernel) rfl
theorem tw_354 : Cond.methodLink "PromiseVats$Entity" 28 ⟨"java/lang/Math", "max", "(II)I"⟩ ∈ tb_ := tb_in 557 (by decide +kernel) rfl
theorem tw_355 : Cond.code ⟨"PromiseVats$Entity", "unpaired", "(I)I"⟩ prog_4_method_2_code 4 (Option.some FieldType.int) ∈ tb_ := tb_in 556 (by decide +kernel) rfl
theorem tw_356 : Cond.instanceMethod ⟨"PromiseVats$Entity", "unpaired", "(I)I"⟩ ∈ tb_ := tb_in 555 (by decide +kernel) rfl
theorem tw_357 : Cond.methodLink "PromiseVats$Entity" 38 ⟨"PromiseVats$Entity", "unpaired", "(I)I"⟩ ∈ tb_ := tb_in 562 (by decide +kernel) rfl
theorem tw_358 : Cond.sameMethod "PromiseVats$Entity" "PromiseVats$Entity" "unpaired" "(I)I" ∈ tb_ := tb_in 926 (by decide +kernel) rfl
theorem tw_359 : Cond.selects "PromiseVats$VatObject" ⟨"PromiseVats$Entity", "unpaired", "(I)I"⟩ ⟨"PromiseVats$Entity", "unpaired", "(I)I"⟩ ∈ tb_ := tb_in 928 (by decide +kernel) rfl
theorem tw_360 : Cond.selects "PromiseVats$Promise" ⟨"PromiseVats$Entity", "unpaired", "(I)I"⟩ ⟨"PromiseVats$Entity", "unpaired", "(I)I"⟩ ∈ tb_ := tb_in 927 (by decide +kernel) rfl
theorem tw_361 : Cond.code ⟨"PromiseVats$Entity", "isExported", "()Z"⟩ prog_4_method_3_code 2 (Option.some FieldType.boolean) ∈ tb_ := tb_in 550 (by decide +kernel) rfl
theorem tw_362 : Cond.instanceMethod ⟨"PromiseVats$Entity", "isExported", "()Z"⟩ ∈ tb_ := tb_in 549 (by decide +kernel) rfl
theorem tw_363 : Cond.methodLink "PromiseVats$Entity" 34 ⟨"PromiseVats$Entity", "isExported", "()Z"⟩ ∈ tb_ := tb_in 561 (by decide +kernel) rfl
theorem tw_364 : Cond.sameMethod "PromiseVats$Entity" "PromiseVats$Entity" "isExported" "()Z" ∈ tb_ := tb_in 923 (by decide +kernel) rfl
theorem tw_365 : Cond.selects "PromiseVats$VatObject" ⟨"PromiseVats$Entity", "isExported", "()Z"⟩ ⟨"PromiseVats$Entity", "isExported", "()Z"⟩ ∈ tb_ := tb_in 925 (by decide +kernel) rfl
theorem tw_366 : Cond.selects "PromiseVats$Promise" ⟨"PromiseVats$Entity", "isExported", "()Z"⟩ ⟨"PromiseVats$Entity", "isExported", "()Z"⟩ ∈ tb_ := tb_in 924 (by decide +kernel) rfl
theorem tw_367 : Cond.methodLink "PromiseVats$Promise" 30 ⟨"java/util/ArrayList", "isEmpty", "()Z"⟩ ∈ tb_ := tb_in 558 (by decide +kernel) rfl
theorem tw_368 : Cond.methodLink "PromiseVats$Promise" 26 ⟨"PromiseVats$Promise", "unpaired", "(I)I"⟩ ∈ tb_ := tb_in 551 (by decide +kernel) rfl
theorem tw_369 : Cond.sameMethod "PromiseVats$Promise" "PromiseVats$Entity" "unpaired" "(I)I" ∈ tb_ := tb_in 552 (by decide +kernel) rfl
theorem tw_370 : Cond.selects "PromiseVats$Promise" ⟨"PromiseVats$Promise", "unpaired", "(I)I"⟩ ⟨"PromiseVats$Entity", "unpaired", "(I)I"⟩ ∈ tb_ := tb_in 554 (by decide +kernel) rfl
theorem tw_371 : Cond.methodLink "PromiseVats$Promise" 22 ⟨"PromiseVats$Promise", "isExported", "()Z"⟩ ∈ tb_ := tb_in 545 (by decide +kernel) rfl
theorem tw_372 : Cond.sameMethod "PromiseVats$Promise" "PromiseVats$Entity" "isExported" "()Z" ∈ tb_ := tb_in 546 (by decide +kernel) rfl
theorem tw_373 : Cond.selects "PromiseVats$Promise" ⟨"PromiseVats$Promise", "isExported", "()Z"⟩ ⟨"PromiseVats$Entity", "isExported", "()Z"⟩ ∈ tb_ := tb_in 548 (by decide +kernel) rfl
theorem tw_374 : Cond.code ⟨"PromiseVats", "reach", "(LPromiseVats$Entity;)V"⟩ prog_1_method_46_code 2 (Option.none : Option FieldType) ∈ tb_ := tb_in 534 (by decide +kernel) rfl
theorem tw_375 : Cond.methodLink "PromiseVats" 337 ⟨"PromiseVats", "reach", "(LPromiseVats$Entity;)V"⟩ ∈ tb_ := tb_in 531 (by decide +kernel) rfl
theorem tw_376 : Cond.instanceMethod ⟨"PromiseVats", "reach", "(LPromiseVats$Entity;)V"⟩ ∈ tb_ := tb_in 533 (by decide +kernel) rfl
theorem tw_377 : Cond.selects "PromiseVats" ⟨"PromiseVats", "reach", "(LPromiseVats$Entity;)V"⟩ ⟨"PromiseVats", "reach", "(LPromiseVats$Entity;)V"⟩ ∈ tb_ := tb_se 19 (by decide +kernel) rfl
theorem tw_378 : Cond.code ⟨"PromiseVats$Entity", "isWanted", "()Z"⟩ prog_4_method_4_code 1 (Option.some FieldType.boolean) ∈ tb_ := tb_in 560 (by decide +kernel) rfl
theorem tw_379 : Cond.instanceMethod ⟨"PromiseVats$Entity", "isWanted", "()Z"⟩ ∈ tb_ := tb_in 540 (by decide +kernel) rfl
theorem tw_380 : Cond.methodLink "PromiseVats" 351 ⟨"PromiseVats$Entity", "isWanted", "()Z"⟩ ∈ tb_ := tb_in 539 (by decide +kernel) rfl
theorem tw_381 : Cond.sameMethod "PromiseVats$Entity" "PromiseVats$Entity" "isWanted" "()Z" ∈ tb_ := tb_in 541 (by decide +kernel) rfl
theorem tw_382 : Cond.selects "PromiseVats$VatObject" ⟨"PromiseVats$Entity", "isWanted", "()Z"⟩ ⟨"PromiseVats$Entity", "isWanted", "()Z"⟩ ∈ tb_ := tb_in 559 (by decide +kernel) rfl
theorem tw_383 : Cond.code ⟨"PromiseVats$Promise", "isWanted", "()Z"⟩ prog_7_method_2_code 1 (Option.some FieldType.boolean) ∈ tb_ := tb_in 544 (by decide +kernel) rfl
theorem tw_384 : Cond.instanceMethod ⟨"PromiseVats$Promise", "isWanted", "()Z"⟩ ∈ tb_ := tb_in 543 (by decide +kernel) rfl
theorem tw_385 : Cond.selects "PromiseVats$Promise" ⟨"PromiseVats$Entity", "isWanted", "()Z"⟩ ⟨"PromiseVats$Promise", "isWanted", "()Z"⟩ ∈ tb_ := tb_in 542 (by decide +kernel) rfl
theorem tw_386 : Cond.fieldLink "PromiseVats" 239 "PromiseVats$Entity" "freed" "Z" ∈ tb_ := tb_in 111 (by decide +kernel) rfl
theorem tw_387 : Cond.code ⟨"PromiseVats", "reachCalls", "(Ljava/util/ArrayList;)V"⟩ prog_1_method_44_code 3 (Option.none : Option FieldType) ∈ tb_ := tb_in 566 (by decide +kernel) rfl
theorem tw_388 : Cond.methodLink "PromiseVats" 344 ⟨"PromiseVats", "reachCalls", "(Ljava/util/ArrayList;)V"⟩ ∈ tb_ := tb_in 563 (by decide +kernel) rfl
theorem tw_389 : Cond.instanceMethod ⟨"PromiseVats", "reachCalls", "(Ljava/util/ArrayList;)V"⟩ ∈ tb_ := tb_in 565 (by decide +kernel) rfl
theorem tw_390 : Cond.selects "PromiseVats" ⟨"PromiseVats", "reachCalls", "(Ljava/util/ArrayList;)V"⟩ ⟨"PromiseVats", "reachCalls", "(Ljava/util/ArrayList;)V"⟩ ∈ tb_ := tb_se 21 (by decide +kernel) rfl
theorem tw_391 : Cond.code ⟨"PromiseVats", "reachWanted", "(I)V"⟩ prog_1_method_43_code 4 (Option.none : Option FieldType) ∈ tb_ := tb_in 538 (by decide +kernel) rfl
theorem tw_392 : Cond.methodLink "PromiseVats" 341 ⟨"PromiseVats", "reachWanted", "(I)V"⟩ ∈ tb_ := tb_in 535 (by decide +kernel) rfl
theorem tw_393 : Cond.instanceMethod ⟨"PromiseVats", "reachWanted", "(I)V"⟩ ∈ tb_ := tb_in 537 (by decide +kernel) rfl
theorem tw_394 : Cond.selects "PromiseVats" ⟨"PromiseVats", "reachWanted", "(I)V"⟩ ⟨"PromiseVats", "reachWanted", "(I)V"⟩ ∈ tb_ := tb_se 20 (by decide +kernel) rfl
theorem tw_395 : Cond.code ⟨"PromiseVats", "reachInside", "(LPromiseVats$Entity;)V"⟩ prog_1_method_45_code 5 (Option.none : Option FieldType) ∈ tb_ := tb_in 570 (by decide +kernel) rfl
theorem tw_396 : Cond.methodLink "PromiseVats" 348 ⟨"PromiseVats", "reachInside", "(LPromiseVats$Entity;)V"⟩ ∈ tb_ := tb_in 567 (by decide +kernel) rfl
theorem tw_397 : Cond.instanceMethod ⟨"PromiseVats", "reachInside", "(LPromiseVats$Entity;)V"⟩ ∈ tb_ := tb_in 569 (by decide +kernel) rfl
theorem tw_398 : Cond.selects "PromiseVats" ⟨"PromiseVats", "reachInside", "(LPromiseVats$Entity;)V"⟩ ⟨"PromiseVats", "reachInside", "(LPromiseVats$Entity;)V"⟩ ∈ tb_ := tb_se 22 (by decide +kernel) rfl
theorem tw_399 : Cond.code ⟨"PromiseVats", "releaseUnreached", "(I)V"⟩ prog_1_method_48_code 4 (Option.none : Option FieldType) ∈ tb_ := tb_in 578 (by decide +kernel) rfl
theorem tw_400 : Cond.methodLink "PromiseVats" 200 ⟨"PromiseVats", "releaseUnreached", "(I)V"⟩ ∈ tb_ := tb_in 575 (by decide +kernel) rfl
theorem tw_401 : Cond.instanceMethod ⟨"PromiseVats", "releaseUnreached", "(I)V"⟩ ∈ tb_ := tb_in 577 (by decide +kernel) rfl
theorem tw_402 : Cond.selects "PromiseVats" ⟨"PromiseVats", "releaseUnreached", "(I)V"⟩ ⟨"PromiseVats", "releaseUnreached", "(I)V"⟩ ∈ tb_ := tb_se 24 (by decide +kernel) rfl
theorem tw_403 : Cond.code ⟨"PromiseVats", "freeUnreached", "(I)I"⟩ prog_1_method_47_code 5 (Option.some FieldType.int) ∈ tb_ := tb_in 574 (by decide +kernel) rfl
theorem tw_404 : Cond.methodLink "PromiseVats" 196 ⟨"PromiseVats", "freeUnreached", "(I)I"⟩ ∈ tb_ := tb_in 571 (by decide +kernel) rfl
theorem tw_405 : Cond.instanceMethod ⟨"PromiseVats", "freeUnreached", "(I)I"⟩ ∈ tb_ := tb_in 573 (by decide +kernel) rfl
theorem tw_406 : Cond.selects "PromiseVats" ⟨"PromiseVats", "freeUnreached", "(I)I"⟩ ⟨"PromiseVats", "freeUnreached", "(I)I"⟩ ∈ tb_ := tb_se 23 (by decide +kernel) rfl
theorem tw_407 : Cond.code ⟨"PromiseVats", "findReached", "(I)V"⟩ prog_1_method_42_code 3 (Option.none : Option FieldType) ∈ tb_ := tb_in 530 (by decide +kernel) rfl
theorem tw_408 : Cond.methodLink "PromiseVats" 193 ⟨"PromiseVats", "findReached", "(I)V"⟩ ∈ tb_ := tb_in 527 (by decide +kernel) rfl
theorem tw_409 : Cond.instanceMethod ⟨"PromiseVats", "findReached", "(I)V"⟩ ∈ tb_ := tb_in 529 (by decide +kernel) rfl
theorem tw_410 : Cond.selects "PromiseVats" ⟨"PromiseVats", "findReached", "(I)V"⟩ ⟨"PromiseVats", "findReached", "(I)V"⟩ ∈ tb_ := tb_se 18 (by decide +kernel) rfl
theorem tw_411 : Cond.methodLink "PromiseVats" 354 ⟨"PromiseVats$Entity", "unpaired", "(I)I"⟩ ∈ tb_ := tb_in 591 (by decide +kernel) rfl
theorem tw_412 : Cond.code ⟨"PromiseVats", "waitingAt", "(LPromiseVats$Entity;)I"⟩ prog_1_method_50_code 2 (Option.some FieldType.int) ∈ tb_ := tb_in 594 (by decide +kernel) rfl
theorem tw_413 : Cond.methodLink "PromiseVats" 357 ⟨"PromiseVats", "waitingAt", "(LPromiseVats$Entity;)I"⟩ ∈ tb_ := tb_in 592 (by decide +kernel) rfl
theorem tw_414 : Cond.static ⟨"PromiseVats", "waitingAt", "(LPromiseVats$Entity;)I"⟩ ∈ tb_ := tb_in 593 (by decide +kernel) rfl
theorem tw_415 : Cond.code ⟨"PromiseVats", "kindOf", "(LPromiseVats$Entity;)I"⟩ prog_1_method_51_code 2 (Option.some FieldType.int) ∈ tb_ := tb_in 597 (by decide +kernel) rfl
theorem tw_416 : Cond.methodLink "PromiseVats" 360 ⟨"PromiseVats", "kindOf", "(LPromiseVats$Entity;)I"⟩ ∈ tb_ := tb_in 595 (by decide +kernel) rfl
theorem tw_417 : Cond.static ⟨"PromiseVats", "kindOf", "(LPromiseVats$Entity;)I"⟩ ∈ tb_ := tb_in 596 (by decide +kernel) rfl
theorem tw_418 : Cond.fieldLink "PromiseVats" 203 "PromiseVats$Vat" "outputs" "I" ∈ tb_ := tb_in 204 (by decide +kernel) rfl
theorem tw_419 : Cond.code ⟨"PromiseVats", "shareInCount", "(LPromiseVats$Entity;II)I"⟩ prog_1_method_49_code 3 (Option.some FieldType.int) ∈ tb_ := tb_in 590 (by decide +kernel) rfl
theorem tw_420 : Cond.methodLink "PromiseVats" 206 ⟨"PromiseVats", "shareInCount", "(LPromiseVats$Entity;II)I"⟩ ∈ tb_ := tb_in 588 (by decide +kernel) rfl
theorem tw_421 : Cond.static ⟨"PromiseVats", "shareInCount", "(LPromiseVats$Entity;II)I"⟩ ∈ tb_ := tb_in 589 (by decide +kernel) rfl
theorem tw_422 : Cond.code ⟨"PromiseVats", "madeEntity", "(I)LPromiseVats$Entity;"⟩ prog_1_method_23_code 2 (Option.some (FieldType.object "PromiseVats$Entity")) ∈ tb_ := tb_in 605 (by decide +kernel) rfl
theorem tw_423 : Cond.methodLink "PromiseVats" 210 ⟨"PromiseVats", "madeEntity", "(I)LPromiseVats$Entity;"⟩ ∈ tb_ := tb_in 602 (by decide +kernel) rfl
theorem tw_424 : Cond.instanceMethod ⟨"PromiseVats", "madeEntity", "(I)LPromiseVats$Entity;"⟩ ∈ tb_ := tb_in 604 (by decide +kernel) rfl
theorem tw_425 : Cond.selects "PromiseVats" ⟨"PromiseVats", "madeEntity", "(I)LPromiseVats$Entity;"⟩ ⟨"PromiseVats", "madeEntity", "(I)LPromiseVats$Entity;"⟩ ∈ tb_ := tb_se 25 (by decide +kernel) rfl
theorem tw_426 : Cond.code ⟨"PromiseVats", "liveEntity", "(I)LPromiseVats$Entity;"⟩ prog_1_method_24_code 3 (Option.some (FieldType.object "PromiseVats$Entity")) ∈ tb_ := tb_in 613 (by decide +kernel) rfl
theorem tw_427 : Cond.methodLink "PromiseVats" 215 ⟨"PromiseVats", "liveEntity", "(I)LPromiseVats$Entity;"⟩ ∈ tb_ := tb_in 610 (by decide +kernel) rfl
theorem tw_428 : Cond.instanceMethod ⟨"PromiseVats", "liveEntity", "(I)LPromiseVats$Entity;"⟩ ∈ tb_ := tb_in 612 (by decide +kernel) rfl
theorem tw_429 : Cond.selects "PromiseVats" ⟨"PromiseVats", "liveEntity", "(I)LPromiseVats$Entity;"⟩ ⟨"PromiseVats", "liveEntity", "(I)LPromiseVats$Entity;"⟩ ∈ tb_ := tb_se 26 (by decide +kernel) rfl
theorem tw_430 : Cond.fieldLink "PromiseVats" 242 "PromiseVats$Entity" "id" "I" ∈ tb_ := tb_in 102 (by decide +kernel) rfl
theorem tw_431 : Cond.code ⟨"PromiseVats", "referenceTo", "(LPromiseVats$Entity;)I"⟩ prog_1_method_25_code 1 (Option.some FieldType.int) ∈ tb_ := tb_in 624 (by decide +kernel) rfl
theorem tw_432 : Cond.methodLink "PromiseVats" 222 ⟨"PromiseVats", "referenceTo", "(LPromiseVats$Entity;)I"⟩ ∈ tb_ := tb_in 622 (by decide +kernel) rfl
theorem tw_433 : Cond.static ⟨"PromiseVats", "referenceTo", "(LPromiseVats$Entity;)I"⟩ ∈ tb_ := tb_in 623 (by decide +kernel) rfl
theorem tw_434 : Cond.fieldLink "PromiseVats" 236 "PromiseVats$Vat" "latest" "[I" ∈ tb_ := tb_in 202 (by decide +kernel) rfl
theorem tw_435 : Cond.arrayClass FieldType.byte ∈ tb_ := tb_in 755 (by decide +kernel) rfl
theorem tw_436 : Cond.arrayClass FieldType.boolean ∈ tb_ := tb_in 756 (by decide +kernel) rfl
theorem tw_437 : Cond.arrayClass FieldType.short ∈ tb_ := tb_in 757 (by decide +kernel) rfl
theorem tw_438 : Cond.fieldLink "PromiseVatsModel" 91 "PromiseVatsModel" "out" "[I" ∈ tb_ := tb_in 679 (by decide +kernel) rfl
theorem tw_439 : Cond.fieldLink "PromiseVatsModel" 88 "PromiseVatsModel" "outs" "[I" ∈ tb_ := tb_in 678 (by decide +kernel) rfl
theorem tw_440 : Cond.fieldLink "PromiseVatsModel" 85 "PromiseVatsModel" "losers" "[I" ∈ tb_ := tb_in 677 (by decide +kernel) rfl
theorem tw_441 : Cond.fieldLink "PromiseVatsModel" 82 "PromiseVatsModel" "back" "[S" ∈ tb_ := tb_in 675 (by decide +kernel) rfl
theorem tw_442 : Cond.fieldLink "PromiseVatsModel" 79 "PromiseVatsModel" "carry" "[S" ∈ tb_ := tb_in 674 (by decide +kernel) rfl
theorem tw_443 : Cond.fieldLink "PromiseVatsModel" 76 "PromiseVatsModel" "load" "[I" ∈ tb_ := tb_in 673 (by decide +kernel) rfl
theorem tw_444 : Cond.fieldLink "PromiseVatsModel" 72 "PromiseVatsModel" "about" "[S" ∈ tb_ := tb_in 672 (by decide +kernel) rfl
theorem tw_445 : Cond.fieldLink "PromiseVatsModel" 69 "PromiseVatsModel" "head" "[B" ∈ tb_ := tb_in 671 (by decide +kernel) rfl
theorem tw_446 : Cond.fieldLink "PromiseVatsModel" 66 "PromiseVatsModel" "answe\x72" "[I" ∈ tb_ := tb_in 669 (by decide +kernel) rfl
theorem tw_447 : Cond.fieldLink "PromiseVatsModel" 63 "PromiseVatsModel" "argument" "[I" ∈ tb_ := tb_in 668 (by decide +kernel) rfl
theorem tw_448 : Cond.fieldLink "PromiseVatsModel" 60 "PromiseVatsModel" "value" "[I" ∈ tb_ := tb_in 667 (by decide +kernel) rfl
theorem tw_449 : Cond.fieldLink "PromiseVatsModel" 57 "PromiseVatsModel" "target" "[I" ∈ tb_ := tb_in 666 (by decide +kernel) rfl
theorem tw_450 : Cond.fieldLink "PromiseVatsModel" 54 "PromiseVatsModel" "place" "[I" ∈ tb_ := tb_in 665 (by decide +kernel) rfl
theorem tw_451 : Cond.fieldLink "PromiseVatsModel" 51 "PromiseVatsModel" "owed" "[I" ∈ tb_ := tb_in 663 (by decide +kernel) rfl
theorem tw_452 : Cond.fieldLink "PromiseVatsModel" 48 "PromiseVatsModel" "imports" "[I" ∈ tb_ := tb_in 662 (by decide +kernel) rfl
theorem tw_453 : Cond.fieldLink "PromiseVatsModel" 45 "PromiseVatsModel" "exports" "[I" ∈ tb_ := tb_in 661 (by decide +kernel) rfl
theorem tw_454 : Cond.fieldLink "PromiseVatsModel" 42 "PromiseVatsModel" "slots" "[I" ∈ tb_ := tb_in 659 (by decide +kernel) rfl
theorem tw_455 : Cond.fieldLink "PromiseVatsModel" 39 "PromiseVatsModel" "numbers" "[I" ∈ tb_ := tb_in 658 (by decide +kernel) rfl
theorem tw_456 : Cond.fieldLink "PromiseVatsModel" 36 "PromiseVatsModel" "programs" "[B" ∈ tb_ := tb_in 657 (by decide +kernel) rfl
theorem tw_457 : Cond.fieldLink "PromiseVatsModel" 33 "PromiseVatsModel" "reached" "[Z" ∈ tb_ := tb_in 656 (by decide +kernel) rfl
theorem tw_458 : Cond.fieldLink "PromiseVatsModel" 30 "PromiseVatsModel" "to" "[I" ∈ tb_ := tb_in 655 (by decide +kernel) rfl
theorem tw_459 : Cond.fieldLink "PromiseVatsModel" 27 "PromiseVatsModel" "settled" "[Z" ∈ tb_ := tb_in 654 (by decide +kernel) rfl
theorem tw_460 : Cond.fieldLink "PromiseVatsModel" 23 "PromiseVatsModel" "gone" "[Z" ∈ tb_ := tb_in 653 (by decide +kernel) rfl
theorem tw_461 : Cond.fieldLink "PromiseVatsModel" 19 "PromiseVatsModel" "home" "[B" ∈ tb_ := tb_in 652 (by decide +kernel) rfl
theorem tw_462 : Cond.fieldLink "PromiseVatsModel" 16 "PromiseVatsModel" "args" "[I" ∈ tb_ := tb_in 651 (by decide +kernel) rfl
theorem tw_463 : Cond.fieldLink "PromiseVatsModel" 13 "PromiseVatsModel" "ops" "[I" ∈ tb_ := tb_in 650 (by decide +kernel) rfl
theorem tw_464 : Cond.fieldLink "PromiseVatsModel" 7 "PromiseVatsModel" "sizes" "[I" ∈ tb_ := tb_in 649 (by decide +kernel) rfl
theorem tw_465 : Cond.methodLink "PromiseVatsModel" 1 objectInit ∈ tb_ := tb_in 645 (by decide +kernel) rfl
theorem tw_466 : Cond.fieldLink "PromiseVatsModel" 94 "PromiseVatsModel" "vats" "I" ∈ tb_ := tb_in 646 (by decide +kernel) rfl
theorem tw_467 : Cond.fieldLink "PromiseVatsModel" 98 "PromiseVatsModel" "objects" "I" ∈ tb_ := tb_in 647 (by decide +kernel) rfl
theorem tw_468 : Cond.fieldLink "PromiseVatsModel" 108 "PromiseVatsModel" "mails" "I" ∈ tb_ := tb_in 670 (by decide +kernel) rfl
theorem tw_469 : Cond.initialized "PromiseVatsModel" ∈ tb_ := tb_in 12 (by decide +kernel) rfl
theorem tw_470 : Cond.code ⟨"PromiseVatsModel", "post", "(IIIIII)V"⟩ prog_12_method_7_code 7 (Option.none : Option FieldType) ∈ tb_ := tb_in 789 (by decide +kernel) rfl
theorem tw_471 : Cond.methodLink "PromiseVatsModel" 111 ⟨"PromiseVatsModel", "post", "(IIIIII)V"⟩ ∈ tb_ := tb_in 786 (by decide +kernel) rfl
theorem tw_472 : Cond.instanceMethod ⟨"PromiseVatsModel", "post", "(IIIIII)V"⟩ ∈ tb_ := tb_in 788 (by decide +kernel) rfl
theorem tw_473 : Cond.selects "PromiseVatsModel" ⟨"PromiseVatsModel", "post", "(IIIIII)V"⟩ ⟨"PromiseVatsModel", "post", "(IIIIII)V"⟩ ∈ tb_ := tb_se 31 (by decide +kernel) rfl
theorem tw_474 : Cond.fieldLink "PromiseVatsModel" 144 "PromiseVatsModel" "resting" "I" ∈ tb_ := tb_in 664 (by decide +kernel) rfl
theorem tw_475 : Cond.code ⟨"PromiseVatsModel", "passes", "(II)Z"⟩ prog_12_method_16_code 3 (Option.some FieldType.boolean) ∈ tb_ := tb_in 797 (by decide +kernel) rfl
theorem tw_476 : Cond.methodLink "PromiseVatsModel" 147 ⟨"PromiseVatsModel", "passes", "(II)Z"⟩ ∈ tb_ := tb_in 794 (by decide +kernel) rfl
theorem tw_477 : Cond.instanceMethod ⟨"PromiseVatsModel", "passes", "(II)Z"⟩ ∈ tb_ := tb_in 796 (by decide +kernel) rfl
theorem tw_478 : Cond.selects "PromiseVatsModel" ⟨"PromiseVatsModel", "passes", "(II)Z"⟩ ⟨"PromiseVatsModel", "passes", "(II)Z"⟩ ∈ tb_ := tb_se 33 (by decide +kernel) rfl
theorem tw_479 : Cond.code ⟨"PromiseVatsModel", "waits", "(I)I"⟩ prog_12_method_17_code 4 (Option.some FieldType.int) ∈ tb_ := tb_in 801 (by decide +kernel) rfl
theorem tw_480 : Cond.methodLink "PromiseVatsModel" 151 ⟨"PromiseVatsModel", "waits", "(I)I"⟩ ∈ tb_ := tb_in 798 (by decide +kernel) rfl
theorem tw_481 : Cond.instanceMethod ⟨"PromiseVatsModel", "waits", "(I)I"⟩ ∈ tb_ := tb_in 800 (by decide +kernel) rfl
theorem tw_482 : Cond.selects "PromiseVatsModel" ⟨"PromiseVatsModel", "waits", "(I)I"⟩ ⟨"PromiseVatsModel", "waits", "(I)I"⟩ ∈ tb_ := tb_se 34 (by decide +kernel) rfl
theorem tw_483 : Cond.code ⟨"PromiseVatsModel", "pack", "(III)V"⟩ prog_12_method_8_code 5 (Option.none : Option FieldType) ∈ tb_ := tb_in 805 (by decide +kernel) rfl
theorem tw_484 : Cond.methodLink "PromiseVatsModel" 157 ⟨"PromiseVatsModel", "pack", "(III)V"⟩ ∈ tb_ := tb_in 802 (by decide +kernel) rfl
theorem tw_485 : Cond.instanceMethod ⟨"PromiseVatsModel", "pack", "(III)V"⟩ ∈ tb_ := tb_in 804 (by decide +kernel) rfl
theorem tw_486 : Cond.selects "PromiseVatsModel" ⟨"PromiseVatsModel", "pack", "(III)V"⟩ ⟨"PromiseVatsModel", "pack", "(III)V"⟩ ∈ tb_ := tb_se 35 (by decide +kernel) rfl
theorem tw_487 : Cond.code ⟨"PromiseVatsModel", "rest", "(IIIII)V"⟩ prog_12_method_14_code 6 (Option.none : Option FieldType) ∈ tb_ := tb_in 809 (by decide +kernel) rfl
theorem tw_488 : Cond.methodLink "PromiseVatsModel" 160 ⟨"PromiseVatsModel", "rest", "(IIIII)V"⟩ ∈ tb_ := tb_in 806 (by decide +kernel) rfl
theorem tw_489 : Cond.instanceMethod ⟨"PromiseVatsModel", "rest", "(IIIII)V"⟩ ∈ tb_ := tb_in 808 (by decide +kernel) rfl
theorem tw_490 : Cond.selects "PromiseVatsModel" ⟨"PromiseVatsModel", "rest", "(IIIII)V"⟩ ⟨"PromiseVatsModel", "rest", "(IIIII)V"⟩ ∈ tb_ := tb_se 36 (by decide +kernel) rfl
theorem tw_491 : Cond.fieldLink "PromiseVatsModel" 154 "PromiseVatsModel" "lost" "I" ∈ tb_ := tb_in 676 (by decide +kernel) rfl
theorem tw_492 : Cond.code ⟨"PromiseVatsModel", "go", "(IIIII)V"⟩ prog_12_method_18_code 8 (Option.none : Option FieldType) ∈ tb_ := tb_in 793 (by decide +kernel) rfl
theorem tw_493 : Cond.methodLink "PromiseVatsModel" 130 ⟨"PromiseVatsModel", "go", "(IIIII)V"⟩ ∈ tb_ := tb_in 790 (by decide +kernel) rfl
theorem tw_494 : Cond.instanceMethod ⟨"PromiseVatsModel", "go", "(IIIII)V"⟩ ∈ tb_ := tb_in 792 (by decide +kernel) rfl
theorem tw_495 : Cond.selects "PromiseVatsModel" ⟨"PromiseVatsModel", "go", "(IIIII)V"⟩ ⟨"PromiseVatsModel", "go", "(IIIII)V"⟩ ∈ tb_ := tb_se 32 (by decide +kernel) rfl
theorem tw_496 : Cond.code ⟨"PromiseVatsModel", "unrest", "(I)V"⟩ prog_12_method_15_code 3 (Option.none : Option FieldType) ∈ tb_ := tb_in 817 (by decide +kernel) rfl
theorem tw_497 : Cond.methodLink "PromiseVatsModel" 163 ⟨"PromiseVatsModel", "unrest", "(I)V"⟩ ∈ tb_ := tb_in 814 (by decide +kernel) rfl
theorem tw_498 : Cond.instanceMethod ⟨"PromiseVatsModel", "unrest", "(I)V"⟩ ∈ tb_ := tb_in 816 (by decide +kernel) rfl
theorem tw_499 : Cond.selects "PromiseVatsModel" ⟨"PromiseVatsModel", "unrest", "(I)V"⟩ ⟨"PromiseVatsModel", "unrest", "(I)V"⟩ ∈ tb_ := tb_se 38 (by decide +kernel) rfl
theorem tw_500 : Cond.code ⟨"PromiseVatsModel", "settle", "(III)V"⟩ prog_12_method_19_code 9 (Option.none : Option FieldType) ∈ tb_ := tb_in 813 (by decide +kernel) rfl
theorem tw_501 : Cond.methodLink "PromiseVatsModel" 134 ⟨"PromiseVatsModel", "settle", "(III)V"⟩ ∈ tb_ := tb_in 810 (by decide +kernel) rfl
theorem tw_502 : Cond.instanceMethod ⟨"PromiseVatsModel", "settle", "(III)V"⟩ ∈ tb_ := tb_in 812 (by decide +kernel) rfl
theorem tw_503 : Cond.selects "PromiseVatsModel" ⟨"PromiseVatsModel", "settle", "(III)V"⟩ ⟨"PromiseVatsModel", "settle", "(III)V"⟩ ∈ tb_ := tb_se 37 (by decide +kernel) rfl
theorem tw_504 : Cond.code ⟨"PromiseVatsModel", "unpack", "(III)V"⟩ prog_12_method_9_code 4 (Option.none : Option FieldType) ∈ tb_ := tb_in 785 (by decide +kernel) rfl
theorem tw_505 : Cond.methodLink "PromiseVatsModel" 126 ⟨"PromiseVatsModel", "unpack", "(III)V"⟩ ∈ tb_ := tb_in 782 (by decide +kernel) rfl
theorem tw_506 : Cond.instanceMethod ⟨"PromiseVatsModel", "unpack", "(III)V"⟩ ∈ tb_ := tb_in 784 (by decide +kernel) rfl
theorem tw_507 : Cond.selects "PromiseVatsModel" ⟨"PromiseVatsModel", "unpack", "(III)V"⟩ ⟨"PromiseVatsModel", "unpack", "(III)V"⟩ ∈ tb_ := tb_se 30 (by decide +kernel) rfl
theorem tw_508 : Cond.code ⟨"PromiseVatsModel", "unmail", "(I)V"⟩ prog_12_method_12_code 3 (Option.none : Option FieldType) ∈ tb_ := tb_in 781 (by decide +kernel) rfl
theorem tw_509 : Cond.methodLink "PromiseVatsModel" 122 ⟨"PromiseVatsModel", "unmail", "(I)V"⟩ ∈ tb_ := tb_in 778 (by decide +kernel) rfl
theorem tw_510 : Cond.instanceMethod ⟨"PromiseVatsModel", "unmail", "(I)V"⟩ ∈ tb_ := tb_in 780 (by decide +kernel) rfl
theorem tw_511 : Cond.selects "PromiseVatsModel" ⟨"PromiseVatsModel", "unmail", "(I)V"⟩ ⟨"PromiseVatsModel", "unmail", "(I)V"⟩ ∈ tb_ := tb_se 29 (by decide +kernel) rfl
theorem tw_512 : Cond.code ⟨"PromiseVatsModel", "oldest", "(I)I"⟩ prog_12_method_11_code 3 (Option.some FieldType.int) ∈ tb_ := tb_in 777 (by decide +kernel) rfl
theorem tw_513 : Cond.methodLink "PromiseVatsModel" 118 ⟨"PromiseVatsModel", "oldest", "(I)I"⟩ ∈ tb_ := tb_in 774 (by decide +kernel) rfl
theorem tw_514 : Cond.instanceMethod ⟨"PromiseVatsModel", "oldest", "(I)I"⟩ ∈ tb_ := tb_in 776 (by decide +kernel) rfl
theorem tw_515 : Cond.selects "PromiseVatsModel" ⟨"PromiseVatsModel", "oldest", "(I)I"⟩ ⟨"PromiseVatsModel", "oldest", "(I)I"⟩ ∈ tb_ := tb_se 28 (by decide +kernel) rfl
theorem tw_516 : Cond.code ⟨"PromiseVatsModel", "vat", "(I)Z"⟩ prog_12_method_2_code 2 (Option.some FieldType.boolean) ∈ tb_ := tb_in 773 (by decide +kernel) rfl
theorem tw_517 : Cond.methodLink "PromiseVatsModel" 115 ⟨"PromiseVatsModel", "vat", "(I)Z"⟩ ∈ tb_ := tb_in 770 (by decide +kernel) rfl
theorem tw_518 : Cond.instanceMethod ⟨"PromiseVatsModel", "vat", "(I)Z"⟩ ∈ tb_ := tb_in 772 (by decide +kernel) rfl
theorem tw_519 : Cond.selects "PromiseVatsModel" ⟨"PromiseVatsModel", "vat", "(I)Z"⟩ ⟨"PromiseVatsModel", "vat", "(I)Z"⟩ ∈ tb_ := tb_se 27 (by decide +kernel) rfl
theorem tw_520 : Cond.code ⟨"PromiseVatsModel", "pai\x72", "(IIII)V"⟩ prog_12_method_10_code 7 (Option.none : Option FieldType) ∈ tb_ := tb_in 821 (by decide +kernel) rfl
theorem tw_521 : Cond.methodLink "PromiseVatsModel" 137 ⟨"PromiseVatsModel", "pai\x72", "(IIII)V"⟩ ∈ tb_ := tb_in 818 (by decide +kernel) rfl
theorem tw_522 : Cond.instanceMethod ⟨"PromiseVatsModel", "pai\x72", "(IIII)V"⟩ ∈ tb_ := tb_in 820 (by decide +kernel) rfl
theorem tw_523 : Cond.selects "PromiseVatsModel" ⟨"PromiseVatsModel", "pai\x72", "(IIII)V"⟩ ⟨"PromiseVatsModel", "pai\x72", "(IIII)V"⟩ ∈ tb_ := tb_se 39 (by decide +kernel) rfl
theorem tw_524 : Cond.code ⟨"PromiseVatsModel", "mourn", "(I)V"⟩ prog_12_method_20_code 3 (Option.none : Option FieldType) ∈ tb_ := tb_in 825 (by decide +kernel) rfl
theorem tw_525 : Cond.methodLink "PromiseVatsModel" 141 ⟨"PromiseVatsModel", "mourn", "(I)V"⟩ ∈ tb_ := tb_in 822 (by decide +kernel) rfl
theorem tw_526 : Cond.instanceMethod ⟨"PromiseVatsModel", "mourn", "(I)V"⟩ ∈ tb_ := tb_in 824 (by decide +kernel) rfl
theorem tw_527 : Cond.selects "PromiseVatsModel" ⟨"PromiseVatsModel", "mourn", "(I)V"⟩ ⟨"PromiseVatsModel", "mourn", "(I)V"⟩ ∈ tb_ := tb_se 40 (by decide +kernel) rfl
theorem tw_528 : Cond.code ⟨"PromiseVatsModel", "inbox", "(I)I"⟩ prog_12_method_22_code 4 (Option.some FieldType.int) ∈ tb_ := tb_in 833 (by decide +kernel) rfl
theorem tw_529 : Cond.methodLink "PromiseVatsModel" 166 ⟨"PromiseVatsModel", "inbox", "(I)I"⟩ ∈ tb_ := tb_in 838 (by decide +kernel) rfl
theorem tw_530 : Cond.instanceMethod ⟨"PromiseVatsModel", "inbox", "(I)I"⟩ ∈ tb_ := tb_in 831 (by decide +kernel) rfl
theorem tw_531 : Cond.selects "PromiseVatsModel" ⟨"PromiseVatsModel", "inbox", "(I)I"⟩ ⟨"PromiseVatsModel", "inbox", "(I)I"⟩ ∈ tb_ := tb_in 832 (by decide +kernel) rfl
theorem tw_532 : Cond.fieldLink "PromiseVatsModel" 172 "PromiseVatsModel" "\x72" "I" ∈ tb_ := tb_in 681 (by decide +kernel) rfl
theorem tw_533 : Cond.fieldLink "PromiseVatsModel" 169 "PromiseVatsModel" "v" "I" ∈ tb_ := tb_in 680 (by decide +kernel) rfl
theorem tw_534 : Cond.fieldLink "PromiseVatsModel" 101 "PromiseVatsModel" "promises" "I" ∈ tb_ := tb_in 648 (by decide +kernel) rfl
theorem tw_535 : Cond.code ⟨"PromiseVatsModel", "fresh", "(II)I"⟩ prog_12_method_24_code 3 (Option.some FieldType.int) ∈ tb_ := tb_in 850 (by decide +kernel) rfl
theorem tw_536 : Cond.methodLink "PromiseVatsModel" 175 ⟨"PromiseVatsModel", "fresh", "(II)I"⟩ ∈ tb_ := tb_in 847 (by decide +kernel) rfl
theorem tw_537 : Cond.instanceMethod ⟨"PromiseVatsModel", "fresh", "(II)I"⟩ ∈ tb_ := tb_in 849 (by decide +kernel) rfl
theorem tw_538 : Cond.selects "PromiseVatsModel" ⟨"PromiseVatsModel", "fresh", "(II)I"⟩ ⟨"PromiseVatsModel", "fresh", "(II)I"⟩ ∈ tb_ := tb_se 42 (by decide +kernel) rfl
theorem tw_539 : Cond.code ⟨"PromiseVatsModel", "send", "(II)I"⟩ prog_12_method_25_code 5 (Option.some FieldType.int) ∈ tb_ := tb_in 854 (by decide +kernel) rfl
theorem tw_540 : Cond.methodLink "PromiseVatsModel" 179 ⟨"PromiseVatsModel", "send", "(II)I"⟩ ∈ tb_ := tb_in 851 (by decide +kernel) rfl
theorem tw_541 : Cond.instanceMethod ⟨"PromiseVatsModel", "send", "(II)I"⟩ ∈ tb_ := tb_in 853 (by decide +kernel) rfl
theorem tw_542 : Cond.selects "PromiseVatsModel" ⟨"PromiseVatsModel", "send", "(II)I"⟩ ⟨"PromiseVatsModel", "send", "(II)I"⟩ ∈ tb_ := tb_se 43 (by decide +kernel) rfl
theorem tw_543 : Cond.code ⟨"PromiseVatsModel", "put", "(I)V"⟩ prog_12_method_26_code 2 (Option.none : Option FieldType) ∈ tb_ := tb_in 858 (by decide +kernel) rfl
theorem tw_544 : Cond.methodLink "PromiseVatsModel" 182 ⟨"PromiseVatsModel", "put", "(I)V"⟩ ∈ tb_ := tb_in 855 (by decide +kernel) rfl
theorem tw_545 : Cond.instanceMethod ⟨"PromiseVatsModel", "put", "(I)V"⟩ ∈ tb_ := tb_in 857 (by decide +kernel) rfl
theorem tw_546 : Cond.selects "PromiseVatsModel" ⟨"PromiseVatsModel", "put", "(I)V"⟩ ⟨"PromiseVatsModel", "put", "(I)V"⟩ ∈ tb_ := tb_se 44 (by decide +kernel) rfl
theorem tw_547 : Cond.code ⟨"PromiseVatsModel", "act", "(IIII)I"⟩ prog_12_method_27_code 5 (Option.some FieldType.int) ∈ tb_ := tb_in 846 (by decide +kernel) rfl
theorem tw_548 : Cond.methodLink "PromiseVatsModel" 185 ⟨"PromiseVatsModel", "act", "(IIII)I"⟩ ∈ tb_ := tb_in 843 (by decide +kernel) rfl
theorem tw_549 : Cond.instanceMethod ⟨"PromiseVatsModel", "act", "(IIII)I"⟩ ∈ tb_ := tb_in 845 (by decide +kernel) rfl
theorem tw_550 : Cond.selects "PromiseVatsModel" ⟨"PromiseVatsModel", "act", "(IIII)I"⟩ ⟨"PromiseVatsModel", "act", "(IIII)I"⟩ ∈ tb_ := tb_se 41 (by decide +kernel) rfl
theorem tw_551 : Cond.code ⟨"PromiseVatsModel", "made", "(I)Z"⟩ prog_12_method_3_code 2 (Option.some FieldType.boolean) ∈ tb_ := tb_in 870 (by decide +kernel) rfl
theorem tw_552 : Cond.methodLink "PromiseVatsModel" 104 ⟨"PromiseVatsModel", "made", "(I)Z"⟩ ∈ tb_ := tb_in 867 (by decide +kernel) rfl
theorem tw_553 : Cond.instanceMethod ⟨"PromiseVatsModel", "made", "(I)Z"⟩ ∈ tb_ := tb_in 869 (by decide +kernel) rfl
theorem tw_554 : Cond.selects "PromiseVatsModel" ⟨"PromiseVatsModel", "made", "(I)Z"⟩ ⟨"PromiseVatsModel", "made", "(I)Z"⟩ ∈ tb_ := tb_se 46 (by decide +kernel) rfl
theorem tw_555 : Cond.fieldLink "PromiseVatsModel" 189 "PromiseVatsModel" "marked" "Z" ∈ tb_ := tb_in 660 (by decide +kernel) rfl
theorem tw_556 : Cond.code ⟨"PromiseVatsModel", "lives", "(I)Z"⟩ prog_12_method_4_code 2 (Option.some FieldType.boolean) ∈ tb_ := tb_in 866 (by decide +kernel) rfl
theorem tw_557 : Cond.methodLink "PromiseVatsModel" 193 ⟨"PromiseVatsModel", "lives", "(I)Z"⟩ ∈ tb_ := tb_in 863 (by decide +kernel) rfl
theorem tw_558 : Cond.instanceMethod ⟨"PromiseVatsModel", "lives", "(I)Z"⟩ ∈ tb_ := tb_in 865 (by decide +kernel) rfl
theorem tw_559 : Cond.selects "PromiseVatsModel" ⟨"PromiseVatsModel", "lives", "(I)Z"⟩ ⟨"PromiseVatsModel", "lives", "(I)Z"⟩ ∈ tb_ := tb_se 45 (by decide +kernel) rfl
theorem tw_560 : Cond.code ⟨"PromiseVatsModel", "mark", "(I)V"⟩ prog_12_method_29_code 2 (Option.none : Option FieldType) ∈ tb_ := tb_in 878 (by decide +kernel) rfl
theorem tw_561 : Cond.methodLink "PromiseVatsModel" 196 ⟨"PromiseVatsModel", "mark", "(I)V"⟩ ∈ tb_ := tb_in 875 (by decide +kernel) rfl
theorem tw_562 : Cond.instanceMethod ⟨"PromiseVatsModel", "mark", "(I)V"⟩ ∈ tb_ := tb_in 877 (by decide +kernel) rfl
theorem tw_563 : Cond.selects "PromiseVatsModel" ⟨"PromiseVatsModel", "mark", "(I)V"⟩ ⟨"PromiseVatsModel", "mark", "(I)V"⟩ ∈ tb_ := tb_se 48 (by decide +kernel) rfl
theorem tw_564 : Cond.code ⟨"PromiseVatsModel", "rooted", "(II)Z"⟩ prog_12_method_30_code 5 (Option.some FieldType.boolean) ∈ tb_ := tb_in 874 (by decide +kernel) rfl
theorem tw_565 : Cond.methodLink "PromiseVatsModel" 199 ⟨"PromiseVatsModel", "rooted", "(II)Z"⟩ ∈ tb_ := tb_in 871 (by decide +kernel) rfl
theorem tw_566 : Cond.instanceMethod ⟨"PromiseVatsModel", "rooted", "(II)Z"⟩ ∈ tb_ := tb_in 873 (by decide +kernel) rfl
theorem tw_567 : Cond.selects "PromiseVatsModel" ⟨"PromiseVatsModel", "rooted", "(II)Z"⟩ ⟨"PromiseVatsModel", "rooted", "(II)Z"⟩ ∈ tb_ := tb_se 47 (by decide +kernel) rfl
theorem tw_568 : Cond.code ⟨"PromiseVatsModel", "spread", "(I)V"⟩ prog_12_method_31_code 4 (Option.none : Option FieldType) ∈ tb_ := tb_in 882 (by decide +kernel) rfl
theorem tw_569 : Cond.methodLink "PromiseVatsModel" 202 ⟨"PromiseVatsModel", "spread", "(I)V"⟩ ∈ tb_ := tb_in 879 (by decide +kernel) rfl
theorem tw_570 : Cond.instanceMethod ⟨"PromiseVatsModel", "spread", "(I)V"⟩ ∈ tb_ := tb_in 881 (by decide +kernel) rfl
theorem tw_571 : Cond.selects "PromiseVatsModel" ⟨"PromiseVatsModel", "spread", "(I)V"⟩ ⟨"PromiseVatsModel", "spread", "(I)V"⟩ ∈ tb_ := tb_se 49 (by decide +kernel) rfl
theorem tw_572 : Cond.code ⟨"PromiseVatsModel", "counts", "(III)Z"⟩ prog_12_method_34_code 4 (Option.some FieldType.boolean) ∈ tb_ := tb_in 894 (by decide +kernel) rfl
theorem tw_573 : Cond.methodLink "PromiseVatsModel" 205 ⟨"PromiseVatsModel", "counts", "(III)Z"⟩ ∈ tb_ := tb_in 891 (by decide +kernel) rfl
theorem tw_574 : Cond.instanceMethod ⟨"PromiseVatsModel", "counts", "(III)Z"⟩ ∈ tb_ := tb_in 893 (by decide +kernel) rfl
theorem tw_575 : Cond.selects "PromiseVatsModel" ⟨"PromiseVatsModel", "counts", "(III)Z"⟩ ⟨"PromiseVatsModel", "counts", "(III)Z"⟩ ∈ tb_ := tb_se 50 (by decide +kernel) rfl
theorem ff_2_0 : ff_ cl_ tb_ [2] 0 "PromiseVats$Program" "ops" "[I" true := ff_1 cf_2 (by decide) rfl
theorem ff_2_1 : ff_ cl_ tb_ [2] 1 "PromiseVats$Program" "xs" "[I" true := ff_1 cf_2 (by decide) rfl
theorem ff_3_4_7 : ff_ cl_ tb_ [3, 4] 7 "PromiseVats$Entity" "exports" "[I" true := ff_c cf_3 (by decide) rfl (ff_1 cf_4 (by decide) rfl)
theorem ff_3_4_8 : ff_ cl_ tb_ [3, 4] 8 "PromiseVats$Entity" "imports" "[I" true := ff_c cf_3 (by decide) rfl (ff_1 cf_4 (by decide) rfl)
theorem ff_3_4_9 : ff_ cl_ tb_ [3, 4] 9 "PromiseVats$Entity" "gifts" "[I" true := ff_c cf_3 (by decide) rfl (ff_1 cf_4 (by decide) rfl)
theorem ff_3_4_3 : ff_ cl_ tb_ [3, 4] 3 "PromiseVats$Entity" "id" "I" true := ff_c cf_3 (by decide) rfl (ff_1 cf_4 (by decide) rfl)
theorem ff_3_4_4 : ff_ cl_ tb_ [3, 4] 4 "PromiseVats$Entity" "home" "I" true := ff_c cf_3 (by decide) rfl (ff_1 cf_4 (by decide) rfl)
theorem ff_3_2 : ff_ cl_ tb_ [3] 2 "PromiseVats$VatObject" "slots" "[LPromiseVats$Entity;" true := ff_1 cf_3 (by decide) rfl
theorem ff_3_0 : ff_ cl_ tb_ [3] 0 "PromiseVats$VatObject" "program" "I" true := ff_1 cf_3 (by decide) rfl
theorem ff_6_2 : ff_ cl_ tb_ [6] 2 "java/util/AbstractList" "modCount" "I" false := ff_1 cf_6 (by decide) rfl
theorem ff_6_0 : ff_ cl_ tb_ [6] 0 "java/util/ArrayList" "elementData" "[Ljava/lang/Object;" false := ff_1 cf_6 (by decide) rfl
theorem ff_7_0 : ff_ cl_ tb_ [7] 0 "PromiseVats$Channel" "messages" "Ljava/util/ArrayList;" true := ff_1 cf_7 (by decide) rfl
theorem ff_5_1 : ff_ cl_ tb_ [5] 1 "PromiseVats$Vat" "calls" "Ljava/util/ArrayList;" true := ff_1 cf_5 (by decide) rfl
theorem ff_5_3 : ff_ cl_ tb_ [5] 3 "PromiseVats$Vat" "latest" "[I" true := ff_1 cf_5 (by decide) rfl
theorem ff_5_0 : ff_ cl_ tb_ [5] 0 "PromiseVats$Vat" "root" "LPromiseVats$VatObject;" true := ff_1 cf_5 (by decide) rfl
theorem ff_5_2 : ff_ cl_ tb_ [5] 2 "PromiseVats$Vat" "channels" "[LPromiseVats$Channel;" true := ff_1 cf_5 (by decide) rfl
theorem ff_0_0 : ff_ cl_ tb_ [0] 0 "PromiseVats" "vats" "[LPromiseVats$Vat;" true := ff_1 cf_0 (by decide) rfl
theorem ff_0_1 : ff_ cl_ tb_ [0] 1 "PromiseVats" "programs" "[LPromiseVats$Program;" true := ff_1 cf_0 (by decide) rfl
theorem ff_0_2 : ff_ cl_ tb_ [0] 2 "PromiseVats" "entities" "[LPromiseVats$Entity;" true := ff_1 cf_0 (by decide) rfl
theorem ff_0_5 : ff_ cl_ tb_ [0] 5 "PromiseVats" "running" "LPromiseVats$Turn;" true := ff_1 cf_0 (by decide) rfl
theorem ff_0_6 : ff_ cl_ tb_ [0] 6 "PromiseVats" "lost" "[LPromiseVats$Promise;" true := ff_1 cf_0 (by decide) rfl
theorem ff_0_8 : ff_ cl_ tb_ [0] 8 "PromiseVats" "found" "[LPromiseVats$Entity;" true := ff_1 cf_0 (by decide) rfl
theorem ff_0_3 : ff_ cl_ tb_ [0] 3 "PromiseVats" "objectsMade" "I" false := ff_1 cf_0 (by decide) rfl
theorem ff_2_2 : ff_ cl_ tb_ [2] 2 "PromiseVats$Program" "length" "I" false := ff_1 cf_2 (by decide) rfl
theorem ff_3_7 : ff_ cl_ tb_ [3] 7 "PromiseVats$Entity" "exports" "[I" true := ff_1 cf_3 (by decide) rfl
theorem ff_3_8 : ff_ cl_ tb_ [3] 8 "PromiseVats$Entity" "imports" "[I" true := ff_1 cf_3 (by decide) rfl
theorem ff_6_1 : ff_ cl_ tb_ [6] 1 "java/util/ArrayList" "size" "I" false := ff_1 cf_6 (by decide) rfl
theorem ff_8_0 : ff_ cl_ tb_ [8] 0 "PromiseVats$Call" "target" "LPromiseVats$Entity;" false := ff_1 cf_8 (by decide) rfl
theorem ff_8_1 : ff_ cl_ tb_ [8] 1 "PromiseVats$Call" "value" "I" true := ff_1 cf_8 (by decide) rfl
theorem ff_8_2 : ff_ cl_ tb_ [8] 2 "PromiseVats$Call" "argument" "LPromiseVats$Entity;" true := ff_1 cf_8 (by decide) rfl
theorem ff_8_3 : ff_ cl_ tb_ [8] 3 "PromiseVats$Call" "answe\x72" "LPromiseVats$Promise;" true := ff_1 cf_8 (by decide) rfl
theorem ff_0_7 : ff_ cl_ tb_ [0] 7 "PromiseVats" "lostCount" "I" false := ff_1 cf_0 (by decide) rfl
theorem ff_4_2 : ff_ cl_ tb_ [4] 2 "PromiseVats$Promise" "waiting" "Ljava/util/ArrayList;" true := ff_1 cf_4 (by decide) rfl
theorem ff_9_0 : ff_ cl_ tb_ [9] 0 "PromiseVats$Message" "kind" "I" true := ff_1 cf_9 (by decide) rfl
theorem ff_9_1 : ff_ cl_ tb_ [9] 1 "PromiseVats$Message" "subject" "LPromiseVats$Entity;" true := ff_1 cf_9 (by decide) rfl
theorem ff_9_2 : ff_ cl_ tb_ [9] 2 "PromiseVats$Message" "argument" "LPromiseVats$Entity;" true := ff_1 cf_9 (by decide) rfl
theorem ff_9_3 : ff_ cl_ tb_ [9] 3 "PromiseVats$Message" "amount" "I" true := ff_1 cf_9 (by decide) rfl
theorem ff_9_4 : ff_ cl_ tb_ [9] 4 "PromiseVats$Message" "call" "LPromiseVats$Call;" false := ff_1 cf_9 (by decide) rfl
theorem ff_4_0 : ff_ cl_ tb_ [4] 0 "PromiseVats$Promise" "open" "Z" false := ff_1 cf_4 (by decide) rfl
theorem ff_4_1 : ff_ cl_ tb_ [4] 1 "PromiseVats$Promise" "outcome" "LPromiseVats$Entity;" false := ff_1 cf_4 (by decide) rfl
theorem ff_1_0 : ff_ cl_ tb_ [1] 0 "PromiseVats$Turn" "self" "LPromiseVats$VatObject;" false := ff_1 cf_1 (by decide) rfl
theorem ff_1_1 : ff_ cl_ tb_ [1] 1 "PromiseVats$Turn" "value" "I" false := ff_1 cf_1 (by decide) rfl
theorem ff_1_2 : ff_ cl_ tb_ [1] 2 "PromiseVats$Turn" "reference" "LPromiseVats$Entity;" false := ff_1 cf_1 (by decide) rfl
theorem ff_1_3 : ff_ cl_ tb_ [1] 3 "PromiseVats$Turn" "skips" "I" false := ff_1 cf_1 (by decide) rfl
theorem ff_3_4 : ff_ cl_ tb_ [3] 4 "PromiseVats$Entity" "home" "I" true := ff_1 cf_3 (by decide) rfl
theorem ff_3_1 : ff_ cl_ tb_ [3] 1 "PromiseVats$VatObject" "amount" "I" false := ff_1 cf_3 (by decide) rfl
theorem ff_3_3 : ff_ cl_ tb_ [3] 3 "PromiseVats$Entity" "id" "I" true := ff_1 cf_3 (by decide) rfl
theorem ff_0_4 : ff_ cl_ tb_ [0] 4 "PromiseVats" "promisesMade" "I" false := ff_1 cf_0 (by decide) rfl
theorem ff_4_3 : ff_ cl_ tb_ [4] 3 "PromiseVats$Entity" "id" "I" true := ff_1 cf_4 (by decide) rfl
theorem ff_4_7 : ff_ cl_ tb_ [4] 7 "PromiseVats$Entity" "exports" "[I" true := ff_1 cf_4 (by decide) rfl
theorem ff_4_8 : ff_ cl_ tb_ [4] 8 "PromiseVats$Entity" "imports" "[I" true := ff_1 cf_4 (by decide) rfl
theorem ff_5_4 : ff_ cl_ tb_ [5] 4 "PromiseVats$Vat" "outputs" "I" false := ff_1 cf_5 (by decide) rfl
theorem ff_4_4 : ff_ cl_ tb_ [4] 4 "PromiseVats$Entity" "home" "I" true := ff_1 cf_4 (by decide) rfl
theorem ff_4_5 : ff_ cl_ tb_ [4] 5 "PromiseVats$Entity" "freed" "Z" false := ff_1 cf_4 (by decide) rfl
theorem ff_3_4_6 : ff_ cl_ tb_ [3, 4] 6 "PromiseVats$Entity" "reached" "Z" false := ff_c cf_3 (by decide) rfl (ff_1 cf_4 (by decide) rfl)
theorem ff_0_9 : ff_ cl_ tb_ [0] 9 "PromiseVats" "foundCount" "I" false := ff_1 cf_0 (by decide) rfl
theorem ff_3_4_5 : ff_ cl_ tb_ [3, 4] 5 "PromiseVats$Entity" "freed" "Z" false := ff_c cf_3 (by decide) rfl (ff_1 cf_4 (by decide) rfl)
theorem ff_10_3 : ff_ cl_ tb_ [10] 3 "PromiseVatsModel" "sizes" "[I" true := ff_1 cf_10 (by decide) rfl
theorem ff_10_4 : ff_ cl_ tb_ [10] 4 "PromiseVatsModel" "ops" "[I" true := ff_1 cf_10 (by decide) rfl
theorem ff_10_5 : ff_ cl_ tb_ [10] 5 "PromiseVatsModel" "args" "[I" true := ff_1 cf_10 (by decide) rfl
theorem ff_10_6 : ff_ cl_ tb_ [10] 6 "PromiseVatsModel" "home" "[B" true := ff_1 cf_10 (by decide) rfl
theorem ff_10_7 : ff_ cl_ tb_ [10] 7 "PromiseVatsModel" "gone" "[Z" true := ff_1 cf_10 (by decide) rfl
theorem ff_10_8 : ff_ cl_ tb_ [10] 8 "PromiseVatsModel" "settled" "[Z" true := ff_1 cf_10 (by decide) rfl
theorem ff_10_9 : ff_ cl_ tb_ [10] 9 "PromiseVatsModel" "to" "[I" true := ff_1 cf_10 (by decide) rfl
theorem ff_10_10 : ff_ cl_ tb_ [10] 10 "PromiseVatsModel" "reached" "[Z" true := ff_1 cf_10 (by decide) rfl
theorem ff_10_11 : ff_ cl_ tb_ [10] 11 "PromiseVatsModel" "programs" "[B" true := ff_1 cf_10 (by decide) rfl
theorem ff_10_12 : ff_ cl_ tb_ [10] 12 "PromiseVatsModel" "numbers" "[I" true := ff_1 cf_10 (by decide) rfl
theorem ff_10_13 : ff_ cl_ tb_ [10] 13 "PromiseVatsModel" "slots" "[I" true := ff_1 cf_10 (by decide) rfl
theorem ff_10_15 : ff_ cl_ tb_ [10] 15 "PromiseVatsModel" "exports" "[I" true := ff_1 cf_10 (by decide) rfl
theorem ff_10_16 : ff_ cl_ tb_ [10] 16 "PromiseVatsModel" "imports" "[I" true := ff_1 cf_10 (by decide) rfl
theorem ff_10_17 : ff_ cl_ tb_ [10] 17 "PromiseVatsModel" "owed" "[I" true := ff_1 cf_10 (by decide) rfl
theorem ff_10_19 : ff_ cl_ tb_ [10] 19 "PromiseVatsModel" "place" "[I" true := ff_1 cf_10 (by decide) rfl
theorem ff_10_20 : ff_ cl_ tb_ [10] 20 "PromiseVatsModel" "target" "[I" true := ff_1 cf_10 (by decide) rfl
theorem ff_10_21 : ff_ cl_ tb_ [10] 21 "PromiseVatsModel" "value" "[I" true := ff_1 cf_10 (by decide) rfl
theorem ff_10_22 : ff_ cl_ tb_ [10] 22 "PromiseVatsModel" "argument" "[I" true := ff_1 cf_10 (by decide) rfl
theorem ff_10_23 : ff_ cl_ tb_ [10] 23 "PromiseVatsModel" "answe\x72" "[I" true := ff_1 cf_10 (by decide) rfl
theorem ff_10_25 : ff_ cl_ tb_ [10] 25 "PromiseVatsModel" "head" "[B" true := ff_1 cf_10 (by decide) rfl
theorem ff_10_26 : ff_ cl_ tb_ [10] 26 "PromiseVatsModel" "about" "[S" true := ff_1 cf_10 (by decide) rfl
theorem ff_10_27 : ff_ cl_ tb_ [10] 27 "PromiseVatsModel" "load" "[I" true := ff_1 cf_10 (by decide) rfl
theorem ff_10_28 : ff_ cl_ tb_ [10] 28 "PromiseVatsModel" "carry" "[S" true := ff_1 cf_10 (by decide) rfl
theorem ff_10_29 : ff_ cl_ tb_ [10] 29 "PromiseVatsModel" "back" "[S" true := ff_1 cf_10 (by decide) rfl
theorem ff_10_31 : ff_ cl_ tb_ [10] 31 "PromiseVatsModel" "losers" "[I" true := ff_1 cf_10 (by decide) rfl
theorem ff_10_32 : ff_ cl_ tb_ [10] 32 "PromiseVatsModel" "outs" "[I" true := ff_1 cf_10 (by decide) rfl
theorem ff_10_33 : ff_ cl_ tb_ [10] 33 "PromiseVatsModel" "out" "[I" true := ff_1 cf_10 (by decide) rfl
theorem ff_10_0 : ff_ cl_ tb_ [10] 0 "PromiseVatsModel" "vats" "I" true := ff_1 cf_10 (by decide) rfl
theorem ff_10_1 : ff_ cl_ tb_ [10] 1 "PromiseVatsModel" "objects" "I" false := ff_1 cf_10 (by decide) rfl
theorem ff_10_24 : ff_ cl_ tb_ [10] 24 "PromiseVatsModel" "mails" "I" false := ff_1 cf_10 (by decide) rfl
theorem ff_10_18 : ff_ cl_ tb_ [10] 18 "PromiseVatsModel" "resting" "I" false := ff_1 cf_10 (by decide) rfl
theorem ff_10_30 : ff_ cl_ tb_ [10] 30 "PromiseVatsModel" "lost" "I" false := ff_1 cf_10 (by decide) rfl
theorem ff_10_34 : ff_ cl_ tb_ [10] 34 "PromiseVatsModel" "v" "I" false := ff_1 cf_10 (by decide) rfl
theorem ff_10_35 : ff_ cl_ tb_ [10] 35 "PromiseVatsModel" "\x72" "I" false := ff_1 cf_10 (by decide) rfl
theorem ff_10_2 : ff_ cl_ tb_ [10] 2 "PromiseVatsModel" "promises" "I" false := ff_1 cf_10 (by decide) rfl
theorem ff_10_14 : ff_ cl_ tb_ [10] 14 "PromiseVatsModel" "marked" "Z" false := ff_1 cf_10 (by decide) rfl
theorem se_0 : ∀ ci ∈ ([0] : List Nat), ∃ q : vw_C, cl_[ci]? = some q ∧ Cond.selects q.1 ⟨"PromiseVats", "isVat", "(I)Z"⟩ ⟨"PromiseVats", "isVat", "(I)Z"⟩ ∈ tb_ := by
  intro ci h
  simp only [List.mem_cons, List.not_mem_nil, or_false] at h
  rcases h with rfl
  · exact ⟨_, rfl, tw_113⟩
theorem se_1 : ∀ ci ∈ ([6] : List Nat), ∃ q : vw_C, cl_[ci]? = some q ∧ Cond.selects q.1 ⟨"java/util/ArrayList", "grow", "(I)[Ljava/lang/Object;"⟩ ⟨"java/util/ArrayList", "grow", "(I)[Ljava/lang/Object;"⟩ ∈ tb_ := by
  intro ci h
  simp only [List.mem_cons, List.not_mem_nil, or_false] at h
  rcases h with rfl
  · exact ⟨_, rfl, tw_154⟩
theorem se_2 : ∀ ci ∈ ([6] : List Nat), ∃ q : vw_C, cl_[ci]? = some q ∧ Cond.selects q.1 ⟨"java/util/ArrayList", "grow", "()[Ljava/lang/Object;"⟩ ⟨"java/util/ArrayList", "grow", "()[Ljava/lang/Object;"⟩ ∈ tb_ := by
  intro ci h
  simp only [List.mem_cons, List.not_mem_nil, or_false] at h
  rcases h with rfl
  · exact ⟨_, rfl, tw_158⟩
theorem se_3 : ∀ ci ∈ ([6] : List Nat), ∃ q : vw_C, cl_[ci]? = some q ∧ Cond.selects q.1 ⟨"java/util/ArrayList", "add", "(Ljava/lang/Object;[Ljava/lang/Object;I)V"⟩ ⟨"java/util/ArrayList", "add", "(Ljava/lang/Object;[Ljava/lang/Object;I)V"⟩ ∈ tb_ := by
  intro ci h
  simp only [List.mem_cons, List.not_mem_nil, or_false] at h
  rcases h with rfl
  · exact ⟨_, rfl, tw_162⟩
theorem se_4 : ∀ ci ∈ ([6] : List Nat), ∃ q : vw_C, cl_[ci]? = some q ∧ Cond.selects q.1 ⟨"java/util/ArrayList", "add", "(Ljava/lang/Object;)Z"⟩ ⟨"java/util/ArrayList", "add", "(Ljava/lang/Object;)Z"⟩ ∈ tb_ := by
  intro ci h
  simp only [List.mem_cons, List.not_mem_nil, or_false] at h
  rcases h with rfl
  · exact ⟨_, rfl, tw_168⟩
theorem se_5 : ∀ ci ∈ ([0] : List Nat), ∃ q : vw_C, cl_[ci]? = some q ∧ Cond.selects q.1 ⟨"PromiseVats", "lose", "(LPromiseVats$Call;)V"⟩ ⟨"PromiseVats", "lose", "(LPromiseVats$Call;)V"⟩ ∈ tb_ := by
  intro ci h
  simp only [List.mem_cons, List.not_mem_nil, or_false] at h
  rcases h with rfl
  · exact ⟨_, rfl, tw_173⟩
theorem se_6 : ∀ ci ∈ ([6] : List Nat), ∃ q : vw_C, cl_[ci]? = some q ∧ Cond.selects q.1 ⟨"java/util/ArrayList", "size", "()I"⟩ ⟨"java/util/ArrayList", "size", "()I"⟩ ∈ tb_ := by
  intro ci h
  simp only [List.mem_cons, List.not_mem_nil, or_false] at h
  rcases h with rfl
  · exact ⟨_, rfl, tw_177⟩
theorem se_7 : ∀ ci ∈ ([0] : List Nat), ∃ q : vw_C, cl_[ci]? = some q ∧ Cond.selects q.1 ⟨"PromiseVats", "post", "(IILPromiseVats$Message;)V"⟩ ⟨"PromiseVats", "post", "(IILPromiseVats$Message;)V"⟩ ∈ tb_ := by
  intro ci h
  simp only [List.mem_cons, List.not_mem_nil, or_false] at h
  rcases h with rfl
  · exact ⟨_, rfl, tw_189⟩
theorem se_8 : ∀ ci ∈ ([0] : List Nat), ∃ q : vw_C, cl_[ci]? = some q ∧ Cond.selects q.1 ⟨"PromiseVats", "packArgument", "(LPromiseVats$Entity;II)V"⟩ ⟨"PromiseVats", "packArgument", "(LPromiseVats$Entity;II)V"⟩ ∈ tb_ := by
  intro ci h
  simp only [List.mem_cons, List.not_mem_nil, or_false] at h
  rcases h with rfl
  · exact ⟨_, rfl, tw_203⟩
theorem se_9 : ∀ ci ∈ ([0] : List Nat), ∃ q : vw_C, cl_[ci]? = some q ∧ Cond.selects q.1 ⟨"PromiseVats", "postCall", "(LPromiseVats$Call;I)V"⟩ ⟨"PromiseVats", "postCall", "(LPromiseVats$Call;I)V"⟩ ∈ tb_ := by
  intro ci h
  simp only [List.mem_cons, List.not_mem_nil, or_false] at h
  rcases h with rfl
  · exact ⟨_, rfl, tw_208⟩
theorem se_10 : ∀ ci ∈ ([0] : List Nat), ∃ q : vw_C, cl_[ci]? = some q ∧ Cond.selects q.1 ⟨"PromiseVats", "waitAt", "(LPromiseVats$Promise;LPromiseVats$Call;)V"⟩ ⟨"PromiseVats", "waitAt", "(LPromiseVats$Promise;LPromiseVats$Call;)V"⟩ ∈ tb_ := by
  intro ci h
  simp only [List.mem_cons, List.not_mem_nil, or_false] at h
  rcases h with rfl
  · exact ⟨_, rfl, tw_213⟩
theorem se_11 : ∀ ci ∈ ([0] : List Nat), ∃ q : vw_C, cl_[ci]? = some q ∧ Cond.selects q.1 ⟨"PromiseVats", "arrive", "(LPromiseVats$Call;I)V"⟩ ⟨"PromiseVats", "arrive", "(LPromiseVats$Call;I)V"⟩ ∈ tb_ := by
  intro ci h
  simp only [List.mem_cons, List.not_mem_nil, or_false] at h
  rcases h with rfl
  · exact ⟨_, rfl, tw_218⟩
theorem se_12 : ∀ ci ∈ ([6] : List Nat), ∃ q : vw_C, cl_[ci]? = some q ∧ Cond.selects q.1 ⟨"java/util/ArrayList", "fastRemove", "([Ljava/lang/Object;I)V"⟩ ⟨"java/util/ArrayList", "fastRemove", "([Ljava/lang/Object;I)V"⟩ ∈ tb_ := by
  intro ci h
  simp only [List.mem_cons, List.not_mem_nil, or_false] at h
  rcases h with rfl
  · exact ⟨_, rfl, tw_233⟩
theorem se_13 : ∀ ci ∈ ([0] : List Nat), ∃ q : vw_C, cl_[ci]? = some q ∧ Cond.selects q.1 ⟨"PromiseVats", "makeObject", "(LPromiseVats$Turn;I)LPromiseVats$VatObject;"⟩ ⟨"PromiseVats", "makeObject", "(LPromiseVats$Turn;I)LPromiseVats$VatObject;"⟩ ∈ tb_ := by
  intro ci h
  simp only [List.mem_cons, List.not_mem_nil, or_false] at h
  rcases h with rfl
  · exact ⟨_, rfl, tw_274⟩
theorem se_14 : ∀ ci ∈ ([0] : List Nat), ∃ q : vw_C, cl_[ci]? = some q ∧ Cond.selects q.1 ⟨"PromiseVats", "callFrom", "(LPromiseVats$Turn;LPromiseVats$Entity;)LPromiseVats$Promise;"⟩ ⟨"PromiseVats", "callFrom", "(LPromiseVats$Turn;LPromiseVats$Entity;)LPromiseVats$Promise;"⟩ ∈ tb_ := by
  intro ci h
  simp only [List.mem_cons, List.not_mem_nil, or_false] at h
  rcases h with rfl
  · exact ⟨_, rfl, tw_278⟩
theorem se_15 : ∀ ci ∈ ([5] : List Nat), ∃ q : vw_C, cl_[ci]? = some q ∧ Cond.selects q.1 ⟨"PromiseVats$Vat", "putOut", "(I)V"⟩ ⟨"PromiseVats$Vat", "putOut", "(I)V"⟩ ∈ tb_ := by
  intro ci h
  simp only [List.mem_cons, List.not_mem_nil, or_false] at h
  rcases h with rfl
  · exact ⟨_, rfl, tw_282⟩
theorem se_16 : ∀ ci ∈ ([6] : List Nat), ∃ q : vw_C, cl_[ci]? = some q ∧ Cond.selects q.1 ⟨"java/util/ArrayList", "elementData", "(I)Ljava/lang/Object;"⟩ ⟨"java/util/ArrayList", "elementData", "(I)Ljava/lang/Object;"⟩ ∈ tb_ := by
  intro ci h
  simp only [List.mem_cons, List.not_mem_nil, or_false] at h
  rcases h with rfl
  · exact ⟨_, rfl, tw_289⟩
theorem se_17 : ∀ ci ∈ ([6] : List Nat), ∃ q : vw_C, cl_[ci]? = some q ∧ Cond.selects q.1 ⟨"java/util/ArrayList", "get", "(I)Ljava/lang/Object;"⟩ ⟨"java/util/ArrayList", "get", "(I)Ljava/lang/Object;"⟩ ∈ tb_ := by
  intro ci h
  simp only [List.mem_cons, List.not_mem_nil, or_false] at h
  rcases h with rfl
  · exact ⟨_, rfl, tw_298⟩
theorem se_18 : ∀ ci ∈ ([6] : List Nat), ∃ q : vw_C, cl_[ci]? = some q ∧ Cond.selects q.1 ⟨"java/util/ArrayList", "clea\x72", "()V"⟩ ⟨"java/util/ArrayList", "clea\x72", "()V"⟩ ∈ tb_ := by
  intro ci h
  simp only [List.mem_cons, List.not_mem_nil, or_false] at h
  rcases h with rfl
  · exact ⟨_, rfl, tw_302⟩
theorem se_19 : ∀ ci ∈ ([0] : List Nat), ∃ q : vw_C, cl_[ci]? = some q ∧ Cond.selects q.1 ⟨"PromiseVats", "resolveIn", "(ILPromiseVats$Promise;LPromiseVats$Entity;)V"⟩ ⟨"PromiseVats", "resolveIn", "(ILPromiseVats$Promise;LPromiseVats$Entity;)V"⟩ ∈ tb_ := by
  intro ci h
  simp only [List.mem_cons, List.not_mem_nil, or_false] at h
  rcases h with rfl
  · exact ⟨_, rfl, tw_306⟩
theorem se_20 : ∀ ci ∈ ([1] : List Nat), ∃ q : vw_C, cl_[ci]? = some q ∧ Cond.selects q.1 ⟨"PromiseVats$Turn", "begin", "(LPromiseVats$VatObject;LPromiseVats$Call;)V"⟩ ⟨"PromiseVats$Turn", "begin", "(LPromiseVats$VatObject;LPromiseVats$Call;)V"⟩ ∈ tb_ := by
  intro ci h
  simp only [List.mem_cons, List.not_mem_nil, or_false] at h
  rcases h with rfl
  · exact ⟨_, rfl, tw_311⟩
theorem se_21 : ∀ ci ∈ ([6] : List Nat), ∃ q : vw_C, cl_[ci]? = some q ∧ Cond.selects q.1 ⟨"java/util/ArrayList", "remove", "(I)Ljava/lang/Object;"⟩ ⟨"java/util/ArrayList", "remove", "(I)Ljava/lang/Object;"⟩ ∈ tb_ := by
  intro ci h
  simp only [List.mem_cons, List.not_mem_nil, or_false] at h
  rcases h with rfl
  · exact ⟨_, rfl, tw_315⟩
theorem se_22 : ∀ ci ∈ ([6] : List Nat), ∃ q : vw_C, cl_[ci]? = some q ∧ Cond.selects q.1 ⟨"java/util/ArrayList", "isEmpty", "()Z"⟩ ⟨"java/util/ArrayList", "isEmpty", "()Z"⟩ ∈ tb_ := by
  intro ci h
  simp only [List.mem_cons, List.not_mem_nil, or_false] at h
  rcases h with rfl
  · exact ⟨_, rfl, tw_319⟩
theorem se_23 : ∀ ci ∈ ([0] : List Nat), ∃ q : vw_C, cl_[ci]? = some q ∧ Cond.selects q.1 ⟨"PromiseVats", "settleLost", "(I)V"⟩ ⟨"PromiseVats", "settleLost", "(I)V"⟩ ∈ tb_ := by
  intro ci h
  simp only [List.mem_cons, List.not_mem_nil, or_false] at h
  rcases h with rfl
  · exact ⟨_, rfl, tw_323⟩
theorem se_24 : ∀ ci ∈ ([0] : List Nat), ∃ q : vw_C, cl_[ci]? = some q ∧ Cond.selects q.1 ⟨"PromiseVats", "perform", "(LPromiseVats$Turn;II)V"⟩ ⟨"PromiseVats", "perform", "(LPromiseVats$Turn;II)V"⟩ ∈ tb_ := by
  intro ci h
  simp only [List.mem_cons, List.not_mem_nil, or_false] at h
  rcases h with rfl
  · exact ⟨_, rfl, tw_327⟩
theorem se_25 : ∀ ci ∈ ([0] : List Nat), ∃ q : vw_C, cl_[ci]? = some q ∧ Cond.selects q.1 ⟨"PromiseVats", "takeMessage", "(LPromiseVats$Message;II)V"⟩ ⟨"PromiseVats", "takeMessage", "(LPromiseVats$Message;II)V"⟩ ∈ tb_ := by
  intro ci h
  simp only [List.mem_cons, List.not_mem_nil, or_false] at h
  rcases h with rfl
  · exact ⟨_, rfl, tw_343⟩
theorem se_26 : ∀ ci ∈ ([0] : List Nat), ∃ q : vw_C, cl_[ci]? = some q ∧ Cond.selects q.1 ⟨"PromiseVats", "unpackArgument", "(LPromiseVats$Entity;II)V"⟩ ⟨"PromiseVats", "unpackArgument", "(LPromiseVats$Entity;II)V"⟩ ∈ tb_ := by
  intro ci h
  simp only [List.mem_cons, List.not_mem_nil, or_false] at h
  rcases h with rfl
  · exact ⟨_, rfl, tw_347⟩
theorem se_27 : ∀ ci ∈ ([0] : List Nat), ∃ q : vw_C, cl_[ci]? = some q ∧ Cond.selects q.1 ⟨"PromiseVats", "flying", "(II)I"⟩ ⟨"PromiseVats", "flying", "(II)I"⟩ ∈ tb_ := by
  intro ci h
  simp only [List.mem_cons, List.not_mem_nil, or_false] at h
  rcases h with rfl
  · exact ⟨_, rfl, tw_351⟩
theorem se_28 : ∀ ci ∈ ([3, 4] : List Nat), ∃ q : vw_C, cl_[ci]? = some q ∧ Cond.selects q.1 ⟨"PromiseVats$Entity", "unpaired", "(I)I"⟩ ⟨"PromiseVats$Entity", "unpaired", "(I)I"⟩ ∈ tb_ := by
  intro ci h
  simp only [List.mem_cons, List.not_mem_nil, or_false] at h
  rcases h with rfl | rfl
  · exact ⟨_, rfl, tw_359⟩
  · exact ⟨_, rfl, tw_360⟩
theorem se_29 : ∀ ci ∈ ([3, 4] : List Nat), ∃ q : vw_C, cl_[ci]? = some q ∧ Cond.selects q.1 ⟨"PromiseVats$Entity", "isExported", "()Z"⟩ ⟨"PromiseVats$Entity", "isExported", "()Z"⟩ ∈ tb_ := by
  intro ci h
  simp only [List.mem_cons, List.not_mem_nil, or_false] at h
  rcases h with rfl | rfl
  · exact ⟨_, rfl, tw_365⟩
  · exact ⟨_, rfl, tw_366⟩
theorem se_30 : ∀ ci ∈ ([4] : List Nat), ∃ q : vw_C, cl_[ci]? = some q ∧ Cond.selects q.1 ⟨"PromiseVats$Promise", "unpaired", "(I)I"⟩ ⟨"PromiseVats$Entity", "unpaired", "(I)I"⟩ ∈ tb_ := by
  intro ci h
  simp only [List.mem_cons, List.not_mem_nil, or_false] at h
  rcases h with rfl
  · exact ⟨_, rfl, tw_370⟩
theorem se_31 : ∀ ci ∈ ([4] : List Nat), ∃ q : vw_C, cl_[ci]? = some q ∧ Cond.selects q.1 ⟨"PromiseVats$Promise", "isExported", "()Z"⟩ ⟨"PromiseVats$Entity", "isExported", "()Z"⟩ ∈ tb_ := by
  intro ci h
  simp only [List.mem_cons, List.not_mem_nil, or_false] at h
  rcases h with rfl
  · exact ⟨_, rfl, tw_373⟩
theorem se_32 : ∀ ci ∈ ([0] : List Nat), ∃ q : vw_C, cl_[ci]? = some q ∧ Cond.selects q.1 ⟨"PromiseVats", "reach", "(LPromiseVats$Entity;)V"⟩ ⟨"PromiseVats", "reach", "(LPromiseVats$Entity;)V"⟩ ∈ tb_ := by
  intro ci h
  simp only [List.mem_cons, List.not_mem_nil, or_false] at h
  rcases h with rfl
  · exact ⟨_, rfl, tw_377⟩
theorem se_33 : ∀ ci ∈ ([3] : List Nat), ∃ q : vw_C, cl_[ci]? = some q ∧ Cond.selects q.1 ⟨"PromiseVats$Entity", "isWanted", "()Z"⟩ ⟨"PromiseVats$Entity", "isWanted", "()Z"⟩ ∈ tb_ := by
  intro ci h
  simp only [List.mem_cons, List.not_mem_nil, or_false] at h
  rcases h with rfl
  · exact ⟨_, rfl, tw_382⟩
theorem se_34 : ∀ ci ∈ ([4] : List Nat), ∃ q : vw_C, cl_[ci]? = some q ∧ Cond.selects q.1 ⟨"PromiseVats$Entity", "isWanted", "()Z"⟩ ⟨"PromiseVats$Promise", "isWanted", "()Z"⟩ ∈ tb_ := by
  intro ci h
  simp only [List.mem_cons, List.not_mem_nil, or_false] at h
  rcases h with rfl
  · exact ⟨_, rfl, tw_385⟩
theorem se_35 : ∀ ci ∈ ([0] : List Nat), ∃ q : vw_C, cl_[ci]? = some q ∧ Cond.selects q.1 ⟨"PromiseVats", "reachCalls", "(Ljava/util/ArrayList;)V"⟩ ⟨"PromiseVats", "reachCalls", "(Ljava/util/ArrayList;)V"⟩ ∈ tb_ := by
  intro ci h
  simp only [List.mem_cons, List.not_mem_nil, or_false] at h
  rcases h with rfl
  · exact ⟨_, rfl, tw_390⟩
theorem se_36 : ∀ ci ∈ ([0] : List Nat), ∃ q : vw_C, cl_[ci]? = some q ∧ Cond.selects q.1 ⟨"PromiseVats", "reachWanted", "(I)V"⟩ ⟨"PromiseVats", "reachWanted", "(I)V"⟩ ∈ tb_ := by
  intro ci h
  simp only [List.mem_cons, List.not_mem_nil, or_false] at h
  rcases h with rfl
  · exact ⟨_, rfl, tw_394⟩
theorem se_37 : ∀ ci ∈ ([0] : List Nat), ∃ q : vw_C, cl_[ci]? = some q ∧ Cond.selects q.1 ⟨"PromiseVats", "reachInside", "(LPromiseVats$Entity;)V"⟩ ⟨"PromiseVats", "reachInside", "(LPromiseVats$Entity;)V"⟩ ∈ tb_ := by
  intro ci h
  simp only [List.mem_cons, List.not_mem_nil, or_false] at h
  rcases h with rfl
  · exact ⟨_, rfl, tw_398⟩
theorem se_38 : ∀ ci ∈ ([0] : List Nat), ∃ q : vw_C, cl_[ci]? = some q ∧ Cond.selects q.1 ⟨"PromiseVats", "releaseUnreached", "(I)V"⟩ ⟨"PromiseVats", "releaseUnreached", "(I)V"⟩ ∈ tb_ := by
  intro ci h
  simp only [List.mem_cons, List.not_mem_nil, or_false] at h
  rcases h with rfl
  · exact ⟨_, rfl, tw_402⟩
theorem se_39 : ∀ ci ∈ ([0] : List Nat), ∃ q : vw_C, cl_[ci]? = some q ∧ Cond.selects q.1 ⟨"PromiseVats", "freeUnreached", "(I)I"⟩ ⟨"PromiseVats", "freeUnreached", "(I)I"⟩ ∈ tb_ := by
  intro ci h
  simp only [List.mem_cons, List.not_mem_nil, or_false] at h
  rcases h with rfl
  · exact ⟨_, rfl, tw_406⟩
theorem se_40 : ∀ ci ∈ ([0] : List Nat), ∃ q : vw_C, cl_[ci]? = some q ∧ Cond.selects q.1 ⟨"PromiseVats", "findReached", "(I)V"⟩ ⟨"PromiseVats", "findReached", "(I)V"⟩ ∈ tb_ := by
  intro ci h
  simp only [List.mem_cons, List.not_mem_nil, or_false] at h
  rcases h with rfl
  · exact ⟨_, rfl, tw_410⟩
theorem se_41 : ∀ ci ∈ ([0] : List Nat), ∃ q : vw_C, cl_[ci]? = some q ∧ Cond.selects q.1 ⟨"PromiseVats", "madeEntity", "(I)LPromiseVats$Entity;"⟩ ⟨"PromiseVats", "madeEntity", "(I)LPromiseVats$Entity;"⟩ ∈ tb_ := by
  intro ci h
  simp only [List.mem_cons, List.not_mem_nil, or_false] at h
  rcases h with rfl
  · exact ⟨_, rfl, tw_425⟩
theorem se_42 : ∀ ci ∈ ([0] : List Nat), ∃ q : vw_C, cl_[ci]? = some q ∧ Cond.selects q.1 ⟨"PromiseVats", "liveEntity", "(I)LPromiseVats$Entity;"⟩ ⟨"PromiseVats", "liveEntity", "(I)LPromiseVats$Entity;"⟩ ∈ tb_ := by
  intro ci h
  simp only [List.mem_cons, List.not_mem_nil, or_false] at h
  rcases h with rfl
  · exact ⟨_, rfl, tw_429⟩
theorem se_43 : ∀ ci ∈ ([10] : List Nat), ∃ q : vw_C, cl_[ci]? = some q ∧ Cond.selects q.1 ⟨"PromiseVatsModel", "post", "(IIIIII)V"⟩ ⟨"PromiseVatsModel", "post", "(IIIIII)V"⟩ ∈ tb_ := by
  intro ci h
  simp only [List.mem_cons, List.not_mem_nil, or_false] at h
  rcases h with rfl
  · exact ⟨_, rfl, tw_473⟩
theorem se_44 : ∀ ci ∈ ([10] : List Nat), ∃ q : vw_C, cl_[ci]? = some q ∧ Cond.selects q.1 ⟨"PromiseVatsModel", "passes", "(II)Z"⟩ ⟨"PromiseVatsModel", "passes", "(II)Z"⟩ ∈ tb_ := by
  intro ci h
  simp only [List.mem_cons, List.not_mem_nil, or_false] at h
  rcases h with rfl
  · exact ⟨_, rfl, tw_478⟩
theorem se_45 : ∀ ci ∈ ([10] : List Nat), ∃ q : vw_C, cl_[ci]? = some q ∧ Cond.selects q.1 ⟨"PromiseVatsModel", "waits", "(I)I"⟩ ⟨"PromiseVatsModel", "waits", "(I)I"⟩ ∈ tb_ := by
  intro ci h
  simp only [List.mem_cons, List.not_mem_nil, or_false] at h
  rcases h with rfl
  · exact ⟨_, rfl, tw_482⟩
theorem se_46 : ∀ ci ∈ ([10] : List Nat), ∃ q : vw_C, cl_[ci]? = some q ∧ Cond.selects q.1 ⟨"PromiseVatsModel", "pack", "(III)V"⟩ ⟨"PromiseVatsModel", "pack", "(III)V"⟩ ∈ tb_ := by
  intro ci h
  simp only [List.mem_cons, List.not_mem_nil, or_false] at h
  rcases h with rfl
  · exact ⟨_, rfl, tw_486⟩
theorem se_47 : ∀ ci ∈ ([10] : List Nat), ∃ q : vw_C, cl_[ci]? = some q ∧ Cond.selects q.1 ⟨"PromiseVatsModel", "rest", "(IIIII)V"⟩ ⟨"PromiseVatsModel", "rest", "(IIIII)V"⟩ ∈ tb_ := by
  intro ci h
  simp only [List.mem_cons, List.not_mem_nil, or_false] at h
  rcases h with rfl
  · exact ⟨_, rfl, tw_490⟩
theorem se_48 : ∀ ci ∈ ([10] : List Nat), ∃ q : vw_C, cl_[ci]? = some q ∧ Cond.selects q.1 ⟨"PromiseVatsModel", "go", "(IIIII)V"⟩ ⟨"PromiseVatsModel", "go", "(IIIII)V"⟩ ∈ tb_ := by
  intro ci h
  simp only [List.mem_cons, List.not_mem_nil, or_false] at h
  rcases h with rfl
  · exact ⟨_, rfl, tw_495⟩
theorem se_49 : ∀ ci ∈ ([10] : List Nat), ∃ q : vw_C, cl_[ci]? = some q ∧ Cond.selects q.1 ⟨"PromiseVatsModel", "unrest", "(I)V"⟩ ⟨"PromiseVatsModel", "unrest", "(I)V"⟩ ∈ tb_ := by
  intro ci h
  simp only [List.mem_cons, List.not_mem_nil, or_false] at h
  rcases h with rfl
  · exact ⟨_, rfl, tw_499⟩
theorem se_50 : ∀ ci ∈ ([10] : List Nat), ∃ q : vw_C, cl_[ci]? = some q ∧ Cond.selects q.1 ⟨"PromiseVatsModel", "settle", "(III)V"⟩ ⟨"PromiseVatsModel", "settle", "(III)V"⟩ ∈ tb_ := by
  intro ci h
  simp only [List.mem_cons, List.not_mem_nil, or_false] at h
  rcases h with rfl
  · exact ⟨_, rfl, tw_503⟩
theorem se_51 : ∀ ci ∈ ([10] : List Nat), ∃ q : vw_C, cl_[ci]? = some q ∧ Cond.selects q.1 ⟨"PromiseVatsModel", "unpack", "(III)V"⟩ ⟨"PromiseVatsModel", "unpack", "(III)V"⟩ ∈ tb_ := by
  intro ci h
  simp only [List.mem_cons, List.not_mem_nil, or_false] at h
  rcases h with rfl
  · exact ⟨_, rfl, tw_507⟩
theorem se_52 : ∀ ci ∈ ([10] : List Nat), ∃ q : vw_C, cl_[ci]? = some q ∧ Cond.selects q.1 ⟨"PromiseVatsModel", "unmail", "(I)V"⟩ ⟨"PromiseVatsModel", "unmail", "(I)V"⟩ ∈ tb_ := by
  intro ci h
  simp only [List.mem_cons, List.not_mem_nil, or_false] at h
  rcases h with rfl
  · exact ⟨_, rfl, tw_511⟩
theorem se_53 : ∀ ci ∈ ([10] : List Nat), ∃ q : vw_C, cl_[ci]? = some q ∧ Cond.selects q.1 ⟨"PromiseVatsModel", "oldest", "(I)I"⟩ ⟨"PromiseVatsModel", "oldest", "(I)I"⟩ ∈ tb_ := by
  intro ci h
  simp only [List.mem_cons, List.not_mem_nil, or_false] at h
  rcases h with rfl
  · exact ⟨_, rfl, tw_515⟩
theorem se_54 : ∀ ci ∈ ([10] : List Nat), ∃ q : vw_C, cl_[ci]? = some q ∧ Cond.selects q.1 ⟨"PromiseVatsModel", "vat", "(I)Z"⟩ ⟨"PromiseVatsModel", "vat", "(I)Z"⟩ ∈ tb_ := by
  intro ci h
  simp only [List.mem_cons, List.not_mem_nil, or_false] at h
  rcases h with rfl
  · exact ⟨_, rfl, tw_519⟩
theorem se_55 : ∀ ci ∈ ([10] : List Nat), ∃ q : vw_C, cl_[ci]? = some q ∧ Cond.selects q.1 ⟨"PromiseVatsModel", "pai\x72", "(IIII)V"⟩ ⟨"PromiseVatsModel", "pai\x72", "(IIII)V"⟩ ∈ tb_ := by
  intro ci h
  simp only [List.mem_cons, List.not_mem_nil, or_false] at h
  rcases h with rfl
  · exact ⟨_, rfl, tw_523⟩
theorem se_56 : ∀ ci ∈ ([10] : List Nat), ∃ q : vw_C, cl_[ci]? = some q ∧ Cond.selects q.1 ⟨"PromiseVatsModel", "mourn", "(I)V"⟩ ⟨"PromiseVatsModel", "mourn", "(I)V"⟩ ∈ tb_ := by
  intro ci h
  simp only [List.mem_cons, List.not_mem_nil, or_false] at h
  rcases h with rfl
  · exact ⟨_, rfl, tw_527⟩
theorem se_57 : ∀ ci ∈ ([10] : List Nat), ∃ q : vw_C, cl_[ci]? = some q ∧ Cond.selects q.1 ⟨"PromiseVatsModel", "inbox", "(I)I"⟩ ⟨"PromiseVatsModel", "inbox", "(I)I"⟩ ∈ tb_ := by
  intro ci h
  simp only [List.mem_cons, List.not_mem_nil, or_false] at h
  rcases h with rfl
  · exact ⟨_, rfl, tw_531⟩
theorem se_58 : ∀ ci ∈ ([10] : List Nat), ∃ q : vw_C, cl_[ci]? = some q ∧ Cond.selects q.1 ⟨"PromiseVatsModel", "fresh", "(II)I"⟩ ⟨"PromiseVatsModel", "fresh", "(II)I"⟩ ∈ tb_ := by
  intro ci h
  simp only [List.mem_cons, List.not_mem_nil, or_false] at h
  rcases h with rfl
  · exact ⟨_, rfl, tw_538⟩
theorem se_59 : ∀ ci ∈ ([10] : List Nat), ∃ q : vw_C, cl_[ci]? = some q ∧ Cond.selects q.1 ⟨"PromiseVatsModel", "send", "(II)I"⟩ ⟨"PromiseVatsModel", "send", "(II)I"⟩ ∈ tb_ := by
  intro ci h
  simp only [List.mem_cons, List.not_mem_nil, or_false] at h
  rcases h with rfl
  · exact ⟨_, rfl, tw_542⟩
theorem se_60 : ∀ ci ∈ ([10] : List Nat), ∃ q : vw_C, cl_[ci]? = some q ∧ Cond.selects q.1 ⟨"PromiseVatsModel", "put", "(I)V"⟩ ⟨"PromiseVatsModel", "put", "(I)V"⟩ ∈ tb_ := by
  intro ci h
  simp only [List.mem_cons, List.not_mem_nil, or_false] at h
  rcases h with rfl
  · exact ⟨_, rfl, tw_546⟩
theorem se_61 : ∀ ci ∈ ([10] : List Nat), ∃ q : vw_C, cl_[ci]? = some q ∧ Cond.selects q.1 ⟨"PromiseVatsModel", "act", "(IIII)I"⟩ ⟨"PromiseVatsModel", "act", "(IIII)I"⟩ ∈ tb_ := by
  intro ci h
  simp only [List.mem_cons, List.not_mem_nil, or_false] at h
  rcases h with rfl
  · exact ⟨_, rfl, tw_550⟩
theorem se_62 : ∀ ci ∈ ([10] : List Nat), ∃ q : vw_C, cl_[ci]? = some q ∧ Cond.selects q.1 ⟨"PromiseVatsModel", "made", "(I)Z"⟩ ⟨"PromiseVatsModel", "made", "(I)Z"⟩ ∈ tb_ := by
  intro ci h
  simp only [List.mem_cons, List.not_mem_nil, or_false] at h
  rcases h with rfl
  · exact ⟨_, rfl, tw_554⟩
theorem se_63 : ∀ ci ∈ ([10] : List Nat), ∃ q : vw_C, cl_[ci]? = some q ∧ Cond.selects q.1 ⟨"PromiseVatsModel", "lives", "(I)Z"⟩ ⟨"PromiseVatsModel", "lives", "(I)Z"⟩ ∈ tb_ := by
  intro ci h
  simp only [List.mem_cons, List.not_mem_nil, or_false] at h
  rcases h with rfl
  · exact ⟨_, rfl, tw_559⟩
theorem se_64 : ∀ ci ∈ ([10] : List Nat), ∃ q : vw_C, cl_[ci]? = some q ∧ Cond.selects q.1 ⟨"PromiseVatsModel", "mark", "(I)V"⟩ ⟨"PromiseVatsModel", "mark", "(I)V"⟩ ∈ tb_ := by
  intro ci h
  simp only [List.mem_cons, List.not_mem_nil, or_false] at h
  rcases h with rfl
  · exact ⟨_, rfl, tw_563⟩
theorem se_65 : ∀ ci ∈ ([10] : List Nat), ∃ q : vw_C, cl_[ci]? = some q ∧ Cond.selects q.1 ⟨"PromiseVatsModel", "rooted", "(II)Z"⟩ ⟨"PromiseVatsModel", "rooted", "(II)Z"⟩ ∈ tb_ := by
  intro ci h
  simp only [List.mem_cons, List.not_mem_nil, or_false] at h
  rcases h with rfl
  · exact ⟨_, rfl, tw_567⟩
theorem se_66 : ∀ ci ∈ ([10] : List Nat), ∃ q : vw_C, cl_[ci]? = some q ∧ Cond.selects q.1 ⟨"PromiseVatsModel", "spread", "(I)V"⟩ ⟨"PromiseVatsModel", "spread", "(I)V"⟩ ∈ tb_ := by
  intro ci h
  simp only [List.mem_cons, List.not_mem_nil, or_false] at h
  rcases h with rfl
  · exact ⟨_, rfl, tw_571⟩
theorem se_67 : ∀ ci ∈ ([10] : List Nat), ∃ q : vw_C, cl_[ci]? = some q ∧ Cond.selects q.1 ⟨"PromiseVatsModel", "counts", "(III)Z"⟩ ⟨"PromiseVatsModel", "counts", "(III)Z"⟩ ∈ tb_ := by
  intro ci h
  simp only [List.mem_cons, List.not_mem_nil, or_false] at h
  rcases h with rfl
  · exact ⟨_, rfl, tw_575⟩
