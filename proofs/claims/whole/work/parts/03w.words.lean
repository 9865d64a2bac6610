theorem wd_1_0 : (Jvm.Cond.initialized "NameRingLaw") ∈ gw := g1 0 rfl rfl
theorem wd_1_1 : (Jvm.Cond.initialized "NameRing") ∈ gw := g1 1 rfl rfl
theorem wd_1_2 : (Jvm.Cond.initialized "NameRing$Tape") ∈ gw := g1 2 rfl rfl
theorem wd_1_3 : (Jvm.Cond.initialized "java/lang/String") ∈ gw := g1 3 rfl rfl
theorem wd_1_4 : (Jvm.Cond.initialized "java/lang/StringLatin1") ∈ gw := g1 4 rfl rfl
theorem wd_1_5 : (Jvm.Cond.initialized "jdk/internal/util/Preconditions") ∈ gw := g1 5 rfl rfl
theorem wd_1_6 : (Jvm.Cond.initialized "java/lang/StringUTF16") ∈ gw := g1 6 rfl rfl
theorem wd_1_7 : (Jvm.Cond.initialized "NameRing$Told") ∈ gw := g1 7 rfl rfl
theorem wd_1_8 : (Jvm.Cond.initialized "NameRing$RingReader") ∈ gw := g1 8 rfl rfl
theorem wd_1_9 : (Jvm.Cond.initialized "NameRing$Work") ∈ gw := g1 9 rfl rfl
theorem wd_1_10 : (Jvm.Cond.initialized "NameRing$State") ∈ gw := g1 10 rfl rfl
theorem wd_1_11 : (Jvm.Cond.initialized "NameRing$Finder") ∈ gw := g1 11 rfl rfl
theorem wd_1_12 : (Jvm.Cond.initialized "NameRing$Deeds") ∈ gw := g1 12 rfl rfl
theorem wd_1_13 : (Jvm.Cond.initialized "NameRing$Looks") ∈ gw := g1 13 rfl rfl
theorem wd_1_14 : (Jvm.Cond.initialized "NameRing$Trials") ∈ gw := g1 14 rfl rfl
theorem wd_1_15 : (Jvm.Cond.initialized "NameRing$Seen") ∈ gw := g1 15 rfl rfl
theorem wd_1_16 : (Jvm.Cond.initialized "NameRing$Past") ∈ gw := g1 16 rfl rfl
theorem wd_1_17 : (Jvm.Cond.initialized "NameRingModel") ∈ gw := g1 17 rfl rfl
theorem wd_1_18 : (Jvm.Cond.initialized "java/lang/Math") ∈ gw := g1 18 rfl rfl
theorem wd_1_19 : (Jvm.Cond.initialized "java/lang/Character") ∈ gw := g1 19 rfl rfl
theorem wd_1_20 : (Jvm.Cond.initialized "java/lang/System") ∈ gw := g1 20 rfl rfl
theorem wd_1_21 : (Jvm.Cond.initialized "java/lang/Integer") ∈ gw := g1 21 rfl rfl
theorem wd_1_22 : (Jvm.Cond.initialized "java/lang/Throwable") ∈ gw := g1 22 rfl rfl
theorem wd_1_23 : (Jvm.Cond.initialized "java/lang/Exception") ∈ gw := g1 23 rfl rfl
theorem wd_1_24 : (Jvm.Cond.initialized "java/lang/RuntimeException") ∈ gw := g1 24 rfl rfl
theorem wd_1_25 : (Jvm.Cond.initialized "java/util/NoSuchElementException") ∈ gw := g1 25 rfl rfl
theorem wd_1_26 : (Jvm.Cond.classLink "NameRingLaw" (8 : Nat) "NameRing") ∈ gw := g1 26 rfl rfl
theorem wd_1_27 : (Jvm.Cond.instantiable "NameRing" (12 : Nat)) ∈ gw := g1 27 rfl rfl
theorem wd_1_28 : (Jvm.Cond.methodLink "NameRingLaw" (15 : Nat) ({ cls := "NameRing", name := "<init>", desc := "()V" } : Jvm.MethodName)) ∈ gw := g1 28 rfl rfl
theorem wd_1_29 : (Jvm.Cond.instanceMethod ({ cls := "NameRing", name := "<init>", desc := "()V" } : Jvm.MethodName)) ∈ gw := g1 29 rfl rfl
theorem wd_1_30 : (Jvm.Cond.code ({ cls := "NameRing", name := "<init>", desc := "()V" } : Jvm.MethodName) prog_1_method_1_code (1 : Nat) (Option.none : Option Jvm.ClassFile.FieldType)) ∈ gw := g1 30 rfl rfl
theorem wd_1_31 : (Jvm.Cond.methodLink "NameRing" (1 : Nat) ({ cls := "java/lang/Object", name := "<init>", desc := "()V" } : Jvm.MethodName)) ∈ gw := g1 31 rfl rfl
theorem wd_1_32 : (Jvm.Cond.instanceMethod ({ cls := "java/lang/Object", name := "<init>", desc := "()V" } : Jvm.MethodName)) ∈ gw := g1 32 rfl rfl
theorem wd_1_33 : (Jvm.Cond.code ({ cls := "java/lang/Object", name := "<init>", desc := "()V" } : Jvm.MethodName) object_method_1_code (1 : Nat) (Option.none : Option Jvm.ClassFile.FieldType)) ∈ gw := g1 33 rfl rfl
theorem wd_1_34 : (Jvm.Cond.classLink "NameRing" (7 : Nat) "NameRing$Tape") ∈ gw := g1 34 rfl rfl
theorem wd_1_35 : (Jvm.Cond.instantiable "NameRing$Tape" (9 : Nat)) ∈ gw := g1 35 rfl rfl
theorem wd_1_36 : (Jvm.Cond.methodLink "NameRing" (9 : Nat) ({ cls := "NameRing$Tape", name := "<init>", desc := "()V" } : Jvm.MethodName)) ∈ gw := g1 36 rfl rfl
theorem wd_1_37 : (Jvm.Cond.instanceMethod ({ cls := "NameRing$Tape", name := "<init>", desc := "()V" } : Jvm.MethodName)) ∈ gw := g1 37 rfl rfl
theorem wd_1_38 : (Jvm.Cond.code ({ cls := "NameRing$Tape", name := "<init>", desc := "()V" } : Jvm.MethodName) prog_9_method_1_code (4 : Nat) (Option.none : Option Jvm.ClassFile.FieldType)) ∈ gw := g1 38 rfl rfl
theorem wd_1_39 : (Jvm.Cond.methodLink "NameRing$Tape" (3 : Nat) ({ cls := "java/lang/Object", name := "<init>", desc := "()V" } : Jvm.MethodName)) ∈ gw := g1 39 rfl rfl
theorem wd_1_41 : (Jvm.Cond.methodLink "NameRing$Tape" (21 : Nat) ({ cls := "java/lang/String", name := "length", desc := "()I" } : Jvm.MethodName)) ∈ gw := g1 41 rfl rfl
theorem wd_1_42 : (Jvm.Cond.instanceMethod ({ cls := "java/lang/String", name := "length", desc := "()I" } : Jvm.MethodName)) ∈ gw := g1 42 rfl rfl
theorem wd_1_43 : (Jvm.Cond.selects "java/lang/String" ({ cls := "java/lang/String", name := "length", desc := "()I" } : Jvm.MethodName) ({ cls := "java/lang/String", name := "length", desc := "()I" } : Jvm.MethodName)) ∈ gw := g1 43 rfl rfl
theorem wd_1_44 : (Jvm.Cond.code ({ cls := "java/lang/String", name := "length", desc := "()I" } : Jvm.MethodName) prog_23_method_54_code (1 : Nat) (Option.some Jvm.ClassFile.FieldType.int)) ∈ gw := g1 44 rfl rfl
theorem wd_1_45 : (Jvm.Cond.methodLink "java/lang/String" (335 : Nat) ({ cls := "java/lang/String", name := "coder", desc := "()B" } : Jvm.MethodName)) ∈ gw := g1 45 rfl rfl
theorem wd_1_46 : (Jvm.Cond.instanceMethod ({ cls := "java/lang/String", name := "coder", desc := "()B" } : Jvm.MethodName)) ∈ gw := g1 46 rfl rfl
theorem wd_1_47 : (Jvm.Cond.selects "java/lang/String" ({ cls := "java/lang/String", name := "coder", desc := "()B" } : Jvm.MethodName) ({ cls := "java/lang/String", name := "coder", desc := "()B" } : Jvm.MethodName)) ∈ gw := g1 47 rfl rfl
theorem wd_1_48 : (Jvm.Cond.code ({ cls := "java/lang/String", name := "coder", desc := "()B" } : Jvm.MethodName) prog_23_method_152_code (1 : Nat) (Option.some Jvm.ClassFile.FieldType.byte)) ∈ gw := g1 48 rfl rfl
theorem wd_1_49 : (Jvm.Cond.fieldLink "java/lang/String" (38 : Nat) "java/lang/String" "COMPACT_STRINGS" "Z") ∈ gw := g1 49 rfl rfl
theorem wd_1_51 : (Jvm.Cond.methodLink "NameRing$Tape" (27 : Nat) ({ cls := "java/lang/String", name := "charAt", desc := "(I)C" } : Jvm.MethodName)) ∈ gw := g1 51 rfl rfl
theorem wd_1_52 : (Jvm.Cond.instanceMethod ({ cls := "java/lang/String", name := "charAt", desc := "(I)C" } : Jvm.MethodName)) ∈ gw := g1 52 rfl rfl
theorem wd_1_53 : (Jvm.Cond.selects "java/lang/String" ({ cls := "java/lang/String", name := "charAt", desc := "(I)C" } : Jvm.MethodName) ({ cls := "java/lang/String", name := "charAt", desc := "(I)C" } : Jvm.MethodName)) ∈ gw := g1 53 rfl rfl
theorem wd_1_54 : (Jvm.Cond.code ({ cls := "java/lang/String", name := "charAt", desc := "(I)C" } : Jvm.MethodName) prog_23_method_56_code (2 : Nat) (Option.some Jvm.ClassFile.FieldType.char)) ∈ gw := g1 54 rfl rfl
theorem wd_1_55 : (Jvm.Cond.methodLink "java/lang/String" (492 : Nat) ({ cls := "java/lang/String", name := "isLatin1", desc := "()Z" } : Jvm.MethodName)) ∈ gw := g1 55 rfl rfl
theorem wd_1_56 : (Jvm.Cond.instanceMethod ({ cls := "java/lang/String", name := "isLatin1", desc := "()Z" } : Jvm.MethodName)) ∈ gw := g1 56 rfl rfl
theorem wd_1_57 : (Jvm.Cond.selects "java/lang/String" ({ cls := "java/lang/String", name := "isLatin1", desc := "()Z" } : Jvm.MethodName) ({ cls := "java/lang/String", name := "isLatin1", desc := "()Z" } : Jvm.MethodName)) ∈ gw := g1 57 rfl rfl
theorem wd_1_58 : (Jvm.Cond.code ({ cls := "java/lang/String", name := "isLatin1", desc := "()Z" } : Jvm.MethodName) prog_23_method_154_code (1 : Nat) (Option.some Jvm.ClassFile.FieldType.boolean)) ∈ gw := g1 58 rfl rfl
theorem wd_1_59 : (Jvm.Cond.methodLink "java/lang/String" (495 : Nat) ({ cls := "java/lang/StringLatin1", name := "charAt", desc := "([BI)C" } : Jvm.MethodName)) ∈ gw := g1 59 rfl rfl
theorem wd_1_60 : (Jvm.Cond.static ({ cls := "java/lang/StringLatin1", name := "charAt", desc := "([BI)C" } : Jvm.MethodName)) ∈ gw := g1 60 rfl rfl
theorem wd_1_61 : (Jvm.Cond.code ({ cls := "java/lang/StringLatin1", name := "charAt", desc := "([BI)C" } : Jvm.MethodName) prog_24_method_2_code (2 : Nat) (Option.some Jvm.ClassFile.FieldType.char)) ∈ gw := g1 61 rfl rfl
theorem wd_1_62 : (Jvm.Cond.methodLink "java/lang/StringLatin1" (9 : Nat) ({ cls := "java/lang/String", name := "checkIndex", desc := "(II)V" } : Jvm.MethodName)) ∈ gw := g1 62 rfl rfl
theorem wd_1_63 : (Jvm.Cond.static ({ cls := "java/lang/String", name := "checkIndex", desc := "(II)V" } : Jvm.MethodName)) ∈ gw := g1 63 rfl rfl
theorem wd_1_64 : (Jvm.Cond.code ({ cls := "java/lang/String", name := "checkIndex", desc := "(II)V" } : Jvm.MethodName) prog_23_method_155_code (2 : Nat) (Option.none : Option Jvm.ClassFile.FieldType)) ∈ gw := g1 64 rfl rfl
theorem wd_1_65 : (Jvm.Cond.fieldLink "java/lang/String" (1053 : Nat) "jdk/internal/util/Preconditions" "SIOOBE_FORMATTER" "Ljava/util/function/BiFunction;") ∈ gw := g1 65 rfl rfl
theorem wd_1_67 : (Jvm.Cond.methodLink "java/lang/String" (1059 : Nat) ({ cls := "jdk/internal/util/Preconditions", name := "checkIndex", desc := "(IILjava/util/function/BiFunction;)I" } : Jvm.MethodName)) ∈ gw := g1 67 rfl rfl
theorem wd_1_68 : (Jvm.Cond.static ({ cls := "jdk/internal/util/Preconditions", name := "checkIndex", desc := "(IILjava/util/function/BiFunction;)I" } : Jvm.MethodName)) ∈ gw := g1 68 rfl rfl
theorem wd_1_69 : (Jvm.Cond.code ({ cls := "jdk/internal/util/Preconditions", name := "checkIndex", desc := "(IILjava/util/function/BiFunction;)I" } : Jvm.MethodName) prog_31_method_11_code (3 : Nat) (Option.some Jvm.ClassFile.FieldType.int)) ∈ gw := g1 69 rfl rfl
theorem wd_1_70 : (Jvm.Cond.methodLink "java/lang/String" (498 : Nat) ({ cls := "java/lang/StringUTF16", name := "charAt", desc := "([BI)C" } : Jvm.MethodName)) ∈ gw := g1 70 rfl rfl
theorem wd_1_71 : (Jvm.Cond.static ({ cls := "java/lang/StringUTF16", name := "charAt", desc := "([BI)C" } : Jvm.MethodName)) ∈ gw := g1 71 rfl rfl
theorem wd_1_72 : (Jvm.Cond.code ({ cls := "java/lang/StringUTF16", name := "charAt", desc := "([BI)C" } : Jvm.MethodName) prog_25_method_83_code (2 : Nat) (Option.some Jvm.ClassFile.FieldType.char)) ∈ gw := g1 72 rfl rfl
theorem wd_1_73 : (Jvm.Cond.methodLink "java/lang/StringUTF16" (67 : Nat) ({ cls := "java/lang/StringUTF16", name := "checkIndex", desc := "(I[B)V" } : Jvm.MethodName)) ∈ gw := g1 73 rfl rfl
theorem wd_1_74 : (Jvm.Cond.static ({ cls := "java/lang/StringUTF16", name := "checkIndex", desc := "(I[B)V" } : Jvm.MethodName)) ∈ gw := g1 74 rfl rfl
theorem wd_1_75 : (Jvm.Cond.code ({ cls := "java/lang/StringUTF16", name := "checkIndex", desc := "(I[B)V" } : Jvm.MethodName) prog_25_method_91_code (2 : Nat) (Option.none : Option Jvm.ClassFile.FieldType)) ∈ gw := g1 75 rfl rfl
theorem wd_1_76 : (Jvm.Cond.methodLink "java/lang/StringUTF16" (48 : Nat) ({ cls := "java/lang/StringUTF16", name := "length", desc := "([B)I" } : Jvm.MethodName)) ∈ gw := g1 76 rfl rfl
theorem wd_1_77 : (Jvm.Cond.static ({ cls := "java/lang/StringUTF16", name := "length", desc := "([B)I" } : Jvm.MethodName)) ∈ gw := g1 77 rfl rfl
theorem wd_1_78 : (Jvm.Cond.code ({ cls := "java/lang/StringUTF16", name := "length", desc := "([B)I" } : Jvm.MethodName) prog_25_method_6_code (1 : Nat) (Option.some Jvm.ClassFile.FieldType.int)) ∈ gw := g1 78 rfl rfl
theorem wd_1_79 : (Jvm.Cond.methodLink "java/lang/StringUTF16" (414 : Nat) ({ cls := "java/lang/String", name := "checkIndex", desc := "(II)V" } : Jvm.MethodName)) ∈ gw := g1 79 rfl rfl
theorem wd_1_80 : (Jvm.Cond.methodLink "java/lang/StringUTF16" (71 : Nat) ({ cls := "java/lang/StringUTF16", name := "getChar", desc := "([BI)C" } : Jvm.MethodName)) ∈ gw := g1 80 rfl rfl
theorem wd_1_81 : (Jvm.Cond.static ({ cls := "java/lang/StringUTF16", name := "getChar", desc := "([BI)C" } : Jvm.MethodName)) ∈ gw := g1 81 rfl rfl
theorem wd_1_82 : (Jvm.Cond.code ({ cls := "java/lang/StringUTF16", name := "getChar", desc := "([BI)C" } : Jvm.MethodName) prog_25_method_5_code (2 : Nat) (Option.some Jvm.ClassFile.FieldType.char)) ∈ gw := g1 82 rfl rfl
theorem wd_1_83 : (Jvm.Cond.fieldLink "java/lang/StringUTF16" (44 : Nat) "java/lang/StringUTF16" "$assertionsDisabled" "Z") ∈ gw := g1 83 rfl rfl
theorem wd_1_85 : (Jvm.Cond.fieldLink "java/lang/StringUTF16" (59 : Nat) "java/lang/StringUTF16" "HI_BYTE_SHIFT" "I") ∈ gw := g1 85 rfl rfl
theorem wd_1_87 : (Jvm.Cond.fieldLink "java/lang/StringUTF16" (63 : Nat) "java/lang/StringUTF16" "LO_BYTE_SHIFT" "I") ∈ gw := g1 87 rfl rfl
theorem wd_1_89 : (Jvm.Cond.constantLong "NameRing$Tape" (31 : Nat) (32 : Int64)) ∈ gw := g1 89 rfl rfl
theorem wd_1_90 : (Jvm.Cond.fieldLink "NameRing$Tape" (9 : Nat) "NameRing$Tape" "signs" "[C") ∈ gw := g1 90 rfl rfl
theorem wd_1_91 : (Jvm.Cond.fieldLink "NameRing$Tape" (15 : Nat) "NameRing$Tape" "words" "[J") ∈ gw := g1 91 rfl rfl
theorem wd_1_92 : (Jvm.Cond.fieldLink "NameRing$Tape" (43 : Nat) "NameRing$Tape" "next" "I") ∈ gw := g1 92 rfl rfl
theorem wd_1_93 : (Jvm.Cond.fieldLink "NameRing" (101 : Nat) "NameRing$Tape" "length" "I") ∈ gw := g1 93 rfl rfl
theorem wd_1_94 : (Jvm.Cond.fieldLink "NameRing$Tape" (33 : Nat) "NameRing$Tape" "length" "I") ∈ gw := g1 94 rfl rfl
theorem wd_1_95 : (Jvm.Cond.fieldLink "NameRing$RingReader" (41 : Nat) "NameRing$Tape" "kind" "I") ∈ gw := g1 95 rfl rfl
theorem wd_1_96 : (Jvm.Cond.fieldLink "NameRing$Work" (36 : Nat) "NameRing$Tape" "kind" "I") ∈ gw := g1 96 rfl rfl
theorem wd_1_97 : (Jvm.Cond.fieldLink "NameRing$Tape" (55 : Nat) "NameRing$Tape" "kind" "I") ∈ gw := g1 97 rfl rfl
theorem wd_1_98 : (Jvm.Cond.fieldLink "NameRing$Tape" (49 : Nat) "NameRing$Tape" "begin" "I") ∈ gw := g1 98 rfl rfl
theorem wd_1_99 : (Jvm.Cond.fieldLink "NameRing$RingReader" (144 : Nat) "NameRing$Tape" "begin" "I") ∈ gw := g1 99 rfl rfl
theorem wd_1_100 : (Jvm.Cond.fieldLink "NameRing$RingReader" (62 : Nat) "NameRing$Tape" "value" "I") ∈ gw := g1 100 rfl rfl
theorem wd_1_101 : (Jvm.Cond.fieldLink "NameRing$Work" (54 : Nat) "NameRing$Tape" "value" "I") ∈ gw := g1 101 rfl rfl
theorem wd_1_102 : (Jvm.Cond.fieldLink "NameRing$Tape" (52 : Nat) "NameRing$Tape" "value" "I") ∈ gw := g1 102 rfl rfl
theorem wd_1_103 : (Jvm.Cond.fieldLink "NameRing$Work" (76 : Nat) "NameRing$Tape" "letters" "J") ∈ gw := g1 103 rfl rfl
theorem wd_1_104 : (Jvm.Cond.fieldLink "NameRing$RingReader" (107 : Nat) "NameRing$Tape" "letters" "J") ∈ gw := g1 104 rfl rfl
theorem wd_1_105 : (Jvm.Cond.fieldLink "NameRing$Tape" (70 : Nat) "NameRing$Tape" "letters" "J") ∈ gw := g1 105 rfl rfl
theorem wd_1_106 : (Jvm.Cond.fieldLink "NameRing$RingReader" (51 : Nat) "NameRing$Tape" "fault" "I") ∈ gw := g1 106 rfl rfl
theorem wd_1_107 : (Jvm.Cond.fieldLink "NameRing$Tape" (36 : Nat) "NameRing$Tape" "fault" "I") ∈ gw := g1 107 rfl rfl
theorem wd_1_108 : (Jvm.Cond.fieldLink "NameRing$Work" (43 : Nat) "NameRing$Tape" "fault" "I") ∈ gw := g1 108 rfl rfl
theorem wd_1_127 : (Jvm.Cond.superclass "NameRing$Tape" "java/lang/Object") ∈ gw := g1 127 rfl rfl
theorem wd_1_128 : (Jvm.Cond.arrayClass Jvm.ClassFile.FieldType.char) ∈ gw := g1 128 rfl rfl
theorem wd_1_129 : (Jvm.Cond.arrayClass Jvm.ClassFile.FieldType.long) ∈ gw := g1 129 rfl rfl
theorem wd_1_130 : (Jvm.Cond.arrayClass Jvm.ClassFile.FieldType.byte) ∈ gw := g1 130 rfl rfl
theorem wd_1_131 : (Jvm.Cond.classLink "NameRing" (16 : Nat) "NameRing$Told") ∈ gw := g1 131 rfl rfl
theorem wd_1_132 : (Jvm.Cond.instantiable "NameRing$Told" (10 : Nat)) ∈ gw := g1 132 rfl rfl
theorem wd_1_133 : (Jvm.Cond.methodLink "NameRing" (18 : Nat) ({ cls := "NameRing$Told", name := "<init>", desc := "()V" } : Jvm.MethodName)) ∈ gw := g1 133 rfl rfl
theorem wd_1_134 : (Jvm.Cond.instanceMethod ({ cls := "NameRing$Told", name := "<init>", desc := "()V" } : Jvm.MethodName)) ∈ gw := g1 134 rfl rfl
theorem wd_1_135 : (Jvm.Cond.code ({ cls := "NameRing$Told", name := "<init>", desc := "()V" } : Jvm.MethodName) prog_10_method_1_code (1 : Nat) (Option.none : Option Jvm.ClassFile.FieldType)) ∈ gw := g1 135 rfl rfl
theorem wd_1_136 : (Jvm.Cond.methodLink "NameRing$Told" (3 : Nat) ({ cls := "java/lang/Object", name := "<init>", desc := "()V" } : Jvm.MethodName)) ∈ gw := g1 136 rfl rfl
theorem wd_1_137 : (Jvm.Cond.fieldLink "NameRing$Told" (35 : Nat) "NameRing$Told" "circle" "I") ∈ gw := g1 137 rfl rfl
theorem wd_1_138 : (Jvm.Cond.fieldLink "NameRing$RingReader" (84 : Nat) "NameRing$Told" "circle" "I") ∈ gw := g1 138 rfl rfl
theorem wd_1_139 : (Jvm.Cond.fieldLink "NameRing$Trials" (93 : Nat) "NameRing$Told" "circle" "I") ∈ gw := g1 139 rfl rfl
theorem wd_1_140 : (Jvm.Cond.fieldLink "NameRing$Looks" (84 : Nat) "NameRing$Told" "circle" "I") ∈ gw := g1 140 rfl rfl
theorem wd_1_141 : (Jvm.Cond.fieldLink "NameRing" (318 : Nat) "NameRing$Told" "circle" "I") ∈ gw := g1 141 rfl rfl
theorem wd_1_142 : (Jvm.Cond.fieldLink "NameRing$Told" (9 : Nat) "NameRing$Told" "list" "I") ∈ gw := g1 142 rfl rfl
theorem wd_1_143 : (Jvm.Cond.fieldLink "NameRing$RingReader" (94 : Nat) "NameRing$Told" "list" "I") ∈ gw := g1 143 rfl rfl
theorem wd_1_144 : (Jvm.Cond.fieldLink "NameRing" (337 : Nat) "NameRing$Told" "list" "I") ∈ gw := g1 144 rfl rfl
theorem wd_1_145 : (Jvm.Cond.fieldLink "NameRing$Told" (38 : Nat) "NameRing$Told" "nodes" "I") ∈ gw := g1 145 rfl rfl
theorem wd_1_146 : (Jvm.Cond.fieldLink "NameRing$Trials" (98 : Nat) "NameRing$Told" "nodes" "I") ∈ gw := g1 146 rfl rfl
theorem wd_1_147 : (Jvm.Cond.fieldLink "NameRing$RingReader" (97 : Nat) "NameRing$Told" "nodes" "I") ∈ gw := g1 147 rfl rfl
theorem wd_1_148 : (Jvm.Cond.fieldLink "NameRing$Deeds" (169 : Nat) "NameRing$Told" "nodes" "I") ∈ gw := g1 148 rfl rfl
theorem wd_1_149 : (Jvm.Cond.fieldLink "NameRing" (340 : Nat) "NameRing$Told" "nodes" "I") ∈ gw := g1 149 rfl rfl
theorem wd_1_150 : (Jvm.Cond.fieldLink "NameRing$Told" (41 : Nat) "NameRing$Told" "keys" "I") ∈ gw := g1 150 rfl rfl
theorem wd_1_151 : (Jvm.Cond.fieldLink "NameRing$Looks" (37 : Nat) "NameRing$Told" "keys" "I") ∈ gw := g1 151 rfl rfl
theorem wd_1_152 : (Jvm.Cond.fieldLink "NameRing$RingReader" (125 : Nat) "NameRing$Told" "keys" "I") ∈ gw := g1 152 rfl rfl
theorem wd_1_153 : (Jvm.Cond.fieldLink "NameRing$Deeds" (142 : Nat) "NameRing$Told" "keys" "I") ∈ gw := g1 153 rfl rfl
theorem wd_1_154 : (Jvm.Cond.fieldLink "NameRing" (343 : Nat) "NameRing$Told" "keys" "I") ∈ gw := g1 154 rfl rfl
theorem wd_1_155 : (Jvm.Cond.fieldLink "NameRing$Told" (15 : Nat) "NameRing$Told" "kinds" "[I") ∈ gw := g1 155 rfl rfl
theorem wd_1_156 : (Jvm.Cond.fieldLink "NameRing" (133 : Nat) "NameRing$Told" "kinds" "[I") ∈ gw := g1 156 rfl rfl
theorem wd_1_157 : (Jvm.Cond.fieldLink "NameRing$RingReader" (111 : Nat) "NameRing$Told" "kinds" "[I") ∈ gw := g1 157 rfl rfl
theorem wd_1_158 : (Jvm.Cond.fieldLink "NameRing$Deeds" (136 : Nat) "NameRing$Told" "kinds" "[I") ∈ gw := g1 158 rfl rfl
theorem wd_1_159 : (Jvm.Cond.fieldLink "NameRing$Told" (19 : Nat) "NameRing$Told" "places" "[I") ∈ gw := g1 159 rfl rfl
theorem wd_1_160 : (Jvm.Cond.fieldLink "NameRing$Finder" (48 : Nat) "NameRing$Told" "places" "[I") ∈ gw := g1 160 rfl rfl
theorem wd_1_161 : (Jvm.Cond.fieldLink "NameRing$Looks" (27 : Nat) "NameRing$Told" "places" "[I") ∈ gw := g1 161 rfl rfl
theorem wd_1_162 : (Jvm.Cond.fieldLink "NameRing$Deeds" (80 : Nat) "NameRing$Told" "places" "[I") ∈ gw := g1 162 rfl rfl
theorem wd_1_163 : (Jvm.Cond.fieldLink "NameRing" (137 : Nat) "NameRing$Told" "places" "[I") ∈ gw := g1 163 rfl rfl
theorem wd_1_164 : (Jvm.Cond.fieldLink "NameRing$RingReader" (122 : Nat) "NameRing$Told" "places" "[I") ∈ gw := g1 164 rfl rfl
theorem wd_1_165 : (Jvm.Cond.fieldLink "NameRing$Told" (22 : Nat) "NameRing$Told" "nodeNames" "[J") ∈ gw := g1 165 rfl rfl
theorem wd_1_166 : (Jvm.Cond.fieldLink "NameRing$RingReader" (103 : Nat) "NameRing$Told" "nodeNames" "[J") ∈ gw := g1 166 rfl rfl
theorem wd_1_167 : (Jvm.Cond.fieldLink "NameRing$Told" (26 : Nat) "NameRing$Told" "keyPlaces" "[I") ∈ gw := g1 167 rfl rfl
theorem wd_1_168 : (Jvm.Cond.fieldLink "NameRing$RingReader" (131 : Nat) "NameRing$Told" "keyPlaces" "[I") ∈ gw := g1 168 rfl rfl
theorem wd_1_169 : (Jvm.Cond.fieldLink "NameRing$Told" (29 : Nat) "NameRing$Told" "lies" "[I") ∈ gw := g1 169 rfl rfl
theorem wd_1_170 : (Jvm.Cond.fieldLink "NameRing$Looks" (47 : Nat) "NameRing$Told" "lies" "[I") ∈ gw := g1 170 rfl rfl
theorem wd_1_171 : (Jvm.Cond.fieldLink "NameRing" (166 : Nat) "NameRing$Told" "lies" "[I") ∈ gw := g1 171 rfl rfl
theorem wd_1_172 : (Jvm.Cond.fieldLink "NameRing$Deeds" (148 : Nat) "NameRing$Told" "lies" "[I") ∈ gw := g1 172 rfl rfl
theorem wd_1_173 : (Jvm.Cond.fieldLink "NameRing$RingReader" (154 : Nat) "NameRing$Told" "lies" "[I") ∈ gw := g1 173 rfl rfl
theorem wd_1_174 : (Jvm.Cond.fieldLink "NameRing$Told" (32 : Nat) "NameRing$Told" "keyNames" "[J") ∈ gw := g1 174 rfl rfl
theorem wd_1_175 : (Jvm.Cond.fieldLink "NameRing$RingReader" (128 : Nat) "NameRing$Told" "keyNames" "[J") ∈ gw := g1 175 rfl rfl
theorem wd_1_196 : (Jvm.Cond.superclass "NameRing$Told" "java/lang/Object") ∈ gw := g1 196 rfl rfl
theorem wd_1_197 : (Jvm.Cond.arrayClass Jvm.ClassFile.FieldType.int) ∈ gw := g1 197 rfl rfl
theorem wd_1_198 : (Jvm.Cond.classLink "NameRing" (23 : Nat) "NameRing$RingReader") ∈ gw := g1 198 rfl rfl
theorem wd_1_199 : (Jvm.Cond.instantiable "NameRing$RingReader" (5 : Nat)) ∈ gw := g1 199 rfl rfl
theorem wd_1_200 : (Jvm.Cond.methodLink "NameRing" (25 : Nat) ({ cls := "NameRing$RingReader", name := "<init>", desc := "(LNameRing$Tape;)V" } : Jvm.MethodName)) ∈ gw := g1 200 rfl rfl
theorem wd_1_201 : (Jvm.Cond.instanceMethod ({ cls := "NameRing$RingReader", name := "<init>", desc := "(LNameRing$Tape;)V" } : Jvm.MethodName)) ∈ gw := g1 201 rfl rfl
theorem wd_1_202 : (Jvm.Cond.code ({ cls := "NameRing$RingReader", name := "<init>", desc := "(LNameRing$Tape;)V" } : Jvm.MethodName) prog_6_method_1_code (2 : Nat) (Option.none : Option Jvm.ClassFile.FieldType)) ∈ gw := g1 202 rfl rfl
theorem wd_1_203 : (Jvm.Cond.methodLink "NameRing$RingReader" (3 : Nat) ({ cls := "java/lang/Object", name := "<init>", desc := "()V" } : Jvm.MethodName)) ∈ gw := g1 203 rfl rfl
theorem wd_1_204 : (Jvm.Cond.classLink "NameRing$RingReader" (15 : Nat) "NameRing$Told") ∈ gw := g1 204 rfl rfl
theorem wd_1_205 : (Jvm.Cond.methodLink "NameRing$RingReader" (17 : Nat) ({ cls := "NameRing$Told", name := "<init>", desc := "()V" } : Jvm.MethodName)) ∈ gw := g1 205 rfl rfl
theorem wd_1_206 : (Jvm.Cond.fieldLink "NameRing$RingReader" (9 : Nat) "NameRing$RingReader" "tape" "LNameRing$Tape;") ∈ gw := g1 206 rfl rfl
theorem wd_1_207 : (Jvm.Cond.fieldLink "NameRing$RingReader" (18 : Nat) "NameRing$RingReader" "draft" "LNameRing$Told;") ∈ gw := g1 207 rfl rfl
theorem wd_1_208 : (Jvm.Cond.fieldLink "NameRing" (112 : Nat) "NameRing$RingReader" "draft" "LNameRing$Told;") ∈ gw := g1 208 rfl rfl
theorem wd_1_209 : (Jvm.Cond.fieldLink "NameRing$RingReader" (25 : Nat) "NameRing$RingReader" "listTold" "Z") ∈ gw := g1 209 rfl rfl
theorem wd_1_210 : (Jvm.Cond.fieldLink "NameRing$RingReader" (29 : Nat) "NameRing$RingReader" "lawBegin" "I") ∈ gw := g1 210 rfl rfl
theorem wd_1_211 : (Jvm.Cond.fieldLink "NameRing$RingReader" (33 : Nat) "NameRing$RingReader" "factKey" "I") ∈ gw := g1 211 rfl rfl
theorem wd_1_222 : (Jvm.Cond.superclass "NameRing$RingReader" "java/lang/Object") ∈ gw := g1 222 rfl rfl
theorem wd_1_223 : (Jvm.Cond.classLink "NameRing" (32 : Nat) "NameRing$Work") ∈ gw := g1 223 rfl rfl
theorem wd_1_224 : (Jvm.Cond.instantiable "NameRing$Work" (4 : Nat)) ∈ gw := g1 224 rfl rfl
theorem wd_1_225 : (Jvm.Cond.methodLink "NameRing" (34 : Nat) ({ cls := "NameRing$Work", name := "<init>", desc := "()V" } : Jvm.MethodName)) ∈ gw := g1 225 rfl rfl
theorem wd_1_226 : (Jvm.Cond.instanceMethod ({ cls := "NameRing$Work", name := "<init>", desc := "()V" } : Jvm.MethodName)) ∈ gw := g1 226 rfl rfl
theorem wd_1_227 : (Jvm.Cond.code ({ cls := "NameRing$Work", name := "<init>", desc := "()V" } : Jvm.MethodName) prog_12_method_1_code (1 : Nat) (Option.none : Option Jvm.ClassFile.FieldType)) ∈ gw := g1 227 rfl rfl
theorem wd_1_228 : (Jvm.Cond.methodLink "NameRing$Work" (3 : Nat) ({ cls := "java/lang/Object", name := "<init>", desc := "()V" } : Jvm.MethodName)) ∈ gw := g1 228 rfl rfl
theorem wd_1_229 : (Jvm.Cond.fieldLink "NameRing$Work" (9 : Nat) "NameRing$Work" "deeds" "[I") ∈ gw := g1 229 rfl rfl
theorem wd_1_230 : (Jvm.Cond.fieldLink "NameRing$Trials" (49 : Nat) "NameRing$Work" "deeds" "[I") ∈ gw := g1 230 rfl rfl
theorem wd_1_231 : (Jvm.Cond.fieldLink "NameRing$Work" (15 : Nat) "NameRing$Work" "firsts" "[I") ∈ gw := g1 231 rfl rfl
theorem wd_1_232 : (Jvm.Cond.fieldLink "NameRing$Trials" (52 : Nat) "NameRing$Work" "firsts" "[I") ∈ gw := g1 232 rfl rfl
theorem wd_1_233 : (Jvm.Cond.fieldLink "NameRing$Work" (18 : Nat) "NameRing$Work" "seconds" "[I") ∈ gw := g1 233 rfl rfl
theorem wd_1_234 : (Jvm.Cond.fieldLink "NameRing$Trials" (55 : Nat) "NameRing$Work" "seconds" "[I") ∈ gw := g1 234 rfl rfl
theorem wd_1_235 : (Jvm.Cond.fieldLink "NameRing$Work" (21 : Nat) "NameRing$Work" "lines" "I") ∈ gw := g1 235 rfl rfl
theorem wd_1_236 : (Jvm.Cond.fieldLink "NameRing$Trials" (43 : Nat) "NameRing$Work" "lines" "I") ∈ gw := g1 236 rfl rfl
theorem wd_1_237 : (Jvm.Cond.fieldLink "NameRing" (349 : Nat) "NameRing$Work" "lines" "I") ∈ gw := g1 237 rfl rfl
theorem wd_2_6 : (Jvm.Cond.superclass "NameRing$Work" "java/lang/Object") ∈ gw := g2 6 rfl rfl
theorem wd_2_7 : (Jvm.Cond.classLink "NameRing" (42 : Nat) "NameRing$State") ∈ gw := g2 7 rfl rfl
theorem wd_2_8 : (Jvm.Cond.instantiable "NameRing$State" (2 : Nat)) ∈ gw := g2 8 rfl rfl
theorem wd_2_9 : (Jvm.Cond.methodLink "NameRing" (44 : Nat) ({ cls := "NameRing$State", name := "<init>", desc := "()V" } : Jvm.MethodName)) ∈ gw := g2 9 rfl rfl
theorem wd_2_10 : (Jvm.Cond.instanceMethod ({ cls := "NameRing$State", name := "<init>", desc := "()V" } : Jvm.MethodName)) ∈ gw := g2 10 rfl rfl
theorem wd_2_11 : (Jvm.Cond.code ({ cls := "NameRing$State", name := "<init>", desc := "()V" } : Jvm.MethodName) prog_8_method_1_code (2 : Nat) (Option.none : Option Jvm.ClassFile.FieldType)) ∈ gw := g2 11 rfl rfl
theorem wd_2_12 : (Jvm.Cond.methodLink "NameRing$State" (5 : Nat) ({ cls := "java/lang/Object", name := "<init>", desc := "()V" } : Jvm.MethodName)) ∈ gw := g2 12 rfl rfl
theorem wd_2_13 : (Jvm.Cond.fieldLink "NameRing$State" (11 : Nat) "NameRing$State" "cells" "[I") ∈ gw := g2 13 rfl rfl
theorem wd_2_14 : (Jvm.Cond.fieldLink "NameRing$State" (15 : Nat) "NameRing$State" "inside" "I") ∈ gw := g2 14 rfl rfl
theorem wd_2_15 : (Jvm.Cond.fieldLink "NameRing$Finder" (41 : Nat) "NameRing$State" "inside" "I") ∈ gw := g2 15 rfl rfl
theorem wd_2_16 : (Jvm.Cond.fieldLink "NameRing$Deeds" (63 : Nat) "NameRing$State" "inside" "I") ∈ gw := g2 16 rfl rfl
theorem wd_2_17 : (Jvm.Cond.fieldLink "NameRing$Looks" (50 : Nat) "NameRing$State" "inside" "I") ∈ gw := g2 17 rfl rfl
theorem wd_2_18 : (Jvm.Cond.fieldLink "NameRing" (147 : Nat) "NameRing$State" "inside" "I") ∈ gw := g2 18 rfl rfl
theorem wd_2_23 : (Jvm.Cond.superclass "NameRing$State" "java/lang/Object") ∈ gw := g2 23 rfl rfl
theorem wd_2_24 : (Jvm.Cond.classLink "NameRing" (49 : Nat) "NameRing$Finder") ∈ gw := g2 24 rfl rfl
theorem wd_2_25 : (Jvm.Cond.instantiable "NameRing$Finder" (5 : Nat)) ∈ gw := g2 25 rfl rfl
theorem wd_2_26 : (Jvm.Cond.methodLink "NameRing" (51 : Nat) ({ cls := "NameRing$Finder", name := "<init>", desc := "(LNameRing$Told;LNameRing$State;)V" } : Jvm.MethodName)) ∈ gw := g2 26 rfl rfl
theorem wd_2_27 : (Jvm.Cond.instanceMethod ({ cls := "NameRing$Finder", name := "<init>", desc := "(LNameRing$Told;LNameRing$State;)V" } : Jvm.MethodName)) ∈ gw := g2 27 rfl rfl
theorem wd_2_28 : (Jvm.Cond.code ({ cls := "NameRing$Finder", name := "<init>", desc := "(LNameRing$Told;LNameRing$State;)V" } : Jvm.MethodName) prog_3_method_1_code (3 : Nat) (Option.none : Option Jvm.ClassFile.FieldType)) ∈ gw := g2 28 rfl rfl
theorem wd_2_29 : (Jvm.Cond.methodLink "NameRing$Finder" (3 : Nat) ({ cls := "java/lang/Object", name := "<init>", desc := "()V" } : Jvm.MethodName)) ∈ gw := g2 29 rfl rfl
theorem wd_2_30 : (Jvm.Cond.fieldLink "NameRing$Finder" (9 : Nat) "NameRing$Finder" "told" "LNameRing$Told;") ∈ gw := g2 30 rfl rfl
theorem wd_2_31 : (Jvm.Cond.fieldLink "NameRing$Finder" (15 : Nat) "NameRing$Finder" "state" "LNameRing$State;") ∈ gw := g2 31 rfl rfl
theorem wd_2_32 : (Jvm.Cond.fieldLink "NameRing$Finder" (19 : Nat) "NameRing$Finder" "asked" "[I") ∈ gw := g2 32 rfl rfl
theorem wd_2_33 : (Jvm.Cond.fieldLink "NameRing" (237 : Nat) "NameRing$Finder" "asked" "[I") ∈ gw := g2 33 rfl rfl
theorem wd_2_34 : (Jvm.Cond.fieldLink "NameRing$Finder" (23 : Nat) "NameRing$Finder" "found" "I") ∈ gw := g2 34 rfl rfl
theorem wd_2_35 : (Jvm.Cond.fieldLink "NameRing$Deeds" (88 : Nat) "NameRing$Finder" "found" "I") ∈ gw := g2 35 rfl rfl
theorem wd_2_36 : (Jvm.Cond.fieldLink "NameRing" (228 : Nat) "NameRing$Finder" "found" "I") ∈ gw := g2 36 rfl rfl
theorem wd_2_37 : (Jvm.Cond.fieldLink "NameRing$Finder" (27 : Nat) "NameRing$Finder" "taken" "I") ∈ gw := g2 37 rfl rfl
theorem wd_2_38 : (Jvm.Cond.fieldLink "NameRing$Seen" (39 : Nat) "NameRing$Finder" "taken" "I") ∈ gw := g2 38 rfl rfl
theorem wd_2_39 : (Jvm.Cond.fieldLink "NameRing" (231 : Nat) "NameRing$Finder" "taken" "I") ∈ gw := g2 39 rfl rfl
theorem wd_2_40 : (Jvm.Cond.fieldLink "NameRing$Looks" (114 : Nat) "NameRing$Finder" "taken" "I") ∈ gw := g2 40 rfl rfl
theorem wd_2_51 : (Jvm.Cond.superclass "NameRing$Finder" "java/lang/Object") ∈ gw := g2 51 rfl rfl
theorem wd_2_52 : (Jvm.Cond.classLink "NameRing" (58 : Nat) "NameRing$Deeds") ∈ gw := g2 52 rfl rfl
theorem wd_2_53 : (Jvm.Cond.instantiable "NameRing$Deeds" (4 : Nat)) ∈ gw := g2 53 rfl rfl
theorem wd_2_54 : (Jvm.Cond.methodLink "NameRing" (60 : Nat) ({ cls := "NameRing$Deeds", name := "<init>", desc := "(LNameRing$Told;LNameRing$State;LNameRing$Finder;)V" } : Jvm.MethodName)) ∈ gw := g2 54 rfl rfl
theorem wd_2_55 : (Jvm.Cond.instanceMethod ({ cls := "NameRing$Deeds", name := "<init>", desc := "(LNameRing$Told;LNameRing$State;LNameRing$Finder;)V" } : Jvm.MethodName)) ∈ gw := g2 55 rfl rfl
theorem wd_2_56 : (Jvm.Cond.code ({ cls := "NameRing$Deeds", name := "<init>", desc := "(LNameRing$Told;LNameRing$State;LNameRing$Finder;)V" } : Jvm.MethodName) prog_2_method_1_code (4 : Nat) (Option.none : Option Jvm.ClassFile.FieldType)) ∈ gw := g2 56 rfl rfl
theorem wd_2_57 : (Jvm.Cond.methodLink "NameRing$Deeds" (3 : Nat) ({ cls := "java/lang/Object", name := "<init>", desc := "()V" } : Jvm.MethodName)) ∈ gw := g2 57 rfl rfl
theorem wd_2_58 : (Jvm.Cond.fieldLink "NameRing$Deeds" (9 : Nat) "NameRing$Deeds" "told" "LNameRing$Told;") ∈ gw := g2 58 rfl rfl
theorem wd_2_59 : (Jvm.Cond.fieldLink "NameRing$Deeds" (15 : Nat) "NameRing$Deeds" "state" "LNameRing$State;") ∈ gw := g2 59 rfl rfl
theorem wd_2_60 : (Jvm.Cond.fieldLink "NameRing$Deeds" (19 : Nat) "NameRing$Deeds" "finder" "LNameRing$Finder;") ∈ gw := g2 60 rfl rfl
theorem wd_2_61 : (Jvm.Cond.fieldLink "NameRing$Deeds" (23 : Nat) "NameRing$Deeds" "row" "[I") ∈ gw := g2 61 rfl rfl
theorem wd_2_70 : (Jvm.Cond.superclass "NameRing$Deeds" "java/lang/Object") ∈ gw := g2 70 rfl rfl
theorem wd_2_71 : (Jvm.Cond.classLink "NameRing" (67 : Nat) "NameRing$Looks") ∈ gw := g2 71 rfl rfl
theorem wd_2_72 : (Jvm.Cond.instantiable "NameRing$Looks" (3 : Nat)) ∈ gw := g2 72 rfl rfl
theorem wd_2_73 : (Jvm.Cond.methodLink "NameRing" (69 : Nat) ({ cls := "NameRing$Looks", name := "<init>", desc := "(LNameRing$Told;LNameRing$State;LNameRing$Finder;)V" } : Jvm.MethodName)) ∈ gw := g2 73 rfl rfl
theorem wd_2_74 : (Jvm.Cond.instanceMethod ({ cls := "NameRing$Looks", name := "<init>", desc := "(LNameRing$Told;LNameRing$State;LNameRing$Finder;)V" } : Jvm.MethodName)) ∈ gw := g2 74 rfl rfl
theorem wd_2_75 : (Jvm.Cond.code ({ cls := "NameRing$Looks", name := "<init>", desc := "(LNameRing$Told;LNameRing$State;LNameRing$Finder;)V" } : Jvm.MethodName) prog_4_method_1_code (4 : Nat) (Option.none : Option Jvm.ClassFile.FieldType)) ∈ gw := g2 75 rfl rfl
theorem wd_2_76 : (Jvm.Cond.methodLink "NameRing$Looks" (3 : Nat) ({ cls := "java/lang/Object", name := "<init>", desc := "()V" } : Jvm.MethodName)) ∈ gw := g2 76 rfl rfl
theorem wd_2_77 : (Jvm.Cond.fieldLink "NameRing$Looks" (9 : Nat) "NameRing$Looks" "told" "LNameRing$Told;") ∈ gw := g2 77 rfl rfl
theorem wd_2_78 : (Jvm.Cond.fieldLink "NameRing$Looks" (15 : Nat) "NameRing$Looks" "state" "LNameRing$State;") ∈ gw := g2 78 rfl rfl
theorem wd_2_79 : (Jvm.Cond.fieldLink "NameRing$Looks" (19 : Nat) "NameRing$Looks" "finder" "LNameRing$Finder;") ∈ gw := g2 79 rfl rfl
theorem wd_2_86 : (Jvm.Cond.superclass "NameRing$Looks" "java/lang/Object") ∈ gw := g2 86 rfl rfl
theorem wd_2_87 : (Jvm.Cond.classLink "NameRing" (74 : Nat) "NameRing$Trials") ∈ gw := g2 87 rfl rfl
theorem wd_2_88 : (Jvm.Cond.instantiable "NameRing$Trials" (7 : Nat)) ∈ gw := g2 88 rfl rfl
theorem wd_2_89 : (Jvm.Cond.methodLink "NameRing" (76 : Nat) ({ cls := "NameRing$Trials", name := "<init>", desc := "(LNameRing$Told;LNameRing$State;LNameRing$Deeds;LNameRing$Looks;)V" } : Jvm.MethodName)) ∈ gw := g2 89 rfl rfl
theorem wd_2_90 : (Jvm.Cond.instanceMethod ({ cls := "NameRing$Trials", name := "<init>", desc := "(LNameRing$Told;LNameRing$State;LNameRing$Deeds;LNameRing$Looks;)V" } : Jvm.MethodName)) ∈ gw := g2 90 rfl rfl
theorem wd_2_91 : (Jvm.Cond.code ({ cls := "NameRing$Trials", name := "<init>", desc := "(LNameRing$Told;LNameRing$State;LNameRing$Deeds;LNameRing$Looks;)V" } : Jvm.MethodName) prog_11_method_1_code (5 : Nat) (Option.none : Option Jvm.ClassFile.FieldType)) ∈ gw := g2 91 rfl rfl
theorem wd_2_92 : (Jvm.Cond.methodLink "NameRing$Trials" (3 : Nat) ({ cls := "java/lang/Object", name := "<init>", desc := "()V" } : Jvm.MethodName)) ∈ gw := g2 92 rfl rfl
theorem wd_2_93 : (Jvm.Cond.classLink "NameRing$Trials" (27 : Nat) "NameRing$State") ∈ gw := g2 93 rfl rfl
theorem wd_2_94 : (Jvm.Cond.methodLink "NameRing$Trials" (29 : Nat) ({ cls := "NameRing$State", name := "<init>", desc := "()V" } : Jvm.MethodName)) ∈ gw := g2 94 rfl rfl
theorem wd_2_95 : (Jvm.Cond.fieldLink "NameRing$Trials" (9 : Nat) "NameRing$Trials" "told" "LNameRing$Told;") ∈ gw := g2 95 rfl rfl
theorem wd_2_96 : (Jvm.Cond.fieldLink "NameRing$Trials" (15 : Nat) "NameRing$Trials" "state" "LNameRing$State;") ∈ gw := g2 96 rfl rfl
theorem wd_2_97 : (Jvm.Cond.fieldLink "NameRing$Trials" (19 : Nat) "NameRing$Trials" "deeds" "LNameRing$Deeds;") ∈ gw := g2 97 rfl rfl
theorem wd_2_98 : (Jvm.Cond.fieldLink "NameRing$Trials" (23 : Nat) "NameRing$Trials" "looks" "LNameRing$Looks;") ∈ gw := g2 98 rfl rfl
theorem wd_2_99 : (Jvm.Cond.fieldLink "NameRing$Trials" (30 : Nat) "NameRing$Trials" "kept" "LNameRing$State;") ∈ gw := g2 99 rfl rfl
theorem wd_2_100 : (Jvm.Cond.fieldLink "NameRing$Trials" (33 : Nat) "NameRing$Trials" "before" "LNameRing$State;") ∈ gw := g2 100 rfl rfl
theorem wd_2_101 : (Jvm.Cond.fieldLink "NameRing$Trials" (101 : Nat) "NameRing$Trials" "drawn" "J") ∈ gw := g2 101 rfl rfl
theorem wd_2_116 : (Jvm.Cond.superclass "NameRing$Trials" "java/lang/Object") ∈ gw := g2 116 rfl rfl
theorem wd_2_117 : (Jvm.Cond.classLink "NameRing" (83 : Nat) "NameRing$Seen") ∈ gw := g2 117 rfl rfl
theorem wd_2_118 : (Jvm.Cond.instantiable "NameRing$Seen" (5 : Nat)) ∈ gw := g2 118 rfl rfl
theorem wd_2_119 : (Jvm.Cond.methodLink "NameRing" (85 : Nat) ({ cls := "NameRing$Seen", name := "<init>", desc := "()V" } : Jvm.MethodName)) ∈ gw := g2 119 rfl rfl
theorem wd_2_120 : (Jvm.Cond.instanceMethod ({ cls := "NameRing$Seen", name := "<init>", desc := "()V" } : Jvm.MethodName)) ∈ gw := g2 120 rfl rfl
theorem wd_2_121 : (Jvm.Cond.code ({ cls := "NameRing$Seen", name := "<init>", desc := "()V" } : Jvm.MethodName) prog_7_method_1_code (1 : Nat) (Option.none : Option Jvm.ClassFile.FieldType)) ∈ gw := g2 121 rfl rfl
theorem wd_2_122 : (Jvm.Cond.methodLink "NameRing$Seen" (3 : Nat) ({ cls := "java/lang/Object", name := "<init>", desc := "()V" } : Jvm.MethodName)) ∈ gw := g2 122 rfl rfl
theorem wd_2_123 : (Jvm.Cond.fieldLink "NameRing$Seen" (9 : Nat) "NameRing$Seen" "places" "[I") ∈ gw := g2 123 rfl rfl
theorem wd_2_124 : (Jvm.Cond.fieldLink "NameRing$Seen" (15 : Nat) "NameRing$Seen" "bounds" "[I") ∈ gw := g2 124 rfl rfl
theorem wd_2_125 : (Jvm.Cond.fieldLink "NameRing$Seen" (18 : Nat) "NameRing$Seen" "mores" "[Z") ∈ gw := g2 125 rfl rfl
theorem wd_2_126 : (Jvm.Cond.fieldLink "NameRing$Seen" (22 : Nat) "NameRing$Seen" "groups" "[I") ∈ gw := g2 126 rfl rfl
theorem wd_2_127 : (Jvm.Cond.fieldLink "NameRing$Seen" (25 : Nat) "NameRing$Seen" "many" "I") ∈ gw := g2 127 rfl rfl
theorem wd_2_128 : (Jvm.Cond.fieldLink "NameRing" (352 : Nat) "NameRing$Seen" "many" "I") ∈ gw := g2 128 rfl rfl
theorem wd_2_139 : (Jvm.Cond.superclass "NameRing$Seen" "java/lang/Object") ∈ gw := g2 139 rfl rfl
theorem wd_2_140 : (Jvm.Cond.arrayClass Jvm.ClassFile.FieldType.boolean) ∈ gw := g2 140 rfl rfl
theorem wd_2_141 : (Jvm.Cond.classLink "NameRing" (90 : Nat) "NameRing$Past") ∈ gw := g2 141 rfl rfl
theorem wd_2_142 : (Jvm.Cond.instantiable "NameRing$Past" (6 : Nat)) ∈ gw := g2 142 rfl rfl
theorem wd_2_143 : (Jvm.Cond.methodLink "NameRing" (92 : Nat) ({ cls := "NameRing$Past", name := "<init>", desc := "()V" } : Jvm.MethodName)) ∈ gw := g2 143 rfl rfl
theorem wd_2_144 : (Jvm.Cond.instanceMethod ({ cls := "NameRing$Past", name := "<init>", desc := "()V" } : Jvm.MethodName)) ∈ gw := g2 144 rfl rfl
theorem wd_2_145 : (Jvm.Cond.code ({ cls := "NameRing$Past", name := "<init>", desc := "()V" } : Jvm.MethodName) prog_5_method_1_code (2 : Nat) (Option.none : Option Jvm.ClassFile.FieldType)) ∈ gw := g2 145 rfl rfl
theorem wd_2_146 : (Jvm.Cond.methodLink "NameRing$Past" (3 : Nat) ({ cls := "java/lang/Object", name := "<init>", desc := "()V" } : Jvm.MethodName)) ∈ gw := g2 146 rfl rfl
theorem wd_2_147 : (Jvm.Cond.classLink "NameRing$Past" (11 : Nat) "NameRing$State") ∈ gw := g2 147 rfl rfl
theorem wd_2_149 : (Jvm.Cond.methodLink "NameRing$Past" (17 : Nat) ({ cls := "NameRing$State", name := "<init>", desc := "()V" } : Jvm.MethodName)) ∈ gw := g2 149 rfl rfl
theorem wd_2_150 : (Jvm.Cond.classLink "NameRing$Past" (21 : Nat) "NameRing$Seen") ∈ gw := g2 150 rfl rfl
theorem wd_2_152 : (Jvm.Cond.methodLink "NameRing$Past" (31 : Nat) ({ cls := "NameRing$Seen", name := "<init>", desc := "()V" } : Jvm.MethodName)) ∈ gw := g2 152 rfl rfl
theorem wd_2_153 : (Jvm.Cond.fieldLink "NameRing$Past" (13 : Nat) "NameRing$Past" "slots" "[LNameRing$State;") ∈ gw := g2 153 rfl rfl
theorem wd_2_154 : (Jvm.Cond.fieldLink "NameRing$Past" (18 : Nat) "NameRing$Past" "markedStates" "[LNameRing$State;") ∈ gw := g2 154 rfl rfl
theorem wd_2_155 : (Jvm.Cond.fieldLink "NameRing$Past" (23 : Nat) "NameRing$Past" "markedSeen" "[LNameRing$Seen;") ∈ gw := g2 155 rfl rfl
theorem wd_2_156 : (Jvm.Cond.fieldLink "NameRing$Past" (27 : Nat) "NameRing$Past" "isMarked" "[Z") ∈ gw := g2 156 rfl rfl
theorem wd_2_157 : (Jvm.Cond.fieldLink "NameRing$Past" (36 : Nat) "NameRing$Past" "next" "I") ∈ gw := g2 157 rfl rfl
theorem wd_2_158 : (Jvm.Cond.fieldLink "NameRing$Past" (32 : Nat) "NameRing$Past" "many" "I") ∈ gw := g2 158 rfl rfl
theorem wd_2_159 : (Jvm.Cond.fieldLink "NameRing" (355 : Nat) "NameRing$Past" "many" "I") ∈ gw := g2 159 rfl rfl
theorem wd_2_172 : (Jvm.Cond.superclass "NameRing$Past" "java/lang/Object") ∈ gw := g2 172 rfl rfl
theorem wd_2_173 : (Jvm.Cond.fieldLink "NameRing" (10 : Nat) "NameRing" "tape" "LNameRing$Tape;") ∈ gw := g2 173 rfl rfl
theorem wd_2_174 : (Jvm.Cond.fieldLink "NameRing" (19 : Nat) "NameRing" "told" "LNameRing$Told;") ∈ gw := g2 174 rfl rfl
theorem wd_2_175 : (Jvm.Cond.fieldLink "NameRing" (28 : Nat) "NameRing" "reader" "LNameRing$RingReader;") ∈ gw := g2 175 rfl rfl
theorem wd_2_176 : (Jvm.Cond.fieldLink "NameRing" (35 : Nat) "NameRing" "work" "LNameRing$Work;") ∈ gw := g2 176 rfl rfl
theorem wd_2_177 : (Jvm.Cond.fieldLink "NameRing" (39 : Nat) "NameRing" "draft" "LNameRing$Work;") ∈ gw := g2 177 rfl rfl
theorem wd_2_178 : (Jvm.Cond.fieldLink "NameRing" (45 : Nat) "NameRing" "state" "LNameRing$State;") ∈ gw := g2 178 rfl rfl
theorem wd_2_179 : (Jvm.Cond.fieldLink "NameRing" (54 : Nat) "NameRing" "finder" "LNameRing$Finder;") ∈ gw := g2 179 rfl rfl
theorem wd_2_180 : (Jvm.Cond.fieldLink "NameRing" (63 : Nat) "NameRing" "deeds" "LNameRing$Deeds;") ∈ gw := g2 180 rfl rfl
theorem wd_2_181 : (Jvm.Cond.fieldLink "NameRing" (70 : Nat) "NameRing" "looks" "LNameRing$Looks;") ∈ gw := g2 181 rfl rfl
theorem wd_2_182 : (Jvm.Cond.fieldLink "NameRing" (79 : Nat) "NameRing" "trials" "LNameRing$Trials;") ∈ gw := g2 182 rfl rfl
theorem wd_2_183 : (Jvm.Cond.fieldLink "NameRing" (86 : Nat) "NameRing" "seen" "LNameRing$Seen;") ∈ gw := g2 183 rfl rfl
theorem wd_2_184 : (Jvm.Cond.fieldLink "NameRing" (93 : Nat) "NameRing" "past" "LNameRing$Past;") ∈ gw := g2 184 rfl rfl
theorem wd_2_209 : (Jvm.Cond.superclass "NameRing" "java/lang/Object") ∈ gw := g2 209 rfl rfl
theorem wd_2_210 : (Jvm.Cond.methodLink "NameRingLaw" (21 : Nat) ({ cls := "NameRing", name := "feed", desc := "(JJJ)I" } : Jvm.MethodName)) ∈ gw := g2 210 rfl rfl
theorem wd_2_211 : (Jvm.Cond.instanceMethod ({ cls := "NameRing", name := "feed", desc := "(JJJ)I" } : Jvm.MethodName)) ∈ gw := g2 211 rfl rfl
theorem wd_2_212 : (Jvm.Cond.selects "NameRing" ({ cls := "NameRing", name := "feed", desc := "(JJJ)I" } : Jvm.MethodName) ({ cls := "NameRing", name := "feed", desc := "(JJJ)I" } : Jvm.MethodName)) ∈ gw := g2 212 rfl rfl
theorem wd_2_213 : (Jvm.Cond.code ({ cls := "NameRing", name := "feed", desc := "(JJJ)I" } : Jvm.MethodName) prog_1_method_2_code (7 : Nat) (Option.some Jvm.ClassFile.FieldType.int)) ∈ gw := g2 213 rfl rfl
theorem wd_2_214 : (Jvm.Cond.methodLink "NameRing" (97 : Nat) ({ cls := "NameRing$Tape", name := "addBytes", desc := "(J)V" } : Jvm.MethodName)) ∈ gw := g2 214 rfl rfl
theorem wd_2_215 : (Jvm.Cond.instanceMethod ({ cls := "NameRing$Tape", name := "addBytes", desc := "(J)V" } : Jvm.MethodName)) ∈ gw := g2 215 rfl rfl
theorem wd_2_216 : (Jvm.Cond.selects "NameRing$Tape" ({ cls := "NameRing$Tape", name := "addBytes", desc := "(J)V" } : Jvm.MethodName) ({ cls := "NameRing$Tape", name := "addBytes", desc := "(J)V" } : Jvm.MethodName)) ∈ gw := g2 216 rfl rfl
theorem wd_2_217 : (Jvm.Cond.code ({ cls := "NameRing$Tape", name := "addBytes", desc := "(J)V" } : Jvm.MethodName) prog_9_method_2_code (6 : Nat) (Option.none : Option Jvm.ClassFile.FieldType)) ∈ gw := g2 217 rfl rfl
theorem wd_2_218 : (Jvm.Cond.methodLink "NameRingLaw" (26 : Nat) ({ cls := "NameRing", name := "ring", desc := "()I" } : Jvm.MethodName)) ∈ gw := g2 218 rfl rfl
theorem wd_2_219 : (Jvm.Cond.instanceMethod ({ cls := "NameRing", name := "ring", desc := "()I" } : Jvm.MethodName)) ∈ gw := g2 219 rfl rfl
theorem wd_2_220 : (Jvm.Cond.selects "NameRing" ({ cls := "NameRing", name := "ring", desc := "()I" } : Jvm.MethodName) ({ cls := "NameRing", name := "ring", desc := "()I" } : Jvm.MethodName)) ∈ gw := g2 220 rfl rfl
theorem wd_2_221 : (Jvm.Cond.code ({ cls := "NameRing", name := "ring", desc := "()I" } : Jvm.MethodName) prog_1_method_3_code (2 : Nat) (Option.some Jvm.ClassFile.FieldType.int)) ∈ gw := g2 221 rfl rfl
theorem wd_2_222 : (Jvm.Cond.methodLink "NameRing" (105 : Nat) ({ cls := "NameRing$RingReader", name := "readRing", desc := "()I" } : Jvm.MethodName)) ∈ gw := g2 222 rfl rfl
theorem wd_2_223 : (Jvm.Cond.instanceMethod ({ cls := "NameRing$RingReader", name := "readRing", desc := "()I" } : Jvm.MethodName)) ∈ gw := g2 223 rfl rfl
theorem wd_2_224 : (Jvm.Cond.selects "NameRing$RingReader" ({ cls := "NameRing$RingReader", name := "readRing", desc := "()I" } : Jvm.MethodName) ({ cls := "NameRing$RingReader", name := "readRing", desc := "()I" } : Jvm.MethodName)) ∈ gw := g2 224 rfl rfl
theorem wd_2_225 : (Jvm.Cond.code ({ cls := "NameRing$RingReader", name := "readRing", desc := "()I" } : Jvm.MethodName) prog_6_method_2_code (3 : Nat) (Option.some Jvm.ClassFile.FieldType.int)) ∈ gw := g2 225 rfl rfl
theorem wd_2_226 : (Jvm.Cond.methodLink "NameRing$RingReader" (22 : Nat) ({ cls := "NameRing$Told", name := "clear", desc := "()V" } : Jvm.MethodName)) ∈ gw := g2 226 rfl rfl
theorem wd_2_227 : (Jvm.Cond.instanceMethod ({ cls := "NameRing$Told", name := "clear", desc := "()V" } : Jvm.MethodName)) ∈ gw := g2 227 rfl rfl
theorem wd_2_228 : (Jvm.Cond.selects "NameRing$Told" ({ cls := "NameRing$Told", name := "clear", desc := "()V" } : Jvm.MethodName) ({ cls := "NameRing$Told", name := "clear", desc := "()V" } : Jvm.MethodName)) ∈ gw := g2 228 rfl rfl
theorem wd_2_229 : (Jvm.Cond.code ({ cls := "NameRing$Told", name := "clear", desc := "()V" } : Jvm.MethodName) prog_10_method_2_code (1 : Nat) (Option.none : Option Jvm.ClassFile.FieldType)) ∈ gw := g2 229 rfl rfl
theorem wd_2_230 : (Jvm.Cond.methodLink "NameRing$RingReader" (36 : Nat) ({ cls := "NameRing$Tape", name := "restart", desc := "()V" } : Jvm.MethodName)) ∈ gw := g2 230 rfl rfl
theorem wd_2_231 : (Jvm.Cond.instanceMethod ({ cls := "NameRing$Tape", name := "restart", desc := "()V" } : Jvm.MethodName)) ∈ gw := g2 231 rfl rfl
theorem wd_2_232 : (Jvm.Cond.selects "NameRing$Tape" ({ cls := "NameRing$Tape", name := "restart", desc := "()V" } : Jvm.MethodName) ({ cls := "NameRing$Tape", name := "restart", desc := "()V" } : Jvm.MethodName)) ∈ gw := g2 232 rfl rfl
theorem wd_2_233 : (Jvm.Cond.code ({ cls := "NameRing$Tape", name := "restart", desc := "()V" } : Jvm.MethodName) prog_9_method_4_code (1 : Nat) (Option.none : Option Jvm.ClassFile.FieldType)) ∈ gw := g2 233 rfl rfl
theorem wd_2_234 : (Jvm.Cond.methodLink "NameRing$Tape" (39 : Nat) ({ cls := "NameRing$Tape", name := "goTo", desc := "(I)V" } : Jvm.MethodName)) ∈ gw := g2 234 rfl rfl
theorem wd_2_235 : (Jvm.Cond.instanceMethod ({ cls := "NameRing$Tape", name := "goTo", desc := "(I)V" } : Jvm.MethodName)) ∈ gw := g2 235 rfl rfl
theorem wd_2_236 : (Jvm.Cond.selects "NameRing$Tape" ({ cls := "NameRing$Tape", name := "goTo", desc := "(I)V" } : Jvm.MethodName) ({ cls := "NameRing$Tape", name := "goTo", desc := "(I)V" } : Jvm.MethodName)) ∈ gw := g2 236 rfl rfl
theorem wd_2_237 : (Jvm.Cond.code ({ cls := "NameRing$Tape", name := "goTo", desc := "(I)V" } : Jvm.MethodName) prog_9_method_5_code (2 : Nat) (Option.none : Option Jvm.ClassFile.FieldType)) ∈ gw := g2 237 rfl rfl
theorem wd_2_238 : (Jvm.Cond.methodLink "NameRing$Tape" (46 : Nat) ({ cls := "NameRing$Tape", name := "step", desc := "()V" } : Jvm.MethodName)) ∈ gw := g2 238 rfl rfl
theorem wd_2_239 : (Jvm.Cond.instanceMethod ({ cls := "NameRing$Tape", name := "step", desc := "()V" } : Jvm.MethodName)) ∈ gw := g2 239 rfl rfl
theorem wd_3_0 : (Jvm.Cond.selects "NameRing$Tape" ({ cls := "NameRing$Tape", name := "step", desc := "()V" } : Jvm.MethodName) ({ cls := "NameRing$Tape", name := "step", desc := "()V" } : Jvm.MethodName)) ∈ gw := g3 0 rfl rfl
theorem wd_3_1 : (Jvm.Cond.code ({ cls := "NameRing$Tape", name := "step", desc := "()V" } : Jvm.MethodName) prog_9_method_6_code (1 : Nat) (Option.none : Option Jvm.ClassFile.FieldType)) ∈ gw := g3 1 rfl rfl
theorem wd_3_2 : (Jvm.Cond.methodLink "NameRing$Tape" (58 : Nat) ({ cls := "NameRing$Tape", name := "readWord", desc := "()V" } : Jvm.MethodName)) ∈ gw := g3 2 rfl rfl
theorem wd_3_4 : (Jvm.Cond.instanceMethod ({ cls := "NameRing$Tape", name := "readWord", desc := "()V" } : Jvm.MethodName)) ∈ gw := g3 4 rfl rfl
theorem wd_3_5 : (Jvm.Cond.code ({ cls := "NameRing$Tape", name := "readWord", desc := "()V" } : Jvm.MethodName) prog_9_method_7_code (2 : Nat) (Option.none : Option Jvm.ClassFile.FieldType)) ∈ gw := g3 5 rfl rfl
theorem wd_3_6 : (Jvm.Cond.methodLink "NameRing$Tape" (61 : Nat) ({ cls := "NameRing$Tape", name := "readNumber", desc := "()V" } : Jvm.MethodName)) ∈ gw := g3 6 rfl rfl
theorem wd_3_8 : (Jvm.Cond.instanceMethod ({ cls := "NameRing$Tape", name := "readNumber", desc := "()V" } : Jvm.MethodName)) ∈ gw := g3 8 rfl rfl
theorem wd_3_9 : (Jvm.Cond.code ({ cls := "NameRing$Tape", name := "readNumber", desc := "()V" } : Jvm.MethodName) prog_9_method_8_code (1 : Nat) (Option.none : Option Jvm.ClassFile.FieldType)) ∈ gw := g3 9 rfl rfl
theorem wd_3_11 : (Jvm.Cond.methodLink "NameRing$Tape" (66 : Nat) ({ cls := "java/lang/String", name := "indexOf", desc := "(I)I" } : Jvm.MethodName)) ∈ gw := g3 11 rfl rfl
theorem wd_3_12 : (Jvm.Cond.instanceMethod ({ cls := "java/lang/String", name := "indexOf", desc := "(I)I" } : Jvm.MethodName)) ∈ gw := g3 12 rfl rfl
theorem wd_3_13 : (Jvm.Cond.selects "java/lang/String" ({ cls := "java/lang/String", name := "indexOf", desc := "(I)I" } : Jvm.MethodName) ({ cls := "java/lang/String", name := "indexOf", desc := "(I)I" } : Jvm.MethodName)) ∈ gw := g3 13 rfl rfl
theorem wd_3_14 : (Jvm.Cond.code ({ cls := "java/lang/String", name := "indexOf", desc := "(I)I" } : Jvm.MethodName) prog_23_method_79_code (2 : Nat) (Option.some Jvm.ClassFile.FieldType.int)) ∈ gw := g3 14 rfl rfl
theorem wd_3_15 : (Jvm.Cond.methodLink "java/lang/String" (633 : Nat) ({ cls := "java/lang/String", name := "indexOf", desc := "(II)I" } : Jvm.MethodName)) ∈ gw := g3 15 rfl rfl
theorem wd_3_16 : (Jvm.Cond.instanceMethod ({ cls := "java/lang/String", name := "indexOf", desc := "(II)I" } : Jvm.MethodName)) ∈ gw := g3 16 rfl rfl
theorem wd_3_17 : (Jvm.Cond.selects "java/lang/String" ({ cls := "java/lang/String", name := "indexOf", desc := "(II)I" } : Jvm.MethodName) ({ cls := "java/lang/String", name := "indexOf", desc := "(II)I" } : Jvm.MethodName)) ∈ gw := g3 17 rfl rfl
theorem wd_3_18 : (Jvm.Cond.code ({ cls := "java/lang/String", name := "indexOf", desc := "(II)I" } : Jvm.MethodName) prog_23_method_80_code (3 : Nat) (Option.some Jvm.ClassFile.FieldType.int)) ∈ gw := g3 18 rfl rfl
theorem wd_3_19 : (Jvm.Cond.methodLink "java/lang/String" (505 : Nat) ({ cls := "java/lang/String", name := "length", desc := "()I" } : Jvm.MethodName)) ∈ gw := g3 19 rfl rfl
theorem wd_3_20 : (Jvm.Cond.methodLink "java/lang/String" (637 : Nat) ({ cls := "java/lang/StringLatin1", name := "indexOf", desc := "([BIII)I" } : Jvm.MethodName)) ∈ gw := g3 20 rfl rfl
theorem wd_3_21 : (Jvm.Cond.static ({ cls := "java/lang/StringLatin1", name := "indexOf", desc := "([BIII)I" } : Jvm.MethodName)) ∈ gw := g3 21 rfl rfl
theorem wd_3_22 : (Jvm.Cond.code ({ cls := "java/lang/StringLatin1", name := "indexOf", desc := "([BIII)I" } : Jvm.MethodName) prog_24_method_22_code (4 : Nat) (Option.some Jvm.ClassFile.FieldType.int)) ∈ gw := g3 22 rfl rfl
theorem wd_3_23 : (Jvm.Cond.methodLink "java/lang/StringLatin1" (88 : Nat) ({ cls := "java/lang/StringLatin1", name := "canEncode", desc := "(I)Z" } : Jvm.MethodName)) ∈ gw := g3 23 rfl rfl
theorem wd_3_24 : (Jvm.Cond.static ({ cls := "java/lang/StringLatin1", name := "canEncode", desc := "(I)Z" } : Jvm.MethodName)) ∈ gw := g3 24 rfl rfl
theorem wd_3_25 : (Jvm.Cond.code ({ cls := "java/lang/StringLatin1", name := "canEncode", desc := "(I)Z" } : Jvm.MethodName) prog_24_method_4_code (1 : Nat) (Option.some Jvm.ClassFile.FieldType.boolean)) ∈ gw := g3 25 rfl rfl
theorem wd_3_26 : (Jvm.Cond.methodLink "java/lang/StringLatin1" (92 : Nat) ({ cls := "java/lang/Math", name := "max", desc := "(II)I" } : Jvm.MethodName)) ∈ gw := g3 26 rfl rfl
theorem wd_3_27 : (Jvm.Cond.static ({ cls := "java/lang/Math", name := "max", desc := "(II)I" } : Jvm.MethodName)) ∈ gw := g3 27 rfl rfl
theorem wd_3_28 : (Jvm.Cond.code ({ cls := "java/lang/Math", name := "max", desc := "(II)I" } : Jvm.MethodName) prog_21_method_65_code (2 : Nat) (Option.some Jvm.ClassFile.FieldType.int)) ∈ gw := g3 28 rfl rfl
theorem wd_3_29 : (Jvm.Cond.methodLink "java/lang/StringLatin1" (38 : Nat) ({ cls := "java/lang/Math", name := "min", desc := "(II)I" } : Jvm.MethodName)) ∈ gw := g3 29 rfl rfl
theorem wd_3_30 : (Jvm.Cond.static ({ cls := "java/lang/Math", name := "min", desc := "(II)I" } : Jvm.MethodName)) ∈ gw := g3 30 rfl rfl
theorem wd_3_31 : (Jvm.Cond.code ({ cls := "java/lang/Math", name := "min", desc := "(II)I" } : Jvm.MethodName) prog_21_method_69_code (2 : Nat) (Option.some Jvm.ClassFile.FieldType.int)) ∈ gw := g3 31 rfl rfl
theorem wd_3_32 : (Jvm.Cond.methodLink "java/lang/StringLatin1" (95 : Nat) ({ cls := "java/lang/StringLatin1", name := "indexOfChar", desc := "([BIII)I" } : Jvm.MethodName)) ∈ gw := g3 32 rfl rfl
theorem wd_3_33 : (Jvm.Cond.static ({ cls := "java/lang/StringLatin1", name := "indexOfChar", desc := "([BIII)I" } : Jvm.MethodName)) ∈ gw := g3 33 rfl rfl
theorem wd_3_34 : (Jvm.Cond.code ({ cls := "java/lang/StringLatin1", name := "indexOfChar", desc := "([BIII)I" } : Jvm.MethodName) prog_24_method_23_code (6 : Nat) (Option.some Jvm.ClassFile.FieldType.int)) ∈ gw := g3 34 rfl rfl
theorem wd_3_35 : (Jvm.Cond.methodLink "java/lang/String" (640 : Nat) ({ cls := "java/lang/StringUTF16", name := "indexOf", desc := "([BIII)I" } : Jvm.MethodName)) ∈ gw := g3 35 rfl rfl
theorem wd_3_36 : (Jvm.Cond.static ({ cls := "java/lang/StringUTF16", name := "indexOf", desc := "([BIII)I" } : Jvm.MethodName)) ∈ gw := g3 36 rfl rfl
theorem wd_3_37 : (Jvm.Cond.code ({ cls := "java/lang/StringUTF16", name := "indexOf", desc := "([BIII)I" } : Jvm.MethodName) prog_25_method_40_code (4 : Nat) (Option.some Jvm.ClassFile.FieldType.int)) ∈ gw := g3 37 rfl rfl
theorem wd_3_38 : (Jvm.Cond.methodLink "java/lang/StringUTF16" (224 : Nat) ({ cls := "java/lang/Math", name := "max", desc := "(II)I" } : Jvm.MethodName)) ∈ gw := g3 38 rfl rfl
theorem wd_3_39 : (Jvm.Cond.methodLink "java/lang/StringUTF16" (183 : Nat) ({ cls := "java/lang/Math", name := "min", desc := "(II)I" } : Jvm.MethodName)) ∈ gw := g3 39 rfl rfl
theorem wd_3_40 : (Jvm.Cond.constant "java/lang/StringUTF16" (227 : Nat) (65536 : Int32)) ∈ gw := g3 40 rfl rfl
theorem wd_3_41 : (Jvm.Cond.methodLink "java/lang/StringUTF16" (228 : Nat) ({ cls := "java/lang/StringUTF16", name := "indexOfChar", desc := "([BIII)I" } : Jvm.MethodName)) ∈ gw := g3 41 rfl rfl
theorem wd_3_42 : (Jvm.Cond.static ({ cls := "java/lang/StringUTF16", name := "indexOfChar", desc := "([BIII)I" } : Jvm.MethodName)) ∈ gw := g3 42 rfl rfl
theorem wd_3_43 : (Jvm.Cond.code ({ cls := "java/lang/StringUTF16", name := "indexOfChar", desc := "([BIII)I" } : Jvm.MethodName) prog_25_method_47_code (4 : Nat) (Option.some Jvm.ClassFile.FieldType.int)) ∈ gw := g3 43 rfl rfl
theorem wd_3_44 : (Jvm.Cond.methodLink "java/lang/StringUTF16" (96 : Nat) ({ cls := "java/lang/StringUTF16", name := "checkBoundsBeginEnd", desc := "(II[B)V" } : Jvm.MethodName)) ∈ gw := g3 44 rfl rfl
theorem wd_3_45 : (Jvm.Cond.static ({ cls := "java/lang/StringUTF16", name := "checkBoundsBeginEnd", desc := "(II[B)V" } : Jvm.MethodName)) ∈ gw := g3 45 rfl rfl
theorem wd_3_46 : (Jvm.Cond.code ({ cls := "java/lang/StringUTF16", name := "checkBoundsBeginEnd", desc := "(II[B)V" } : Jvm.MethodName) prog_25_method_93_code (3 : Nat) (Option.none : Option Jvm.ClassFile.FieldType)) ∈ gw := g3 46 rfl rfl
theorem wd_3_47 : (Jvm.Cond.methodLink "java/lang/StringUTF16" (241 : Nat) ({ cls := "java/lang/String", name := "checkBoundsBeginEnd", desc := "(III)V" } : Jvm.MethodName)) ∈ gw := g3 47 rfl rfl
theorem wd_3_48 : (Jvm.Cond.static ({ cls := "java/lang/String", name := "checkBoundsBeginEnd", desc := "(III)V" } : Jvm.MethodName)) ∈ gw := g3 48 rfl rfl
theorem wd_3_49 : (Jvm.Cond.code ({ cls := "java/lang/String", name := "checkBoundsBeginEnd", desc := "(III)V" } : Jvm.MethodName) prog_23_method_158_code (3 : Nat) (Option.none : Option Jvm.ClassFile.FieldType)) ∈ gw := g3 49 rfl rfl
theorem wd_3_50 : (Jvm.Cond.methodLink "java/lang/String" (1062 : Nat) ({ cls := "jdk/internal/util/Preconditions", name := "checkFromToIndex", desc := "(IIILjava/util/function/BiFunction;)I" } : Jvm.MethodName)) ∈ gw := g3 50 rfl rfl
theorem wd_3_51 : (Jvm.Cond.static ({ cls := "jdk/internal/util/Preconditions", name := "checkFromToIndex", desc := "(IIILjava/util/function/BiFunction;)I" } : Jvm.MethodName)) ∈ gw := g3 51 rfl rfl
theorem wd_3_52 : (Jvm.Cond.code ({ cls := "jdk/internal/util/Preconditions", name := "checkFromToIndex", desc := "(IIILjava/util/function/BiFunction;)I" } : Jvm.MethodName) prog_31_method_12_code (4 : Nat) (Option.some Jvm.ClassFile.FieldType.int)) ∈ gw := g3 52 rfl rfl
theorem wd_3_53 : (Jvm.Cond.methodLink "java/lang/StringUTF16" (244 : Nat) ({ cls := "java/lang/StringUTF16", name := "indexOfCharUnsafe", desc := "([BIII)I" } : Jvm.MethodName)) ∈ gw := g3 53 rfl rfl
theorem wd_3_54 : (Jvm.Cond.static ({ cls := "java/lang/StringUTF16", name := "indexOfCharUnsafe", desc := "([BIII)I" } : Jvm.MethodName)) ∈ gw := g3 54 rfl rfl
theorem wd_3_55 : (Jvm.Cond.code ({ cls := "java/lang/StringUTF16", name := "indexOfCharUnsafe", desc := "([BIII)I" } : Jvm.MethodName) prog_25_method_48_code (5 : Nat) (Option.some Jvm.ClassFile.FieldType.int)) ∈ gw := g3 55 rfl rfl
theorem wd_3_56 : (Jvm.Cond.methodLink "java/lang/StringUTF16" (232 : Nat) ({ cls := "java/lang/StringUTF16", name := "indexOfSupplementary", desc := "([BIII)I" } : Jvm.MethodName)) ∈ gw := g3 56 rfl rfl
theorem wd_3_57 : (Jvm.Cond.static ({ cls := "java/lang/StringUTF16", name := "indexOfSupplementary", desc := "([BIII)I" } : Jvm.MethodName)) ∈ gw := g3 57 rfl rfl
theorem wd_3_58 : (Jvm.Cond.code ({ cls := "java/lang/StringUTF16", name := "indexOfSupplementary", desc := "([BIII)I" } : Jvm.MethodName) prog_25_method_49_code (7 : Nat) (Option.some Jvm.ClassFile.FieldType.int)) ∈ gw := g3 58 rfl rfl
theorem wd_3_59 : (Jvm.Cond.methodLink "java/lang/StringUTF16" (164 : Nat) ({ cls := "java/lang/Character", name := "isValidCodePoint", desc := "(I)Z" } : Jvm.MethodName)) ∈ gw := g3 59 rfl rfl
theorem wd_3_60 : (Jvm.Cond.static ({ cls := "java/lang/Character", name := "isValidCodePoint", desc := "(I)Z" } : Jvm.MethodName)) ∈ gw := g3 60 rfl rfl
theorem wd_3_61 : (Jvm.Cond.code ({ cls := "java/lang/Character", name := "isValidCodePoint", desc := "(I)Z" } : Jvm.MethodName) prog_17_method_11_code (2 : Nat) (Option.some Jvm.ClassFile.FieldType.boolean)) ∈ gw := g3 61 rfl rfl
theorem wd_3_62 : (Jvm.Cond.methodLink "java/lang/StringUTF16" (157 : Nat) ({ cls := "java/lang/Character", name := "highSurrogate", desc := "(I)C" } : Jvm.MethodName)) ∈ gw := g3 62 rfl rfl
theorem wd_3_63 : (Jvm.Cond.static ({ cls := "java/lang/Character", name := "highSurrogate", desc := "(I)C" } : Jvm.MethodName)) ∈ gw := g3 63 rfl rfl
theorem wd_3_64 : (Jvm.Cond.code ({ cls := "java/lang/Character", name := "highSurrogate", desc := "(I)C" } : Jvm.MethodName) prog_17_method_28_code (1 : Nat) (Option.some Jvm.ClassFile.FieldType.char)) ∈ gw := g3 64 rfl rfl
theorem wd_3_65 : (Jvm.Cond.constant "java/lang/Character" (110 : Nat) (55232 : Int32)) ∈ gw := g3 65 rfl rfl
theorem wd_3_66 : (Jvm.Cond.methodLink "java/lang/StringUTF16" (161 : Nat) ({ cls := "java/lang/Character", name := "lowSurrogate", desc := "(I)C" } : Jvm.MethodName)) ∈ gw := g3 66 rfl rfl
theorem wd_3_67 : (Jvm.Cond.static ({ cls := "java/lang/Character", name := "lowSurrogate", desc := "(I)C" } : Jvm.MethodName)) ∈ gw := g3 67 rfl rfl
theorem wd_3_68 : (Jvm.Cond.code ({ cls := "java/lang/Character", name := "lowSurrogate", desc := "(I)C" } : Jvm.MethodName) prog_17_method_29_code (1 : Nat) (Option.some Jvm.ClassFile.FieldType.char)) ∈ gw := g3 68 rfl rfl
theorem wd_3_69 : (Jvm.Cond.constant "java/lang/Character" (76 : Nat) (56320 : Int32)) ∈ gw := g3 69 rfl rfl
theorem wd_3_70 : (Jvm.Cond.methodLink "NameRing$RingReader" (44 : Nat) ({ cls := "NameRing$RingReader", name := "readLine", desc := "()Z" } : Jvm.MethodName)) ∈ gw := g3 70 rfl rfl
theorem wd_3_72 : (Jvm.Cond.instanceMethod ({ cls := "NameRing$RingReader", name := "readLine", desc := "()Z" } : Jvm.MethodName)) ∈ gw := g3 72 rfl rfl
theorem wd_3_73 : (Jvm.Cond.code ({ cls := "NameRing$RingReader", name := "readLine", desc := "()Z" } : Jvm.MethodName) prog_6_method_3_code (2 : Nat) (Option.some Jvm.ClassFile.FieldType.boolean)) ∈ gw := g3 73 rfl rfl
theorem wd_3_74 : (Jvm.Cond.methodLink "NameRing$RingReader" (54 : Nat) ({ cls := "NameRing$Tape", name := "isWord", desc := "(II)Z" } : Jvm.MethodName)) ∈ gw := g3 74 rfl rfl
theorem wd_3_75 : (Jvm.Cond.instanceMethod ({ cls := "NameRing$Tape", name := "isWord", desc := "(II)Z" } : Jvm.MethodName)) ∈ gw := g3 75 rfl rfl
theorem wd_3_76 : (Jvm.Cond.selects "NameRing$Tape" ({ cls := "NameRing$Tape", name := "isWord", desc := "(II)Z" } : Jvm.MethodName) ({ cls := "NameRing$Tape", name := "isWord", desc := "(II)Z" } : Jvm.MethodName)) ∈ gw := g3 76 rfl rfl
theorem wd_3_77 : (Jvm.Cond.code ({ cls := "NameRing$Tape", name := "isWord", desc := "(II)Z" } : Jvm.MethodName) prog_9_method_10_code (3 : Nat) (Option.some Jvm.ClassFile.FieldType.boolean)) ∈ gw := g3 77 rfl rfl
theorem wd_3_78 : (Jvm.Cond.methodLink "NameRing$RingReader" (58 : Nat) ({ cls := "NameRing$Tape", name := "wrong", desc := "(I)Z" } : Jvm.MethodName)) ∈ gw := g3 78 rfl rfl
theorem wd_3_79 : (Jvm.Cond.instanceMethod ({ cls := "NameRing$Tape", name := "wrong", desc := "(I)Z" } : Jvm.MethodName)) ∈ gw := g3 79 rfl rfl
theorem wd_3_80 : (Jvm.Cond.selects "NameRing$Tape" ({ cls := "NameRing$Tape", name := "wrong", desc := "(I)Z" } : Jvm.MethodName) ({ cls := "NameRing$Tape", name := "wrong", desc := "(I)Z" } : Jvm.MethodName)) ∈ gw := g3 80 rfl rfl
theorem wd_3_81 : (Jvm.Cond.code ({ cls := "NameRing$Tape", name := "wrong", desc := "(I)Z" } : Jvm.MethodName) prog_9_method_12_code (2 : Nat) (Option.some Jvm.ClassFile.FieldType.boolean)) ∈ gw := g3 81 rfl rfl
theorem wd_3_82 : (Jvm.Cond.methodLink "NameRing$RingReader" (65 : Nat) ({ cls := "NameRing$RingReader", name := "readCircle", desc := "()Z" } : Jvm.MethodName)) ∈ gw := g3 82 rfl rfl
theorem wd_3_84 : (Jvm.Cond.instanceMethod ({ cls := "NameRing$RingReader", name := "readCircle", desc := "()Z" } : Jvm.MethodName)) ∈ gw := g3 84 rfl rfl
theorem wd_3_85 : (Jvm.Cond.code ({ cls := "NameRing$RingReader", name := "readCircle", desc := "()Z" } : Jvm.MethodName) prog_6_method_4_code (2 : Nat) (Option.some Jvm.ClassFile.FieldType.boolean)) ∈ gw := g3 85 rfl rfl
theorem wd_3_86 : (Jvm.Cond.methodLink "NameRing$RingReader" (87 : Nat) ({ cls := "NameRing$Tape", name := "step", desc := "()V" } : Jvm.MethodName)) ∈ gw := g3 86 rfl rfl
theorem wd_3_87 : (Jvm.Cond.methodLink "NameRing$RingReader" (90 : Nat) ({ cls := "NameRing$Tape", name := "numberWithin", desc := "(II)I" } : Jvm.MethodName)) ∈ gw := g3 87 rfl rfl
theorem wd_3_88 : (Jvm.Cond.instanceMethod ({ cls := "NameRing$Tape", name := "numberWithin", desc := "(II)I" } : Jvm.MethodName)) ∈ gw := g3 88 rfl rfl
theorem wd_3_89 : (Jvm.Cond.selects "NameRing$Tape" ({ cls := "NameRing$Tape", name := "numberWithin", desc := "(II)I" } : Jvm.MethodName) ({ cls := "NameRing$Tape", name := "numberWithin", desc := "(II)I" } : Jvm.MethodName)) ∈ gw := g3 89 rfl rfl
theorem wd_3_90 : (Jvm.Cond.code ({ cls := "NameRing$Tape", name := "numberWithin", desc := "(II)I" } : Jvm.MethodName) prog_9_method_15_code (3 : Nat) (Option.some Jvm.ClassFile.FieldType.int)) ∈ gw := g3 90 rfl rfl
theorem wd_3_91 : (Jvm.Cond.methodLink "NameRing$Tape" (78 : Nat) ({ cls := "NameRing$Tape", name := "wrong", desc := "(I)Z" } : Jvm.MethodName)) ∈ gw := g3 91 rfl rfl
theorem wd_3_92 : (Jvm.Cond.methodLink "NameRing$RingReader" (68 : Nat) ({ cls := "NameRing$RingReader", name := "readList", desc := "()Z" } : Jvm.MethodName)) ∈ gw := g3 92 rfl rfl
theorem wd_3_94 : (Jvm.Cond.instanceMethod ({ cls := "NameRing$RingReader", name := "readList", desc := "()Z" } : Jvm.MethodName)) ∈ gw := g3 94 rfl rfl
theorem wd_3_95 : (Jvm.Cond.code ({ cls := "NameRing$RingReader", name := "readList", desc := "()Z" } : Jvm.MethodName) prog_6_method_5_code (2 : Nat) (Option.some Jvm.ClassFile.FieldType.boolean)) ∈ gw := g3 95 rfl rfl
theorem wd_3_96 : (Jvm.Cond.methodLink "NameRing$RingReader" (71 : Nat) ({ cls := "NameRing$RingReader", name := "readNode", desc := "()Z" } : Jvm.MethodName)) ∈ gw := g3 96 rfl rfl
theorem wd_3_98 : (Jvm.Cond.instanceMethod ({ cls := "NameRing$RingReader", name := "readNode", desc := "()Z" } : Jvm.MethodName)) ∈ gw := g3 98 rfl rfl
theorem wd_3_99 : (Jvm.Cond.code ({ cls := "NameRing$RingReader", name := "readNode", desc := "()Z" } : Jvm.MethodName) prog_6_method_6_code (3 : Nat) (Option.some Jvm.ClassFile.FieldType.boolean)) ∈ gw := g3 99 rfl rfl
theorem wd_3_100 : (Jvm.Cond.methodLink "NameRing$RingReader" (100 : Nat) ({ cls := "NameRing$RingReader", name := "isNewName", desc := "()Z" } : Jvm.MethodName)) ∈ gw := g3 100 rfl rfl
theorem wd_3_102 : (Jvm.Cond.instanceMethod ({ cls := "NameRing$RingReader", name := "isNewName", desc := "()Z" } : Jvm.MethodName)) ∈ gw := g3 102 rfl rfl
theorem wd_3_103 : (Jvm.Cond.code ({ cls := "NameRing$RingReader", name := "isNewName", desc := "()Z" } : Jvm.MethodName) prog_6_method_8_code (1 : Nat) (Option.some Jvm.ClassFile.FieldType.boolean)) ∈ gw := g3 103 rfl rfl
theorem wd_3_104 : (Jvm.Cond.methodLink "NameRing$RingReader" (134 : Nat) ({ cls := "NameRing$Tape", name := "isName", desc := "()Z" } : Jvm.MethodName)) ∈ gw := g3 104 rfl rfl
theorem wd_3_105 : (Jvm.Cond.instanceMethod ({ cls := "NameRing$Tape", name := "isName", desc := "()Z" } : Jvm.MethodName)) ∈ gw := g3 105 rfl rfl
theorem wd_3_106 : (Jvm.Cond.selects "NameRing$Tape" ({ cls := "NameRing$Tape", name := "isName", desc := "()Z" } : Jvm.MethodName) ({ cls := "NameRing$Tape", name := "isName", desc := "()Z" } : Jvm.MethodName)) ∈ gw := g3 106 rfl rfl
theorem wd_3_107 : (Jvm.Cond.code ({ cls := "NameRing$Tape", name := "isName", desc := "()Z" } : Jvm.MethodName) prog_9_method_11_code (1 : Nat) (Option.some Jvm.ClassFile.FieldType.boolean)) ∈ gw := g3 107 rfl rfl
theorem wd_3_108 : (Jvm.Cond.methodLink "NameRing$RingReader" (137 : Nat) ({ cls := "NameRing$Told", name := "nodeNamed", desc := "(J)I" } : Jvm.MethodName)) ∈ gw := g3 108 rfl rfl
theorem wd_3_109 : (Jvm.Cond.instanceMethod ({ cls := "NameRing$Told", name := "nodeNamed", desc := "(J)I" } : Jvm.MethodName)) ∈ gw := g3 109 rfl rfl
theorem wd_3_110 : (Jvm.Cond.selects "NameRing$Told" ({ cls := "NameRing$Told", name := "nodeNamed", desc := "(J)I" } : Jvm.MethodName) ({ cls := "NameRing$Told", name := "nodeNamed", desc := "(J)I" } : Jvm.MethodName)) ∈ gw := g3 110 rfl rfl
theorem wd_3_111 : (Jvm.Cond.code ({ cls := "NameRing$Told", name := "nodeNamed", desc := "(J)I" } : Jvm.MethodName) prog_10_method_8_code (4 : Nat) (Option.some Jvm.ClassFile.FieldType.int)) ∈ gw := g3 111 rfl rfl
theorem wd_3_112 : (Jvm.Cond.methodLink "NameRing$RingReader" (141 : Nat) ({ cls := "NameRing$Told", name := "keyNamed", desc := "(J)I" } : Jvm.MethodName)) ∈ gw := g3 112 rfl rfl
theorem wd_3_113 : (Jvm.Cond.instanceMethod ({ cls := "NameRing$Told", name := "keyNamed", desc := "(J)I" } : Jvm.MethodName)) ∈ gw := g3 113 rfl rfl
theorem wd_3_114 : (Jvm.Cond.selects "NameRing$Told" ({ cls := "NameRing$Told", name := "keyNamed", desc := "(J)I" } : Jvm.MethodName) ({ cls := "NameRing$Told", name := "keyNamed", desc := "(J)I" } : Jvm.MethodName)) ∈ gw := g3 114 rfl rfl
theorem wd_3_115 : (Jvm.Cond.code ({ cls := "NameRing$Told", name := "keyNamed", desc := "(J)I" } : Jvm.MethodName) prog_10_method_9_code (4 : Nat) (Option.some Jvm.ClassFile.FieldType.int)) ∈ gw := g3 115 rfl rfl
theorem wd_3_116 : (Jvm.Cond.methodLink "NameRing$RingReader" (115 : Nat) ({ cls := "NameRing$Tape", name := "takeWord", desc := "(I)Z" } : Jvm.MethodName)) ∈ gw := g3 116 rfl rfl
theorem wd_3_117 : (Jvm.Cond.instanceMethod ({ cls := "NameRing$Tape", name := "takeWord", desc := "(I)Z" } : Jvm.MethodName)) ∈ gw := g3 117 rfl rfl
theorem wd_3_118 : (Jvm.Cond.selects "NameRing$Tape" ({ cls := "NameRing$Tape", name := "takeWord", desc := "(I)Z" } : Jvm.MethodName) ({ cls := "NameRing$Tape", name := "takeWord", desc := "(I)Z" } : Jvm.MethodName)) ∈ gw := g3 118 rfl rfl
theorem wd_3_119 : (Jvm.Cond.code ({ cls := "NameRing$Tape", name := "takeWord", desc := "(I)Z" } : Jvm.MethodName) prog_9_method_14_code (2 : Nat) (Option.some Jvm.ClassFile.FieldType.boolean)) ∈ gw := g3 119 rfl rfl
theorem wd_3_120 : (Jvm.Cond.methodLink "NameRing$Tape" (82 : Nat) ({ cls := "NameRing$Tape", name := "isWord", desc := "(II)Z" } : Jvm.MethodName)) ∈ gw := g3 120 rfl rfl
theorem wd_3_121 : (Jvm.Cond.methodLink "NameRing$RingReader" (118 : Nat) ({ cls := "NameRing$Told", name := "nodeAt", desc := "(I)I" } : Jvm.MethodName)) ∈ gw := g3 121 rfl rfl
theorem wd_3_122 : (Jvm.Cond.instanceMethod ({ cls := "NameRing$Told", name := "nodeAt", desc := "(I)I" } : Jvm.MethodName)) ∈ gw := g3 122 rfl rfl
theorem wd_3_123 : (Jvm.Cond.selects "NameRing$Told" ({ cls := "NameRing$Told", name := "nodeAt", desc := "(I)I" } : Jvm.MethodName) ({ cls := "NameRing$Told", name := "nodeAt", desc := "(I)I" } : Jvm.MethodName)) ∈ gw := g3 123 rfl rfl
theorem wd_3_124 : (Jvm.Cond.code ({ cls := "NameRing$Told", name := "nodeAt", desc := "(I)I" } : Jvm.MethodName) prog_10_method_7_code (3 : Nat) (Option.some Jvm.ClassFile.FieldType.int)) ∈ gw := g3 124 rfl rfl
theorem wd_3_125 : (Jvm.Cond.methodLink "NameRing$RingReader" (74 : Nat) ({ cls := "NameRing$RingReader", name := "readKey", desc := "()Z" } : Jvm.MethodName)) ∈ gw := g3 125 rfl rfl
theorem wd_3_127 : (Jvm.Cond.instanceMethod ({ cls := "NameRing$RingReader", name := "readKey", desc := "()Z" } : Jvm.MethodName)) ∈ gw := g3 127 rfl rfl
theorem wd_3_128 : (Jvm.Cond.code ({ cls := "NameRing$RingReader", name := "readKey", desc := "()Z" } : Jvm.MethodName) prog_6_method_7_code (3 : Nat) (Option.some Jvm.ClassFile.FieldType.boolean)) ∈ gw := g3 128 rfl rfl
theorem wd_3_129 : (Jvm.Cond.methodLink "NameRing$RingReader" (77 : Nat) ({ cls := "NameRing$RingReader", name := "readLaw", desc := "()Z" } : Jvm.MethodName)) ∈ gw := g3 129 rfl rfl
theorem wd_3_131 : (Jvm.Cond.instanceMethod ({ cls := "NameRing$RingReader", name := "readLaw", desc := "()Z" } : Jvm.MethodName)) ∈ gw := g3 131 rfl rfl
theorem wd_3_132 : (Jvm.Cond.code ({ cls := "NameRing$RingReader", name := "readLaw", desc := "()Z" } : Jvm.MethodName) prog_6_method_9_code (1 : Nat) (Option.some Jvm.ClassFile.FieldType.boolean)) ∈ gw := g3 132 rfl rfl
theorem wd_3_133 : (Jvm.Cond.methodLink "NameRing$RingReader" (147 : Nat) ({ cls := "NameRing$RingReader", name := "valueOf", desc := "(II)I" } : Jvm.MethodName)) ∈ gw := g3 133 rfl rfl
theorem wd_3_135 : (Jvm.Cond.instanceMethod ({ cls := "NameRing$RingReader", name := "valueOf", desc := "(II)I" } : Jvm.MethodName)) ∈ gw := g3 135 rfl rfl
theorem wd_3_136 : (Jvm.Cond.code ({ cls := "NameRing$RingReader", name := "valueOf", desc := "(II)I" } : Jvm.MethodName) prog_6_method_11_code (6 : Nat) (Option.some Jvm.ClassFile.FieldType.int)) ∈ gw := g3 136 rfl rfl
theorem wd_3_137 : (Jvm.Cond.methodLink "NameRing$RingReader" (162 : Nat) ({ cls := "NameRing$RingReader", name := "partValue", desc := "(I)I" } : Jvm.MethodName)) ∈ gw := g3 137 rfl rfl
theorem wd_3_139 : (Jvm.Cond.instanceMethod ({ cls := "NameRing$RingReader", name := "partValue", desc := "(I)I" } : Jvm.MethodName)) ∈ gw := g3 139 rfl rfl
theorem wd_3_140 : (Jvm.Cond.code ({ cls := "NameRing$RingReader", name := "partValue", desc := "(I)I" } : Jvm.MethodName) prog_6_method_14_code (5 : Nat) (Option.some Jvm.ClassFile.FieldType.int)) ∈ gw := g3 140 rfl rfl
theorem wd_3_141 : (Jvm.Cond.methodLink "NameRing$RingReader" (175 : Nat) ({ cls := "NameRing$RingReader", name := "beginsPart", desc := "()Z" } : Jvm.MethodName)) ∈ gw := g3 141 rfl rfl
theorem wd_3_143 : (Jvm.Cond.instanceMethod ({ cls := "NameRing$RingReader", name := "beginsPart", desc := "()Z" } : Jvm.MethodName)) ∈ gw := g3 143 rfl rfl
theorem wd_3_144 : (Jvm.Cond.code ({ cls := "NameRing$RingReader", name := "beginsPart", desc := "()Z" } : Jvm.MethodName) prog_6_method_15_code (1 : Nat) (Option.some Jvm.ClassFile.FieldType.boolean)) ∈ gw := g3 144 rfl rfl
theorem wd_3_145 : (Jvm.Cond.methodLink "NameRing$RingReader" (172 : Nat) ({ cls := "NameRing$Tape", name := "isSign", desc := "(C)Z" } : Jvm.MethodName)) ∈ gw := g3 145 rfl rfl
theorem wd_3_146 : (Jvm.Cond.instanceMethod ({ cls := "NameRing$Tape", name := "isSign", desc := "(C)Z" } : Jvm.MethodName)) ∈ gw := g3 146 rfl rfl
theorem wd_3_147 : (Jvm.Cond.selects "NameRing$Tape" ({ cls := "NameRing$Tape", name := "isSign", desc := "(C)Z" } : Jvm.MethodName) ({ cls := "NameRing$Tape", name := "isSign", desc := "(C)Z" } : Jvm.MethodName)) ∈ gw := g3 147 rfl rfl
theorem wd_3_148 : (Jvm.Cond.code ({ cls := "NameRing$Tape", name := "isSign", desc := "(C)Z" } : Jvm.MethodName) prog_9_method_9_code (2 : Nat) (Option.some Jvm.ClassFile.FieldType.boolean)) ∈ gw := g3 148 rfl rfl
theorem wd_3_149 : (Jvm.Cond.methodLink "NameRing$RingReader" (178 : Nat) ({ cls := "NameRing$RingReader", name := "factValue", desc := "(I)I" } : Jvm.MethodName)) ∈ gw := g3 149 rfl rfl
theorem wd_3_151 : (Jvm.Cond.instanceMethod ({ cls := "NameRing$RingReader", name := "factValue", desc := "(I)I" } : Jvm.MethodName)) ∈ gw := g3 151 rfl rfl
theorem wd_3_152 : (Jvm.Cond.code ({ cls := "NameRing$RingReader", name := "factValue", desc := "(I)I" } : Jvm.MethodName) prog_6_method_16_code (2 : Nat) (Option.some Jvm.ClassFile.FieldType.int)) ∈ gw := g3 152 rfl rfl
theorem wd_3_153 : (Jvm.Cond.methodLink "NameRing$RingReader" (165 : Nat) ({ cls := "NameRing$RingReader", name := "joinsOn", desc := "(I)Z" } : Jvm.MethodName)) ∈ gw := g3 153 rfl rfl
theorem wd_3_155 : (Jvm.Cond.instanceMethod ({ cls := "NameRing$RingReader", name := "joinsOn", desc := "(I)Z" } : Jvm.MethodName)) ∈ gw := g3 155 rfl rfl
theorem wd_3_156 : (Jvm.Cond.code ({ cls := "NameRing$RingReader", name := "joinsOn", desc := "(I)Z" } : Jvm.MethodName) prog_6_method_12_code (2 : Nat) (Option.some Jvm.ClassFile.FieldType.boolean)) ∈ gw := g3 156 rfl rfl
theorem wd_3_157 : (Jvm.Cond.methodLink "NameRing$RingReader" (168 : Nat) ({ cls := "NameRing$RingReader", name := "joined", desc := "(III)I" } : Jvm.MethodName)) ∈ gw := g3 157 rfl rfl
theorem wd_3_158 : (Jvm.Cond.static ({ cls := "NameRing$RingReader", name := "joined", desc := "(III)I" } : Jvm.MethodName)) ∈ gw := g3 158 rfl rfl
theorem wd_3_159 : (Jvm.Cond.code ({ cls := "NameRing$RingReader", name := "joined", desc := "(III)I" } : Jvm.MethodName) prog_6_method_13_code (3 : Nat) (Option.some Jvm.ClassFile.FieldType.int)) ∈ gw := g3 159 rfl rfl
theorem wd_3_160 : (Jvm.Cond.methodLink "NameRing$RingReader" (80 : Nat) ({ cls := "NameRing$Tape", name := "takeSign", desc := "(C)Z" } : Jvm.MethodName)) ∈ gw := g3 160 rfl rfl
theorem wd_3_161 : (Jvm.Cond.instanceMethod ({ cls := "NameRing$Tape", name := "takeSign", desc := "(C)Z" } : Jvm.MethodName)) ∈ gw := g3 161 rfl rfl
theorem wd_3_162 : (Jvm.Cond.selects "NameRing$Tape" ({ cls := "NameRing$Tape", name := "takeSign", desc := "(C)Z" } : Jvm.MethodName) ({ cls := "NameRing$Tape", name := "takeSign", desc := "(C)Z" } : Jvm.MethodName)) ∈ gw := g3 162 rfl rfl
theorem wd_3_163 : (Jvm.Cond.code ({ cls := "NameRing$Tape", name := "takeSign", desc := "(C)Z" } : Jvm.MethodName) prog_9_method_13_code (2 : Nat) (Option.some Jvm.ClassFile.FieldType.boolean)) ∈ gw := g3 163 rfl rfl
theorem wd_3_164 : (Jvm.Cond.methodLink "NameRing$Tape" (74 : Nat) ({ cls := "NameRing$Tape", name := "isSign", desc := "(C)Z" } : Jvm.MethodName)) ∈ gw := g3 164 rfl rfl
theorem wd_3_165 : (Jvm.Cond.methodLink "NameRing$RingReader" (48 : Nat) ({ cls := "NameRing$RingReader", name := "layKeys", desc := "()V" } : Jvm.MethodName)) ∈ gw := g3 165 rfl rfl
theorem wd_3_167 : (Jvm.Cond.instanceMethod ({ cls := "NameRing$RingReader", name := "layKeys", desc := "()V" } : Jvm.MethodName)) ∈ gw := g3 167 rfl rfl
theorem wd_3_168 : (Jvm.Cond.code ({ cls := "NameRing$RingReader", name := "layKeys", desc := "()V" } : Jvm.MethodName) prog_6_method_10_code (3 : Nat) (Option.none : Option Jvm.ClassFile.FieldType)) ∈ gw := g3 168 rfl rfl
theorem wd_3_169 : (Jvm.Cond.methodLink "NameRing$RingReader" (150 : Nat) ({ cls := "NameRing$Tape", name := "goTo", desc := "(I)V" } : Jvm.MethodName)) ∈ gw := g3 169 rfl rfl
theorem wd_3_170 : (Jvm.Cond.methodLink "NameRing$RingReader" (157 : Nat) ({ cls := "java/lang/Math", name := "floorMod", desc := "(II)I" } : Jvm.MethodName)) ∈ gw := g3 170 rfl rfl
theorem wd_3_171 : (Jvm.Cond.static ({ cls := "java/lang/Math", name := "floorMod", desc := "(II)I" } : Jvm.MethodName)) ∈ gw := g3 171 rfl rfl
theorem wd_3_172 : (Jvm.Cond.code ({ cls := "java/lang/Math", name := "floorMod", desc := "(II)I" } : Jvm.MethodName) prog_21_method_50_code (3 : Nat) (Option.some Jvm.ClassFile.FieldType.int)) ∈ gw := g3 172 rfl rfl
theorem wd_3_173 : (Jvm.Cond.methodLink "NameRing" (109 : Nat) ({ cls := "NameRing$Tape", name := "clear", desc := "()V" } : Jvm.MethodName)) ∈ gw := g3 173 rfl rfl
theorem wd_3_174 : (Jvm.Cond.instanceMethod ({ cls := "NameRing$Tape", name := "clear", desc := "()V" } : Jvm.MethodName)) ∈ gw := g3 174 rfl rfl
theorem wd_3_175 : (Jvm.Cond.selects "NameRing$Tape" ({ cls := "NameRing$Tape", name := "clear", desc := "()V" } : Jvm.MethodName) ({ cls := "NameRing$Tape", name := "clear", desc := "()V" } : Jvm.MethodName)) ∈ gw := g3 175 rfl rfl
theorem wd_3_176 : (Jvm.Cond.code ({ cls := "NameRing$Tape", name := "clear", desc := "()V" } : Jvm.MethodName) prog_9_method_3_code (1 : Nat) (Option.none : Option Jvm.ClassFile.FieldType)) ∈ gw := g3 176 rfl rfl
theorem wd_3_177 : (Jvm.Cond.methodLink "NameRing" (114 : Nat) ({ cls := "NameRing$Told", name := "copyFrom", desc := "(LNameRing$Told;)V" } : Jvm.MethodName)) ∈ gw := g3 177 rfl rfl
theorem wd_3_178 : (Jvm.Cond.instanceMethod ({ cls := "NameRing$Told", name := "copyFrom", desc := "(LNameRing$Told;)V" } : Jvm.MethodName)) ∈ gw := g3 178 rfl rfl
theorem wd_3_179 : (Jvm.Cond.selects "NameRing$Told" ({ cls := "NameRing$Told", name := "copyFrom", desc := "(LNameRing$Told;)V" } : Jvm.MethodName) ({ cls := "NameRing$Told", name := "copyFrom", desc := "(LNameRing$Told;)V" } : Jvm.MethodName)) ∈ gw := g3 179 rfl rfl
theorem wd_3_180 : (Jvm.Cond.code ({ cls := "NameRing$Told", name := "copyFrom", desc := "(LNameRing$Told;)V" } : Jvm.MethodName) prog_10_method_3_code (2 : Nat) (Option.none : Option Jvm.ClassFile.FieldType)) ∈ gw := g3 180 rfl rfl
theorem wd_3_181 : (Jvm.Cond.methodLink "NameRing$Told" (44 : Nat) ({ cls := "java/lang/System", name := "arraycopy", desc := "(Ljava/lang/Object;ILjava/lang/Object;II)V" } : Jvm.MethodName)) ∈ gw := g3 181 rfl rfl
theorem wd_3_182 : (Jvm.Cond.static ({ cls := "java/lang/System", name := "arraycopy", desc := "(Ljava/lang/Object;ILjava/lang/Object;II)V" } : Jvm.MethodName)) ∈ gw := g3 182 rfl rfl
theorem wd_3_183 : (Jvm.Cond.native ({ cls := "java/lang/System", name := "arraycopy", desc := "(Ljava/lang/Object;ILjava/lang/Object;II)V" } : Jvm.MethodName)) ∈ gw := g3 183 rfl rfl
theorem wd_3_184 : (Jvm.Cond.methodLink "NameRing" (118 : Nat) ({ cls := "NameRing$State", name := "clear", desc := "()V" } : Jvm.MethodName)) ∈ gw := g3 184 rfl rfl
theorem wd_3_185 : (Jvm.Cond.instanceMethod ({ cls := "NameRing$State", name := "clear", desc := "()V" } : Jvm.MethodName)) ∈ gw := g3 185 rfl rfl
theorem wd_3_186 : (Jvm.Cond.selects "NameRing$State" ({ cls := "NameRing$State", name := "clear", desc := "()V" } : Jvm.MethodName) ({ cls := "NameRing$State", name := "clear", desc := "()V" } : Jvm.MethodName)) ∈ gw := g3 186 rfl rfl
theorem wd_3_187 : (Jvm.Cond.code ({ cls := "NameRing$State", name := "clear", desc := "()V" } : Jvm.MethodName) prog_8_method_2_code (2 : Nat) (Option.none : Option Jvm.ClassFile.FieldType)) ∈ gw := g3 187 rfl rfl
theorem wd_3_188 : (Jvm.Cond.methodLink "NameRing" (119 : Nat) ({ cls := "NameRing$Work", name := "clear", desc := "()V" } : Jvm.MethodName)) ∈ gw := g3 188 rfl rfl
theorem wd_3_189 : (Jvm.Cond.instanceMethod ({ cls := "NameRing$Work", name := "clear", desc := "()V" } : Jvm.MethodName)) ∈ gw := g3 189 rfl rfl
theorem wd_3_190 : (Jvm.Cond.selects "NameRing$Work" ({ cls := "NameRing$Work", name := "clear", desc := "()V" } : Jvm.MethodName) ({ cls := "NameRing$Work", name := "clear", desc := "()V" } : Jvm.MethodName)) ∈ gw := g3 190 rfl rfl
theorem wd_3_191 : (Jvm.Cond.code ({ cls := "NameRing$Work", name := "clear", desc := "()V" } : Jvm.MethodName) prog_12_method_2_code (1 : Nat) (Option.none : Option Jvm.ClassFile.FieldType)) ∈ gw := g3 191 rfl rfl
theorem wd_3_192 : (Jvm.Cond.methodLink "NameRing" (120 : Nat) ({ cls := "NameRing$Seen", name := "clear", desc := "()V" } : Jvm.MethodName)) ∈ gw := g3 192 rfl rfl
theorem wd_3_193 : (Jvm.Cond.instanceMethod ({ cls := "NameRing$Seen", name := "clear", desc := "()V" } : Jvm.MethodName)) ∈ gw := g3 193 rfl rfl
theorem wd_3_194 : (Jvm.Cond.selects "NameRing$Seen" ({ cls := "NameRing$Seen", name := "clear", desc := "()V" } : Jvm.MethodName) ({ cls := "NameRing$Seen", name := "clear", desc := "()V" } : Jvm.MethodName)) ∈ gw := g3 194 rfl rfl
theorem wd_3_195 : (Jvm.Cond.code ({ cls := "NameRing$Seen", name := "clear", desc := "()V" } : Jvm.MethodName) prog_7_method_2_code (1 : Nat) (Option.none : Option Jvm.ClassFile.FieldType)) ∈ gw := g3 195 rfl rfl
theorem wd_3_196 : (Jvm.Cond.methodLink "NameRing" (121 : Nat) ({ cls := "NameRing$Past", name := "clear", desc := "()V" } : Jvm.MethodName)) ∈ gw := g3 196 rfl rfl
theorem wd_3_197 : (Jvm.Cond.instanceMethod ({ cls := "NameRing$Past", name := "clear", desc := "()V" } : Jvm.MethodName)) ∈ gw := g3 197 rfl rfl
theorem wd_3_198 : (Jvm.Cond.selects "NameRing$Past" ({ cls := "NameRing$Past", name := "clear", desc := "()V" } : Jvm.MethodName) ({ cls := "NameRing$Past", name := "clear", desc := "()V" } : Jvm.MethodName)) ∈ gw := g3 198 rfl rfl
theorem wd_3_199 : (Jvm.Cond.code ({ cls := "NameRing$Past", name := "clear", desc := "()V" } : Jvm.MethodName) prog_5_method_2_code (2 : Nat) (Option.none : Option Jvm.ClassFile.FieldType)) ∈ gw := g3 199 rfl rfl
theorem wd_3_200 : (Jvm.Cond.methodLink "NameRingLaw" (31 : Nat) ({ cls := "NameRing", name := "work", desc := "()I" } : Jvm.MethodName)) ∈ gw := g3 200 rfl rfl
theorem wd_3_201 : (Jvm.Cond.instanceMethod ({ cls := "NameRing", name := "work", desc := "()I" } : Jvm.MethodName)) ∈ gw := g3 201 rfl rfl
theorem wd_3_202 : (Jvm.Cond.selects "NameRing" ({ cls := "NameRing", name := "work", desc := "()I" } : Jvm.MethodName) ({ cls := "NameRing", name := "work", desc := "()I" } : Jvm.MethodName)) ∈ gw := g3 202 rfl rfl
theorem wd_3_203 : (Jvm.Cond.code ({ cls := "NameRing", name := "work", desc := "()I" } : Jvm.MethodName) prog_1_method_4_code (2 : Nat) (Option.some Jvm.ClassFile.FieldType.int)) ∈ gw := g3 203 rfl rfl
theorem wd_3_204 : (Jvm.Cond.methodLink "NameRing" (122 : Nat) ({ cls := "NameRing$Work", name := "readWork", desc := "(LNameRing$Tape;LNameRing$Told;)I" } : Jvm.MethodName)) ∈ gw := g3 204 rfl rfl
theorem wd_3_205 : (Jvm.Cond.instanceMethod ({ cls := "NameRing$Work", name := "readWork", desc := "(LNameRing$Tape;LNameRing$Told;)I" } : Jvm.MethodName)) ∈ gw := g3 205 rfl rfl
theorem wd_3_206 : (Jvm.Cond.selects "NameRing$Work" ({ cls := "NameRing$Work", name := "readWork", desc := "(LNameRing$Tape;LNameRing$Told;)I" } : Jvm.MethodName) ({ cls := "NameRing$Work", name := "readWork", desc := "(LNameRing$Tape;LNameRing$Told;)I" } : Jvm.MethodName)) ∈ gw := g3 206 rfl rfl
theorem wd_3_207 : (Jvm.Cond.code ({ cls := "NameRing$Work", name := "readWork", desc := "(LNameRing$Tape;LNameRing$Told;)I" } : Jvm.MethodName) prog_12_method_4_code (5 : Nat) (Option.some Jvm.ClassFile.FieldType.int)) ∈ gw := g3 207 rfl rfl
theorem wd_3_208 : (Jvm.Cond.methodLink "NameRing$Work" (31 : Nat) ({ cls := "NameRing$Tape", name := "restart", desc := "()V" } : Jvm.MethodName)) ∈ gw := g3 208 rfl rfl
theorem wd_3_209 : (Jvm.Cond.methodLink "NameRing$Work" (39 : Nat) ({ cls := "NameRing$Work", name := "readLine", desc := "(LNameRing$Tape;LNameRing$Told;)Z" } : Jvm.MethodName)) ∈ gw := g3 209 rfl rfl
theorem wd_3_211 : (Jvm.Cond.instanceMethod ({ cls := "NameRing$Work", name := "readLine", desc := "(LNameRing$Tape;LNameRing$Told;)Z" } : Jvm.MethodName)) ∈ gw := g3 211 rfl rfl
theorem wd_3_212 : (Jvm.Cond.code ({ cls := "NameRing$Work", name := "readLine", desc := "(LNameRing$Tape;LNameRing$Told;)Z" } : Jvm.MethodName) prog_12_method_5_code (5 : Nat) (Option.some Jvm.ClassFile.FieldType.boolean)) ∈ gw := g3 212 rfl rfl
theorem wd_3_213 : (Jvm.Cond.methodLink "NameRing$Work" (46 : Nat) ({ cls := "NameRing$Tape", name := "isWord", desc := "(II)Z" } : Jvm.MethodName)) ∈ gw := g3 213 rfl rfl
theorem wd_3_214 : (Jvm.Cond.methodLink "NameRing$Work" (50 : Nat) ({ cls := "NameRing$Tape", name := "wrong", desc := "(I)Z" } : Jvm.MethodName)) ∈ gw := g3 214 rfl rfl
theorem wd_3_215 : (Jvm.Cond.methodLink "NameRing$Work" (57 : Nat) ({ cls := "NameRing$Tape", name := "step", desc := "()V" } : Jvm.MethodName)) ∈ gw := g3 215 rfl rfl
theorem wd_3_216 : (Jvm.Cond.methodLink "NameRing$Work" (60 : Nat) ({ cls := "NameRing$Work", name := "readName", desc := "(LNameRing$Tape;LNameRing$Told;Z)I" } : Jvm.MethodName)) ∈ gw := g3 216 rfl rfl
theorem wd_3_217 : (Jvm.Cond.static ({ cls := "NameRing$Work", name := "readName", desc := "(LNameRing$Tape;LNameRing$Told;Z)I" } : Jvm.MethodName)) ∈ gw := g3 217 rfl rfl
theorem wd_3_218 : (Jvm.Cond.code ({ cls := "NameRing$Work", name := "readName", desc := "(LNameRing$Tape;LNameRing$Told;Z)I" } : Jvm.MethodName) prog_12_method_6_code (4 : Nat) (Option.some Jvm.ClassFile.FieldType.int)) ∈ gw := g3 218 rfl rfl
theorem wd_3_219 : (Jvm.Cond.methodLink "NameRing$Work" (72 : Nat) ({ cls := "NameRing$Tape", name := "isName", desc := "()Z" } : Jvm.MethodName)) ∈ gw := g3 219 rfl rfl
theorem wd_3_220 : (Jvm.Cond.methodLink "NameRing$Work" (80 : Nat) ({ cls := "NameRing$Told", name := "keyNamed", desc := "(J)I" } : Jvm.MethodName)) ∈ gw := g3 220 rfl rfl
theorem wd_3_221 : (Jvm.Cond.methodLink "NameRing$Work" (86 : Nat) ({ cls := "NameRing$Told", name := "nodeNamed", desc := "(J)I" } : Jvm.MethodName)) ∈ gw := g3 221 rfl rfl
theorem wd_3_222 : (Jvm.Cond.methodLink "NameRing$Work" (64 : Nat) ({ cls := "NameRing$Tape", name := "numberWithin", desc := "(II)I" } : Jvm.MethodName)) ∈ gw := g3 222 rfl rfl
theorem wd_3_223 : (Jvm.Cond.methodLink "NameRing$Work" (68 : Nat) ({ cls := "NameRing$Tape", name := "takeSign", desc := "(C)Z" } : Jvm.MethodName)) ∈ gw := g3 223 rfl rfl
theorem wd_3_224 : (Jvm.Cond.methodLink "NameRing" (126 : Nat) ({ cls := "NameRing$Work", name := "copyFrom", desc := "(LNameRing$Work;)V" } : Jvm.MethodName)) ∈ gw := g3 224 rfl rfl
theorem wd_3_225 : (Jvm.Cond.instanceMethod ({ cls := "NameRing$Work", name := "copyFrom", desc := "(LNameRing$Work;)V" } : Jvm.MethodName)) ∈ gw := g3 225 rfl rfl
theorem wd_3_226 : (Jvm.Cond.selects "NameRing$Work" ({ cls := "NameRing$Work", name := "copyFrom", desc := "(LNameRing$Work;)V" } : Jvm.MethodName) ({ cls := "NameRing$Work", name := "copyFrom", desc := "(LNameRing$Work;)V" } : Jvm.MethodName)) ∈ gw := g3 226 rfl rfl
theorem wd_3_227 : (Jvm.Cond.code ({ cls := "NameRing$Work", name := "copyFrom", desc := "(LNameRing$Work;)V" } : Jvm.MethodName) prog_12_method_3_code (2 : Nat) (Option.none : Option Jvm.ClassFile.FieldType)) ∈ gw := g3 227 rfl rfl
theorem wd_3_228 : (Jvm.Cond.methodLink "NameRing$Work" (25 : Nat) ({ cls := "java/lang/System", name := "arraycopy", desc := "(Ljava/lang/Object;ILjava/lang/Object;II)V" } : Jvm.MethodName)) ∈ gw := g3 228 rfl rfl
theorem wd_3_229 : (Jvm.Cond.methodLink "NameRingLaw" (35 : Nat) ({ cls := "NameRing", name := "node", desc := "(II)I" } : Jvm.MethodName)) ∈ gw := g3 229 rfl rfl
theorem wd_3_230 : (Jvm.Cond.instanceMethod ({ cls := "NameRing", name := "node", desc := "(II)I" } : Jvm.MethodName)) ∈ gw := g3 230 rfl rfl
theorem wd_3_231 : (Jvm.Cond.selects "NameRing" ({ cls := "NameRing", name := "node", desc := "(II)I" } : Jvm.MethodName) ({ cls := "NameRing", name := "node", desc := "(II)I" } : Jvm.MethodName)) ∈ gw := g3 231 rfl rfl
theorem wd_3_232 : (Jvm.Cond.code ({ cls := "NameRing", name := "node", desc := "(II)I" } : Jvm.MethodName) prog_1_method_5_code (3 : Nat) (Option.some Jvm.ClassFile.FieldType.int)) ∈ gw := g3 232 rfl rfl
theorem wd_3_233 : (Jvm.Cond.methodLink "NameRing" (129 : Nat) ({ cls := "NameRing$Told", name := "isNode", desc := "(I)Z" } : Jvm.MethodName)) ∈ gw := g3 233 rfl rfl
theorem wd_3_234 : (Jvm.Cond.instanceMethod ({ cls := "NameRing$Told", name := "isNode", desc := "(I)Z" } : Jvm.MethodName)) ∈ gw := g3 234 rfl rfl
theorem wd_3_235 : (Jvm.Cond.selects "NameRing$Told" ({ cls := "NameRing$Told", name := "isNode", desc := "(I)Z" } : Jvm.MethodName) ({ cls := "NameRing$Told", name := "isNode", desc := "(I)Z" } : Jvm.MethodName)) ∈ gw := g3 235 rfl rfl
theorem wd_3_236 : (Jvm.Cond.code ({ cls := "NameRing$Told", name := "isNode", desc := "(I)Z" } : Jvm.MethodName) prog_10_method_4_code (2 : Nat) (Option.some Jvm.ClassFile.FieldType.boolean)) ∈ gw := g3 236 rfl rfl
theorem wd_3_237 : (Jvm.Cond.methodLink "NameRing" (140 : Nat) ({ cls := "NameRing$State", name := "isIn", desc := "(I)Z" } : Jvm.MethodName)) ∈ gw := g3 237 rfl rfl
theorem wd_3_238 : (Jvm.Cond.instanceMethod ({ cls := "NameRing$State", name := "isIn", desc := "(I)Z" } : Jvm.MethodName)) ∈ gw := g3 238 rfl rfl
theorem wd_3_239 : (Jvm.Cond.selects "NameRing$State" ({ cls := "NameRing$State", name := "isIn", desc := "(I)Z" } : Jvm.MethodName) ({ cls := "NameRing$State", name := "isIn", desc := "(I)Z" } : Jvm.MethodName)) ∈ gw := g3 239 rfl rfl
theorem wd_4_0 : (Jvm.Cond.code ({ cls := "NameRing$State", name := "isIn", desc := "(I)Z" } : Jvm.MethodName) prog_8_method_5_code (2 : Nat) (Option.some Jvm.ClassFile.FieldType.boolean)) ∈ gw := g4 0 rfl rfl
theorem wd_4_1 : (Jvm.Cond.methodLink "NameRing" (143 : Nat) ({ cls := "NameRing$State", name := "aheadOf", desc := "(I)I" } : Jvm.MethodName)) ∈ gw := g4 1 rfl rfl
theorem wd_4_2 : (Jvm.Cond.instanceMethod ({ cls := "NameRing$State", name := "aheadOf", desc := "(I)I" } : Jvm.MethodName)) ∈ gw := g4 2 rfl rfl
theorem wd_4_3 : (Jvm.Cond.selects "NameRing$State" ({ cls := "NameRing$State", name := "aheadOf", desc := "(I)I" } : Jvm.MethodName) ({ cls := "NameRing$State", name := "aheadOf", desc := "(I)I" } : Jvm.MethodName)) ∈ gw := g4 3 rfl rfl
theorem wd_4_4 : (Jvm.Cond.code ({ cls := "NameRing$State", name := "aheadOf", desc := "(I)I" } : Jvm.MethodName) prog_8_method_11_code (2 : Nat) (Option.some Jvm.ClassFile.FieldType.int)) ∈ gw := g4 4 rfl rfl
theorem wd_4_5 : (Jvm.Cond.methodLink "NameRing" (150 : Nat) ({ cls := "NameRing$State", name := "firstOf", desc := "(II)I" } : Jvm.MethodName)) ∈ gw := g4 5 rfl rfl
theorem wd_4_6 : (Jvm.Cond.instanceMethod ({ cls := "NameRing$State", name := "firstOf", desc := "(II)I" } : Jvm.MethodName)) ∈ gw := g4 6 rfl rfl
theorem wd_4_7 : (Jvm.Cond.selects "NameRing$State" ({ cls := "NameRing$State", name := "firstOf", desc := "(II)I" } : Jvm.MethodName) ({ cls := "NameRing$State", name := "firstOf", desc := "(II)I" } : Jvm.MethodName)) ∈ gw := g4 7 rfl rfl
theorem wd_4_8 : (Jvm.Cond.code ({ cls := "NameRing$State", name := "firstOf", desc := "(II)I" } : Jvm.MethodName) prog_8_method_17_code (5 : Nat) (Option.some Jvm.ClassFile.FieldType.int)) ∈ gw := g4 8 rfl rfl
theorem wd_4_9 : (Jvm.Cond.methodLink "NameRing$State" (31 : Nat) ({ cls := "NameRing$State", name := "listAt", desc := "(II)I" } : Jvm.MethodName)) ∈ gw := g4 9 rfl rfl
theorem wd_4_10 : (Jvm.Cond.instanceMethod ({ cls := "NameRing$State", name := "listAt", desc := "(II)I" } : Jvm.MethodName)) ∈ gw := g4 10 rfl rfl
theorem wd_4_11 : (Jvm.Cond.selects "NameRing$State" ({ cls := "NameRing$State", name := "listAt", desc := "(II)I" } : Jvm.MethodName) ({ cls := "NameRing$State", name := "listAt", desc := "(II)I" } : Jvm.MethodName)) ∈ gw := g4 11 rfl rfl
theorem wd_4_12 : (Jvm.Cond.code ({ cls := "NameRing$State", name := "listAt", desc := "(II)I" } : Jvm.MethodName) prog_8_method_9_code (3 : Nat) (Option.some Jvm.ClassFile.FieldType.int)) ∈ gw := g4 12 rfl rfl
theorem wd_4_13 : (Jvm.Cond.methodLink "NameRing" (154 : Nat) ({ cls := "NameRing$State", name := "heldBy", desc := "(I)I" } : Jvm.MethodName)) ∈ gw := g4 13 rfl rfl
theorem wd_4_14 : (Jvm.Cond.instanceMethod ({ cls := "NameRing$State", name := "heldBy", desc := "(I)I" } : Jvm.MethodName)) ∈ gw := g4 14 rfl rfl
theorem wd_4_15 : (Jvm.Cond.selects "NameRing$State" ({ cls := "NameRing$State", name := "heldBy", desc := "(I)I" } : Jvm.MethodName) ({ cls := "NameRing$State", name := "heldBy", desc := "(I)I" } : Jvm.MethodName)) ∈ gw := g4 15 rfl rfl
theorem wd_4_16 : (Jvm.Cond.code ({ cls := "NameRing$State", name := "heldBy", desc := "(I)I" } : Jvm.MethodName) prog_8_method_18_code (4 : Nat) (Option.some Jvm.ClassFile.FieldType.int)) ∈ gw := g4 16 rfl rfl
theorem wd_4_17 : (Jvm.Cond.methodLink "NameRingLaw" (40 : Nat) ({ cls := "NameRing", name := "listed", desc := "(II)I" } : Jvm.MethodName)) ∈ gw := g4 17 rfl rfl
theorem wd_4_18 : (Jvm.Cond.instanceMethod ({ cls := "NameRing", name := "listed", desc := "(II)I" } : Jvm.MethodName)) ∈ gw := g4 18 rfl rfl
theorem wd_4_19 : (Jvm.Cond.selects "NameRing" ({ cls := "NameRing", name := "listed", desc := "(II)I" } : Jvm.MethodName) ({ cls := "NameRing", name := "listed", desc := "(II)I" } : Jvm.MethodName)) ∈ gw := g4 19 rfl rfl
theorem wd_4_20 : (Jvm.Cond.code ({ cls := "NameRing", name := "listed", desc := "(II)I" } : Jvm.MethodName) prog_1_method_6_code (3 : Nat) (Option.some Jvm.ClassFile.FieldType.int)) ∈ gw := g4 20 rfl rfl
theorem wd_4_21 : (Jvm.Cond.methodLink "NameRing" (157 : Nat) ({ cls := "NameRing$State", name := "listAt", desc := "(II)I" } : Jvm.MethodName)) ∈ gw := g4 21 rfl rfl
theorem wd_4_22 : (Jvm.Cond.methodLink "NameRingLaw" (44 : Nat) ({ cls := "NameRing", name := "finger", desc := "(II)I" } : Jvm.MethodName)) ∈ gw := g4 22 rfl rfl
theorem wd_4_23 : (Jvm.Cond.instanceMethod ({ cls := "NameRing", name := "finger", desc := "(II)I" } : Jvm.MethodName)) ∈ gw := g4 23 rfl rfl
theorem wd_4_24 : (Jvm.Cond.selects "NameRing" ({ cls := "NameRing", name := "finger", desc := "(II)I" } : Jvm.MethodName) ({ cls := "NameRing", name := "finger", desc := "(II)I" } : Jvm.MethodName)) ∈ gw := g4 24 rfl rfl
theorem wd_4_25 : (Jvm.Cond.code ({ cls := "NameRing", name := "finger", desc := "(II)I" } : Jvm.MethodName) prog_1_method_7_code (3 : Nat) (Option.some Jvm.ClassFile.FieldType.int)) ∈ gw := g4 25 rfl rfl
theorem wd_4_26 : (Jvm.Cond.methodLink "NameRing" (160 : Nat) ({ cls := "NameRing$State", name := "fingerAt", desc := "(II)I" } : Jvm.MethodName)) ∈ gw := g4 26 rfl rfl
theorem wd_4_27 : (Jvm.Cond.instanceMethod ({ cls := "NameRing$State", name := "fingerAt", desc := "(II)I" } : Jvm.MethodName)) ∈ gw := g4 27 rfl rfl
theorem wd_4_28 : (Jvm.Cond.selects "NameRing$State" ({ cls := "NameRing$State", name := "fingerAt", desc := "(II)I" } : Jvm.MethodName) ({ cls := "NameRing$State", name := "fingerAt", desc := "(II)I" } : Jvm.MethodName)) ∈ gw := g4 28 rfl rfl
theorem wd_4_29 : (Jvm.Cond.code ({ cls := "NameRing$State", name := "fingerAt", desc := "(II)I" } : Jvm.MethodName) prog_8_method_13_code (3 : Nat) (Option.some Jvm.ClassFile.FieldType.int)) ∈ gw := g4 29 rfl rfl
theorem wd_4_30 : (Jvm.Cond.methodLink "NameRingLaw" (48 : Nat) ({ cls := "NameRing", name := "key", desc := "(II)I" } : Jvm.MethodName)) ∈ gw := g4 30 rfl rfl
theorem wd_4_31 : (Jvm.Cond.instanceMethod ({ cls := "NameRing", name := "key", desc := "(II)I" } : Jvm.MethodName)) ∈ gw := g4 31 rfl rfl
theorem wd_4_32 : (Jvm.Cond.selects "NameRing" ({ cls := "NameRing", name := "key", desc := "(II)I" } : Jvm.MethodName) ({ cls := "NameRing", name := "key", desc := "(II)I" } : Jvm.MethodName)) ∈ gw := g4 32 rfl rfl
theorem wd_4_33 : (Jvm.Cond.code ({ cls := "NameRing", name := "key", desc := "(II)I" } : Jvm.MethodName) prog_1_method_8_code (3 : Nat) (Option.some Jvm.ClassFile.FieldType.int)) ∈ gw := g4 33 rfl rfl
theorem wd_4_34 : (Jvm.Cond.methodLink "NameRing" (163 : Nat) ({ cls := "NameRing$Told", name := "isKey", desc := "(I)Z" } : Jvm.MethodName)) ∈ gw := g4 34 rfl rfl
theorem wd_4_35 : (Jvm.Cond.instanceMethod ({ cls := "NameRing$Told", name := "isKey", desc := "(I)Z" } : Jvm.MethodName)) ∈ gw := g4 35 rfl rfl
theorem wd_4_36 : (Jvm.Cond.selects "NameRing$Told" ({ cls := "NameRing$Told", name := "isKey", desc := "(I)Z" } : Jvm.MethodName) ({ cls := "NameRing$Told", name := "isKey", desc := "(I)Z" } : Jvm.MethodName)) ∈ gw := g4 36 rfl rfl
theorem wd_4_37 : (Jvm.Cond.code ({ cls := "NameRing$Told", name := "isKey", desc := "(I)Z" } : Jvm.MethodName) prog_10_method_5_code (2 : Nat) (Option.some Jvm.ClassFile.FieldType.boolean)) ∈ gw := g4 37 rfl rfl
theorem wd_4_38 : (Jvm.Cond.methodLink "NameRing" (169 : Nat) ({ cls := "NameRing$State", name := "holderOf", desc := "(I)I" } : Jvm.MethodName)) ∈ gw := g4 38 rfl rfl
theorem wd_4_39 : (Jvm.Cond.instanceMethod ({ cls := "NameRing$State", name := "holderOf", desc := "(I)I" } : Jvm.MethodName)) ∈ gw := g4 39 rfl rfl
theorem wd_4_40 : (Jvm.Cond.selects "NameRing$State" ({ cls := "NameRing$State", name := "holderOf", desc := "(I)I" } : Jvm.MethodName) ({ cls := "NameRing$State", name := "holderOf", desc := "(I)I" } : Jvm.MethodName)) ∈ gw := g4 40 rfl rfl
theorem wd_4_41 : (Jvm.Cond.code ({ cls := "NameRing$State", name := "holderOf", desc := "(I)I" } : Jvm.MethodName) prog_8_method_15_code (2 : Nat) (Option.some Jvm.ClassFile.FieldType.int)) ∈ gw := g4 41 rfl rfl
theorem wd_4_42 : (Jvm.Cond.methodLink "NameRing" (172 : Nat) ({ cls := "NameRing$Looks", name := "ownerOf", desc := "(II)I" } : Jvm.MethodName)) ∈ gw := g4 42 rfl rfl
theorem wd_4_43 : (Jvm.Cond.instanceMethod ({ cls := "NameRing$Looks", name := "ownerOf", desc := "(II)I" } : Jvm.MethodName)) ∈ gw := g4 43 rfl rfl
theorem wd_4_44 : (Jvm.Cond.selects "NameRing$Looks" ({ cls := "NameRing$Looks", name := "ownerOf", desc := "(II)I" } : Jvm.MethodName) ({ cls := "NameRing$Looks", name := "ownerOf", desc := "(II)I" } : Jvm.MethodName)) ∈ gw := g4 44 rfl rfl
theorem wd_4_45 : (Jvm.Cond.code ({ cls := "NameRing$Looks", name := "ownerOf", desc := "(II)I" } : Jvm.MethodName) prog_4_method_3_code (7 : Nat) (Option.some Jvm.ClassFile.FieldType.int)) ∈ gw := g4 45 rfl rfl
theorem wd_4_46 : (Jvm.Cond.methodLink "NameRing$Looks" (23 : Nat) ({ cls := "NameRing$Looks", name := "has", desc := "(II)Z" } : Jvm.MethodName)) ∈ gw := g4 46 rfl rfl
theorem wd_4_47 : (Jvm.Cond.static ({ cls := "NameRing$Looks", name := "has", desc := "(II)Z" } : Jvm.MethodName)) ∈ gw := g4 47 rfl rfl
theorem wd_4_48 : (Jvm.Cond.code ({ cls := "NameRing$Looks", name := "has", desc := "(II)Z" } : Jvm.MethodName) prog_4_method_2_code (2 : Nat) (Option.some Jvm.ClassFile.FieldType.boolean)) ∈ gw := g4 48 rfl rfl
theorem wd_4_49 : (Jvm.Cond.methodLink "NameRing$Looks" (33 : Nat) ({ cls := "NameRing$Told", name := "onward", desc := "(II)I" } : Jvm.MethodName)) ∈ gw := g4 49 rfl rfl
theorem wd_4_50 : (Jvm.Cond.instanceMethod ({ cls := "NameRing$Told", name := "onward", desc := "(II)I" } : Jvm.MethodName)) ∈ gw := g4 50 rfl rfl
theorem wd_4_51 : (Jvm.Cond.selects "NameRing$Told" ({ cls := "NameRing$Told", name := "onward", desc := "(II)I" } : Jvm.MethodName) ({ cls := "NameRing$Told", name := "onward", desc := "(II)I" } : Jvm.MethodName)) ∈ gw := g4 51 rfl rfl
theorem wd_4_52 : (Jvm.Cond.code ({ cls := "NameRing$Told", name := "onward", desc := "(II)I" } : Jvm.MethodName) prog_10_method_12_code (4 : Nat) (Option.some Jvm.ClassFile.FieldType.int)) ∈ gw := g4 52 rfl rfl
theorem wd_4_53 : (Jvm.Cond.methodLink "NameRingLaw" (52 : Nat) ({ cls := "NameRing", name := "start", desc := "(I)Z" } : Jvm.MethodName)) ∈ gw := g4 53 rfl rfl
theorem wd_4_54 : (Jvm.Cond.instanceMethod ({ cls := "NameRing", name := "start", desc := "(I)Z" } : Jvm.MethodName)) ∈ gw := g4 54 rfl rfl
theorem wd_4_55 : (Jvm.Cond.selects "NameRing" ({ cls := "NameRing", name := "start", desc := "(I)Z" } : Jvm.MethodName) ({ cls := "NameRing", name := "start", desc := "(I)Z" } : Jvm.MethodName)) ∈ gw := g4 55 rfl rfl
theorem wd_4_56 : (Jvm.Cond.code ({ cls := "NameRing", name := "start", desc := "(I)Z" } : Jvm.MethodName) prog_1_method_9_code (2 : Nat) (Option.some Jvm.ClassFile.FieldType.boolean)) ∈ gw := g4 56 rfl rfl
theorem wd_4_57 : (Jvm.Cond.methodLink "NameRing" (175 : Nat) ({ cls := "NameRing$Past", name := "lay", desc := "(LNameRing$State;)V" } : Jvm.MethodName)) ∈ gw := g4 57 rfl rfl
theorem wd_4_58 : (Jvm.Cond.instanceMethod ({ cls := "NameRing$Past", name := "lay", desc := "(LNameRing$State;)V" } : Jvm.MethodName)) ∈ gw := g4 58 rfl rfl
theorem wd_4_59 : (Jvm.Cond.selects "NameRing$Past" ({ cls := "NameRing$Past", name := "lay", desc := "(LNameRing$State;)V" } : Jvm.MethodName) ({ cls := "NameRing$Past", name := "lay", desc := "(LNameRing$State;)V" } : Jvm.MethodName)) ∈ gw := g4 59 rfl rfl
theorem wd_4_60 : (Jvm.Cond.code ({ cls := "NameRing$Past", name := "lay", desc := "(LNameRing$State;)V" } : Jvm.MethodName) prog_5_method_3_code (2 : Nat) (Option.none : Option Jvm.ClassFile.FieldType)) ∈ gw := g4 60 rfl rfl
theorem wd_4_61 : (Jvm.Cond.methodLink "NameRing$Past" (39 : Nat) ({ cls := "NameRing$State", name := "copyFrom", desc := "(LNameRing$State;)V" } : Jvm.MethodName)) ∈ gw := g4 61 rfl rfl
theorem wd_4_62 : (Jvm.Cond.instanceMethod ({ cls := "NameRing$State", name := "copyFrom", desc := "(LNameRing$State;)V" } : Jvm.MethodName)) ∈ gw := g4 62 rfl rfl
theorem wd_4_63 : (Jvm.Cond.selects "NameRing$State" ({ cls := "NameRing$State", name := "copyFrom", desc := "(LNameRing$State;)V" } : Jvm.MethodName) ({ cls := "NameRing$State", name := "copyFrom", desc := "(LNameRing$State;)V" } : Jvm.MethodName)) ∈ gw := g4 63 rfl rfl
theorem wd_4_64 : (Jvm.Cond.code ({ cls := "NameRing$State", name := "copyFrom", desc := "(LNameRing$State;)V" } : Jvm.MethodName) prog_8_method_3_code (2 : Nat) (Option.none : Option Jvm.ClassFile.FieldType)) ∈ gw := g4 64 rfl rfl
theorem wd_4_65 : (Jvm.Cond.methodLink "NameRing$State" (19 : Nat) ({ cls := "java/lang/System", name := "arraycopy", desc := "(Ljava/lang/Object;ILjava/lang/Object;II)V" } : Jvm.MethodName)) ∈ gw := g4 65 rfl rfl
theorem wd_4_66 : (Jvm.Cond.methodLink "NameRing" (179 : Nat) ({ cls := "NameRing$Deeds", name := "doBegin", desc := "(I)Z" } : Jvm.MethodName)) ∈ gw := g4 66 rfl rfl
theorem wd_4_67 : (Jvm.Cond.instanceMethod ({ cls := "NameRing$Deeds", name := "doBegin", desc := "(I)Z" } : Jvm.MethodName)) ∈ gw := g4 67 rfl rfl
theorem wd_4_68 : (Jvm.Cond.selects "NameRing$Deeds" ({ cls := "NameRing$Deeds", name := "doBegin", desc := "(I)Z" } : Jvm.MethodName) ({ cls := "NameRing$Deeds", name := "doBegin", desc := "(I)Z" } : Jvm.MethodName)) ∈ gw := g4 68 rfl rfl
theorem wd_4_69 : (Jvm.Cond.code ({ cls := "NameRing$Deeds", name := "doBegin", desc := "(I)Z" } : Jvm.MethodName) prog_2_method_3_code (2 : Nat) (Option.some Jvm.ClassFile.FieldType.boolean)) ∈ gw := g4 69 rfl rfl
theorem wd_4_70 : (Jvm.Cond.methodLink "NameRing$Deeds" (58 : Nat) ({ cls := "NameRing$Told", name := "isNode", desc := "(I)Z" } : Jvm.MethodName)) ∈ gw := g4 70 rfl rfl
theorem wd_4_71 : (Jvm.Cond.methodLink "NameRing$Deeds" (69 : Nat) ({ cls := "NameRing$State", name := "enter", desc := "(I)V" } : Jvm.MethodName)) ∈ gw := g4 71 rfl rfl
theorem wd_4_72 : (Jvm.Cond.instanceMethod ({ cls := "NameRing$State", name := "enter", desc := "(I)V" } : Jvm.MethodName)) ∈ gw := g4 72 rfl rfl
theorem wd_4_73 : (Jvm.Cond.selects "NameRing$State" ({ cls := "NameRing$State", name := "enter", desc := "(I)V" } : Jvm.MethodName) ({ cls := "NameRing$State", name := "enter", desc := "(I)V" } : Jvm.MethodName)) ∈ gw := g4 73 rfl rfl
theorem wd_4_74 : (Jvm.Cond.code ({ cls := "NameRing$State", name := "enter", desc := "(I)V" } : Jvm.MethodName) prog_8_method_7_code (2 : Nat) (Option.none : Option Jvm.ClassFile.FieldType)) ∈ gw := g4 74 rfl rfl
theorem wd_4_75 : (Jvm.Cond.methodLink "NameRing$Deeds" (73 : Nat) ({ cls := "NameRing$State", name := "setList", desc := "(III)V" } : Jvm.MethodName)) ∈ gw := g4 75 rfl rfl
theorem wd_4_76 : (Jvm.Cond.instanceMethod ({ cls := "NameRing$State", name := "setList", desc := "(III)V" } : Jvm.MethodName)) ∈ gw := g4 76 rfl rfl
theorem wd_4_77 : (Jvm.Cond.selects "NameRing$State" ({ cls := "NameRing$State", name := "setList", desc := "(III)V" } : Jvm.MethodName) ({ cls := "NameRing$State", name := "setList", desc := "(III)V" } : Jvm.MethodName)) ∈ gw := g4 77 rfl rfl
theorem wd_4_78 : (Jvm.Cond.code ({ cls := "NameRing$State", name := "setList", desc := "(III)V" } : Jvm.MethodName) prog_8_method_10_code (4 : Nat) (Option.none : Option Jvm.ClassFile.FieldType)) ∈ gw := g4 78 rfl rfl
theorem wd_4_79 : (Jvm.Cond.methodLink "NameRing" (182 : Nat) ({ cls := "NameRing$Past", name := "keepIf", desc := "(Z)Z" } : Jvm.MethodName)) ∈ gw := g4 79 rfl rfl
theorem wd_4_80 : (Jvm.Cond.instanceMethod ({ cls := "NameRing$Past", name := "keepIf", desc := "(Z)Z" } : Jvm.MethodName)) ∈ gw := g4 80 rfl rfl
theorem wd_4_81 : (Jvm.Cond.selects "NameRing$Past" ({ cls := "NameRing$Past", name := "keepIf", desc := "(Z)Z" } : Jvm.MethodName) ({ cls := "NameRing$Past", name := "keepIf", desc := "(Z)Z" } : Jvm.MethodName)) ∈ gw := g4 81 rfl rfl
theorem wd_4_82 : (Jvm.Cond.code ({ cls := "NameRing$Past", name := "keepIf", desc := "(Z)Z" } : Jvm.MethodName) prog_5_method_4_code (2 : Nat) (Option.some Jvm.ClassFile.FieldType.boolean)) ∈ gw := g4 82 rfl rfl
theorem wd_4_83 : (Jvm.Cond.methodLink "NameRing$Past" (43 : Nat) ({ cls := "java/lang/Math", name := "min", desc := "(II)I" } : Jvm.MethodName)) ∈ gw := g4 83 rfl rfl
theorem wd_4_84 : (Jvm.Cond.methodLink "NameRingLaw" (57 : Nat) ({ cls := "NameRing", name := "join", desc := "(II)I" } : Jvm.MethodName)) ∈ gw := g4 84 rfl rfl
theorem wd_4_85 : (Jvm.Cond.instanceMethod ({ cls := "NameRing", name := "join", desc := "(II)I" } : Jvm.MethodName)) ∈ gw := g4 85 rfl rfl
theorem wd_4_86 : (Jvm.Cond.selects "NameRing" ({ cls := "NameRing", name := "join", desc := "(II)I" } : Jvm.MethodName) ({ cls := "NameRing", name := "join", desc := "(II)I" } : Jvm.MethodName)) ∈ gw := g4 86 rfl rfl
theorem wd_4_87 : (Jvm.Cond.code ({ cls := "NameRing", name := "join", desc := "(II)I" } : Jvm.MethodName) prog_1_method_10_code (3 : Nat) (Option.some Jvm.ClassFile.FieldType.int)) ∈ gw := g4 87 rfl rfl
theorem wd_4_88 : (Jvm.Cond.methodLink "NameRing" (186 : Nat) ({ cls := "NameRing$Deeds", name := "doJoin", desc := "(II)Z" } : Jvm.MethodName)) ∈ gw := g4 88 rfl rfl
theorem wd_4_89 : (Jvm.Cond.instanceMethod ({ cls := "NameRing$Deeds", name := "doJoin", desc := "(II)Z" } : Jvm.MethodName)) ∈ gw := g4 89 rfl rfl
theorem wd_4_90 : (Jvm.Cond.selects "NameRing$Deeds" ({ cls := "NameRing$Deeds", name := "doJoin", desc := "(II)Z" } : Jvm.MethodName) ({ cls := "NameRing$Deeds", name := "doJoin", desc := "(II)Z" } : Jvm.MethodName)) ∈ gw := g4 90 rfl rfl
theorem wd_4_91 : (Jvm.Cond.code ({ cls := "NameRing$Deeds", name := "doJoin", desc := "(II)Z" } : Jvm.MethodName) prog_2_method_4_code (3 : Nat) (Option.some Jvm.ClassFile.FieldType.boolean)) ∈ gw := g4 91 rfl rfl
theorem wd_4_92 : (Jvm.Cond.methodLink "NameRing$Deeds" (77 : Nat) ({ cls := "NameRing$State", name := "isIn", desc := "(I)Z" } : Jvm.MethodName)) ∈ gw := g4 92 rfl rfl
theorem wd_4_93 : (Jvm.Cond.methodLink "NameRing$Deeds" (83 : Nat) ({ cls := "NameRing$Finder", name := "seek", desc := "(II)Z" } : Jvm.MethodName)) ∈ gw := g4 93 rfl rfl
theorem wd_4_94 : (Jvm.Cond.instanceMethod ({ cls := "NameRing$Finder", name := "seek", desc := "(II)Z" } : Jvm.MethodName)) ∈ gw := g4 94 rfl rfl
theorem wd_4_95 : (Jvm.Cond.selects "NameRing$Finder" ({ cls := "NameRing$Finder", name := "seek", desc := "(II)Z" } : Jvm.MethodName) ({ cls := "NameRing$Finder", name := "seek", desc := "(II)Z" } : Jvm.MethodName)) ∈ gw := g4 95 rfl rfl
theorem wd_4_96 : (Jvm.Cond.code ({ cls := "NameRing$Finder", name := "seek", desc := "(II)Z" } : Jvm.MethodName) prog_3_method_2_code (7 : Nat) (Option.some Jvm.ClassFile.FieldType.boolean)) ∈ gw := g4 96 rfl rfl
theorem wd_4_97 : (Jvm.Cond.methodLink "NameRing$Finder" (30 : Nat) ({ cls := "NameRing$State", name := "isIn", desc := "(I)Z" } : Jvm.MethodName)) ∈ gw := g4 97 rfl rfl
theorem wd_4_98 : (Jvm.Cond.methodLink "NameRing$Finder" (36 : Nat) ({ cls := "NameRing$Told", name := "isPlace", desc := "(I)Z" } : Jvm.MethodName)) ∈ gw := g4 98 rfl rfl
theorem wd_4_99 : (Jvm.Cond.instanceMethod ({ cls := "NameRing$Told", name := "isPlace", desc := "(I)Z" } : Jvm.MethodName)) ∈ gw := g4 99 rfl rfl
theorem wd_4_100 : (Jvm.Cond.selects "NameRing$Told" ({ cls := "NameRing$Told", name := "isPlace", desc := "(I)Z" } : Jvm.MethodName) ({ cls := "NameRing$Told", name := "isPlace", desc := "(I)Z" } : Jvm.MethodName)) ∈ gw := g4 100 rfl rfl
theorem wd_4_101 : (Jvm.Cond.code ({ cls := "NameRing$Told", name := "isPlace", desc := "(I)Z" } : Jvm.MethodName) prog_10_method_6_code (2 : Nat) (Option.some Jvm.ClassFile.FieldType.boolean)) ∈ gw := g4 101 rfl rfl
theorem wd_4_102 : (Jvm.Cond.methodLink "NameRing$Finder" (44 : Nat) ({ cls := "NameRing$State", name := "firstOf", desc := "(II)I" } : Jvm.MethodName)) ∈ gw := g4 102 rfl rfl
theorem wd_4_103 : (Jvm.Cond.methodLink "NameRing$Finder" (51 : Nat) ({ cls := "NameRing$Told", name := "way", desc := "(II)I" } : Jvm.MethodName)) ∈ gw := g4 103 rfl rfl
theorem wd_4_104 : (Jvm.Cond.instanceMethod ({ cls := "NameRing$Told", name := "way", desc := "(II)I" } : Jvm.MethodName)) ∈ gw := g4 104 rfl rfl
theorem wd_4_105 : (Jvm.Cond.selects "NameRing$Told" ({ cls := "NameRing$Told", name := "way", desc := "(II)I" } : Jvm.MethodName) ({ cls := "NameRing$Told", name := "way", desc := "(II)I" } : Jvm.MethodName)) ∈ gw := g4 105 rfl rfl
theorem wd_4_106 : (Jvm.Cond.code ({ cls := "NameRing$Told", name := "way", desc := "(II)I" } : Jvm.MethodName) prog_10_method_11_code (4 : Nat) (Option.some Jvm.ClassFile.FieldType.int)) ∈ gw := g4 106 rfl rfl
theorem wd_4_107 : (Jvm.Cond.methodLink "NameRing$Finder" (54 : Nat) ({ cls := "NameRing$Finder", name := "farthestBelow", desc := "(II)I" } : Jvm.MethodName)) ∈ gw := g4 107 rfl rfl
theorem wd_4_109 : (Jvm.Cond.instanceMethod ({ cls := "NameRing$Finder", name := "farthestBelow", desc := "(II)I" } : Jvm.MethodName)) ∈ gw := g4 109 rfl rfl
theorem wd_4_110 : (Jvm.Cond.code ({ cls := "NameRing$Finder", name := "farthestBelow", desc := "(II)I" } : Jvm.MethodName) prog_3_method_3_code (8 : Nat) (Option.some Jvm.ClassFile.FieldType.int)) ∈ gw := g4 110 rfl rfl
theorem wd_4_111 : (Jvm.Cond.methodLink "NameRing$Finder" (57 : Nat) ({ cls := "NameRing$State", name := "listAt", desc := "(II)I" } : Jvm.MethodName)) ∈ gw := g4 111 rfl rfl
theorem wd_4_112 : (Jvm.Cond.methodLink "NameRing$Finder" (60 : Nat) ({ cls := "NameRing$State", name := "fingerAt", desc := "(II)I" } : Jvm.MethodName)) ∈ gw := g4 112 rfl rfl
theorem wd_4_113 : (Jvm.Cond.methodLink "NameRing$Deeds" (91 : Nat) ({ cls := "NameRing$Deeds", name := "setListBy", desc := "(II)V" } : Jvm.MethodName)) ∈ gw := g4 113 rfl rfl
theorem wd_4_115 : (Jvm.Cond.instanceMethod ({ cls := "NameRing$Deeds", name := "setListBy", desc := "(II)V" } : Jvm.MethodName)) ∈ gw := g4 115 rfl rfl
theorem wd_4_116 : (Jvm.Cond.code ({ cls := "NameRing$Deeds", name := "setListBy", desc := "(II)V" } : Jvm.MethodName) prog_2_method_8_code (7 : Nat) (Option.none : Option Jvm.ClassFile.FieldType)) ∈ gw := g4 116 rfl rfl
theorem wd_4_117 : (Jvm.Cond.methodLink "NameRing$Deeds" (122 : Nat) ({ cls := "NameRing$Told", name := "roomOf", desc := "(I)I" } : Jvm.MethodName)) ∈ gw := g4 117 rfl rfl
theorem wd_4_118 : (Jvm.Cond.instanceMethod ({ cls := "NameRing$Told", name := "roomOf", desc := "(I)I" } : Jvm.MethodName)) ∈ gw := g4 118 rfl rfl
theorem wd_4_119 : (Jvm.Cond.selects "NameRing$Told" ({ cls := "NameRing$Told", name := "roomOf", desc := "(I)I" } : Jvm.MethodName) ({ cls := "NameRing$Told", name := "roomOf", desc := "(I)I" } : Jvm.MethodName)) ∈ gw := g4 119 rfl rfl
theorem wd_4_120 : (Jvm.Cond.code ({ cls := "NameRing$Told", name := "roomOf", desc := "(I)I" } : Jvm.MethodName) prog_10_method_10_code (2 : Nat) (Option.some Jvm.ClassFile.FieldType.int)) ∈ gw := g4 120 rfl rfl
theorem wd_4_121 : (Jvm.Cond.methodLink "NameRing$Deeds" (125 : Nat) ({ cls := "java/lang/Math", name := "min", desc := "(II)I" } : Jvm.MethodName)) ∈ gw := g4 121 rfl rfl
theorem wd_4_122 : (Jvm.Cond.methodLink "NameRing$Deeds" (130 : Nat) ({ cls := "NameRing$State", name := "listAt", desc := "(II)I" } : Jvm.MethodName)) ∈ gw := g4 122 rfl rfl
theorem wd_4_123 : (Jvm.Cond.methodLink "NameRingLaw" (61 : Nat) ({ cls := "NameRing", name := "leave", desc := "(I)Z" } : Jvm.MethodName)) ∈ gw := g4 123 rfl rfl
theorem wd_4_124 : (Jvm.Cond.instanceMethod ({ cls := "NameRing", name := "leave", desc := "(I)Z" } : Jvm.MethodName)) ∈ gw := g4 124 rfl rfl
theorem wd_4_125 : (Jvm.Cond.selects "NameRing" ({ cls := "NameRing", name := "leave", desc := "(I)Z" } : Jvm.MethodName) ({ cls := "NameRing", name := "leave", desc := "(I)Z" } : Jvm.MethodName)) ∈ gw := g4 125 rfl rfl
theorem wd_4_126 : (Jvm.Cond.code ({ cls := "NameRing", name := "leave", desc := "(I)Z" } : Jvm.MethodName) prog_1_method_11_code (2 : Nat) (Option.some Jvm.ClassFile.FieldType.boolean)) ∈ gw := g4 126 rfl rfl
theorem wd_4_127 : (Jvm.Cond.methodLink "NameRing" (190 : Nat) ({ cls := "NameRing$Deeds", name := "doLeave", desc := "(I)Z" } : Jvm.MethodName)) ∈ gw := g4 127 rfl rfl
theorem wd_4_128 : (Jvm.Cond.instanceMethod ({ cls := "NameRing$Deeds", name := "doLeave", desc := "(I)Z" } : Jvm.MethodName)) ∈ gw := g4 128 rfl rfl
theorem wd_4_129 : (Jvm.Cond.selects "NameRing$Deeds" ({ cls := "NameRing$Deeds", name := "doLeave", desc := "(I)Z" } : Jvm.MethodName) ({ cls := "NameRing$Deeds", name := "doLeave", desc := "(I)Z" } : Jvm.MethodName)) ∈ gw := g4 129 rfl rfl
theorem wd_4_130 : (Jvm.Cond.code ({ cls := "NameRing$Deeds", name := "doLeave", desc := "(I)Z" } : Jvm.MethodName) prog_2_method_5_code (3 : Nat) (Option.some Jvm.ClassFile.FieldType.boolean)) ∈ gw := g4 130 rfl rfl
theorem wd_4_131 : (Jvm.Cond.methodLink "NameRing$Deeds" (95 : Nat) ({ cls := "NameRing$State", name := "firstOf", desc := "(II)I" } : Jvm.MethodName)) ∈ gw := g4 131 rfl rfl
theorem wd_4_132 : (Jvm.Cond.methodLink "NameRing$Deeds" (98 : Nat) ({ cls := "NameRing$State", name := "passKeys", desc := "(II)V" } : Jvm.MethodName)) ∈ gw := g4 132 rfl rfl
theorem wd_4_133 : (Jvm.Cond.instanceMethod ({ cls := "NameRing$State", name := "passKeys", desc := "(II)V" } : Jvm.MethodName)) ∈ gw := g4 133 rfl rfl
theorem wd_4_134 : (Jvm.Cond.selects "NameRing$State" ({ cls := "NameRing$State", name := "passKeys", desc := "(II)V" } : Jvm.MethodName) ({ cls := "NameRing$State", name := "passKeys", desc := "(II)V" } : Jvm.MethodName)) ∈ gw := g4 134 rfl rfl
theorem wd_4_135 : (Jvm.Cond.code ({ cls := "NameRing$State", name := "passKeys", desc := "(II)V" } : Jvm.MethodName) prog_8_method_20_code (4 : Nat) (Option.none : Option Jvm.ClassFile.FieldType)) ∈ gw := g4 135 rfl rfl
theorem wd_4_136 : (Jvm.Cond.methodLink "NameRing$Deeds" (101 : Nat) ({ cls := "NameRing$State", name := "goOut", desc := "(I)V" } : Jvm.MethodName)) ∈ gw := g4 136 rfl rfl
theorem wd_4_137 : (Jvm.Cond.instanceMethod ({ cls := "NameRing$State", name := "goOut", desc := "(I)V" } : Jvm.MethodName)) ∈ gw := g4 137 rfl rfl
theorem wd_4_138 : (Jvm.Cond.selects "NameRing$State" ({ cls := "NameRing$State", name := "goOut", desc := "(I)V" } : Jvm.MethodName) ({ cls := "NameRing$State", name := "goOut", desc := "(I)V" } : Jvm.MethodName)) ∈ gw := g4 138 rfl rfl
theorem wd_4_139 : (Jvm.Cond.code ({ cls := "NameRing$State", name := "goOut", desc := "(I)V" } : Jvm.MethodName) prog_8_method_8_code (3 : Nat) (Option.none : Option Jvm.ClassFile.FieldType)) ∈ gw := g4 139 rfl rfl
theorem wd_4_140 : (Jvm.Cond.methodLink "NameRingLaw" (65 : Nat) ({ cls := "NameRing", name := "fail", desc := "(I)I" } : Jvm.MethodName)) ∈ gw := g4 140 rfl rfl
theorem wd_4_141 : (Jvm.Cond.instanceMethod ({ cls := "NameRing", name := "fail", desc := "(I)I" } : Jvm.MethodName)) ∈ gw := g4 141 rfl rfl
theorem wd_4_142 : (Jvm.Cond.selects "NameRing" ({ cls := "NameRing", name := "fail", desc := "(I)I" } : Jvm.MethodName) ({ cls := "NameRing", name := "fail", desc := "(I)I" } : Jvm.MethodName)) ∈ gw := g4 142 rfl rfl
theorem wd_4_143 : (Jvm.Cond.code ({ cls := "NameRing", name := "fail", desc := "(I)I" } : Jvm.MethodName) prog_1_method_12_code (2 : Nat) (Option.some Jvm.ClassFile.FieldType.int)) ∈ gw := g4 143 rfl rfl
theorem wd_4_144 : (Jvm.Cond.methodLink "NameRing" (193 : Nat) ({ cls := "NameRing$Deeds", name := "doFail", desc := "(I)I" } : Jvm.MethodName)) ∈ gw := g4 144 rfl rfl
theorem wd_4_145 : (Jvm.Cond.instanceMethod ({ cls := "NameRing$Deeds", name := "doFail", desc := "(I)I" } : Jvm.MethodName)) ∈ gw := g4 145 rfl rfl
theorem wd_4_146 : (Jvm.Cond.selects "NameRing$Deeds" ({ cls := "NameRing$Deeds", name := "doFail", desc := "(I)I" } : Jvm.MethodName) ({ cls := "NameRing$Deeds", name := "doFail", desc := "(I)I" } : Jvm.MethodName)) ∈ gw := g4 146 rfl rfl
theorem wd_4_147 : (Jvm.Cond.code ({ cls := "NameRing$Deeds", name := "doFail", desc := "(I)I" } : Jvm.MethodName) prog_2_method_6_code (3 : Nat) (Option.some Jvm.ClassFile.FieldType.int)) ∈ gw := g4 147 rfl rfl
theorem wd_4_148 : (Jvm.Cond.methodLink "NameRing$Deeds" (104 : Nat) ({ cls := "NameRing$State", name := "heldBy", desc := "(I)I" } : Jvm.MethodName)) ∈ gw := g4 148 rfl rfl
theorem wd_4_149 : (Jvm.Cond.methodLink "NameRing$Deeds" (107 : Nat) ({ cls := "java/lang/Integer", name := "bitCount", desc := "(I)I" } : Jvm.MethodName)) ∈ gw := g4 149 rfl rfl
theorem wd_4_150 : (Jvm.Cond.static ({ cls := "java/lang/Integer", name := "bitCount", desc := "(I)I" } : Jvm.MethodName)) ∈ gw := g4 150 rfl rfl
theorem wd_4_151 : (Jvm.Cond.code ({ cls := "java/lang/Integer", name := "bitCount", desc := "(I)I" } : Jvm.MethodName) prog_20_method_49_code (1 : Nat) (Option.some Jvm.ClassFile.FieldType.int)) ∈ gw := g4 151 rfl rfl
theorem wd_4_152 : (Jvm.Cond.constant "java/lang/Integer" (265 : Nat) (1431655765 : Int32)) ∈ gw := g4 152 rfl rfl
theorem wd_4_153 : (Jvm.Cond.constant "java/lang/Integer" (266 : Nat) (858993459 : Int32)) ∈ gw := g4 153 rfl rfl
theorem wd_4_154 : (Jvm.Cond.constant "java/lang/Integer" (267 : Nat) (252645135 : Int32)) ∈ gw := g4 154 rfl rfl
theorem wd_4_155 : (Jvm.Cond.methodLink "NameRing" (196 : Nat) ({ cls := "NameRing$Past", name := "keepUnlessNone", desc := "(I)I" } : Jvm.MethodName)) ∈ gw := g4 155 rfl rfl
theorem wd_4_156 : (Jvm.Cond.instanceMethod ({ cls := "NameRing$Past", name := "keepUnlessNone", desc := "(I)I" } : Jvm.MethodName)) ∈ gw := g4 156 rfl rfl
theorem wd_4_157 : (Jvm.Cond.selects "NameRing$Past" ({ cls := "NameRing$Past", name := "keepUnlessNone", desc := "(I)I" } : Jvm.MethodName) ({ cls := "NameRing$Past", name := "keepUnlessNone", desc := "(I)I" } : Jvm.MethodName)) ∈ gw := g4 157 rfl rfl
theorem wd_4_158 : (Jvm.Cond.code ({ cls := "NameRing$Past", name := "keepUnlessNone", desc := "(I)I" } : Jvm.MethodName) prog_5_method_5_code (2 : Nat) (Option.some Jvm.ClassFile.FieldType.int)) ∈ gw := g4 158 rfl rfl
theorem wd_4_159 : (Jvm.Cond.methodLink "NameRing$Past" (49 : Nat) ({ cls := "NameRing$Past", name := "keepIf", desc := "(Z)Z" } : Jvm.MethodName)) ∈ gw := g4 159 rfl rfl
theorem wd_4_160 : (Jvm.Cond.methodLink "NameRingLaw" (70 : Nat) ({ cls := "NameRing", name := "tidy", desc := "(I)I" } : Jvm.MethodName)) ∈ gw := g4 160 rfl rfl
theorem wd_4_161 : (Jvm.Cond.instanceMethod ({ cls := "NameRing", name := "tidy", desc := "(I)I" } : Jvm.MethodName)) ∈ gw := g4 161 rfl rfl
theorem wd_4_162 : (Jvm.Cond.selects "NameRing" ({ cls := "NameRing", name := "tidy", desc := "(I)I" } : Jvm.MethodName) ({ cls := "NameRing", name := "tidy", desc := "(I)I" } : Jvm.MethodName)) ∈ gw := g4 162 rfl rfl
theorem wd_4_163 : (Jvm.Cond.code ({ cls := "NameRing", name := "tidy", desc := "(I)I" } : Jvm.MethodName) prog_1_method_13_code (2 : Nat) (Option.some Jvm.ClassFile.FieldType.int)) ∈ gw := g4 163 rfl rfl
theorem wd_4_164 : (Jvm.Cond.methodLink "NameRing" (199 : Nat) ({ cls := "NameRing$Deeds", name := "doTidy", desc := "(I)I" } : Jvm.MethodName)) ∈ gw := g4 164 rfl rfl
theorem wd_4_165 : (Jvm.Cond.instanceMethod ({ cls := "NameRing$Deeds", name := "doTidy", desc := "(I)I" } : Jvm.MethodName)) ∈ gw := g4 165 rfl rfl
theorem wd_4_166 : (Jvm.Cond.selects "NameRing$Deeds" ({ cls := "NameRing$Deeds", name := "doTidy", desc := "(I)I" } : Jvm.MethodName) ({ cls := "NameRing$Deeds", name := "doTidy", desc := "(I)I" } : Jvm.MethodName)) ∈ gw := g4 166 rfl rfl
theorem wd_4_167 : (Jvm.Cond.code ({ cls := "NameRing$Deeds", name := "doTidy", desc := "(I)I" } : Jvm.MethodName) prog_2_method_7_code (4 : Nat) (Option.some Jvm.ClassFile.FieldType.int)) ∈ gw := g4 167 rfl rfl
theorem wd_4_168 : (Jvm.Cond.methodLink "NameRing$Deeds" (112 : Nat) ({ cls := "NameRing$State", name := "aheadOf", desc := "(I)I" } : Jvm.MethodName)) ∈ gw := g4 168 rfl rfl
theorem wd_4_169 : (Jvm.Cond.methodLink "NameRing$Deeds" (115 : Nat) ({ cls := "NameRing$Told", name := "isBetween", desc := "(III)Z" } : Jvm.MethodName)) ∈ gw := g4 169 rfl rfl
theorem wd_4_170 : (Jvm.Cond.instanceMethod ({ cls := "NameRing$Told", name := "isBetween", desc := "(III)Z" } : Jvm.MethodName)) ∈ gw := g4 170 rfl rfl
theorem wd_4_171 : (Jvm.Cond.selects "NameRing$Told" ({ cls := "NameRing$Told", name := "isBetween", desc := "(III)Z" } : Jvm.MethodName) ({ cls := "NameRing$Told", name := "isBetween", desc := "(III)Z" } : Jvm.MethodName)) ∈ gw := g4 171 rfl rfl
theorem wd_4_172 : (Jvm.Cond.code ({ cls := "NameRing$Told", name := "isBetween", desc := "(III)Z" } : Jvm.MethodName) prog_10_method_13_code (4 : Nat) (Option.some Jvm.ClassFile.FieldType.boolean)) ∈ gw := g4 172 rfl rfl
theorem wd_4_173 : (Jvm.Cond.methodLink "NameRing$Told" (50 : Nat) ({ cls := "NameRing$Told", name := "way", desc := "(II)I" } : Jvm.MethodName)) ∈ gw := g4 173 rfl rfl
theorem wd_4_174 : (Jvm.Cond.methodLink "NameRing$Deeds" (119 : Nat) ({ cls := "NameRing$Deeds", name := "rectify", desc := "(II)V" } : Jvm.MethodName)) ∈ gw := g4 174 rfl rfl
theorem wd_4_176 : (Jvm.Cond.instanceMethod ({ cls := "NameRing$Deeds", name := "rectify", desc := "(II)V" } : Jvm.MethodName)) ∈ gw := g4 176 rfl rfl
theorem wd_4_177 : (Jvm.Cond.code ({ cls := "NameRing$Deeds", name := "rectify", desc := "(II)V" } : Jvm.MethodName) prog_2_method_9_code (7 : Nat) (Option.none : Option Jvm.ClassFile.FieldType)) ∈ gw := g4 177 rfl rfl
theorem wd_4_178 : (Jvm.Cond.methodLink "NameRing$Deeds" (133 : Nat) ({ cls := "NameRing$State", name := "setAhead", desc := "(II)V" } : Jvm.MethodName)) ∈ gw := g4 178 rfl rfl
theorem wd_4_179 : (Jvm.Cond.instanceMethod ({ cls := "NameRing$State", name := "setAhead", desc := "(II)V" } : Jvm.MethodName)) ∈ gw := g4 179 rfl rfl
theorem wd_4_180 : (Jvm.Cond.selects "NameRing$State" ({ cls := "NameRing$State", name := "setAhead", desc := "(II)V" } : Jvm.MethodName) ({ cls := "NameRing$State", name := "setAhead", desc := "(II)V" } : Jvm.MethodName)) ∈ gw := g4 180 rfl rfl
theorem wd_4_181 : (Jvm.Cond.code ({ cls := "NameRing$State", name := "setAhead", desc := "(II)V" } : Jvm.MethodName) prog_8_method_12_code (3 : Nat) (Option.none : Option Jvm.ClassFile.FieldType)) ∈ gw := g4 181 rfl rfl
theorem wd_4_182 : (Jvm.Cond.methodLink "NameRing$Deeds" (139 : Nat) ({ cls := "NameRing$Told", name := "way", desc := "(II)I" } : Jvm.MethodName)) ∈ gw := g4 182 rfl rfl
theorem wd_4_183 : (Jvm.Cond.methodLink "NameRing$Deeds" (145 : Nat) ({ cls := "NameRing$State", name := "holderOf", desc := "(I)I" } : Jvm.MethodName)) ∈ gw := g4 183 rfl rfl
theorem wd_4_184 : (Jvm.Cond.methodLink "NameRing$Deeds" (151 : Nat) ({ cls := "NameRing$State", name := "setHolder", desc := "(II)V" } : Jvm.MethodName)) ∈ gw := g4 184 rfl rfl
theorem wd_4_185 : (Jvm.Cond.instanceMethod ({ cls := "NameRing$State", name := "setHolder", desc := "(II)V" } : Jvm.MethodName)) ∈ gw := g4 185 rfl rfl
theorem wd_4_186 : (Jvm.Cond.selects "NameRing$State" ({ cls := "NameRing$State", name := "setHolder", desc := "(II)V" } : Jvm.MethodName) ({ cls := "NameRing$State", name := "setHolder", desc := "(II)V" } : Jvm.MethodName)) ∈ gw := g4 186 rfl rfl
theorem wd_4_187 : (Jvm.Cond.code ({ cls := "NameRing$State", name := "setHolder", desc := "(II)V" } : Jvm.MethodName) prog_8_method_16_code (3 : Nat) (Option.none : Option Jvm.ClassFile.FieldType)) ∈ gw := g4 187 rfl rfl
theorem wd_4_188 : (Jvm.Cond.methodLink "NameRingLaw" (74 : Nat) ({ cls := "NameRing", name := "flush", desc := "(I)I" } : Jvm.MethodName)) ∈ gw := g4 188 rfl rfl
theorem wd_4_189 : (Jvm.Cond.instanceMethod ({ cls := "NameRing", name := "flush", desc := "(I)I" } : Jvm.MethodName)) ∈ gw := g4 189 rfl rfl
theorem wd_4_190 : (Jvm.Cond.selects "NameRing" ({ cls := "NameRing", name := "flush", desc := "(I)I" } : Jvm.MethodName) ({ cls := "NameRing", name := "flush", desc := "(I)I" } : Jvm.MethodName)) ∈ gw := g4 190 rfl rfl
theorem wd_4_191 : (Jvm.Cond.code ({ cls := "NameRing", name := "flush", desc := "(I)I" } : Jvm.MethodName) prog_1_method_14_code (2 : Nat) (Option.some Jvm.ClassFile.FieldType.int)) ∈ gw := g4 191 rfl rfl
theorem wd_4_192 : (Jvm.Cond.methodLink "NameRing" (202 : Nat) ({ cls := "NameRing$Deeds", name := "doFlush", desc := "(I)I" } : Jvm.MethodName)) ∈ gw := g4 192 rfl rfl
theorem wd_4_193 : (Jvm.Cond.instanceMethod ({ cls := "NameRing$Deeds", name := "doFlush", desc := "(I)I" } : Jvm.MethodName)) ∈ gw := g4 193 rfl rfl
theorem wd_4_194 : (Jvm.Cond.selects "NameRing$Deeds" ({ cls := "NameRing$Deeds", name := "doFlush", desc := "(I)I" } : Jvm.MethodName) ({ cls := "NameRing$Deeds", name := "doFlush", desc := "(I)I" } : Jvm.MethodName)) ∈ gw := g4 194 rfl rfl
theorem wd_4_195 : (Jvm.Cond.code ({ cls := "NameRing$Deeds", name := "doFlush", desc := "(I)I" } : Jvm.MethodName) prog_2_method_10_code (5 : Nat) (Option.some Jvm.ClassFile.FieldType.int)) ∈ gw := g4 195 rfl rfl
theorem wd_4_196 : (Jvm.Cond.methodLink "NameRing$Deeds" (154 : Nat) ({ cls := "NameRing$Deeds", name := "flushList", desc := "(I)I" } : Jvm.MethodName)) ∈ gw := g4 196 rfl rfl
theorem wd_4_198 : (Jvm.Cond.instanceMethod ({ cls := "NameRing$Deeds", name := "flushList", desc := "(I)I" } : Jvm.MethodName)) ∈ gw := g4 198 rfl rfl
theorem wd_4_199 : (Jvm.Cond.code ({ cls := "NameRing$Deeds", name := "flushList", desc := "(I)I" } : Jvm.MethodName) prog_2_method_11_code (6 : Nat) (Option.some Jvm.ClassFile.FieldType.int)) ∈ gw := g4 199 rfl rfl
theorem wd_4_200 : (Jvm.Cond.methodLink "NameRing$Deeds" (157 : Nat) ({ cls := "NameRing$State", name := "fingerAt", desc := "(II)I" } : Jvm.MethodName)) ∈ gw := g4 200 rfl rfl
theorem wd_4_201 : (Jvm.Cond.methodLink "NameRing$Deeds" (160 : Nat) ({ cls := "NameRing$State", name := "setFinger", desc := "(III)V" } : Jvm.MethodName)) ∈ gw := g4 201 rfl rfl
theorem wd_4_202 : (Jvm.Cond.instanceMethod ({ cls := "NameRing$State", name := "setFinger", desc := "(III)V" } : Jvm.MethodName)) ∈ gw := g4 202 rfl rfl
theorem wd_4_203 : (Jvm.Cond.selects "NameRing$State" ({ cls := "NameRing$State", name := "setFinger", desc := "(III)V" } : Jvm.MethodName) ({ cls := "NameRing$State", name := "setFinger", desc := "(III)V" } : Jvm.MethodName)) ∈ gw := g4 203 rfl rfl
theorem wd_4_204 : (Jvm.Cond.code ({ cls := "NameRing$State", name := "setFinger", desc := "(III)V" } : Jvm.MethodName) prog_8_method_14_code (4 : Nat) (Option.none : Option Jvm.ClassFile.FieldType)) ∈ gw := g4 204 rfl rfl
theorem wd_4_205 : (Jvm.Cond.methodLink "NameRingLaw" (78 : Nat) ({ cls := "NameRing", name := "fix", desc := "(II)Z" } : Jvm.MethodName)) ∈ gw := g4 205 rfl rfl
theorem wd_4_206 : (Jvm.Cond.instanceMethod ({ cls := "NameRing", name := "fix", desc := "(II)Z" } : Jvm.MethodName)) ∈ gw := g4 206 rfl rfl
theorem wd_4_207 : (Jvm.Cond.selects "NameRing" ({ cls := "NameRing", name := "fix", desc := "(II)Z" } : Jvm.MethodName) ({ cls := "NameRing", name := "fix", desc := "(II)Z" } : Jvm.MethodName)) ∈ gw := g4 207 rfl rfl
theorem wd_4_208 : (Jvm.Cond.code ({ cls := "NameRing", name := "fix", desc := "(II)Z" } : Jvm.MethodName) prog_1_method_15_code (3 : Nat) (Option.some Jvm.ClassFile.FieldType.boolean)) ∈ gw := g4 208 rfl rfl
theorem wd_4_209 : (Jvm.Cond.methodLink "NameRing" (205 : Nat) ({ cls := "NameRing$Deeds", name := "doFix", desc := "(II)Z" } : Jvm.MethodName)) ∈ gw := g4 209 rfl rfl
theorem wd_4_210 : (Jvm.Cond.instanceMethod ({ cls := "NameRing$Deeds", name := "doFix", desc := "(II)Z" } : Jvm.MethodName)) ∈ gw := g4 210 rfl rfl
theorem wd_4_211 : (Jvm.Cond.selects "NameRing$Deeds" ({ cls := "NameRing$Deeds", name := "doFix", desc := "(II)Z" } : Jvm.MethodName) ({ cls := "NameRing$Deeds", name := "doFix", desc := "(II)Z" } : Jvm.MethodName)) ∈ gw := g4 211 rfl rfl
theorem wd_4_212 : (Jvm.Cond.code ({ cls := "NameRing$Deeds", name := "doFix", desc := "(II)Z" } : Jvm.MethodName) prog_2_method_12_code (4 : Nat) (Option.some Jvm.ClassFile.FieldType.boolean)) ∈ gw := g4 212 rfl rfl
theorem wd_4_213 : (Jvm.Cond.methodLink "NameRing$Deeds" (163 : Nat) ({ cls := "NameRing$Told", name := "fingerPlace", desc := "(II)I" } : Jvm.MethodName)) ∈ gw := g4 213 rfl rfl
theorem wd_4_214 : (Jvm.Cond.instanceMethod ({ cls := "NameRing$Told", name := "fingerPlace", desc := "(II)I" } : Jvm.MethodName)) ∈ gw := g4 214 rfl rfl
theorem wd_4_215 : (Jvm.Cond.selects "NameRing$Told" ({ cls := "NameRing$Told", name := "fingerPlace", desc := "(II)I" } : Jvm.MethodName) ({ cls := "NameRing$Told", name := "fingerPlace", desc := "(II)I" } : Jvm.MethodName)) ∈ gw := g4 215 rfl rfl
theorem wd_4_216 : (Jvm.Cond.code ({ cls := "NameRing$Told", name := "fingerPlace", desc := "(II)I" } : Jvm.MethodName) prog_10_method_14_code (5 : Nat) (Option.some Jvm.ClassFile.FieldType.int)) ∈ gw := g4 216 rfl rfl
theorem wd_4_217 : (Jvm.Cond.methodLink "NameRingLaw" (83 : Nat) ({ cls := "NameRing", name := "mend", desc := "(I)I" } : Jvm.MethodName)) ∈ gw := g4 217 rfl rfl
theorem wd_4_218 : (Jvm.Cond.instanceMethod ({ cls := "NameRing", name := "mend", desc := "(I)I" } : Jvm.MethodName)) ∈ gw := g4 218 rfl rfl
theorem wd_4_219 : (Jvm.Cond.selects "NameRing" ({ cls := "NameRing", name := "mend", desc := "(I)I" } : Jvm.MethodName) ({ cls := "NameRing", name := "mend", desc := "(I)I" } : Jvm.MethodName)) ∈ gw := g4 219 rfl rfl
theorem wd_4_220 : (Jvm.Cond.code ({ cls := "NameRing", name := "mend", desc := "(I)I" } : Jvm.MethodName) prog_1_method_16_code (2 : Nat) (Option.some Jvm.ClassFile.FieldType.int)) ∈ gw := g4 220 rfl rfl
theorem wd_4_221 : (Jvm.Cond.methodLink "NameRing" (208 : Nat) ({ cls := "NameRing$Deeds", name := "doMend", desc := "(I)I" } : Jvm.MethodName)) ∈ gw := g4 221 rfl rfl
theorem wd_4_222 : (Jvm.Cond.instanceMethod ({ cls := "NameRing$Deeds", name := "doMend", desc := "(I)I" } : Jvm.MethodName)) ∈ gw := g4 222 rfl rfl
theorem wd_4_223 : (Jvm.Cond.selects "NameRing$Deeds" ({ cls := "NameRing$Deeds", name := "doMend", desc := "(I)I" } : Jvm.MethodName) ({ cls := "NameRing$Deeds", name := "doMend", desc := "(I)I" } : Jvm.MethodName)) ∈ gw := g4 223 rfl rfl
theorem wd_4_224 : (Jvm.Cond.code ({ cls := "NameRing$Deeds", name := "doMend", desc := "(I)I" } : Jvm.MethodName) prog_2_method_13_code (5 : Nat) (Option.some Jvm.ClassFile.FieldType.int)) ∈ gw := g4 224 rfl rfl
theorem wd_4_225 : (Jvm.Cond.methodLink "NameRing$Deeds" (48 : Nat) ({ cls := "NameRing$Deeds", name := "doFix", desc := "(II)Z" } : Jvm.MethodName)) ∈ gw := g4 225 rfl rfl
theorem wd_4_226 : (Jvm.Cond.methodLink "NameRingLaw" (87 : Nat) ({ cls := "NameRing", name := "put", desc := "(II)I" } : Jvm.MethodName)) ∈ gw := g4 226 rfl rfl
theorem wd_4_227 : (Jvm.Cond.instanceMethod ({ cls := "NameRing", name := "put", desc := "(II)I" } : Jvm.MethodName)) ∈ gw := g4 227 rfl rfl
theorem wd_4_228 : (Jvm.Cond.selects "NameRing" ({ cls := "NameRing", name := "put", desc := "(II)I" } : Jvm.MethodName) ({ cls := "NameRing", name := "put", desc := "(II)I" } : Jvm.MethodName)) ∈ gw := g4 228 rfl rfl
theorem wd_4_229 : (Jvm.Cond.code ({ cls := "NameRing", name := "put", desc := "(II)I" } : Jvm.MethodName) prog_1_method_17_code (3 : Nat) (Option.some Jvm.ClassFile.FieldType.int)) ∈ gw := g4 229 rfl rfl
theorem wd_4_230 : (Jvm.Cond.methodLink "NameRing" (211 : Nat) ({ cls := "NameRing$Deeds", name := "doPut", desc := "(II)I" } : Jvm.MethodName)) ∈ gw := g4 230 rfl rfl
theorem wd_4_231 : (Jvm.Cond.instanceMethod ({ cls := "NameRing$Deeds", name := "doPut", desc := "(II)I" } : Jvm.MethodName)) ∈ gw := g4 231 rfl rfl
theorem wd_4_232 : (Jvm.Cond.selects "NameRing$Deeds" ({ cls := "NameRing$Deeds", name := "doPut", desc := "(II)I" } : Jvm.MethodName) ({ cls := "NameRing$Deeds", name := "doPut", desc := "(II)I" } : Jvm.MethodName)) ∈ gw := g4 232 rfl rfl
theorem wd_4_233 : (Jvm.Cond.code ({ cls := "NameRing$Deeds", name := "doPut", desc := "(II)I" } : Jvm.MethodName) prog_2_method_14_code (3 : Nat) (Option.some Jvm.ClassFile.FieldType.int)) ∈ gw := g4 233 rfl rfl
theorem wd_4_234 : (Jvm.Cond.methodLink "NameRing$Deeds" (166 : Nat) ({ cls := "NameRing$Told", name := "isKey", desc := "(I)Z" } : Jvm.MethodName)) ∈ gw := g4 234 rfl rfl
theorem wd_4_235 : (Jvm.Cond.methodLink "NameRingLaw" (91 : Nat) ({ cls := "NameRing", name := "hand", desc := "(I)I" } : Jvm.MethodName)) ∈ gw := g4 235 rfl rfl
theorem wd_4_236 : (Jvm.Cond.instanceMethod ({ cls := "NameRing", name := "hand", desc := "(I)I" } : Jvm.MethodName)) ∈ gw := g4 236 rfl rfl
theorem wd_4_237 : (Jvm.Cond.selects "NameRing" ({ cls := "NameRing", name := "hand", desc := "(I)I" } : Jvm.MethodName) ({ cls := "NameRing", name := "hand", desc := "(I)I" } : Jvm.MethodName)) ∈ gw := g4 237 rfl rfl
theorem wd_4_238 : (Jvm.Cond.code ({ cls := "NameRing", name := "hand", desc := "(I)I" } : Jvm.MethodName) prog_1_method_18_code (2 : Nat) (Option.some Jvm.ClassFile.FieldType.int)) ∈ gw := g4 238 rfl rfl
theorem wd_4_239 : (Jvm.Cond.methodLink "NameRing" (214 : Nat) ({ cls := "NameRing$Deeds", name := "doHand", desc := "(I)I" } : Jvm.MethodName)) ∈ gw := g4 239 rfl rfl
theorem wd_5_0 : (Jvm.Cond.instanceMethod ({ cls := "NameRing$Deeds", name := "doHand", desc := "(I)I" } : Jvm.MethodName)) ∈ gw := g5 0 rfl rfl
theorem wd_5_1 : (Jvm.Cond.selects "NameRing$Deeds" ({ cls := "NameRing$Deeds", name := "doHand", desc := "(I)I" } : Jvm.MethodName) ({ cls := "NameRing$Deeds", name := "doHand", desc := "(I)I" } : Jvm.MethodName)) ∈ gw := g5 1 rfl rfl
theorem wd_5_2 : (Jvm.Cond.code ({ cls := "NameRing$Deeds", name := "doHand", desc := "(I)I" } : Jvm.MethodName) prog_2_method_15_code (5 : Nat) (Option.some Jvm.ClassFile.FieldType.int)) ∈ gw := g5 2 rfl rfl
theorem wd_5_3 : (Jvm.Cond.methodLink "NameRingLaw" (95 : Nat) ({ cls := "NameRing", name := "undo", desc := "()Z" } : Jvm.MethodName)) ∈ gw := g5 3 rfl rfl
theorem wd_5_4 : (Jvm.Cond.instanceMethod ({ cls := "NameRing", name := "undo", desc := "()Z" } : Jvm.MethodName)) ∈ gw := g5 4 rfl rfl
theorem wd_5_5 : (Jvm.Cond.selects "NameRing" ({ cls := "NameRing", name := "undo", desc := "()Z" } : Jvm.MethodName) ({ cls := "NameRing", name := "undo", desc := "()Z" } : Jvm.MethodName)) ∈ gw := g5 5 rfl rfl
theorem wd_5_6 : (Jvm.Cond.code ({ cls := "NameRing", name := "undo", desc := "()Z" } : Jvm.MethodName) prog_1_method_19_code (1 : Nat) (Option.some Jvm.ClassFile.FieldType.boolean)) ∈ gw := g5 6 rfl rfl
theorem wd_5_7 : (Jvm.Cond.methodLink "NameRing" (217 : Nat) ({ cls := "NameRing$Past", name := "takeBack", desc := "(LNameRing$State;)Z" } : Jvm.MethodName)) ∈ gw := g5 7 rfl rfl
theorem wd_5_8 : (Jvm.Cond.instanceMethod ({ cls := "NameRing$Past", name := "takeBack", desc := "(LNameRing$State;)Z" } : Jvm.MethodName)) ∈ gw := g5 8 rfl rfl
theorem wd_5_9 : (Jvm.Cond.selects "NameRing$Past" ({ cls := "NameRing$Past", name := "takeBack", desc := "(LNameRing$State;)Z" } : Jvm.MethodName) ({ cls := "NameRing$Past", name := "takeBack", desc := "(LNameRing$State;)Z" } : Jvm.MethodName)) ∈ gw := g5 9 rfl rfl
theorem wd_5_10 : (Jvm.Cond.code ({ cls := "NameRing$Past", name := "takeBack", desc := "(LNameRing$State;)Z" } : Jvm.MethodName) prog_5_method_6_code (2 : Nat) (Option.some Jvm.ClassFile.FieldType.boolean)) ∈ gw := g5 10 rfl rfl
theorem wd_5_11 : (Jvm.Cond.methodLink "NameRingLaw" (100 : Nat) ({ cls := "NameRing", name := "judged", desc := "(I)I" } : Jvm.MethodName)) ∈ gw := g5 11 rfl rfl
theorem wd_5_12 : (Jvm.Cond.instanceMethod ({ cls := "NameRing", name := "judged", desc := "(I)I" } : Jvm.MethodName)) ∈ gw := g5 12 rfl rfl
theorem wd_5_13 : (Jvm.Cond.selects "NameRing" ({ cls := "NameRing", name := "judged", desc := "(I)I" } : Jvm.MethodName) ({ cls := "NameRing", name := "judged", desc := "(I)I" } : Jvm.MethodName)) ∈ gw := g5 13 rfl rfl
theorem wd_5_14 : (Jvm.Cond.code ({ cls := "NameRing", name := "judged", desc := "(I)I" } : Jvm.MethodName) prog_1_method_20_code (2 : Nat) (Option.some Jvm.ClassFile.FieldType.int)) ∈ gw := g5 14 rfl rfl
theorem wd_5_15 : (Jvm.Cond.methodLink "NameRing" (221 : Nat) ({ cls := "NameRing$Trials", name := "judgeWork", desc := "(LNameRing$Work;I)I" } : Jvm.MethodName)) ∈ gw := g5 15 rfl rfl
theorem wd_5_16 : (Jvm.Cond.instanceMethod ({ cls := "NameRing$Trials", name := "judgeWork", desc := "(LNameRing$Work;I)I" } : Jvm.MethodName)) ∈ gw := g5 16 rfl rfl
theorem wd_5_17 : (Jvm.Cond.selects "NameRing$Trials" ({ cls := "NameRing$Trials", name := "judgeWork", desc := "(LNameRing$Work;I)I" } : Jvm.MethodName) ({ cls := "NameRing$Trials", name := "judgeWork", desc := "(LNameRing$Work;I)I" } : Jvm.MethodName)) ∈ gw := g5 17 rfl rfl
theorem wd_5_18 : (Jvm.Cond.code ({ cls := "NameRing$Trials", name := "judgeWork", desc := "(LNameRing$Work;I)I" } : Jvm.MethodName) prog_11_method_2_code (6 : Nat) (Option.some Jvm.ClassFile.FieldType.int)) ∈ gw := g5 18 rfl rfl
theorem wd_5_19 : (Jvm.Cond.methodLink "NameRing$Trials" (36 : Nat) ({ cls := "NameRing$State", name := "copyFrom", desc := "(LNameRing$State;)V" } : Jvm.MethodName)) ∈ gw := g5 19 rfl rfl
theorem wd_5_20 : (Jvm.Cond.methodLink "NameRing$Trials" (40 : Nat) ({ cls := "NameRing$State", name := "clear", desc := "()V" } : Jvm.MethodName)) ∈ gw := g5 20 rfl rfl
theorem wd_5_21 : (Jvm.Cond.methodLink "NameRing$Trials" (58 : Nat) ({ cls := "NameRing$Deeds", name := "doDeed", desc := "(III)Z" } : Jvm.MethodName)) ∈ gw := g5 21 rfl rfl
theorem wd_5_22 : (Jvm.Cond.instanceMethod ({ cls := "NameRing$Deeds", name := "doDeed", desc := "(III)Z" } : Jvm.MethodName)) ∈ gw := g5 22 rfl rfl
theorem wd_5_23 : (Jvm.Cond.selects "NameRing$Deeds" ({ cls := "NameRing$Deeds", name := "doDeed", desc := "(III)Z" } : Jvm.MethodName) ({ cls := "NameRing$Deeds", name := "doDeed", desc := "(III)Z" } : Jvm.MethodName)) ∈ gw := g5 23 rfl rfl
theorem wd_5_24 : (Jvm.Cond.code ({ cls := "NameRing$Deeds", name := "doDeed", desc := "(III)Z" } : Jvm.MethodName) prog_2_method_2_code (4 : Nat) (Option.some Jvm.ClassFile.FieldType.boolean)) ∈ gw := g5 24 rfl rfl
theorem wd_5_25 : (Jvm.Cond.methodLink "NameRing$Deeds" (27 : Nat) ({ cls := "NameRing$Deeds", name := "doBegin", desc := "(I)Z" } : Jvm.MethodName)) ∈ gw := g5 25 rfl rfl
theorem wd_5_26 : (Jvm.Cond.methodLink "NameRing$Deeds" (31 : Nat) ({ cls := "NameRing$Deeds", name := "doJoin", desc := "(II)Z" } : Jvm.MethodName)) ∈ gw := g5 26 rfl rfl
theorem wd_5_27 : (Jvm.Cond.methodLink "NameRing$Deeds" (35 : Nat) ({ cls := "NameRing$Deeds", name := "doLeave", desc := "(I)Z" } : Jvm.MethodName)) ∈ gw := g5 27 rfl rfl
theorem wd_5_28 : (Jvm.Cond.methodLink "NameRing$Deeds" (38 : Nat) ({ cls := "NameRing$Deeds", name := "doFail", desc := "(I)I" } : Jvm.MethodName)) ∈ gw := g5 28 rfl rfl
theorem wd_5_29 : (Jvm.Cond.methodLink "NameRing$Deeds" (42 : Nat) ({ cls := "NameRing$Deeds", name := "doTidy", desc := "(I)I" } : Jvm.MethodName)) ∈ gw := g5 29 rfl rfl
theorem wd_5_30 : (Jvm.Cond.methodLink "NameRing$Deeds" (45 : Nat) ({ cls := "NameRing$Deeds", name := "doFlush", desc := "(I)I" } : Jvm.MethodName)) ∈ gw := g5 30 rfl rfl
theorem wd_5_31 : (Jvm.Cond.methodLink "NameRing$Deeds" (51 : Nat) ({ cls := "NameRing$Deeds", name := "doPut", desc := "(II)I" } : Jvm.MethodName)) ∈ gw := g5 31 rfl rfl
theorem wd_5_32 : (Jvm.Cond.methodLink "NameRing$Deeds" (55 : Nat) ({ cls := "NameRing$Deeds", name := "doHand", desc := "(I)I" } : Jvm.MethodName)) ∈ gw := g5 32 rfl rfl
theorem wd_5_33 : (Jvm.Cond.methodLink "NameRing$Trials" (64 : Nat) ({ cls := "NameRing$State", name := "insideCount", desc := "()I" } : Jvm.MethodName)) ∈ gw := g5 33 rfl rfl
theorem wd_5_34 : (Jvm.Cond.instanceMethod ({ cls := "NameRing$State", name := "insideCount", desc := "()I" } : Jvm.MethodName)) ∈ gw := g5 34 rfl rfl
theorem wd_5_35 : (Jvm.Cond.selects "NameRing$State" ({ cls := "NameRing$State", name := "insideCount", desc := "()I" } : Jvm.MethodName) ({ cls := "NameRing$State", name := "insideCount", desc := "()I" } : Jvm.MethodName)) ∈ gw := g5 35 rfl rfl
theorem wd_5_36 : (Jvm.Cond.code ({ cls := "NameRing$State", name := "insideCount", desc := "()I" } : Jvm.MethodName) prog_8_method_6_code (1 : Nat) (Option.some Jvm.ClassFile.FieldType.int)) ∈ gw := g5 36 rfl rfl
theorem wd_5_37 : (Jvm.Cond.methodLink "NameRing$State" (25 : Nat) ({ cls := "java/lang/Integer", name := "bitCount", desc := "(I)I" } : Jvm.MethodName)) ∈ gw := g5 37 rfl rfl
theorem wd_5_38 : (Jvm.Cond.methodLink "NameRing$Trials" (68 : Nat) ({ cls := "NameRing$State", name := "heldKeys", desc := "()I" } : Jvm.MethodName)) ∈ gw := g5 38 rfl rfl
theorem wd_5_39 : (Jvm.Cond.instanceMethod ({ cls := "NameRing$State", name := "heldKeys", desc := "()I" } : Jvm.MethodName)) ∈ gw := g5 39 rfl rfl
theorem wd_5_40 : (Jvm.Cond.selects "NameRing$State" ({ cls := "NameRing$State", name := "heldKeys", desc := "()I" } : Jvm.MethodName) ({ cls := "NameRing$State", name := "heldKeys", desc := "()I" } : Jvm.MethodName)) ∈ gw := g5 40 rfl rfl
theorem wd_5_41 : (Jvm.Cond.code ({ cls := "NameRing$State", name := "heldKeys", desc := "()I" } : Jvm.MethodName) prog_8_method_19_code (3 : Nat) (Option.some Jvm.ClassFile.FieldType.int)) ∈ gw := g5 41 rfl rfl
theorem wd_5_42 : (Jvm.Cond.methodLink "NameRingLaw" (104 : Nat) ({ cls := "NameRing", name := "find", desc := "(II)I" } : Jvm.MethodName)) ∈ gw := g5 42 rfl rfl
theorem wd_5_43 : (Jvm.Cond.instanceMethod ({ cls := "NameRing", name := "find", desc := "(II)I" } : Jvm.MethodName)) ∈ gw := g5 43 rfl rfl
theorem wd_5_44 : (Jvm.Cond.selects "NameRing" ({ cls := "NameRing", name := "find", desc := "(II)I" } : Jvm.MethodName) ({ cls := "NameRing", name := "find", desc := "(II)I" } : Jvm.MethodName)) ∈ gw := g5 44 rfl rfl
theorem wd_5_45 : (Jvm.Cond.code ({ cls := "NameRing", name := "find", desc := "(II)I" } : Jvm.MethodName) prog_1_method_21_code (3 : Nat) (Option.some Jvm.ClassFile.FieldType.int)) ∈ gw := g5 45 rfl rfl
theorem wd_5_46 : (Jvm.Cond.methodLink "NameRing" (225 : Nat) ({ cls := "NameRing$Finder", name := "seek", desc := "(II)Z" } : Jvm.MethodName)) ∈ gw := g5 46 rfl rfl
theorem wd_5_47 : (Jvm.Cond.methodLink "NameRingLaw" (108 : Nat) ({ cls := "NameRing", name := "steps", desc := "(II)I" } : Jvm.MethodName)) ∈ gw := g5 47 rfl rfl
theorem wd_5_48 : (Jvm.Cond.instanceMethod ({ cls := "NameRing", name := "steps", desc := "(II)I" } : Jvm.MethodName)) ∈ gw := g5 48 rfl rfl
theorem wd_5_49 : (Jvm.Cond.selects "NameRing" ({ cls := "NameRing", name := "steps", desc := "(II)I" } : Jvm.MethodName) ({ cls := "NameRing", name := "steps", desc := "(II)I" } : Jvm.MethodName)) ∈ gw := g5 49 rfl rfl
theorem wd_5_50 : (Jvm.Cond.code ({ cls := "NameRing", name := "steps", desc := "(II)I" } : Jvm.MethodName) prog_1_method_22_code (3 : Nat) (Option.some Jvm.ClassFile.FieldType.int)) ∈ gw := g5 50 rfl rfl
theorem wd_5_51 : (Jvm.Cond.methodLink "NameRingLaw" (121 : Nat) ({ cls := "NameRing", name := "astray", desc := "()I" } : Jvm.MethodName)) ∈ gw := g5 51 rfl rfl
theorem wd_5_52 : (Jvm.Cond.instanceMethod ({ cls := "NameRing", name := "astray", desc := "()I" } : Jvm.MethodName)) ∈ gw := g5 52 rfl rfl
theorem wd_5_53 : (Jvm.Cond.selects "NameRing" ({ cls := "NameRing", name := "astray", desc := "()I" } : Jvm.MethodName) ({ cls := "NameRing", name := "astray", desc := "()I" } : Jvm.MethodName)) ∈ gw := g5 53 rfl rfl
theorem wd_5_54 : (Jvm.Cond.code ({ cls := "NameRing", name := "astray", desc := "()I" } : Jvm.MethodName) prog_1_method_24_code (1 : Nat) (Option.some Jvm.ClassFile.FieldType.int)) ∈ gw := g5 54 rfl rfl
theorem wd_5_55 : (Jvm.Cond.methodLink "NameRing" (240 : Nat) ({ cls := "NameRing$Looks", name := "astrayKeys", desc := "()I" } : Jvm.MethodName)) ∈ gw := g5 55 rfl rfl
theorem wd_5_56 : (Jvm.Cond.instanceMethod ({ cls := "NameRing$Looks", name := "astrayKeys", desc := "()I" } : Jvm.MethodName)) ∈ gw := g5 56 rfl rfl
theorem wd_5_57 : (Jvm.Cond.selects "NameRing$Looks" ({ cls := "NameRing$Looks", name := "astrayKeys", desc := "()I" } : Jvm.MethodName) ({ cls := "NameRing$Looks", name := "astrayKeys", desc := "()I" } : Jvm.MethodName)) ∈ gw := g5 57 rfl rfl
theorem wd_5_58 : (Jvm.Cond.code ({ cls := "NameRing$Looks", name := "astrayKeys", desc := "()I" } : Jvm.MethodName) prog_4_method_4_code (4 : Nat) (Option.some Jvm.ClassFile.FieldType.int)) ∈ gw := g5 58 rfl rfl
theorem wd_5_59 : (Jvm.Cond.methodLink "NameRing$Looks" (41 : Nat) ({ cls := "NameRing$State", name := "holderOf", desc := "(I)I" } : Jvm.MethodName)) ∈ gw := g5 59 rfl rfl
theorem wd_5_60 : (Jvm.Cond.methodLink "NameRing$Looks" (53 : Nat) ({ cls := "NameRing$Looks", name := "ownerOf", desc := "(II)I" } : Jvm.MethodName)) ∈ gw := g5 60 rfl rfl
theorem wd_5_61 : (Jvm.Cond.methodLink "NameRingLaw" (125 : Nat) ({ cls := "NameRing", name := "lost", desc := "()I" } : Jvm.MethodName)) ∈ gw := g5 61 rfl rfl
theorem wd_5_62 : (Jvm.Cond.instanceMethod ({ cls := "NameRing", name := "lost", desc := "()I" } : Jvm.MethodName)) ∈ gw := g5 62 rfl rfl
theorem wd_5_63 : (Jvm.Cond.selects "NameRing" ({ cls := "NameRing", name := "lost", desc := "()I" } : Jvm.MethodName) ({ cls := "NameRing", name := "lost", desc := "()I" } : Jvm.MethodName)) ∈ gw := g5 63 rfl rfl
theorem wd_5_64 : (Jvm.Cond.code ({ cls := "NameRing", name := "lost", desc := "()I" } : Jvm.MethodName) prog_1_method_25_code (1 : Nat) (Option.some Jvm.ClassFile.FieldType.int)) ∈ gw := g5 64 rfl rfl
theorem wd_5_65 : (Jvm.Cond.methodLink "NameRing" (243 : Nat) ({ cls := "NameRing$Looks", name := "lostKeys", desc := "()I" } : Jvm.MethodName)) ∈ gw := g5 65 rfl rfl
theorem wd_5_66 : (Jvm.Cond.instanceMethod ({ cls := "NameRing$Looks", name := "lostKeys", desc := "()I" } : Jvm.MethodName)) ∈ gw := g5 66 rfl rfl
theorem wd_5_67 : (Jvm.Cond.selects "NameRing$Looks" ({ cls := "NameRing$Looks", name := "lostKeys", desc := "()I" } : Jvm.MethodName) ({ cls := "NameRing$Looks", name := "lostKeys", desc := "()I" } : Jvm.MethodName)) ∈ gw := g5 67 rfl rfl
theorem wd_5_68 : (Jvm.Cond.code ({ cls := "NameRing$Looks", name := "lostKeys", desc := "()I" } : Jvm.MethodName) prog_4_method_5_code (3 : Nat) (Option.some Jvm.ClassFile.FieldType.int)) ∈ gw := g5 68 rfl rfl
theorem wd_5_69 : (Jvm.Cond.methodLink "NameRingLaw" (129 : Nat) ({ cls := "NameRing", name := "cycles", desc := "(I)I" } : Jvm.MethodName)) ∈ gw := g5 69 rfl rfl
theorem wd_5_70 : (Jvm.Cond.instanceMethod ({ cls := "NameRing", name := "cycles", desc := "(I)I" } : Jvm.MethodName)) ∈ gw := g5 70 rfl rfl
theorem wd_5_71 : (Jvm.Cond.selects "NameRing" ({ cls := "NameRing", name := "cycles", desc := "(I)I" } : Jvm.MethodName) ({ cls := "NameRing", name := "cycles", desc := "(I)I" } : Jvm.MethodName)) ∈ gw := g5 71 rfl rfl
theorem wd_5_72 : (Jvm.Cond.code ({ cls := "NameRing", name := "cycles", desc := "(I)I" } : Jvm.MethodName) prog_1_method_26_code (2 : Nat) (Option.some Jvm.ClassFile.FieldType.int)) ∈ gw := g5 72 rfl rfl
theorem wd_5_73 : (Jvm.Cond.methodLink "NameRing" (246 : Nat) ({ cls := "NameRing$Looks", name := "cycleCount", desc := "()I" } : Jvm.MethodName)) ∈ gw := g5 73 rfl rfl
theorem wd_5_74 : (Jvm.Cond.instanceMethod ({ cls := "NameRing$Looks", name := "cycleCount", desc := "()I" } : Jvm.MethodName)) ∈ gw := g5 74 rfl rfl
theorem wd_5_75 : (Jvm.Cond.selects "NameRing$Looks" ({ cls := "NameRing$Looks", name := "cycleCount", desc := "()I" } : Jvm.MethodName) ({ cls := "NameRing$Looks", name := "cycleCount", desc := "()I" } : Jvm.MethodName)) ∈ gw := g5 75 rfl rfl
theorem wd_5_76 : (Jvm.Cond.code ({ cls := "NameRing$Looks", name := "cycleCount", desc := "()I" } : Jvm.MethodName) prog_4_method_13_code (7 : Nat) (Option.some Jvm.ClassFile.FieldType.int)) ∈ gw := g5 76 rfl rfl
theorem wd_5_77 : (Jvm.Cond.methodLink "NameRing$Looks" (66 : Nat) ({ cls := "NameRing$Looks", name := "onCycles", desc := "()I" } : Jvm.MethodName)) ∈ gw := g5 77 rfl rfl
theorem wd_5_78 : (Jvm.Cond.instanceMethod ({ cls := "NameRing$Looks", name := "onCycles", desc := "()I" } : Jvm.MethodName)) ∈ gw := g5 78 rfl rfl
theorem wd_5_79 : (Jvm.Cond.selects "NameRing$Looks" ({ cls := "NameRing$Looks", name := "onCycles", desc := "()I" } : Jvm.MethodName) ({ cls := "NameRing$Looks", name := "onCycles", desc := "()I" } : Jvm.MethodName)) ∈ gw := g5 79 rfl rfl
theorem wd_5_80 : (Jvm.Cond.code ({ cls := "NameRing$Looks", name := "onCycles", desc := "()I" } : Jvm.MethodName) prog_4_method_10_code (5 : Nat) (Option.some Jvm.ClassFile.FieldType.int)) ∈ gw := g5 80 rfl rfl
theorem wd_5_81 : (Jvm.Cond.methodLink "NameRing$Looks" (63 : Nat) ({ cls := "NameRing$State", name := "firstOf", desc := "(II)I" } : Jvm.MethodName)) ∈ gw := g5 81 rfl rfl
theorem wd_5_82 : (Jvm.Cond.methodLink "NameRing$Looks" (73 : Nat) ({ cls := "java/lang/Math", name := "min", desc := "(II)I" } : Jvm.MethodName)) ∈ gw := g5 82 rfl rfl
theorem wd_5_83 : (Jvm.Cond.methodLink "NameRing" (249 : Nat) ({ cls := "NameRing$Looks", name := "onCycles", desc := "()I" } : Jvm.MethodName)) ∈ gw := g5 83 rfl rfl
theorem wd_5_84 : (Jvm.Cond.methodLink "NameRing" (252 : Nat) ({ cls := "NameRing$Looks", name := "hangers", desc := "()I" } : Jvm.MethodName)) ∈ gw := g5 84 rfl rfl
theorem wd_5_85 : (Jvm.Cond.instanceMethod ({ cls := "NameRing$Looks", name := "hangers", desc := "()I" } : Jvm.MethodName)) ∈ gw := g5 85 rfl rfl
theorem wd_5_86 : (Jvm.Cond.selects "NameRing$Looks" ({ cls := "NameRing$Looks", name := "hangers", desc := "()I" } : Jvm.MethodName) ({ cls := "NameRing$Looks", name := "hangers", desc := "()I" } : Jvm.MethodName)) ∈ gw := g5 86 rfl rfl
theorem wd_5_87 : (Jvm.Cond.code ({ cls := "NameRing$Looks", name := "hangers", desc := "()I" } : Jvm.MethodName) prog_4_method_12_code (1 : Nat) (Option.some Jvm.ClassFile.FieldType.int)) ∈ gw := g5 87 rfl rfl
theorem wd_5_88 : (Jvm.Cond.methodLink "NameRing$Looks" (70 : Nat) ({ cls := "NameRing$Looks", name := "broken", desc := "()I" } : Jvm.MethodName)) ∈ gw := g5 88 rfl rfl
theorem wd_5_89 : (Jvm.Cond.instanceMethod ({ cls := "NameRing$Looks", name := "broken", desc := "()I" } : Jvm.MethodName)) ∈ gw := g5 89 rfl rfl
theorem wd_5_90 : (Jvm.Cond.selects "NameRing$Looks" ({ cls := "NameRing$Looks", name := "broken", desc := "()I" } : Jvm.MethodName) ({ cls := "NameRing$Looks", name := "broken", desc := "()I" } : Jvm.MethodName)) ∈ gw := g5 90 rfl rfl
theorem wd_5_91 : (Jvm.Cond.code ({ cls := "NameRing$Looks", name := "broken", desc := "()I" } : Jvm.MethodName) prog_4_method_11_code (5 : Nat) (Option.some Jvm.ClassFile.FieldType.int)) ∈ gw := g5 91 rfl rfl
theorem wd_5_92 : (Jvm.Cond.methodLink "NameRing$Looks" (56 : Nat) ({ cls := "NameRing$State", name := "isIn", desc := "(I)Z" } : Jvm.MethodName)) ∈ gw := g5 92 rfl rfl
theorem wd_5_93 : (Jvm.Cond.methodLink "NameRing" (255 : Nat) ({ cls := "NameRing$Looks", name := "broken", desc := "()I" } : Jvm.MethodName)) ∈ gw := g5 93 rfl rfl
theorem wd_5_94 : (Jvm.Cond.methodLink "NameRingLaw" (133 : Nat) ({ cls := "NameRing", name := "ordered", desc := "()Z" } : Jvm.MethodName)) ∈ gw := g5 94 rfl rfl
theorem wd_5_95 : (Jvm.Cond.instanceMethod ({ cls := "NameRing", name := "ordered", desc := "()Z" } : Jvm.MethodName)) ∈ gw := g5 95 rfl rfl
theorem wd_5_96 : (Jvm.Cond.selects "NameRing" ({ cls := "NameRing", name := "ordered", desc := "()Z" } : Jvm.MethodName) ({ cls := "NameRing", name := "ordered", desc := "()Z" } : Jvm.MethodName)) ∈ gw := g5 96 rfl rfl
theorem wd_5_97 : (Jvm.Cond.code ({ cls := "NameRing", name := "ordered", desc := "()Z" } : Jvm.MethodName) prog_1_method_27_code (1 : Nat) (Option.some Jvm.ClassFile.FieldType.boolean)) ∈ gw := g5 97 rfl rfl
theorem wd_5_98 : (Jvm.Cond.methodLink "NameRing" (258 : Nat) ({ cls := "NameRing$Looks", name := "isOrdered", desc := "()Z" } : Jvm.MethodName)) ∈ gw := g5 98 rfl rfl
theorem wd_5_99 : (Jvm.Cond.instanceMethod ({ cls := "NameRing$Looks", name := "isOrdered", desc := "()Z" } : Jvm.MethodName)) ∈ gw := g5 99 rfl rfl
theorem wd_5_100 : (Jvm.Cond.selects "NameRing$Looks" ({ cls := "NameRing$Looks", name := "isOrdered", desc := "()Z" } : Jvm.MethodName) ({ cls := "NameRing$Looks", name := "isOrdered", desc := "()Z" } : Jvm.MethodName)) ∈ gw := g5 100 rfl rfl
theorem wd_5_101 : (Jvm.Cond.code ({ cls := "NameRing$Looks", name := "isOrdered", desc := "()Z" } : Jvm.MethodName) prog_4_method_14_code (5 : Nat) (Option.some Jvm.ClassFile.FieldType.boolean)) ∈ gw := g5 101 rfl rfl
theorem wd_5_102 : (Jvm.Cond.methodLink "NameRing$Looks" (78 : Nat) ({ cls := "NameRing$Looks", name := "cycleCount", desc := "()I" } : Jvm.MethodName)) ∈ gw := g5 102 rfl rfl
theorem wd_5_103 : (Jvm.Cond.methodLink "NameRing$Looks" (81 : Nat) ({ cls := "NameRing$Told", name := "way", desc := "(II)I" } : Jvm.MethodName)) ∈ gw := g5 103 rfl rfl
theorem wd_5_104 : (Jvm.Cond.methodLink "NameRingLaw" (137 : Nat) ({ cls := "NameRing", name := "amiss", desc := "()I" } : Jvm.MethodName)) ∈ gw := g5 104 rfl rfl
theorem wd_5_105 : (Jvm.Cond.instanceMethod ({ cls := "NameRing", name := "amiss", desc := "()I" } : Jvm.MethodName)) ∈ gw := g5 105 rfl rfl
theorem wd_5_106 : (Jvm.Cond.selects "NameRing" ({ cls := "NameRing", name := "amiss", desc := "()I" } : Jvm.MethodName) ({ cls := "NameRing", name := "amiss", desc := "()I" } : Jvm.MethodName)) ∈ gw := g5 106 rfl rfl
theorem wd_5_107 : (Jvm.Cond.code ({ cls := "NameRing", name := "amiss", desc := "()I" } : Jvm.MethodName) prog_1_method_28_code (1 : Nat) (Option.some Jvm.ClassFile.FieldType.int)) ∈ gw := g5 107 rfl rfl
theorem wd_5_108 : (Jvm.Cond.methodLink "NameRing" (262 : Nat) ({ cls := "NameRing$Looks", name := "amissNodes", desc := "()I" } : Jvm.MethodName)) ∈ gw := g5 108 rfl rfl
theorem wd_5_109 : (Jvm.Cond.instanceMethod ({ cls := "NameRing$Looks", name := "amissNodes", desc := "()I" } : Jvm.MethodName)) ∈ gw := g5 109 rfl rfl
theorem wd_5_110 : (Jvm.Cond.selects "NameRing$Looks" ({ cls := "NameRing$Looks", name := "amissNodes", desc := "()I" } : Jvm.MethodName) ({ cls := "NameRing$Looks", name := "amissNodes", desc := "()I" } : Jvm.MethodName)) ∈ gw := g5 110 rfl rfl
theorem wd_5_111 : (Jvm.Cond.code ({ cls := "NameRing$Looks", name := "amissNodes", desc := "()I" } : Jvm.MethodName) prog_4_method_17_code (5 : Nat) (Option.some Jvm.ClassFile.FieldType.int)) ∈ gw := g5 111 rfl rfl
theorem wd_5_112 : (Jvm.Cond.methodLink "NameRing$Looks" (91 : Nat) ({ cls := "NameRing$Looks", name := "nextOf", desc := "(I)I" } : Jvm.MethodName)) ∈ gw := g5 112 rfl rfl
theorem wd_5_114 : (Jvm.Cond.instanceMethod ({ cls := "NameRing$Looks", name := "nextOf", desc := "(I)I" } : Jvm.MethodName)) ∈ gw := g5 114 rfl rfl
theorem wd_5_115 : (Jvm.Cond.code ({ cls := "NameRing$Looks", name := "nextOf", desc := "(I)I" } : Jvm.MethodName) prog_4_method_15_code (5 : Nat) (Option.some Jvm.ClassFile.FieldType.int)) ∈ gw := g5 115 rfl rfl
theorem wd_5_116 : (Jvm.Cond.methodLink "NameRing$Looks" (87 : Nat) ({ cls := "NameRing$Told", name := "isBetween", desc := "(III)Z" } : Jvm.MethodName)) ∈ gw := g5 116 rfl rfl
theorem wd_5_117 : (Jvm.Cond.methodLink "NameRingLaw" (141 : Nat) ({ cls := "NameRing", name := "behind", desc := "()I" } : Jvm.MethodName)) ∈ gw := g5 117 rfl rfl
theorem wd_5_118 : (Jvm.Cond.instanceMethod ({ cls := "NameRing", name := "behind", desc := "()I" } : Jvm.MethodName)) ∈ gw := g5 118 rfl rfl
theorem wd_5_119 : (Jvm.Cond.selects "NameRing" ({ cls := "NameRing", name := "behind", desc := "()I" } : Jvm.MethodName) ({ cls := "NameRing", name := "behind", desc := "()I" } : Jvm.MethodName)) ∈ gw := g5 119 rfl rfl
theorem wd_5_120 : (Jvm.Cond.code ({ cls := "NameRing", name := "behind", desc := "()I" } : Jvm.MethodName) prog_1_method_29_code (1 : Nat) (Option.some Jvm.ClassFile.FieldType.int)) ∈ gw := g5 120 rfl rfl
theorem wd_5_121 : (Jvm.Cond.methodLink "NameRing" (265 : Nat) ({ cls := "NameRing$Looks", name := "behindNodes", desc := "()I" } : Jvm.MethodName)) ∈ gw := g5 121 rfl rfl
theorem wd_5_122 : (Jvm.Cond.instanceMethod ({ cls := "NameRing$Looks", name := "behindNodes", desc := "()I" } : Jvm.MethodName)) ∈ gw := g5 122 rfl rfl
theorem wd_5_123 : (Jvm.Cond.selects "NameRing$Looks" ({ cls := "NameRing$Looks", name := "behindNodes", desc := "()I" } : Jvm.MethodName) ({ cls := "NameRing$Looks", name := "behindNodes", desc := "()I" } : Jvm.MethodName)) ∈ gw := g5 123 rfl rfl
theorem wd_5_124 : (Jvm.Cond.code ({ cls := "NameRing$Looks", name := "behindNodes", desc := "()I" } : Jvm.MethodName) prog_4_method_18_code (4 : Nat) (Option.some Jvm.ClassFile.FieldType.int)) ∈ gw := g5 124 rfl rfl
theorem wd_5_125 : (Jvm.Cond.methodLink "NameRing$Looks" (94 : Nat) ({ cls := "NameRing$Looks", name := "previousOf", desc := "(I)I" } : Jvm.MethodName)) ∈ gw := g5 125 rfl rfl
theorem wd_5_127 : (Jvm.Cond.instanceMethod ({ cls := "NameRing$Looks", name := "previousOf", desc := "(I)I" } : Jvm.MethodName)) ∈ gw := g5 127 rfl rfl
theorem wd_5_128 : (Jvm.Cond.code ({ cls := "NameRing$Looks", name := "previousOf", desc := "(I)I" } : Jvm.MethodName) prog_4_method_16_code (5 : Nat) (Option.some Jvm.ClassFile.FieldType.int)) ∈ gw := g5 128 rfl rfl
theorem wd_5_129 : (Jvm.Cond.methodLink "NameRing$Looks" (97 : Nat) ({ cls := "NameRing$State", name := "aheadOf", desc := "(I)I" } : Jvm.MethodName)) ∈ gw := g5 129 rfl rfl
theorem wd_5_130 : (Jvm.Cond.methodLink "NameRingLaw" (145 : Nat) ({ cls := "NameRing", name := "rests", desc := "()I" } : Jvm.MethodName)) ∈ gw := g5 130 rfl rfl
theorem wd_5_131 : (Jvm.Cond.instanceMethod ({ cls := "NameRing", name := "rests", desc := "()I" } : Jvm.MethodName)) ∈ gw := g5 131 rfl rfl
theorem wd_5_132 : (Jvm.Cond.selects "NameRing" ({ cls := "NameRing", name := "rests", desc := "()I" } : Jvm.MethodName) ({ cls := "NameRing", name := "rests", desc := "()I" } : Jvm.MethodName)) ∈ gw := g5 132 rfl rfl
theorem wd_5_133 : (Jvm.Cond.code ({ cls := "NameRing", name := "rests", desc := "()I" } : Jvm.MethodName) prog_1_method_30_code (1 : Nat) (Option.some Jvm.ClassFile.FieldType.int)) ∈ gw := g5 133 rfl rfl
theorem wd_5_134 : (Jvm.Cond.methodLink "NameRing" (268 : Nat) ({ cls := "NameRing$Trials", name := "roundsTillRest", desc := "()I" } : Jvm.MethodName)) ∈ gw := g5 134 rfl rfl
theorem wd_5_135 : (Jvm.Cond.instanceMethod ({ cls := "NameRing$Trials", name := "roundsTillRest", desc := "()I" } : Jvm.MethodName)) ∈ gw := g5 135 rfl rfl
theorem wd_5_136 : (Jvm.Cond.selects "NameRing$Trials" ({ cls := "NameRing$Trials", name := "roundsTillRest", desc := "()I" } : Jvm.MethodName) ({ cls := "NameRing$Trials", name := "roundsTillRest", desc := "()I" } : Jvm.MethodName)) ∈ gw := g5 136 rfl rfl
theorem wd_5_137 : (Jvm.Cond.code ({ cls := "NameRing$Trials", name := "roundsTillRest", desc := "()I" } : Jvm.MethodName) prog_11_method_3_code (3 : Nat) (Option.some Jvm.ClassFile.FieldType.int)) ∈ gw := g5 137 rfl rfl
theorem wd_5_138 : (Jvm.Cond.methodLink "NameRing$Trials" (71 : Nat) ({ cls := "NameRing$Deeds", name := "doRound", desc := "()V" } : Jvm.MethodName)) ∈ gw := g5 138 rfl rfl
theorem wd_5_139 : (Jvm.Cond.instanceMethod ({ cls := "NameRing$Deeds", name := "doRound", desc := "()V" } : Jvm.MethodName)) ∈ gw := g5 139 rfl rfl
theorem wd_5_140 : (Jvm.Cond.selects "NameRing$Deeds" ({ cls := "NameRing$Deeds", name := "doRound", desc := "()V" } : Jvm.MethodName) ({ cls := "NameRing$Deeds", name := "doRound", desc := "()V" } : Jvm.MethodName)) ∈ gw := g5 140 rfl rfl
theorem wd_5_141 : (Jvm.Cond.code ({ cls := "NameRing$Deeds", name := "doRound", desc := "()V" } : Jvm.MethodName) prog_2_method_16_code (2 : Nat) (Option.none : Option Jvm.ClassFile.FieldType)) ∈ gw := g5 141 rfl rfl
theorem wd_5_142 : (Jvm.Cond.methodLink "NameRing$Trials" (74 : Nat) ({ cls := "NameRing$State", name := "isLike", desc := "(LNameRing$State;)Z" } : Jvm.MethodName)) ∈ gw := g5 142 rfl rfl
theorem wd_5_143 : (Jvm.Cond.instanceMethod ({ cls := "NameRing$State", name := "isLike", desc := "(LNameRing$State;)Z" } : Jvm.MethodName)) ∈ gw := g5 143 rfl rfl
theorem wd_5_144 : (Jvm.Cond.selects "NameRing$State" ({ cls := "NameRing$State", name := "isLike", desc := "(LNameRing$State;)Z" } : Jvm.MethodName) ({ cls := "NameRing$State", name := "isLike", desc := "(LNameRing$State;)Z" } : Jvm.MethodName)) ∈ gw := g5 144 rfl rfl
theorem wd_5_145 : (Jvm.Cond.code ({ cls := "NameRing$State", name := "isLike", desc := "(LNameRing$State;)Z" } : Jvm.MethodName) prog_8_method_4_code (3 : Nat) (Option.some Jvm.ClassFile.FieldType.boolean)) ∈ gw := g5 145 rfl rfl
theorem wd_5_146 : (Jvm.Cond.methodLink "NameRingLaw" (149 : Nat) ({ cls := "NameRing", name := "after", desc := "(II)I" } : Jvm.MethodName)) ∈ gw := g5 146 rfl rfl
theorem wd_5_147 : (Jvm.Cond.instanceMethod ({ cls := "NameRing", name := "after", desc := "(II)I" } : Jvm.MethodName)) ∈ gw := g5 147 rfl rfl
theorem wd_5_148 : (Jvm.Cond.selects "NameRing" ({ cls := "NameRing", name := "after", desc := "(II)I" } : Jvm.MethodName) ({ cls := "NameRing", name := "after", desc := "(II)I" } : Jvm.MethodName)) ∈ gw := g5 148 rfl rfl
theorem wd_5_149 : (Jvm.Cond.code ({ cls := "NameRing", name := "after", desc := "(II)I" } : Jvm.MethodName) prog_1_method_31_code (3 : Nat) (Option.some Jvm.ClassFile.FieldType.int)) ∈ gw := g5 149 rfl rfl
theorem wd_5_150 : (Jvm.Cond.methodLink "NameRing" (271 : Nat) ({ cls := "NameRing$Trials", name := "afterRounds", desc := "(II)I" } : Jvm.MethodName)) ∈ gw := g5 150 rfl rfl
theorem wd_5_151 : (Jvm.Cond.instanceMethod ({ cls := "NameRing$Trials", name := "afterRounds", desc := "(II)I" } : Jvm.MethodName)) ∈ gw := g5 151 rfl rfl
theorem wd_5_152 : (Jvm.Cond.selects "NameRing$Trials" ({ cls := "NameRing$Trials", name := "afterRounds", desc := "(II)I" } : Jvm.MethodName) ({ cls := "NameRing$Trials", name := "afterRounds", desc := "(II)I" } : Jvm.MethodName)) ∈ gw := g5 152 rfl rfl
theorem wd_5_153 : (Jvm.Cond.code ({ cls := "NameRing$Trials", name := "afterRounds", desc := "(II)I" } : Jvm.MethodName) prog_11_method_4_code (4 : Nat) (Option.some Jvm.ClassFile.FieldType.int)) ∈ gw := g5 153 rfl rfl
theorem wd_5_154 : (Jvm.Cond.methodLink "NameRing$Trials" (78 : Nat) ({ cls := "NameRing$Looks", name := "isOrdered", desc := "()Z" } : Jvm.MethodName)) ∈ gw := g5 154 rfl rfl
theorem wd_5_155 : (Jvm.Cond.methodLink "NameRing$Trials" (84 : Nat) ({ cls := "NameRing$Looks", name := "amissNodes", desc := "()I" } : Jvm.MethodName)) ∈ gw := g5 155 rfl rfl
theorem wd_5_156 : (Jvm.Cond.methodLink "NameRing$Trials" (87 : Nat) ({ cls := "NameRing$Looks", name := "behindNodes", desc := "()I" } : Jvm.MethodName)) ∈ gw := g5 156 rfl rfl
theorem wd_5_157 : (Jvm.Cond.methodLink "NameRing$Trials" (90 : Nat) ({ cls := "NameRing$Looks", name := "astrayKeys", desc := "()I" } : Jvm.MethodName)) ∈ gw := g5 157 rfl rfl
theorem wd_5_158 : (Jvm.Cond.methodLink "NameRingLaw" (153 : Nat) ({ cls := "NameRing", name := "wrongs", desc := "(I)I" } : Jvm.MethodName)) ∈ gw := g5 158 rfl rfl
theorem wd_5_159 : (Jvm.Cond.instanceMethod ({ cls := "NameRing", name := "wrongs", desc := "(I)I" } : Jvm.MethodName)) ∈ gw := g5 159 rfl rfl
theorem wd_5_160 : (Jvm.Cond.selects "NameRing" ({ cls := "NameRing", name := "wrongs", desc := "(I)I" } : Jvm.MethodName) ({ cls := "NameRing", name := "wrongs", desc := "(I)I" } : Jvm.MethodName)) ∈ gw := g5 160 rfl rfl
theorem wd_5_161 : (Jvm.Cond.code ({ cls := "NameRing", name := "wrongs", desc := "(I)I" } : Jvm.MethodName) prog_1_method_32_code (2 : Nat) (Option.some Jvm.ClassFile.FieldType.int)) ∈ gw := g5 161 rfl rfl
theorem wd_5_162 : (Jvm.Cond.methodLink "NameRing" (274 : Nat) ({ cls := "NameRing$Looks", name := "wrongFingers", desc := "(I)I" } : Jvm.MethodName)) ∈ gw := g5 162 rfl rfl
theorem wd_5_163 : (Jvm.Cond.instanceMethod ({ cls := "NameRing$Looks", name := "wrongFingers", desc := "(I)I" } : Jvm.MethodName)) ∈ gw := g5 163 rfl rfl
theorem wd_5_164 : (Jvm.Cond.selects "NameRing$Looks" ({ cls := "NameRing$Looks", name := "wrongFingers", desc := "(I)I" } : Jvm.MethodName) ({ cls := "NameRing$Looks", name := "wrongFingers", desc := "(I)I" } : Jvm.MethodName)) ∈ gw := g5 164 rfl rfl
theorem wd_5_165 : (Jvm.Cond.code ({ cls := "NameRing$Looks", name := "wrongFingers", desc := "(I)I" } : Jvm.MethodName) prog_4_method_21_code (5 : Nat) (Option.some Jvm.ClassFile.FieldType.int)) ∈ gw := g5 165 rfl rfl
theorem wd_5_166 : (Jvm.Cond.methodLink "NameRing$Looks" (103 : Nat) ({ cls := "NameRing$Told", name := "fingerPlace", desc := "(II)I" } : Jvm.MethodName)) ∈ gw := g5 166 rfl rfl
theorem wd_5_167 : (Jvm.Cond.methodLink "NameRing$Looks" (106 : Nat) ({ cls := "NameRing$State", name := "fingerAt", desc := "(II)I" } : Jvm.MethodName)) ∈ gw := g5 167 rfl rfl
theorem wd_5_168 : (Jvm.Cond.methodLink "NameRingLaw" (157 : Nat) ({ cls := "NameRing", name := "far", desc := "(I)I" } : Jvm.MethodName)) ∈ gw := g5 168 rfl rfl
theorem wd_5_169 : (Jvm.Cond.instanceMethod ({ cls := "NameRing", name := "far", desc := "(I)I" } : Jvm.MethodName)) ∈ gw := g5 169 rfl rfl
theorem wd_5_170 : (Jvm.Cond.selects "NameRing" ({ cls := "NameRing", name := "far", desc := "(I)I" } : Jvm.MethodName) ({ cls := "NameRing", name := "far", desc := "(I)I" } : Jvm.MethodName)) ∈ gw := g5 170 rfl rfl
theorem wd_5_171 : (Jvm.Cond.code ({ cls := "NameRing", name := "far", desc := "(I)I" } : Jvm.MethodName) prog_1_method_33_code (2 : Nat) (Option.some Jvm.ClassFile.FieldType.int)) ∈ gw := g5 171 rfl rfl
theorem wd_5_172 : (Jvm.Cond.methodLink "NameRing" (277 : Nat) ({ cls := "NameRing$Looks", name := "mostSteps", desc := "(I)I" } : Jvm.MethodName)) ∈ gw := g5 172 rfl rfl
theorem wd_5_173 : (Jvm.Cond.instanceMethod ({ cls := "NameRing$Looks", name := "mostSteps", desc := "(I)I" } : Jvm.MethodName)) ∈ gw := g5 173 rfl rfl
theorem wd_5_174 : (Jvm.Cond.selects "NameRing$Looks" ({ cls := "NameRing$Looks", name := "mostSteps", desc := "(I)I" } : Jvm.MethodName) ({ cls := "NameRing$Looks", name := "mostSteps", desc := "(I)I" } : Jvm.MethodName)) ∈ gw := g5 174 rfl rfl
theorem wd_5_175 : (Jvm.Cond.code ({ cls := "NameRing$Looks", name := "mostSteps", desc := "(I)I" } : Jvm.MethodName) prog_4_method_22_code (4 : Nat) (Option.some Jvm.ClassFile.FieldType.int)) ∈ gw := g5 175 rfl rfl
theorem wd_5_176 : (Jvm.Cond.methodLink "NameRing$Looks" (109 : Nat) ({ cls := "NameRing$Finder", name := "seek", desc := "(II)Z" } : Jvm.MethodName)) ∈ gw := g5 176 rfl rfl
theorem wd_5_177 : (Jvm.Cond.methodLink "NameRing$Looks" (117 : Nat) ({ cls := "java/lang/Math", name := "max", desc := "(II)I" } : Jvm.MethodName)) ∈ gw := g5 177 rfl rfl
theorem wd_5_178 : (Jvm.Cond.methodLink "NameRingLaw" (161 : Nat) ({ cls := "NameRing", name := "arc", desc := "(I)I" } : Jvm.MethodName)) ∈ gw := g5 178 rfl rfl
theorem wd_5_179 : (Jvm.Cond.instanceMethod ({ cls := "NameRing", name := "arc", desc := "(I)I" } : Jvm.MethodName)) ∈ gw := g5 179 rfl rfl
theorem wd_5_180 : (Jvm.Cond.selects "NameRing" ({ cls := "NameRing", name := "arc", desc := "(I)I" } : Jvm.MethodName) ({ cls := "NameRing", name := "arc", desc := "(I)I" } : Jvm.MethodName)) ∈ gw := g5 180 rfl rfl
theorem wd_5_181 : (Jvm.Cond.code ({ cls := "NameRing", name := "arc", desc := "(I)I" } : Jvm.MethodName) prog_1_method_34_code (2 : Nat) (Option.some Jvm.ClassFile.FieldType.int)) ∈ gw := g5 181 rfl rfl
theorem wd_5_182 : (Jvm.Cond.methodLink "NameRing" (280 : Nat) ({ cls := "NameRing$Looks", name := "arcOf", desc := "(I)I" } : Jvm.MethodName)) ∈ gw := g5 182 rfl rfl
theorem wd_5_183 : (Jvm.Cond.instanceMethod ({ cls := "NameRing$Looks", name := "arcOf", desc := "(I)I" } : Jvm.MethodName)) ∈ gw := g5 183 rfl rfl
theorem wd_5_184 : (Jvm.Cond.selects "NameRing$Looks" ({ cls := "NameRing$Looks", name := "arcOf", desc := "(I)I" } : Jvm.MethodName) ({ cls := "NameRing$Looks", name := "arcOf", desc := "(I)I" } : Jvm.MethodName)) ∈ gw := g5 184 rfl rfl
theorem wd_5_185 : (Jvm.Cond.code ({ cls := "NameRing$Looks", name := "arcOf", desc := "(I)I" } : Jvm.MethodName) prog_4_method_19_code (3 : Nat) (Option.some Jvm.ClassFile.FieldType.int)) ∈ gw := g5 185 rfl rfl
theorem wd_5_186 : (Jvm.Cond.methodLink "NameRingLaw" (165 : Nat) ({ cls := "NameRing", name := "load", desc := "(I)I" } : Jvm.MethodName)) ∈ gw := g5 186 rfl rfl
theorem wd_5_187 : (Jvm.Cond.instanceMethod ({ cls := "NameRing", name := "load", desc := "(I)I" } : Jvm.MethodName)) ∈ gw := g5 187 rfl rfl
theorem wd_5_188 : (Jvm.Cond.selects "NameRing" ({ cls := "NameRing", name := "load", desc := "(I)I" } : Jvm.MethodName) ({ cls := "NameRing", name := "load", desc := "(I)I" } : Jvm.MethodName)) ∈ gw := g5 188 rfl rfl
theorem wd_5_189 : (Jvm.Cond.code ({ cls := "NameRing", name := "load", desc := "(I)I" } : Jvm.MethodName) prog_1_method_35_code (2 : Nat) (Option.some Jvm.ClassFile.FieldType.int)) ∈ gw := g5 189 rfl rfl
theorem wd_5_190 : (Jvm.Cond.methodLink "NameRing" (283 : Nat) ({ cls := "NameRing$Looks", name := "ownedBy", desc := "(I)I" } : Jvm.MethodName)) ∈ gw := g5 190 rfl rfl
theorem wd_5_191 : (Jvm.Cond.instanceMethod ({ cls := "NameRing$Looks", name := "ownedBy", desc := "(I)I" } : Jvm.MethodName)) ∈ gw := g5 191 rfl rfl
theorem wd_5_192 : (Jvm.Cond.selects "NameRing$Looks" ({ cls := "NameRing$Looks", name := "ownedBy", desc := "(I)I" } : Jvm.MethodName) ({ cls := "NameRing$Looks", name := "ownedBy", desc := "(I)I" } : Jvm.MethodName)) ∈ gw := g5 192 rfl rfl
theorem wd_5_193 : (Jvm.Cond.code ({ cls := "NameRing$Looks", name := "ownedBy", desc := "(I)I" } : Jvm.MethodName) prog_4_method_6_code (4 : Nat) (Option.some Jvm.ClassFile.FieldType.int)) ∈ gw := g5 193 rfl rfl
theorem wd_5_194 : (Jvm.Cond.methodLink "NameRingLaw" (169 : Nat) ({ cls := "NameRing", name := "hosts", desc := "(I)I" } : Jvm.MethodName)) ∈ gw := g5 194 rfl rfl
theorem wd_5_195 : (Jvm.Cond.instanceMethod ({ cls := "NameRing", name := "hosts", desc := "(I)I" } : Jvm.MethodName)) ∈ gw := g5 195 rfl rfl
theorem wd_5_196 : (Jvm.Cond.selects "NameRing" ({ cls := "NameRing", name := "hosts", desc := "(I)I" } : Jvm.MethodName) ({ cls := "NameRing", name := "hosts", desc := "(I)I" } : Jvm.MethodName)) ∈ gw := g5 196 rfl rfl
theorem wd_5_197 : (Jvm.Cond.code ({ cls := "NameRing", name := "hosts", desc := "(I)I" } : Jvm.MethodName) prog_1_method_36_code (2 : Nat) (Option.some Jvm.ClassFile.FieldType.int)) ∈ gw := g5 197 rfl rfl
theorem wd_5_198 : (Jvm.Cond.methodLink "NameRing" (286 : Nat) ({ cls := "NameRing$Looks", name := "hostsOf", desc := "(I)I" } : Jvm.MethodName)) ∈ gw := g5 198 rfl rfl
theorem wd_5_199 : (Jvm.Cond.instanceMethod ({ cls := "NameRing$Looks", name := "hostsOf", desc := "(I)I" } : Jvm.MethodName)) ∈ gw := g5 199 rfl rfl
theorem wd_5_200 : (Jvm.Cond.selects "NameRing$Looks" ({ cls := "NameRing$Looks", name := "hostsOf", desc := "(I)I" } : Jvm.MethodName) ({ cls := "NameRing$Looks", name := "hostsOf", desc := "(I)I" } : Jvm.MethodName)) ∈ gw := g5 200 rfl rfl
theorem wd_5_201 : (Jvm.Cond.code ({ cls := "NameRing$Looks", name := "hostsOf", desc := "(I)I" } : Jvm.MethodName) prog_4_method_24_code (5 : Nat) (Option.some Jvm.ClassFile.FieldType.int)) ∈ gw := g5 201 rfl rfl
theorem wd_5_202 : (Jvm.Cond.methodLink "NameRing$Looks" (120 : Nat) ({ cls := "NameRing$State", name := "listAt", desc := "(II)I" } : Jvm.MethodName)) ∈ gw := g5 202 rfl rfl
theorem wd_5_203 : (Jvm.Cond.methodLink "NameRingLaw" (173 : Nat) ({ cls := "NameRing", name := "reaches", desc := "(I)I" } : Jvm.MethodName)) ∈ gw := g5 203 rfl rfl
theorem wd_5_204 : (Jvm.Cond.instanceMethod ({ cls := "NameRing", name := "reaches", desc := "(I)I" } : Jvm.MethodName)) ∈ gw := g5 204 rfl rfl
theorem wd_5_205 : (Jvm.Cond.selects "NameRing" ({ cls := "NameRing", name := "reaches", desc := "(I)I" } : Jvm.MethodName) ({ cls := "NameRing", name := "reaches", desc := "(I)I" } : Jvm.MethodName)) ∈ gw := g5 205 rfl rfl
theorem wd_5_206 : (Jvm.Cond.code ({ cls := "NameRing", name := "reaches", desc := "(I)I" } : Jvm.MethodName) prog_1_method_37_code (2 : Nat) (Option.some Jvm.ClassFile.FieldType.int)) ∈ gw := g5 206 rfl rfl
theorem wd_5_207 : (Jvm.Cond.methodLink "NameRing" (289 : Nat) ({ cls := "NameRing$Looks", name := "reachedFrom", desc := "(I)I" } : Jvm.MethodName)) ∈ gw := g5 207 rfl rfl
theorem wd_5_208 : (Jvm.Cond.instanceMethod ({ cls := "NameRing$Looks", name := "reachedFrom", desc := "(I)I" } : Jvm.MethodName)) ∈ gw := g5 208 rfl rfl
theorem wd_5_209 : (Jvm.Cond.selects "NameRing$Looks" ({ cls := "NameRing$Looks", name := "reachedFrom", desc := "(I)I" } : Jvm.MethodName) ({ cls := "NameRing$Looks", name := "reachedFrom", desc := "(I)I" } : Jvm.MethodName)) ∈ gw := g5 209 rfl rfl
theorem wd_5_210 : (Jvm.Cond.code ({ cls := "NameRing$Looks", name := "reachedFrom", desc := "(I)I" } : Jvm.MethodName) prog_4_method_27_code (5 : Nat) (Option.some Jvm.ClassFile.FieldType.int)) ∈ gw := g5 210 rfl rfl
theorem wd_5_211 : (Jvm.Cond.methodLink "NameRing$Looks" (126 : Nat) ({ cls := "NameRing$Looks", name := "knownBy", desc := "(I)I" } : Jvm.MethodName)) ∈ gw := g5 211 rfl rfl
theorem wd_5_213 : (Jvm.Cond.instanceMethod ({ cls := "NameRing$Looks", name := "knownBy", desc := "(I)I" } : Jvm.MethodName)) ∈ gw := g5 213 rfl rfl
theorem wd_5_214 : (Jvm.Cond.code ({ cls := "NameRing$Looks", name := "knownBy", desc := "(I)I" } : Jvm.MethodName) prog_4_method_25_code (4 : Nat) (Option.some Jvm.ClassFile.FieldType.int)) ∈ gw := g5 214 rfl rfl
theorem wd_5_215 : (Jvm.Cond.methodLink "NameRing$Looks" (123 : Nat) ({ cls := "NameRing$Looks", name := "bitOf", desc := "(I)I" } : Jvm.MethodName)) ∈ gw := g5 215 rfl rfl
theorem wd_5_216 : (Jvm.Cond.static ({ cls := "NameRing$Looks", name := "bitOf", desc := "(I)I" } : Jvm.MethodName)) ∈ gw := g5 216 rfl rfl
theorem wd_5_217 : (Jvm.Cond.code ({ cls := "NameRing$Looks", name := "bitOf", desc := "(I)I" } : Jvm.MethodName) prog_4_method_26_code (1 : Nat) (Option.some Jvm.ClassFile.FieldType.int)) ∈ gw := g5 217 rfl rfl
theorem wd_5_218 : (Jvm.Cond.methodLink "NameRingLaw" (177 : Nat) ({ cls := "NameRing", name := "heirs", desc := "(II)I" } : Jvm.MethodName)) ∈ gw := g5 218 rfl rfl
theorem wd_5_219 : (Jvm.Cond.instanceMethod ({ cls := "NameRing", name := "heirs", desc := "(II)I" } : Jvm.MethodName)) ∈ gw := g5 219 rfl rfl
theorem wd_5_220 : (Jvm.Cond.selects "NameRing" ({ cls := "NameRing", name := "heirs", desc := "(II)I" } : Jvm.MethodName) ({ cls := "NameRing", name := "heirs", desc := "(II)I" } : Jvm.MethodName)) ∈ gw := g5 220 rfl rfl
theorem wd_5_221 : (Jvm.Cond.code ({ cls := "NameRing", name := "heirs", desc := "(II)I" } : Jvm.MethodName) prog_1_method_38_code (3 : Nat) (Option.some Jvm.ClassFile.FieldType.int)) ∈ gw := g5 221 rfl rfl
theorem wd_5_222 : (Jvm.Cond.methodLink "NameRing" (292 : Nat) ({ cls := "NameRing$Looks", name := "heirOf", desc := "(II)I" } : Jvm.MethodName)) ∈ gw := g5 222 rfl rfl
theorem wd_5_223 : (Jvm.Cond.instanceMethod ({ cls := "NameRing$Looks", name := "heirOf", desc := "(II)I" } : Jvm.MethodName)) ∈ gw := g5 223 rfl rfl
theorem wd_5_224 : (Jvm.Cond.selects "NameRing$Looks" ({ cls := "NameRing$Looks", name := "heirOf", desc := "(II)I" } : Jvm.MethodName) ({ cls := "NameRing$Looks", name := "heirOf", desc := "(II)I" } : Jvm.MethodName)) ∈ gw := g5 224 rfl rfl
theorem wd_5_225 : (Jvm.Cond.code ({ cls := "NameRing$Looks", name := "heirOf", desc := "(II)I" } : Jvm.MethodName) prog_4_method_8_code (4 : Nat) (Option.some Jvm.ClassFile.FieldType.int)) ∈ gw := g5 225 rfl rfl
theorem wd_5_226 : (Jvm.Cond.methodLink "NameRing$Looks" (60 : Nat) ({ cls := "NameRing$Looks", name := "nearerThan", desc := "(II)I" } : Jvm.MethodName)) ∈ gw := g5 226 rfl rfl
theorem wd_5_228 : (Jvm.Cond.instanceMethod ({ cls := "NameRing$Looks", name := "nearerThan", desc := "(II)I" } : Jvm.MethodName)) ∈ gw := g5 228 rfl rfl
theorem wd_5_229 : (Jvm.Cond.code ({ cls := "NameRing$Looks", name := "nearerThan", desc := "(II)I" } : Jvm.MethodName) prog_4_method_9_code (6 : Nat) (Option.some Jvm.ClassFile.FieldType.int)) ∈ gw := g5 229 rfl rfl
theorem wd_5_230 : (Jvm.Cond.methodLink "NameRingLaw" (181 : Nat) ({ cls := "NameRing", name := "widest", desc := "()I" } : Jvm.MethodName)) ∈ gw := g5 230 rfl rfl
theorem wd_5_231 : (Jvm.Cond.instanceMethod ({ cls := "NameRing", name := "widest", desc := "()I" } : Jvm.MethodName)) ∈ gw := g5 231 rfl rfl
theorem wd_5_232 : (Jvm.Cond.selects "NameRing" ({ cls := "NameRing", name := "widest", desc := "()I" } : Jvm.MethodName) ({ cls := "NameRing", name := "widest", desc := "()I" } : Jvm.MethodName)) ∈ gw := g5 232 rfl rfl
theorem wd_5_233 : (Jvm.Cond.code ({ cls := "NameRing", name := "widest", desc := "()I" } : Jvm.MethodName) prog_1_method_39_code (1 : Nat) (Option.some Jvm.ClassFile.FieldType.int)) ∈ gw := g5 233 rfl rfl
theorem wd_5_234 : (Jvm.Cond.methodLink "NameRing" (295 : Nat) ({ cls := "NameRing$Looks", name := "widestArc", desc := "()I" } : Jvm.MethodName)) ∈ gw := g5 234 rfl rfl
theorem wd_5_235 : (Jvm.Cond.instanceMethod ({ cls := "NameRing$Looks", name := "widestArc", desc := "()I" } : Jvm.MethodName)) ∈ gw := g5 235 rfl rfl
theorem wd_5_236 : (Jvm.Cond.selects "NameRing$Looks" ({ cls := "NameRing$Looks", name := "widestArc", desc := "()I" } : Jvm.MethodName) ({ cls := "NameRing$Looks", name := "widestArc", desc := "()I" } : Jvm.MethodName)) ∈ gw := g5 236 rfl rfl
theorem wd_5_237 : (Jvm.Cond.code ({ cls := "NameRing$Looks", name := "widestArc", desc := "()I" } : Jvm.MethodName) prog_4_method_20_code (5 : Nat) (Option.some Jvm.ClassFile.FieldType.int)) ∈ gw := g5 237 rfl rfl
theorem wd_5_238 : (Jvm.Cond.methodLink "NameRing$Looks" (100 : Nat) ({ cls := "NameRing$Looks", name := "arcOf", desc := "(I)I" } : Jvm.MethodName)) ∈ gw := g5 238 rfl rfl
theorem wd_5_239 : (Jvm.Cond.methodLink "NameRingLaw" (185 : Nat) ({ cls := "NameRing", name := "toil", desc := "(I)I" } : Jvm.MethodName)) ∈ gw := g5 239 rfl rfl
theorem wd_6_0 : (Jvm.Cond.instanceMethod ({ cls := "NameRing", name := "toil", desc := "(I)I" } : Jvm.MethodName)) ∈ gw := g6 0 rfl rfl
theorem wd_6_1 : (Jvm.Cond.selects "NameRing" ({ cls := "NameRing", name := "toil", desc := "(I)I" } : Jvm.MethodName) ({ cls := "NameRing", name := "toil", desc := "(I)I" } : Jvm.MethodName)) ∈ gw := g6 1 rfl rfl
theorem wd_6_2 : (Jvm.Cond.code ({ cls := "NameRing", name := "toil", desc := "(I)I" } : Jvm.MethodName) prog_1_method_40_code (2 : Nat) (Option.some Jvm.ClassFile.FieldType.int)) ∈ gw := g6 2 rfl rfl
theorem wd_6_3 : (Jvm.Cond.methodLink "NameRing" (298 : Nat) ({ cls := "NameRing$Looks", name := "allSteps", desc := "(I)I" } : Jvm.MethodName)) ∈ gw := g6 3 rfl rfl
theorem wd_6_4 : (Jvm.Cond.instanceMethod ({ cls := "NameRing$Looks", name := "allSteps", desc := "(I)I" } : Jvm.MethodName)) ∈ gw := g6 4 rfl rfl
theorem wd_6_5 : (Jvm.Cond.selects "NameRing$Looks" ({ cls := "NameRing$Looks", name := "allSteps", desc := "(I)I" } : Jvm.MethodName) ({ cls := "NameRing$Looks", name := "allSteps", desc := "(I)I" } : Jvm.MethodName)) ∈ gw := g6 5 rfl rfl
theorem wd_6_6 : (Jvm.Cond.code ({ cls := "NameRing$Looks", name := "allSteps", desc := "(I)I" } : Jvm.MethodName) prog_4_method_23_code (4 : Nat) (Option.some Jvm.ClassFile.FieldType.int)) ∈ gw := g6 6 rfl rfl
theorem wd_6_7 : (Jvm.Cond.methodLink "NameRingLaw" (189 : Nat) ({ cls := "NameRing", name := "risk", desc := "(I)I" } : Jvm.MethodName)) ∈ gw := g6 7 rfl rfl
theorem wd_6_8 : (Jvm.Cond.instanceMethod ({ cls := "NameRing", name := "risk", desc := "(I)I" } : Jvm.MethodName)) ∈ gw := g6 8 rfl rfl
theorem wd_6_9 : (Jvm.Cond.selects "NameRing" ({ cls := "NameRing", name := "risk", desc := "(I)I" } : Jvm.MethodName) ({ cls := "NameRing", name := "risk", desc := "(I)I" } : Jvm.MethodName)) ∈ gw := g6 9 rfl rfl
theorem wd_6_10 : (Jvm.Cond.code ({ cls := "NameRing", name := "risk", desc := "(I)I" } : Jvm.MethodName) prog_1_method_41_code (2 : Nat) (Option.some Jvm.ClassFile.FieldType.int)) ∈ gw := g6 10 rfl rfl
theorem wd_6_11 : (Jvm.Cond.methodLink "NameRing" (301 : Nat) ({ cls := "NameRing$Looks", name := "riskySets", desc := "(I)I" } : Jvm.MethodName)) ∈ gw := g6 11 rfl rfl
theorem wd_6_12 : (Jvm.Cond.instanceMethod ({ cls := "NameRing$Looks", name := "riskySets", desc := "(I)I" } : Jvm.MethodName)) ∈ gw := g6 12 rfl rfl
theorem wd_6_13 : (Jvm.Cond.selects "NameRing$Looks" ({ cls := "NameRing$Looks", name := "riskySets", desc := "(I)I" } : Jvm.MethodName) ({ cls := "NameRing$Looks", name := "riskySets", desc := "(I)I" } : Jvm.MethodName)) ∈ gw := g6 13 rfl rfl
theorem wd_6_14 : (Jvm.Cond.code ({ cls := "NameRing$Looks", name := "riskySets", desc := "(I)I" } : Jvm.MethodName) prog_4_method_28_code (5 : Nat) (Option.some Jvm.ClassFile.FieldType.int)) ∈ gw := g6 14 rfl rfl
theorem wd_6_15 : (Jvm.Cond.methodLink "NameRing$Looks" (129 : Nat) ({ cls := "java/lang/Integer", name := "bitCount", desc := "(I)I" } : Jvm.MethodName)) ∈ gw := g6 15 rfl rfl
theorem wd_6_16 : (Jvm.Cond.methodLink "NameRing$Looks" (134 : Nat) ({ cls := "NameRing$Looks", name := "leavesOneAlone", desc := "(I)Z" } : Jvm.MethodName)) ∈ gw := g6 16 rfl rfl
theorem wd_6_18 : (Jvm.Cond.instanceMethod ({ cls := "NameRing$Looks", name := "leavesOneAlone", desc := "(I)Z" } : Jvm.MethodName)) ∈ gw := g6 18 rfl rfl
theorem wd_6_19 : (Jvm.Cond.code ({ cls := "NameRing$Looks", name := "leavesOneAlone", desc := "(I)Z" } : Jvm.MethodName) prog_4_method_29_code (3 : Nat) (Option.some Jvm.ClassFile.FieldType.boolean)) ∈ gw := g6 19 rfl rfl
theorem wd_6_20 : (Jvm.Cond.methodLink "NameRingLaw" (193 : Nat) ({ cls := "NameRing", name := "moves", desc := "(I)I" } : Jvm.MethodName)) ∈ gw := g6 20 rfl rfl
theorem wd_6_21 : (Jvm.Cond.instanceMethod ({ cls := "NameRing", name := "moves", desc := "(I)I" } : Jvm.MethodName)) ∈ gw := g6 21 rfl rfl
theorem wd_6_22 : (Jvm.Cond.selects "NameRing" ({ cls := "NameRing", name := "moves", desc := "(I)I" } : Jvm.MethodName) ({ cls := "NameRing", name := "moves", desc := "(I)I" } : Jvm.MethodName)) ∈ gw := g6 22 rfl rfl
theorem wd_6_23 : (Jvm.Cond.code ({ cls := "NameRing", name := "moves", desc := "(I)I" } : Jvm.MethodName) prog_1_method_42_code (2 : Nat) (Option.some Jvm.ClassFile.FieldType.int)) ∈ gw := g6 23 rfl rfl
theorem wd_6_24 : (Jvm.Cond.methodLink "NameRing" (304 : Nat) ({ cls := "NameRing$Looks", name := "movedKeys", desc := "(I)I" } : Jvm.MethodName)) ∈ gw := g6 24 rfl rfl
theorem wd_6_25 : (Jvm.Cond.instanceMethod ({ cls := "NameRing$Looks", name := "movedKeys", desc := "(I)I" } : Jvm.MethodName)) ∈ gw := g6 25 rfl rfl
theorem wd_6_26 : (Jvm.Cond.selects "NameRing$Looks" ({ cls := "NameRing$Looks", name := "movedKeys", desc := "(I)I" } : Jvm.MethodName) ({ cls := "NameRing$Looks", name := "movedKeys", desc := "(I)I" } : Jvm.MethodName)) ∈ gw := g6 26 rfl rfl
theorem wd_6_27 : (Jvm.Cond.code ({ cls := "NameRing$Looks", name := "movedKeys", desc := "(I)I" } : Jvm.MethodName) prog_4_method_7_code (5 : Nat) (Option.some Jvm.ClassFile.FieldType.int)) ∈ gw := g6 27 rfl rfl
theorem wd_6_28 : (Jvm.Cond.methodLink "NameRingLaw" (197 : Nat) ({ cls := "NameRing", name := "see", desc := "(IIZ)Z" } : Jvm.MethodName)) ∈ gw := g6 28 rfl rfl
theorem wd_6_29 : (Jvm.Cond.instanceMethod ({ cls := "NameRing", name := "see", desc := "(IIZ)Z" } : Jvm.MethodName)) ∈ gw := g6 29 rfl rfl
theorem wd_6_30 : (Jvm.Cond.selects "NameRing" ({ cls := "NameRing", name := "see", desc := "(IIZ)Z" } : Jvm.MethodName) ({ cls := "NameRing", name := "see", desc := "(IIZ)Z" } : Jvm.MethodName)) ∈ gw := g6 30 rfl rfl
theorem wd_6_31 : (Jvm.Cond.code ({ cls := "NameRing", name := "see", desc := "(IIZ)Z" } : Jvm.MethodName) prog_1_method_43_code (4 : Nat) (Option.some Jvm.ClassFile.FieldType.boolean)) ∈ gw := g6 31 rfl rfl
theorem wd_6_32 : (Jvm.Cond.methodLink "NameRing" (307 : Nat) ({ cls := "NameRing$Told", name := "isPlace", desc := "(I)Z" } : Jvm.MethodName)) ∈ gw := g6 32 rfl rfl
theorem wd_6_33 : (Jvm.Cond.methodLink "NameRing" (310 : Nat) ({ cls := "NameRing$Seen", name := "add", desc := "(IIZ)Z" } : Jvm.MethodName)) ∈ gw := g6 33 rfl rfl
theorem wd_6_34 : (Jvm.Cond.instanceMethod ({ cls := "NameRing$Seen", name := "add", desc := "(IIZ)Z" } : Jvm.MethodName)) ∈ gw := g6 34 rfl rfl
theorem wd_6_35 : (Jvm.Cond.selects "NameRing$Seen" ({ cls := "NameRing$Seen", name := "add", desc := "(IIZ)Z" } : Jvm.MethodName) ({ cls := "NameRing$Seen", name := "add", desc := "(IIZ)Z" } : Jvm.MethodName)) ∈ gw := g6 35 rfl rfl
theorem wd_6_36 : (Jvm.Cond.code ({ cls := "NameRing$Seen", name := "add", desc := "(IIZ)Z" } : Jvm.MethodName) prog_7_method_4_code (4 : Nat) (Option.some Jvm.ClassFile.FieldType.boolean)) ∈ gw := g6 36 rfl rfl
theorem wd_6_37 : (Jvm.Cond.methodLink "NameRingLaw" (202 : Nat) ({ cls := "NameRing", name := "who", desc := "()I" } : Jvm.MethodName)) ∈ gw := g6 37 rfl rfl
theorem wd_6_38 : (Jvm.Cond.instanceMethod ({ cls := "NameRing", name := "who", desc := "()I" } : Jvm.MethodName)) ∈ gw := g6 38 rfl rfl
theorem wd_6_39 : (Jvm.Cond.selects "NameRing" ({ cls := "NameRing", name := "who", desc := "()I" } : Jvm.MethodName) ({ cls := "NameRing", name := "who", desc := "()I" } : Jvm.MethodName)) ∈ gw := g6 39 rfl rfl
theorem wd_6_40 : (Jvm.Cond.code ({ cls := "NameRing", name := "who", desc := "()I" } : Jvm.MethodName) prog_1_method_44_code (1 : Nat) (Option.some Jvm.ClassFile.FieldType.int)) ∈ gw := g6 40 rfl rfl
theorem wd_6_41 : (Jvm.Cond.methodLink "NameRing" (314 : Nat) ({ cls := "NameRing$Seen", name := "suspects", desc := "(LNameRing$Finder;I)I" } : Jvm.MethodName)) ∈ gw := g6 41 rfl rfl
theorem wd_6_42 : (Jvm.Cond.instanceMethod ({ cls := "NameRing$Seen", name := "suspects", desc := "(LNameRing$Finder;I)I" } : Jvm.MethodName)) ∈ gw := g6 42 rfl rfl
theorem wd_6_43 : (Jvm.Cond.selects "NameRing$Seen" ({ cls := "NameRing$Seen", name := "suspects", desc := "(LNameRing$Finder;I)I" } : Jvm.MethodName) ({ cls := "NameRing$Seen", name := "suspects", desc := "(LNameRing$Finder;I)I" } : Jvm.MethodName)) ∈ gw := g6 43 rfl rfl
theorem wd_6_44 : (Jvm.Cond.code ({ cls := "NameRing$Seen", name := "suspects", desc := "(LNameRing$Finder;I)I" } : Jvm.MethodName) prog_7_method_5_code (5 : Nat) (Option.some Jvm.ClassFile.FieldType.int)) ∈ gw := g6 44 rfl rfl
theorem wd_6_45 : (Jvm.Cond.methodLink "NameRing$Seen" (29 : Nat) ({ cls := "NameRing$Seen", name := "fits", desc := "(LNameRing$Finder;I)Z" } : Jvm.MethodName)) ∈ gw := g6 45 rfl rfl
theorem wd_6_47 : (Jvm.Cond.instanceMethod ({ cls := "NameRing$Seen", name := "fits", desc := "(LNameRing$Finder;I)Z" } : Jvm.MethodName)) ∈ gw := g6 47 rfl rfl
theorem wd_6_48 : (Jvm.Cond.code ({ cls := "NameRing$Seen", name := "fits", desc := "(LNameRing$Finder;I)Z" } : Jvm.MethodName) prog_7_method_6_code (4 : Nat) (Option.some Jvm.ClassFile.FieldType.boolean)) ∈ gw := g6 48 rfl rfl
theorem wd_6_49 : (Jvm.Cond.methodLink "NameRing$Seen" (33 : Nat) ({ cls := "NameRing$Finder", name := "seek", desc := "(II)Z" } : Jvm.MethodName)) ∈ gw := g6 49 rfl rfl
theorem wd_6_50 : (Jvm.Cond.methodLink "NameRingLaw" (206 : Nat) ({ cls := "NameRing", name := "ask", desc := "()I" } : Jvm.MethodName)) ∈ gw := g6 50 rfl rfl
theorem wd_6_51 : (Jvm.Cond.instanceMethod ({ cls := "NameRing", name := "ask", desc := "()I" } : Jvm.MethodName)) ∈ gw := g6 51 rfl rfl
theorem wd_6_52 : (Jvm.Cond.selects "NameRing" ({ cls := "NameRing", name := "ask", desc := "()I" } : Jvm.MethodName) ({ cls := "NameRing", name := "ask", desc := "()I" } : Jvm.MethodName)) ∈ gw := g6 52 rfl rfl
theorem wd_6_53 : (Jvm.Cond.code ({ cls := "NameRing", name := "ask", desc := "()I" } : Jvm.MethodName) prog_1_method_45_code (1 : Nat) (Option.some Jvm.ClassFile.FieldType.int)) ∈ gw := g6 53 rfl rfl
theorem wd_6_54 : (Jvm.Cond.methodLink "NameRing" (321 : Nat) ({ cls := "NameRing$Seen", name := "bestQuestion", desc := "(LNameRing$Finder;II)I" } : Jvm.MethodName)) ∈ gw := g6 54 rfl rfl
theorem wd_6_55 : (Jvm.Cond.instanceMethod ({ cls := "NameRing$Seen", name := "bestQuestion", desc := "(LNameRing$Finder;II)I" } : Jvm.MethodName)) ∈ gw := g6 55 rfl rfl
theorem wd_6_56 : (Jvm.Cond.selects "NameRing$Seen" ({ cls := "NameRing$Seen", name := "bestQuestion", desc := "(LNameRing$Finder;II)I" } : Jvm.MethodName) ({ cls := "NameRing$Seen", name := "bestQuestion", desc := "(LNameRing$Finder;II)I" } : Jvm.MethodName)) ∈ gw := g6 56 rfl rfl
theorem wd_6_57 : (Jvm.Cond.code ({ cls := "NameRing$Seen", name := "bestQuestion", desc := "(LNameRing$Finder;II)I" } : Jvm.MethodName) prog_7_method_7_code (9 : Nat) (Option.some Jvm.ClassFile.FieldType.int)) ∈ gw := g6 57 rfl rfl
theorem wd_6_58 : (Jvm.Cond.methodLink "NameRing$Seen" (42 : Nat) ({ cls := "NameRing$Seen", name := "suspects", desc := "(LNameRing$Finder;I)I" } : Jvm.MethodName)) ∈ gw := g6 58 rfl rfl
theorem wd_6_59 : (Jvm.Cond.methodLink "NameRing$Seen" (46 : Nat) ({ cls := "java/lang/Integer", name := "bitCount", desc := "(I)I" } : Jvm.MethodName)) ∈ gw := g6 59 rfl rfl
theorem wd_6_60 : (Jvm.Cond.methodLink "NameRing$Seen" (52 : Nat) ({ cls := "NameRing$Seen", name := "greatestGroup", desc := "(LNameRing$Finder;II)I" } : Jvm.MethodName)) ∈ gw := g6 60 rfl rfl
theorem wd_6_62 : (Jvm.Cond.instanceMethod ({ cls := "NameRing$Seen", name := "greatestGroup", desc := "(LNameRing$Finder;II)I" } : Jvm.MethodName)) ∈ gw := g6 62 rfl rfl
theorem wd_6_63 : (Jvm.Cond.code ({ cls := "NameRing$Seen", name := "greatestGroup", desc := "(LNameRing$Finder;II)I" } : Jvm.MethodName) prog_7_method_8_code (7 : Nat) (Option.some Jvm.ClassFile.FieldType.int)) ∈ gw := g6 63 rfl rfl
theorem wd_6_64 : (Jvm.Cond.methodLink "NameRing$Seen" (56 : Nat) ({ cls := "java/lang/Math", name := "min", desc := "(II)I" } : Jvm.MethodName)) ∈ gw := g6 64 rfl rfl
theorem wd_6_65 : (Jvm.Cond.methodLink "NameRing$Seen" (62 : Nat) ({ cls := "java/lang/Math", name := "max", desc := "(II)I" } : Jvm.MethodName)) ∈ gw := g6 65 rfl rfl
theorem wd_6_66 : (Jvm.Cond.methodLink "NameRingLaw" (210 : Nat) ({ cls := "NameRing", name := "drives", desc := "(III)I" } : Jvm.MethodName)) ∈ gw := g6 66 rfl rfl
theorem wd_6_67 : (Jvm.Cond.instanceMethod ({ cls := "NameRing", name := "drives", desc := "(III)I" } : Jvm.MethodName)) ∈ gw := g6 67 rfl rfl
theorem wd_6_68 : (Jvm.Cond.selects "NameRing" ({ cls := "NameRing", name := "drives", desc := "(III)I" } : Jvm.MethodName) ({ cls := "NameRing", name := "drives", desc := "(III)I" } : Jvm.MethodName)) ∈ gw := g6 68 rfl rfl
theorem wd_6_69 : (Jvm.Cond.code ({ cls := "NameRing", name := "drives", desc := "(III)I" } : Jvm.MethodName) prog_1_method_46_code (4 : Nat) (Option.some Jvm.ClassFile.FieldType.int)) ∈ gw := g6 69 rfl rfl
theorem wd_6_70 : (Jvm.Cond.methodLink "NameRing" (325 : Nat) ({ cls := "NameRing$Trials", name := "drive", desc := "(III)I" } : Jvm.MethodName)) ∈ gw := g6 70 rfl rfl
theorem wd_6_71 : (Jvm.Cond.instanceMethod ({ cls := "NameRing$Trials", name := "drive", desc := "(III)I" } : Jvm.MethodName)) ∈ gw := g6 71 rfl rfl
theorem wd_6_72 : (Jvm.Cond.selects "NameRing$Trials" ({ cls := "NameRing$Trials", name := "drive", desc := "(III)I" } : Jvm.MethodName) ({ cls := "NameRing$Trials", name := "drive", desc := "(III)I" } : Jvm.MethodName)) ∈ gw := g6 72 rfl rfl
theorem wd_6_73 : (Jvm.Cond.code ({ cls := "NameRing$Trials", name := "drive", desc := "(III)I" } : Jvm.MethodName) prog_11_method_5_code (7 : Nat) (Option.some Jvm.ClassFile.FieldType.int)) ∈ gw := g6 73 rfl rfl
theorem wd_6_74 : (Jvm.Cond.methodLink "NameRing$Trials" (105 : Nat) ({ cls := "NameRing$Trials", name := "driveOnce", desc := "()Z" } : Jvm.MethodName)) ∈ gw := g6 74 rfl rfl
theorem wd_6_76 : (Jvm.Cond.instanceMethod ({ cls := "NameRing$Trials", name := "driveOnce", desc := "()Z" } : Jvm.MethodName)) ∈ gw := g6 76 rfl rfl
theorem wd_6_77 : (Jvm.Cond.code ({ cls := "NameRing$Trials", name := "driveOnce", desc := "()Z" } : Jvm.MethodName) prog_11_method_6_code (4 : Nat) (Option.some Jvm.ClassFile.FieldType.boolean)) ∈ gw := g6 77 rfl rfl
theorem wd_6_78 : (Jvm.Cond.methodLink "NameRing$Trials" (108 : Nat) ({ cls := "NameRing$Trials", name := "draw", desc := "(I)I" } : Jvm.MethodName)) ∈ gw := g6 78 rfl rfl
theorem wd_6_80 : (Jvm.Cond.instanceMethod ({ cls := "NameRing$Trials", name := "draw", desc := "(I)I" } : Jvm.MethodName)) ∈ gw := g6 80 rfl rfl
theorem wd_6_81 : (Jvm.Cond.code ({ cls := "NameRing$Trials", name := "draw", desc := "(I)I" } : Jvm.MethodName) prog_11_method_7_code (2 : Nat) (Option.some Jvm.ClassFile.FieldType.int)) ∈ gw := g6 81 rfl rfl
theorem wd_6_82 : (Jvm.Cond.constantLong "NameRing$Trials" (135 : Nat) (1103515245 : Int64)) ∈ gw := g6 82 rfl rfl
theorem wd_6_83 : (Jvm.Cond.constantLong "NameRing$Trials" (137 : Nat) (12345 : Int64)) ∈ gw := g6 83 rfl rfl
theorem wd_6_84 : (Jvm.Cond.constantLong "NameRing$Trials" (139 : Nat) (2147483648 : Int64)) ∈ gw := g6 84 rfl rfl
theorem wd_6_85 : (Jvm.Cond.constantLong "NameRing$Trials" (141 : Nat) (65536 : Int64)) ∈ gw := g6 85 rfl rfl
theorem wd_6_86 : (Jvm.Cond.methodLink "NameRing$Trials" (112 : Nat) ({ cls := "NameRing$Deeds", name := "doBegin", desc := "(I)Z" } : Jvm.MethodName)) ∈ gw := g6 86 rfl rfl
theorem wd_6_87 : (Jvm.Cond.methodLink "NameRing$Trials" (116 : Nat) ({ cls := "NameRing$Deeds", name := "doJoin", desc := "(II)Z" } : Jvm.MethodName)) ∈ gw := g6 87 rfl rfl
theorem wd_6_88 : (Jvm.Cond.methodLink "NameRing$Trials" (120 : Nat) ({ cls := "NameRing$Deeds", name := "doLeave", desc := "(I)Z" } : Jvm.MethodName)) ∈ gw := g6 88 rfl rfl
theorem wd_6_89 : (Jvm.Cond.methodLink "NameRing$Trials" (123 : Nat) ({ cls := "NameRing$Deeds", name := "doFail", desc := "(I)I" } : Jvm.MethodName)) ∈ gw := g6 89 rfl rfl
theorem wd_6_90 : (Jvm.Cond.methodLink "NameRing$Trials" (126 : Nat) ({ cls := "NameRing$Deeds", name := "doTidy", desc := "(I)I" } : Jvm.MethodName)) ∈ gw := g6 90 rfl rfl
theorem wd_6_91 : (Jvm.Cond.methodLink "NameRing$Trials" (129 : Nat) ({ cls := "NameRing$Deeds", name := "doFlush", desc := "(I)I" } : Jvm.MethodName)) ∈ gw := g6 91 rfl rfl
theorem wd_6_92 : (Jvm.Cond.methodLink "NameRing$Trials" (132 : Nat) ({ cls := "NameRing$Deeds", name := "doFix", desc := "(II)Z" } : Jvm.MethodName)) ∈ gw := g6 92 rfl rfl
theorem wd_6_93 : (Jvm.Cond.methodLink "NameRingLaw" (214 : Nat) ({ cls := "NameRing", name := "mark", desc := "(IZ)Z" } : Jvm.MethodName)) ∈ gw := g6 93 rfl rfl
theorem wd_6_94 : (Jvm.Cond.instanceMethod ({ cls := "NameRing", name := "mark", desc := "(IZ)Z" } : Jvm.MethodName)) ∈ gw := g6 94 rfl rfl
theorem wd_6_95 : (Jvm.Cond.selects "NameRing" ({ cls := "NameRing", name := "mark", desc := "(IZ)Z" } : Jvm.MethodName) ({ cls := "NameRing", name := "mark", desc := "(IZ)Z" } : Jvm.MethodName)) ∈ gw := g6 95 rfl rfl
theorem wd_6_96 : (Jvm.Cond.code ({ cls := "NameRing", name := "mark", desc := "(IZ)Z" } : Jvm.MethodName) prog_1_method_47_code (3 : Nat) (Option.some Jvm.ClassFile.FieldType.boolean)) ∈ gw := g6 96 rfl rfl
theorem wd_6_97 : (Jvm.Cond.methodLink "NameRing" (329 : Nat) ({ cls := "NameRing$Past", name := "goBack", desc := "(ILNameRing$State;LNameRing$Seen;)Z" } : Jvm.MethodName)) ∈ gw := g6 97 rfl rfl
theorem wd_6_98 : (Jvm.Cond.instanceMethod ({ cls := "NameRing$Past", name := "goBack", desc := "(ILNameRing$State;LNameRing$Seen;)Z" } : Jvm.MethodName)) ∈ gw := g6 98 rfl rfl
theorem wd_6_99 : (Jvm.Cond.selects "NameRing$Past" ({ cls := "NameRing$Past", name := "goBack", desc := "(ILNameRing$State;LNameRing$Seen;)Z" } : Jvm.MethodName) ({ cls := "NameRing$Past", name := "goBack", desc := "(ILNameRing$State;LNameRing$Seen;)Z" } : Jvm.MethodName)) ∈ gw := g6 99 rfl rfl
theorem wd_6_100 : (Jvm.Cond.code ({ cls := "NameRing$Past", name := "goBack", desc := "(ILNameRing$State;LNameRing$Seen;)Z" } : Jvm.MethodName) prog_5_method_8_code (4 : Nat) (Option.some Jvm.ClassFile.FieldType.boolean)) ∈ gw := g6 100 rfl rfl
theorem wd_6_101 : (Jvm.Cond.methodLink "NameRing$Past" (53 : Nat) ({ cls := "NameRing$Seen", name := "copyFrom", desc := "(LNameRing$Seen;)V" } : Jvm.MethodName)) ∈ gw := g6 101 rfl rfl
theorem wd_6_102 : (Jvm.Cond.instanceMethod ({ cls := "NameRing$Seen", name := "copyFrom", desc := "(LNameRing$Seen;)V" } : Jvm.MethodName)) ∈ gw := g6 102 rfl rfl
theorem wd_6_103 : (Jvm.Cond.selects "NameRing$Seen" ({ cls := "NameRing$Seen", name := "copyFrom", desc := "(LNameRing$Seen;)V" } : Jvm.MethodName) ({ cls := "NameRing$Seen", name := "copyFrom", desc := "(LNameRing$Seen;)V" } : Jvm.MethodName)) ∈ gw := g6 103 rfl rfl
theorem wd_6_104 : (Jvm.Cond.code ({ cls := "NameRing$Seen", name := "copyFrom", desc := "(LNameRing$Seen;)V" } : Jvm.MethodName) prog_7_method_3_code (3 : Nat) (Option.none : Option Jvm.ClassFile.FieldType)) ∈ gw := g6 104 rfl rfl
theorem wd_6_105 : (Jvm.Cond.methodLink "NameRing" (333 : Nat) ({ cls := "NameRing$Past", name := "layMark", desc := "(ILNameRing$State;LNameRing$Seen;)V" } : Jvm.MethodName)) ∈ gw := g6 105 rfl rfl
theorem wd_6_106 : (Jvm.Cond.instanceMethod ({ cls := "NameRing$Past", name := "layMark", desc := "(ILNameRing$State;LNameRing$Seen;)V" } : Jvm.MethodName)) ∈ gw := g6 106 rfl rfl
theorem wd_6_107 : (Jvm.Cond.selects "NameRing$Past" ({ cls := "NameRing$Past", name := "layMark", desc := "(ILNameRing$State;LNameRing$Seen;)V" } : Jvm.MethodName) ({ cls := "NameRing$Past", name := "layMark", desc := "(ILNameRing$State;LNameRing$Seen;)V" } : Jvm.MethodName)) ∈ gw := g6 107 rfl rfl
theorem wd_6_108 : (Jvm.Cond.code ({ cls := "NameRing$Past", name := "layMark", desc := "(ILNameRing$State;LNameRing$Seen;)V" } : Jvm.MethodName) prog_5_method_7_code (4 : Nat) (Option.none : Option Jvm.ClassFile.FieldType)) ∈ gw := g6 108 rfl rfl
theorem wd_6_109 : (Jvm.Cond.methodLink "NameRingLaw" (219 : Nat) ({ cls := "NameRing", name := "count", desc := "(I)I" } : Jvm.MethodName)) ∈ gw := g6 109 rfl rfl
theorem wd_6_110 : (Jvm.Cond.instanceMethod ({ cls := "NameRing", name := "count", desc := "(I)I" } : Jvm.MethodName)) ∈ gw := g6 110 rfl rfl
theorem wd_6_111 : (Jvm.Cond.selects "NameRing" ({ cls := "NameRing", name := "count", desc := "(I)I" } : Jvm.MethodName) ({ cls := "NameRing", name := "count", desc := "(I)I" } : Jvm.MethodName)) ∈ gw := g6 111 rfl rfl
theorem wd_6_112 : (Jvm.Cond.code ({ cls := "NameRing", name := "count", desc := "(I)I" } : Jvm.MethodName) prog_1_method_48_code (2 : Nat) (Option.some Jvm.ClassFile.FieldType.int)) ∈ gw := g6 112 rfl rfl
theorem wd_6_113 : (Jvm.Cond.methodLink "NameRing" (346 : Nat) ({ cls := "NameRing$State", name := "heldKeys", desc := "()I" } : Jvm.MethodName)) ∈ gw := g6 113 rfl rfl
theorem wd_6_114 : (Jvm.Cond.methodLink "NameRingLaw" (112 : Nat) ({ cls := "NameRingLaw", name := "route", desc := "(LNameRing;III[J)I" } : Jvm.MethodName)) ∈ gw := g6 114 rfl rfl
theorem wd_6_115 : (Jvm.Cond.static ({ cls := "NameRingLaw", name := "route", desc := "(LNameRing;III[J)I" } : Jvm.MethodName)) ∈ gw := g6 115 rfl rfl
theorem wd_6_117 : (Jvm.Cond.classLink "NameRingLaw" (13 : Nat) "java/util/NoSuchElementException") ∈ gw := g6 117 rfl rfl
theorem wd_6_118 : (Jvm.Cond.methodLink "NameRingLaw" (7 : Nat) ({ cls := "NameRing", name := "route", desc := "(III)I" } : Jvm.MethodName)) ∈ gw := g6 118 rfl rfl
theorem wd_6_119 : (Jvm.Cond.instanceMethod ({ cls := "NameRing", name := "route", desc := "(III)I" } : Jvm.MethodName)) ∈ gw := g6 119 rfl rfl
theorem wd_6_120 : (Jvm.Cond.selects "NameRing" ({ cls := "NameRing", name := "route", desc := "(III)I" } : Jvm.MethodName) ({ cls := "NameRing", name := "route", desc := "(III)I" } : Jvm.MethodName)) ∈ gw := g6 120 rfl rfl
theorem wd_6_121 : (Jvm.Cond.code ({ cls := "NameRing", name := "route", desc := "(III)I" } : Jvm.MethodName) prog_1_method_23_code (4 : Nat) (Option.some Jvm.ClassFile.FieldType.int)) ∈ gw := g6 121 rfl rfl
theorem wd_6_122 : (Jvm.Cond.classLink "NameRing" (234 : Nat) "java/util/NoSuchElementException") ∈ gw := g6 122 rfl rfl
theorem wd_6_123 : (Jvm.Cond.instantiable "java/util/NoSuchElementException" (6 : Nat)) ∈ gw := g6 123 rfl rfl
theorem wd_6_131 : (Jvm.Cond.selects "java/util/NoSuchElementException" ({ cls := "java/lang/Throwable", name := "fillInStackTrace", desc := "(I)Ljava/lang/Throwable;" } : Jvm.MethodName) ({ cls := "java/lang/Throwable", name := "fillInStackTrace", desc := "(I)Ljava/lang/Throwable;" } : Jvm.MethodName)) ∈ gw := g6 131 rfl rfl
theorem wd_6_132 : (Jvm.Cond.selects "java/util/NoSuchElementException" ({ cls := "java/lang/Throwable", name := "fillInStackTrace", desc := "()Ljava/lang/Throwable;" } : Jvm.MethodName) ({ cls := "java/lang/Throwable", name := "fillInStackTrace", desc := "()Ljava/lang/Throwable;" } : Jvm.MethodName)) ∈ gw := g6 132 rfl rfl
theorem wd_6_143 : (Jvm.Cond.fieldLink "java/lang/Throwable" (198 : Nat) "java/lang/Throwable" "backtrace" "Ljava/lang/Object;") ∈ gw := g6 143 rfl rfl
theorem wd_6_144 : (Jvm.Cond.superclass "java/lang/Throwable" "java/lang/Object") ∈ gw := g6 144 rfl rfl
theorem wd_6_145 : (Jvm.Cond.instanceMethod ({ cls := "java/lang/Throwable", name := "<init>", desc := "()V" } : Jvm.MethodName)) ∈ gw := g6 145 rfl rfl
theorem wd_6_146 : (Jvm.Cond.code ({ cls := "java/lang/Throwable", name := "<init>", desc := "()V" } : Jvm.MethodName) prog_27_method_1_code (1 : Nat) (Option.none : Option Jvm.ClassFile.FieldType)) ∈ gw := g6 146 rfl rfl
theorem wd_6_147 : (Jvm.Cond.methodLink "java/lang/Throwable" (1 : Nat) ({ cls := "java/lang/Object", name := "<init>", desc := "()V" } : Jvm.MethodName)) ∈ gw := g6 147 rfl rfl
theorem wd_6_148 : (Jvm.Cond.fieldLink "java/lang/Throwable" (13 : Nat) "java/lang/Throwable" "UNASSIGNED_STACK" "[Ljava/lang/StackTraceElement;") ∈ gw := g6 148 rfl rfl
theorem wd_6_150 : (Jvm.Cond.fieldLink "java/lang/Throwable" (20 : Nat) "java/lang/Throwable" "SUPPRESSED_SENTINEL" "Ljava/util/List;") ∈ gw := g6 150 rfl rfl
theorem wd_6_152 : (Jvm.Cond.methodLink "java/lang/Throwable" (27 : Nat) ({ cls := "java/lang/Throwable", name := "fillInStackTrace", desc := "()Ljava/lang/Throwable;" } : Jvm.MethodName)) ∈ gw := g6 152 rfl rfl
theorem wd_6_153 : (Jvm.Cond.instanceMethod ({ cls := "java/lang/Throwable", name := "fillInStackTrace", desc := "()Ljava/lang/Throwable;" } : Jvm.MethodName)) ∈ gw := g6 153 rfl rfl
theorem wd_6_156 : (Jvm.Cond.methodLink "java/lang/Throwable" (202 : Nat) ({ cls := "java/lang/Throwable", name := "fillInStackTrace", desc := "(I)Ljava/lang/Throwable;" } : Jvm.MethodName)) ∈ gw := g6 156 rfl rfl
theorem wd_6_158 : (Jvm.Cond.instanceMethod ({ cls := "java/lang/Throwable", name := "fillInStackTrace", desc := "(I)Ljava/lang/Throwable;" } : Jvm.MethodName)) ∈ gw := g6 158 rfl rfl
theorem wd_6_159 : (Jvm.Cond.instantiable "java/lang/Throwable" (6 : Nat)) ∈ gw := g6 159 rfl rfl
theorem wd_6_160 : (Jvm.Cond.native ({ cls := "java/lang/Throwable", name := "fillInStackTrace", desc := "(I)Ljava/lang/Throwable;" } : Jvm.MethodName)) ∈ gw := g6 160 rfl rfl
theorem wd_6_161 : (Jvm.Cond.methodLink "NameRing" (236 : Nat) ({ cls := "java/util/NoSuchElementException", name := "<init>", desc := "()V" } : Jvm.MethodName)) ∈ gw := g6 161 rfl rfl
theorem wd_6_162 : (Jvm.Cond.instanceMethod ({ cls := "java/util/NoSuchElementException", name := "<init>", desc := "()V" } : Jvm.MethodName)) ∈ gw := g6 162 rfl rfl
theorem wd_6_163 : (Jvm.Cond.code ({ cls := "java/util/NoSuchElementException", name := "<init>", desc := "()V" } : Jvm.MethodName) prog_30_method_1_code (1 : Nat) (Option.none : Option Jvm.ClassFile.FieldType)) ∈ gw := g6 163 rfl rfl
theorem wd_6_164 : (Jvm.Cond.methodLink "java/util/NoSuchElementException" (1 : Nat) ({ cls := "java/lang/RuntimeException", name := "<init>", desc := "()V" } : Jvm.MethodName)) ∈ gw := g6 164 rfl rfl
theorem wd_6_165 : (Jvm.Cond.instanceMethod ({ cls := "java/lang/RuntimeException", name := "<init>", desc := "()V" } : Jvm.MethodName)) ∈ gw := g6 165 rfl rfl
theorem wd_6_166 : (Jvm.Cond.code ({ cls := "java/lang/RuntimeException", name := "<init>", desc := "()V" } : Jvm.MethodName) prog_22_method_1_code (1 : Nat) (Option.none : Option Jvm.ClassFile.FieldType)) ∈ gw := g6 166 rfl rfl
theorem wd_6_167 : (Jvm.Cond.methodLink "java/lang/RuntimeException" (1 : Nat) ({ cls := "java/lang/Exception", name := "<init>", desc := "()V" } : Jvm.MethodName)) ∈ gw := g6 167 rfl rfl
theorem wd_6_168 : (Jvm.Cond.instanceMethod ({ cls := "java/lang/Exception", name := "<init>", desc := "()V" } : Jvm.MethodName)) ∈ gw := g6 168 rfl rfl
theorem wd_6_169 : (Jvm.Cond.code ({ cls := "java/lang/Exception", name := "<init>", desc := "()V" } : Jvm.MethodName) prog_19_method_1_code (1 : Nat) (Option.none : Option Jvm.ClassFile.FieldType)) ∈ gw := g6 169 rfl rfl
theorem wd_6_170 : (Jvm.Cond.methodLink "java/lang/Exception" (1 : Nat) ({ cls := "java/lang/Throwable", name := "<init>", desc := "()V" } : Jvm.MethodName)) ∈ gw := g6 170 rfl rfl
theorem wd_6_171 : (Jvm.Cond.fieldLink "java/lang/Throwable" (198 : Nat) "java/lang/Throwable" "backtrace" "Ljava/lang/Object;") ∈ gw := g6 171 rfl rfl
theorem wd_6_172 : (Jvm.Cond.fieldLink "java/lang/Throwable" (7 : Nat) "java/lang/Throwable" "cause" "Ljava/lang/Throwable;") ∈ gw := g6 172 rfl rfl
theorem wd_6_173 : (Jvm.Cond.fieldLink "java/lang/Throwable" (17 : Nat) "java/lang/Throwable" "stackTrace" "[Ljava/lang/StackTraceElement;") ∈ gw := g6 173 rfl rfl
theorem wd_6_174 : (Jvm.Cond.fieldLink "java/lang/Throwable" (24 : Nat) "java/lang/Throwable" "suppressedExceptions" "Ljava/util/List;") ∈ gw := g6 174 rfl rfl
theorem wd_6_182 : (Jvm.Cond.superclass "java/util/NoSuchElementException" "java/lang/RuntimeException") ∈ gw := g6 182 rfl rfl
theorem wd_6_183 : (Jvm.Cond.methodLink "NameRingLaw" (118 : Nat) ({ cls := "NameRingModel", name := "thrown", desc := "()I" } : Jvm.MethodName)) ∈ gw := g6 183 rfl rfl
theorem wd_6_184 : (Jvm.Cond.instanceMethod ({ cls := "NameRingModel", name := "thrown", desc := "()I" } : Jvm.MethodName)) ∈ gw := g6 184 rfl rfl
theorem wd_6_185 : (Jvm.Cond.selects "NameRingModel" ({ cls := "NameRingModel", name := "thrown", desc := "()I" } : Jvm.MethodName) ({ cls := "NameRingModel", name := "thrown", desc := "()I" } : Jvm.MethodName)) ∈ gw := g6 185 rfl rfl
theorem wd_6_186 : (Jvm.Cond.code ({ cls := "NameRingModel", name := "thrown", desc := "()I" } : Jvm.MethodName) prog_14_method_1_code (1 : Nat) (Option.some Jvm.ClassFile.FieldType.int)) ∈ gw := g6 186 rfl rfl
theorem wd_6_187 : (Jvm.Cond.methodLink "NameRingLaw" (25 : Nat) ({ cls := "NameRingModel", name := "feed", desc := "(JJJ)I" } : Jvm.MethodName)) ∈ gw := g6 187 rfl rfl
theorem wd_6_188 : (Jvm.Cond.instanceMethod ({ cls := "NameRingModel", name := "feed", desc := "(JJJ)I" } : Jvm.MethodName)) ∈ gw := g6 188 rfl rfl
theorem wd_6_189 : (Jvm.Cond.selects "NameRingModel" ({ cls := "NameRingModel", name := "feed", desc := "(JJJ)I" } : Jvm.MethodName) ({ cls := "NameRingModel", name := "feed", desc := "(JJJ)I" } : Jvm.MethodName)) ∈ gw := g6 189 rfl rfl
theorem wd_6_190 : (Jvm.Cond.code ({ cls := "NameRingModel", name := "feed", desc := "(JJJ)I" } : Jvm.MethodName) prog_14_method_2_code (7 : Nat) (Option.some Jvm.ClassFile.FieldType.int)) ∈ gw := g6 190 rfl rfl
theorem wd_6_191 : (Jvm.Cond.methodLink "NameRingModel" (7 : Nat) ({ cls := "NameRingModel", name := "lay", desc := "(J)V" } : Jvm.MethodName)) ∈ gw := g6 191 rfl rfl
theorem wd_6_193 : (Jvm.Cond.instanceMethod ({ cls := "NameRingModel", name := "lay", desc := "(J)V" } : Jvm.MethodName)) ∈ gw := g6 193 rfl rfl
theorem wd_6_194 : (Jvm.Cond.instantiable "NameRingModel" (26 : Nat)) ∈ gw := g6 194 rfl rfl
theorem wd_6_195 : (Jvm.Cond.code ({ cls := "NameRingModel", name := "lay", desc := "(J)V" } : Jvm.MethodName) prog_14_method_3_code (5 : Nat) (Option.none : Option Jvm.ClassFile.FieldType)) ∈ gw := g6 195 rfl rfl
theorem wd_6_196 : (Jvm.Cond.classLink "NameRingLaw" (16 : Nat) "NameRingModel") ∈ gw := g6 196 rfl rfl
theorem wd_6_197 : (Jvm.Cond.methodLink "NameRingLaw" (18 : Nat) ({ cls := "NameRingModel", name := "<init>", desc := "()V" } : Jvm.MethodName)) ∈ gw := g6 197 rfl rfl
theorem wd_6_198 : (Jvm.Cond.instanceMethod ({ cls := "NameRingModel", name := "<init>", desc := "()V" } : Jvm.MethodName)) ∈ gw := g6 198 rfl rfl
theorem wd_6_199 : (Jvm.Cond.code ({ cls := "NameRingModel", name := "<init>", desc := "()V" } : Jvm.MethodName) prog_14_method_4_code (1 : Nat) (Option.none : Option Jvm.ClassFile.FieldType)) ∈ gw := g6 199 rfl rfl
theorem wd_6_200 : (Jvm.Cond.methodLink "NameRingModel" (18 : Nat) ({ cls := "java/lang/Object", name := "<init>", desc := "()V" } : Jvm.MethodName)) ∈ gw := g6 200 rfl rfl
theorem wd_6_201 : (Jvm.Cond.constantLong "NameRingModel" (34 : Nat) (225815630 : Int64)) ∈ gw := g6 201 rfl rfl
theorem wd_6_202 : (Jvm.Cond.constantLong "NameRingModel" (36 : Nat) (620880 : Int64)) ∈ gw := g6 202 rfl rfl
theorem wd_6_203 : (Jvm.Cond.constantLong "NameRingModel" (38 : Nat) (729830 : Int64)) ∈ gw := g6 203 rfl rfl
theorem wd_6_204 : (Jvm.Cond.constantLong "NameRingModel" (40 : Nat) (15269 : Int64)) ∈ gw := g6 204 rfl rfl
theorem wd_6_205 : (Jvm.Cond.constantLong "NameRingModel" (42 : Nat) (57 : Int64)) ∈ gw := g6 205 rfl rfl
theorem wd_6_206 : (Jvm.Cond.constantLong "NameRingModel" (44 : Nat) (620361 : Int64)) ∈ gw := g6 206 rfl rfl
theorem wd_6_207 : (Jvm.Cond.constantLong "NameRingModel" (46 : Nat) (4011517 : Int64)) ∈ gw := g6 207 rfl rfl
theorem wd_6_208 : (Jvm.Cond.constantLong "NameRingModel" (48 : Nat) (527412 : Int64)) ∈ gw := g6 208 rfl rfl
theorem wd_6_209 : (Jvm.Cond.constantLong "NameRingModel" (50 : Nat) (22745385 : Int64)) ∈ gw := g6 209 rfl rfl
theorem wd_6_210 : (Jvm.Cond.constantLong "NameRingModel" (52 : Nat) (305632 : Int64)) ∈ gw := g6 210 rfl rfl
theorem wd_6_211 : (Jvm.Cond.constantLong "NameRingModel" (54 : Nat) (1025554 : Int64)) ∈ gw := g6 211 rfl rfl
theorem wd_6_212 : (Jvm.Cond.constantLong "NameRingModel" (56 : Nat) (11882262 : Int64)) ∈ gw := g6 212 rfl rfl
theorem wd_6_213 : (Jvm.Cond.constantLong "NameRingModel" (58 : Nat) (8571 : Int64)) ∈ gw := g6 213 rfl rfl
theorem wd_6_214 : (Jvm.Cond.constantLong "NameRingModel" (60 : Nat) (22701 : Int64)) ∈ gw := g6 214 rfl rfl
theorem wd_6_215 : (Jvm.Cond.constantLong "NameRingModel" (62 : Nat) (407115 : Int64)) ∈ gw := g6 215 rfl rfl
theorem wd_6_216 : (Jvm.Cond.constantLong "NameRingModel" (64 : Nat) (30596128 : Int64)) ∈ gw := g6 216 rfl rfl
theorem wd_6_217 : (Jvm.Cond.constantLong "NameRingModel" (66 : Nat) (36035504 : Int64)) ∈ gw := g6 217 rfl rfl
theorem wd_6_218 : (Jvm.Cond.constantLong "NameRingModel" (68 : Nat) (26332 : Int64)) ∈ gw := g6 218 rfl rfl
theorem wd_6_219 : (Jvm.Cond.constantLong "NameRingModel" (70 : Nat) (4369001 : Int64)) ∈ gw := g6 219 rfl rfl
theorem wd_6_220 : (Jvm.Cond.constantLong "NameRingModel" (72 : Nat) (19741 : Int64)) ∈ gw := g6 220 rfl rfl
theorem wd_6_221 : (Jvm.Cond.constantLong "NameRingModel" (74 : Nat) (1891 : Int64)) ∈ gw := g6 221 rfl rfl
theorem wd_6_222 : (Jvm.Cond.constantLong "NameRingModel" (76 : Nat) (573 : Int64)) ∈ gw := g6 222 rfl rfl
theorem wd_6_223 : (Jvm.Cond.constantLong "NameRingModel" (78 : Nat) (1034043 : Int64)) ∈ gw := g6 223 rfl rfl
theorem wd_6_224 : (Jvm.Cond.constantLong "NameRingModel" (80 : Nat) (43523367 : Int64)) ∈ gw := g6 224 rfl rfl
theorem wd_6_225 : (Jvm.Cond.constantLong "NameRingModel" (82 : Nat) (27003729 : Int64)) ∈ gw := g6 225 rfl rfl
theorem wd_6_226 : (Jvm.Cond.methodLink "NameRingModel" (124 : Nat) ({ cls := "NameRingModel", name := "standsAsAlways", desc := "(I)V" } : Jvm.MethodName)) ∈ gw := g6 226 rfl rfl
theorem wd_6_228 : (Jvm.Cond.instanceMethod ({ cls := "NameRingModel", name := "standsAsAlways", desc := "(I)V" } : Jvm.MethodName)) ∈ gw := g6 228 rfl rfl
theorem wd_6_229 : (Jvm.Cond.code ({ cls := "NameRingModel", name := "standsAsAlways", desc := "(I)V" } : Jvm.MethodName) prog_14_method_18_code (3 : Nat) (Option.none : Option Jvm.ClassFile.FieldType)) ∈ gw := g6 229 rfl rfl
theorem wd_6_230 : (Jvm.Cond.methodLink "NameRingModel" (128 : Nat) ({ cls := "NameRingModel", name := "begins", desc := "()V" } : Jvm.MethodName)) ∈ gw := g6 230 rfl rfl
theorem wd_6_232 : (Jvm.Cond.instanceMethod ({ cls := "NameRingModel", name := "begins", desc := "()V" } : Jvm.MethodName)) ∈ gw := g6 232 rfl rfl
theorem wd_6_233 : (Jvm.Cond.code ({ cls := "NameRingModel", name := "begins", desc := "()V" } : Jvm.MethodName) prog_14_method_53_code (2 : Nat) (Option.none : Option Jvm.ClassFile.FieldType)) ∈ gw := g6 233 rfl rfl
theorem wd_6_234 : (Jvm.Cond.methodLink "NameRingModel" (266 : Nat) ({ cls := "NameRingModel", name := "liesAll", desc := "()V" } : Jvm.MethodName)) ∈ gw := g6 234 rfl rfl
theorem wd_6_236 : (Jvm.Cond.instanceMethod ({ cls := "NameRingModel", name := "liesAll", desc := "()V" } : Jvm.MethodName)) ∈ gw := g6 236 rfl rfl
theorem wd_6_237 : (Jvm.Cond.code ({ cls := "NameRingModel", name := "liesAll", desc := "()V" } : Jvm.MethodName) prog_14_method_50_code (4 : Nat) (Option.none : Option Jvm.ClassFile.FieldType)) ∈ gw := g6 237 rfl rfl
theorem wd_6_238 : (Jvm.Cond.methodLink "NameRingModel" (229 : Nat) ({ cls := "NameRingModel", name := "keys", desc := "()I" } : Jvm.MethodName)) ∈ gw := g6 238 rfl rfl
theorem wd_7_0 : (Jvm.Cond.instanceMethod ({ cls := "NameRingModel", name := "keys", desc := "()I" } : Jvm.MethodName)) ∈ gw := g7 0 rfl rfl
theorem wd_7_1 : (Jvm.Cond.code ({ cls := "NameRingModel", name := "keys", desc := "()I" } : Jvm.MethodName) prog_14_method_44_code (1 : Nat) (Option.some Jvm.ClassFile.FieldType.int)) ∈ gw := g7 1 rfl rfl
theorem wd_7_2 : (Jvm.Cond.methodLink "NameRingModel" (257 : Nat) ({ cls := "NameRingModel", name := "circle", desc := "()I" } : Jvm.MethodName)) ∈ gw := g7 2 rfl rfl
theorem wd_7_4 : (Jvm.Cond.instanceMethod ({ cls := "NameRingModel", name := "circle", desc := "()I" } : Jvm.MethodName)) ∈ gw := g7 4 rfl rfl
theorem wd_7_5 : (Jvm.Cond.code ({ cls := "NameRingModel", name := "circle", desc := "()I" } : Jvm.MethodName) prog_14_method_42_code (1 : Nat) (Option.some Jvm.ClassFile.FieldType.int)) ∈ gw := g7 5 rfl rfl
theorem wd_7_6 : (Jvm.Cond.methodLink "NameRingModel" (236 : Nat) ({ cls := "NameRingModel", name := "nodes", desc := "()I" } : Jvm.MethodName)) ∈ gw := g7 6 rfl rfl
theorem wd_7_8 : (Jvm.Cond.instanceMethod ({ cls := "NameRingModel", name := "nodes", desc := "()I" } : Jvm.MethodName)) ∈ gw := g7 8 rfl rfl
theorem wd_7_9 : (Jvm.Cond.code ({ cls := "NameRingModel", name := "nodes", desc := "()I" } : Jvm.MethodName) prog_14_method_43_code (1 : Nat) (Option.some Jvm.ClassFile.FieldType.int)) ∈ gw := g7 9 rfl rfl
theorem wd_7_10 : (Jvm.Cond.methodLink "NameRingModel" (260 : Nat) ({ cls := "NameRingModel", name := "worthAt", desc := "(I)I" } : Jvm.MethodName)) ∈ gw := g7 10 rfl rfl
theorem wd_7_12 : (Jvm.Cond.instanceMethod ({ cls := "NameRingModel", name := "worthAt", desc := "(I)I" } : Jvm.MethodName)) ∈ gw := g7 12 rfl rfl
theorem wd_7_13 : (Jvm.Cond.code ({ cls := "NameRingModel", name := "worthAt", desc := "(I)I" } : Jvm.MethodName) prog_14_method_39_code (5 : Nat) (Option.some Jvm.ClassFile.FieldType.int)) ∈ gw := g7 13 rfl rfl
theorem wd_7_14 : (Jvm.Cond.methodLink "NameRingModel" (254 : Nat) ({ cls := "NameRingModel", name := "worked", desc := "(III)I" } : Jvm.MethodName)) ∈ gw := g7 14 rfl rfl
theorem wd_7_15 : (Jvm.Cond.static ({ cls := "NameRingModel", name := "worked", desc := "(III)I" } : Jvm.MethodName)) ∈ gw := g7 15 rfl rfl
theorem wd_7_16 : (Jvm.Cond.code ({ cls := "NameRingModel", name := "worked", desc := "(III)I" } : Jvm.MethodName) prog_14_method_40_code (3 : Nat) (Option.some Jvm.ClassFile.FieldType.int)) ∈ gw := g7 16 rfl rfl
theorem wd_7_17 : (Jvm.Cond.methodLink "NameRingModel" (269 : Nat) ({ cls := "NameRingModel", name := "starts", desc := "(I)V" } : Jvm.MethodName)) ∈ gw := g7 17 rfl rfl
theorem wd_7_19 : (Jvm.Cond.instanceMethod ({ cls := "NameRingModel", name := "starts", desc := "(I)V" } : Jvm.MethodName)) ∈ gw := g7 19 rfl rfl
theorem wd_7_20 : (Jvm.Cond.code ({ cls := "NameRingModel", name := "starts", desc := "(I)V" } : Jvm.MethodName) prog_14_method_52_code (3 : Nat) (Option.none : Option Jvm.ClassFile.FieldType)) ∈ gw := g7 20 rfl rfl
theorem wd_7_21 : (Jvm.Cond.methodLink "NameRingModel" (263 : Nat) ({ cls := "NameRingModel", name := "goesOut", desc := "(II)V" } : Jvm.MethodName)) ∈ gw := g7 21 rfl rfl
theorem wd_7_23 : (Jvm.Cond.instanceMethod ({ cls := "NameRingModel", name := "goesOut", desc := "(II)V" } : Jvm.MethodName)) ∈ gw := g7 23 rfl rfl
theorem wd_7_24 : (Jvm.Cond.code ({ cls := "NameRingModel", name := "goesOut", desc := "(II)V" } : Jvm.MethodName) prog_14_method_51_code (5 : Nat) (Option.none : Option Jvm.ClassFile.FieldType)) ∈ gw := g7 24 rfl rfl
theorem wd_7_25 : (Jvm.Cond.fieldLink "NameRingModel" (1 : Nat) "NameRingModel" "thrown" "I") ∈ gw := g7 25 rfl rfl
theorem wd_7_26 : (Jvm.Cond.fieldLink "NameRingModel" (14 : Nat) "NameRingModel" "tape" "[I") ∈ gw := g7 26 rfl rfl
theorem wd_7_27 : (Jvm.Cond.fieldLink "NameRingModel" (11 : Nat) "NameRingModel" "taped" "I") ∈ gw := g7 27 rfl rfl
theorem wd_7_28 : (Jvm.Cond.fieldLink "NameRingModel" (135 : Nat) "NameRingModel" "size" "I") ∈ gw := g7 28 rfl rfl
theorem wd_7_29 : (Jvm.Cond.fieldLink "NameRingModel" (24 : Nat) "NameRingModel" "sort" "[I") ∈ gw := g7 29 rfl rfl
theorem wd_7_30 : (Jvm.Cond.fieldLink "NameRingModel" (27 : Nat) "NameRingModel" "place" "[I") ∈ gw := g7 30 rfl rfl
theorem wd_7_31 : (Jvm.Cond.fieldLink "NameRingModel" (30 : Nat) "NameRingModel" "value" "[J") ∈ gw := g7 31 rfl rfl
theorem wd_7_32 : (Jvm.Cond.fieldLink "NameRingModel" (154 : Nat) "NameRingModel" "at" "I") ∈ gw := g7 32 rfl rfl
theorem wd_7_33 : (Jvm.Cond.fieldLink "NameRingModel" (157 : Nat) "NameRingModel" "fault" "I") ∈ gw := g7 33 rfl rfl
theorem wd_7_34 : (Jvm.Cond.fieldLink "NameRingModel" (84 : Nat) "NameRingModel" "words" "[J") ∈ gw := g7 34 rfl rfl
theorem wd_7_35 : (Jvm.Cond.fieldLink "NameRingModel" (87 : Nat) "NameRingModel" "rings" "[I") ∈ gw := g7 35 rfl rfl
theorem wd_7_36 : (Jvm.Cond.fieldLink "NameRingModel" (90 : Nat) "NameRingModel" "code" "[I") ∈ gw := g7 36 rfl rfl
theorem wd_7_37 : (Jvm.Cond.fieldLink "NameRingModel" (192 : Nat) "NameRingModel" "codes" "I") ∈ gw := g7 37 rfl rfl
theorem wd_7_38 : (Jvm.Cond.fieldLink "NameRingModel" (93 : Nat) "NameRingModel" "names" "[J") ∈ gw := g7 38 rfl rfl
theorem wd_7_39 : (Jvm.Cond.fieldLink "NameRingModel" (96 : Nat) "NameRingModel" "lines" "[I") ∈ gw := g7 39 rfl rfl
theorem wd_7_40 : (Jvm.Cond.fieldLink "NameRingModel" (99 : Nat) "NameRingModel" "facts" "[I") ∈ gw := g7 40 rfl rfl
theorem wd_7_41 : (Jvm.Cond.fieldLink "NameRingModel" (102 : Nat) "NameRingModel" "pile" "[I") ∈ gw := g7 41 rfl rfl
theorem wd_7_42 : (Jvm.Cond.fieldLink "NameRingModel" (105 : Nat) "NameRingModel" "state" "[I") ∈ gw := g7 42 rfl rfl
theorem wd_7_43 : (Jvm.Cond.fieldLink "NameRingModel" (272 : Nat) "NameRingModel" "undos" "I") ∈ gw := g7 43 rfl rfl
theorem wd_7_44 : (Jvm.Cond.fieldLink "NameRingModel" (108 : Nat) "NameRingModel" "isMarked" "[Z") ∈ gw := g7 44 rfl rfl
theorem wd_7_45 : (Jvm.Cond.fieldLink "NameRingModel" (112 : Nat) "NameRingModel" "lies" "[I") ∈ gw := g7 45 rfl rfl
theorem wd_7_46 : (Jvm.Cond.fieldLink "NameRingModel" (307 : Nat) "NameRingModel" "asked" "I") ∈ gw := g7 46 rfl rfl
theorem wd_7_47 : (Jvm.Cond.fieldLink "NameRingModel" (115 : Nat) "NameRingModel" "passed" "[I") ∈ gw := g7 47 rfl rfl
theorem wd_7_48 : (Jvm.Cond.fieldLink "NameRingModel" (118 : Nat) "NameRingModel" "row" "[I") ∈ gw := g7 48 rfl rfl
theorem wd_7_49 : (Jvm.Cond.fieldLink "NameRingModel" (121 : Nat) "NameRingModel" "groups" "[I") ∈ gw := g7 49 rfl rfl
theorem wd_7_50 : (Jvm.Cond.fieldLink "NameRingModel" (486 : Nat) "NameRingModel" "g" "J") ∈ gw := g7 50 rfl rfl
theorem wd_7_103 : (Jvm.Cond.superclass "NameRingModel" "java/lang/Object") ∈ gw := g7 103 rfl rfl
theorem wd_7_104 : (Jvm.Cond.methodLink "NameRingLaw" (30 : Nat) ({ cls := "NameRingModel", name := "ring", desc := "()I" } : Jvm.MethodName)) ∈ gw := g7 104 rfl rfl
theorem wd_7_105 : (Jvm.Cond.instanceMethod ({ cls := "NameRingModel", name := "ring", desc := "()I" } : Jvm.MethodName)) ∈ gw := g7 105 rfl rfl
theorem wd_7_106 : (Jvm.Cond.selects "NameRingModel" ({ cls := "NameRingModel", name := "ring", desc := "()I" } : Jvm.MethodName) ({ cls := "NameRingModel", name := "ring", desc := "()I" } : Jvm.MethodName)) ∈ gw := g7 106 rfl rfl
theorem wd_7_107 : (Jvm.Cond.code ({ cls := "NameRingModel", name := "ring", desc := "()I" } : Jvm.MethodName) prog_14_method_26_code (2 : Nat) (Option.some Jvm.ClassFile.FieldType.int)) ∈ gw := g7 107 rfl rfl
theorem wd_7_108 : (Jvm.Cond.methodLink "NameRingModel" (189 : Nat) ({ cls := "NameRingModel", name := "cutAll", desc := "()V" } : Jvm.MethodName)) ∈ gw := g7 108 rfl rfl
theorem wd_7_110 : (Jvm.Cond.instanceMethod ({ cls := "NameRingModel", name := "cutAll", desc := "()V" } : Jvm.MethodName)) ∈ gw := g7 110 rfl rfl
theorem wd_7_111 : (Jvm.Cond.code ({ cls := "NameRingModel", name := "cutAll", desc := "()V" } : Jvm.MethodName) prog_14_method_9_code (7 : Nat) (Option.none : Option Jvm.ClassFile.FieldType)) ∈ gw := g7 111 rfl rfl
theorem wd_7_112 : (Jvm.Cond.methodLink "NameRingModel" (131 : Nat) ({ cls := "NameRingModel", name := "isLetter", desc := "(I)Z" } : Jvm.MethodName)) ∈ gw := g7 112 rfl rfl
theorem wd_7_113 : (Jvm.Cond.static ({ cls := "NameRingModel", name := "isLetter", desc := "(I)Z" } : Jvm.MethodName)) ∈ gw := g7 113 rfl rfl
theorem wd_7_114 : (Jvm.Cond.code ({ cls := "NameRingModel", name := "isLetter", desc := "(I)Z" } : Jvm.MethodName) prog_14_method_5_code (1 : Nat) (Option.some Jvm.ClassFile.FieldType.boolean)) ∈ gw := g7 114 rfl rfl
theorem wd_7_115 : (Jvm.Cond.constantLong "NameRingModel" (138 : Nat) (37 : Int64)) ∈ gw := g7 115 rfl rfl
theorem wd_7_116 : (Jvm.Cond.methodLink "NameRingModel" (140 : Nat) ({ cls := "NameRingModel", name := "rank", desc := "(I)I" } : Jvm.MethodName)) ∈ gw := g7 116 rfl rfl
theorem wd_7_117 : (Jvm.Cond.static ({ cls := "NameRingModel", name := "rank", desc := "(I)I" } : Jvm.MethodName)) ∈ gw := g7 117 rfl rfl
theorem wd_7_118 : (Jvm.Cond.code ({ cls := "NameRingModel", name := "rank", desc := "(I)I" } : Jvm.MethodName) prog_14_method_7_code (1 : Nat) (Option.some Jvm.ClassFile.FieldType.int)) ∈ gw := g7 118 rfl rfl
theorem wd_7_119 : (Jvm.Cond.methodLink "NameRingModel" (144 : Nat) ({ cls := "NameRingModel", name := "isDigit", desc := "(I)Z" } : Jvm.MethodName)) ∈ gw := g7 119 rfl rfl
theorem wd_7_120 : (Jvm.Cond.static ({ cls := "NameRingModel", name := "isDigit", desc := "(I)Z" } : Jvm.MethodName)) ∈ gw := g7 120 rfl rfl
theorem wd_7_121 : (Jvm.Cond.code ({ cls := "NameRingModel", name := "isDigit", desc := "(I)Z" } : Jvm.MethodName) prog_14_method_6_code (1 : Nat) (Option.some Jvm.ClassFile.FieldType.boolean)) ∈ gw := g7 121 rfl rfl
theorem wd_7_122 : (Jvm.Cond.constantLong "NameRingModel" (147 : Nat) (10 : Int64)) ∈ gw := g7 122 rfl rfl
theorem wd_7_123 : (Jvm.Cond.constantLong "NameRingModel" (149 : Nat) (48 : Int64)) ∈ gw := g7 123 rfl rfl
theorem wd_7_124 : (Jvm.Cond.methodLink "NameRingModel" (151 : Nat) ({ cls := "NameRingModel", name := "isSignOf", desc := "(I)Z" } : Jvm.MethodName)) ∈ gw := g7 124 rfl rfl
theorem wd_7_125 : (Jvm.Cond.static ({ cls := "NameRingModel", name := "isSignOf", desc := "(I)Z" } : Jvm.MethodName)) ∈ gw := g7 125 rfl rfl
theorem wd_7_126 : (Jvm.Cond.code ({ cls := "NameRingModel", name := "isSignOf", desc := "(I)Z" } : Jvm.MethodName) prog_14_method_8_code (1 : Nat) (Option.some Jvm.ClassFile.FieldType.boolean)) ∈ gw := g7 126 rfl rfl
theorem wd_7_127 : (Jvm.Cond.methodLink "NameRingModel" (195 : Nat) ({ cls := "NameRingModel", name := "readLine", desc := "()V" } : Jvm.MethodName)) ∈ gw := g7 127 rfl rfl
theorem wd_7_129 : (Jvm.Cond.instanceMethod ({ cls := "NameRingModel", name := "readLine", desc := "()V" } : Jvm.MethodName)) ∈ gw := g7 129 rfl rfl
theorem wd_7_130 : (Jvm.Cond.code ({ cls := "NameRingModel", name := "readLine", desc := "()V" } : Jvm.MethodName) prog_14_method_30_code (3 : Nat) (Option.none : Option Jvm.ClassFile.FieldType)) ∈ gw := g7 130 rfl rfl
theorem wd_7_131 : (Jvm.Cond.methodLink "NameRingModel" (166 : Nat) ({ cls := "NameRingModel", name := "isWord", desc := "(I)Z" } : Jvm.MethodName)) ∈ gw := g7 131 rfl rfl
theorem wd_7_133 : (Jvm.Cond.instanceMethod ({ cls := "NameRingModel", name := "isWord", desc := "(I)Z" } : Jvm.MethodName)) ∈ gw := g7 133 rfl rfl
theorem wd_7_134 : (Jvm.Cond.code ({ cls := "NameRingModel", name := "isWord", desc := "(I)Z" } : Jvm.MethodName) prog_14_method_12_code (2 : Nat) (Option.some Jvm.ClassFile.FieldType.boolean)) ∈ gw := g7 134 rfl rfl
theorem wd_7_135 : (Jvm.Cond.methodLink "NameRingModel" (201 : Nat) ({ cls := "NameRingModel", name := "told", desc := "(I)I" } : Jvm.MethodName)) ∈ gw := g7 135 rfl rfl
theorem wd_7_137 : (Jvm.Cond.instanceMethod ({ cls := "NameRingModel", name := "told", desc := "(I)I" } : Jvm.MethodName)) ∈ gw := g7 137 rfl rfl
theorem wd_7_138 : (Jvm.Cond.code ({ cls := "NameRingModel", name := "told", desc := "(I)I" } : Jvm.MethodName) prog_14_method_27_code (2 : Nat) (Option.some Jvm.ClassFile.FieldType.int)) ∈ gw := g7 138 rfl rfl
theorem wd_7_139 : (Jvm.Cond.methodLink "NameRingModel" (204 : Nat) ({ cls := "NameRingModel", name := "readOnce", desc := "(Z)Z" } : Jvm.MethodName)) ∈ gw := g7 139 rfl rfl
theorem wd_7_141 : (Jvm.Cond.instanceMethod ({ cls := "NameRingModel", name := "readOnce", desc := "(Z)Z" } : Jvm.MethodName)) ∈ gw := g7 141 rfl rfl
theorem wd_7_142 : (Jvm.Cond.code ({ cls := "NameRingModel", name := "readOnce", desc := "(Z)Z" } : Jvm.MethodName) prog_14_method_29_code (2 : Nat) (Option.some Jvm.ClassFile.FieldType.boolean)) ∈ gw := g7 142 rfl rfl
theorem wd_7_143 : (Jvm.Cond.methodLink "NameRingModel" (163 : Nat) ({ cls := "NameRingModel", name := "wrong", desc := "(I)V" } : Jvm.MethodName)) ∈ gw := g7 143 rfl rfl
theorem wd_7_145 : (Jvm.Cond.instanceMethod ({ cls := "NameRingModel", name := "wrong", desc := "(I)V" } : Jvm.MethodName)) ∈ gw := g7 145 rfl rfl
theorem wd_7_146 : (Jvm.Cond.code ({ cls := "NameRingModel", name := "wrong", desc := "(I)V" } : Jvm.MethodName) prog_14_method_10_code (2 : Nat) (Option.none : Option Jvm.ClassFile.FieldType)) ∈ gw := g7 146 rfl rfl
theorem wd_7_147 : (Jvm.Cond.methodLink "NameRingModel" (175 : Nat) ({ cls := "NameRingModel", name := "takeNumber", desc := "(II)I" } : Jvm.MethodName)) ∈ gw := g7 147 rfl rfl
theorem wd_7_149 : (Jvm.Cond.instanceMethod ({ cls := "NameRingModel", name := "takeNumber", desc := "(II)I" } : Jvm.MethodName)) ∈ gw := g7 149 rfl rfl
theorem wd_7_150 : (Jvm.Cond.code ({ cls := "NameRingModel", name := "takeNumber", desc := "(II)I" } : Jvm.MethodName) prog_14_method_19_code (3 : Nat) (Option.some Jvm.ClassFile.FieldType.int)) ∈ gw := g7 150 rfl rfl
theorem wd_7_151 : (Jvm.Cond.methodLink "NameRingModel" (208 : Nat) ({ cls := "NameRingModel", name := "readNode", desc := "()V" } : Jvm.MethodName)) ∈ gw := g7 151 rfl rfl
theorem wd_7_153 : (Jvm.Cond.instanceMethod ({ cls := "NameRingModel", name := "readNode", desc := "()V" } : Jvm.MethodName)) ∈ gw := g7 153 rfl rfl
theorem wd_7_154 : (Jvm.Cond.code ({ cls := "NameRingModel", name := "readNode", desc := "()V" } : Jvm.MethodName) prog_14_method_31_code (4 : Nat) (Option.none : Option Jvm.ClassFile.FieldType)) ∈ gw := g7 154 rfl rfl
theorem wd_7_155 : (Jvm.Cond.methodLink "NameRingModel" (211 : Nat) ({ cls := "NameRingModel", name := "readName", desc := "(III)V" } : Jvm.MethodName)) ∈ gw := g7 155 rfl rfl
theorem wd_7_157 : (Jvm.Cond.instanceMethod ({ cls := "NameRingModel", name := "readName", desc := "(III)V" } : Jvm.MethodName)) ∈ gw := g7 157 rfl rfl
theorem wd_7_158 : (Jvm.Cond.code ({ cls := "NameRingModel", name := "readName", desc := "(III)V" } : Jvm.MethodName) prog_14_method_28_code (4 : Nat) (Option.none : Option Jvm.ClassFile.FieldType)) ∈ gw := g7 158 rfl rfl
theorem wd_7_159 : (Jvm.Cond.methodLink "NameRingModel" (182 : Nat) ({ cls := "NameRingModel", name := "isName", desc := "()Z" } : Jvm.MethodName)) ∈ gw := g7 159 rfl rfl
theorem wd_7_161 : (Jvm.Cond.instanceMethod ({ cls := "NameRingModel", name := "isName", desc := "()Z" } : Jvm.MethodName)) ∈ gw := g7 161 rfl rfl
theorem wd_7_162 : (Jvm.Cond.code ({ cls := "NameRingModel", name := "isName", desc := "()Z" } : Jvm.MethodName) prog_14_method_23_code (1 : Nat) (Option.some Jvm.ClassFile.FieldType.boolean)) ∈ gw := g7 162 rfl rfl
theorem wd_7_163 : (Jvm.Cond.methodLink "NameRingModel" (179 : Nat) ({ cls := "NameRingModel", name := "wordHere", desc := "(II)I" } : Jvm.MethodName)) ∈ gw := g7 163 rfl rfl
theorem wd_7_165 : (Jvm.Cond.instanceMethod ({ cls := "NameRingModel", name := "wordHere", desc := "(II)I" } : Jvm.MethodName)) ∈ gw := g7 165 rfl rfl
theorem wd_7_166 : (Jvm.Cond.code ({ cls := "NameRingModel", name := "wordHere", desc := "(II)I" } : Jvm.MethodName) prog_14_method_21_code (5 : Nat) (Option.some Jvm.ClassFile.FieldType.int)) ∈ gw := g7 166 rfl rfl
theorem wd_7_167 : (Jvm.Cond.methodLink "NameRingModel" (186 : Nat) ({ cls := "NameRingModel", name := "nameAt", desc := "(II)I" } : Jvm.MethodName)) ∈ gw := g7 167 rfl rfl
theorem wd_7_169 : (Jvm.Cond.instanceMethod ({ cls := "NameRingModel", name := "nameAt", desc := "(II)I" } : Jvm.MethodName)) ∈ gw := g7 169 rfl rfl
theorem wd_7_170 : (Jvm.Cond.code ({ cls := "NameRingModel", name := "nameAt", desc := "(II)I" } : Jvm.MethodName) prog_14_method_24_code (5 : Nat) (Option.some Jvm.ClassFile.FieldType.int)) ∈ gw := g7 170 rfl rfl
theorem wd_7_171 : (Jvm.Cond.methodLink "NameRingModel" (226 : Nat) ({ cls := "NameRingModel", name := "takeOne", desc := "(II)I" } : Jvm.MethodName)) ∈ gw := g7 171 rfl rfl
theorem wd_7_173 : (Jvm.Cond.instanceMethod ({ cls := "NameRingModel", name := "takeOne", desc := "(II)I" } : Jvm.MethodName)) ∈ gw := g7 173 rfl rfl
theorem wd_7_174 : (Jvm.Cond.code ({ cls := "NameRingModel", name := "takeOne", desc := "(II)I" } : Jvm.MethodName) prog_14_method_22_code (4 : Nat) (Option.some Jvm.ClassFile.FieldType.int)) ∈ gw := g7 174 rfl rfl
theorem wd_7_175 : (Jvm.Cond.methodLink "NameRingModel" (172 : Nat) ({ cls := "NameRingModel", name := "takeWord", desc := "(I)V" } : Jvm.MethodName)) ∈ gw := g7 175 rfl rfl
theorem wd_7_177 : (Jvm.Cond.instanceMethod ({ cls := "NameRingModel", name := "takeWord", desc := "(I)V" } : Jvm.MethodName)) ∈ gw := g7 177 rfl rfl
theorem wd_7_178 : (Jvm.Cond.code ({ cls := "NameRingModel", name := "takeWord", desc := "(I)V" } : Jvm.MethodName) prog_14_method_16_code (2 : Nat) (Option.none : Option Jvm.ClassFile.FieldType)) ∈ gw := g7 178 rfl rfl
theorem wd_7_179 : (Jvm.Cond.methodLink "NameRingModel" (169 : Nat) ({ cls := "NameRingModel", name := "hasWord", desc := "(I)Z" } : Jvm.MethodName)) ∈ gw := g7 179 rfl rfl
theorem wd_7_181 : (Jvm.Cond.instanceMethod ({ cls := "NameRingModel", name := "hasWord", desc := "(I)Z" } : Jvm.MethodName)) ∈ gw := g7 181 rfl rfl
theorem wd_7_182 : (Jvm.Cond.code ({ cls := "NameRingModel", name := "hasWord", desc := "(I)Z" } : Jvm.MethodName) prog_14_method_15_code (3 : Nat) (Option.some Jvm.ClassFile.FieldType.boolean)) ∈ gw := g7 182 rfl rfl
theorem wd_7_183 : (Jvm.Cond.methodLink "NameRingModel" (215 : Nat) ({ cls := "NameRingModel", name := "takeAfter", desc := "(III)I" } : Jvm.MethodName)) ∈ gw := g7 183 rfl rfl
theorem wd_7_185 : (Jvm.Cond.instanceMethod ({ cls := "NameRingModel", name := "takeAfter", desc := "(III)I" } : Jvm.MethodName)) ∈ gw := g7 185 rfl rfl
theorem wd_7_186 : (Jvm.Cond.code ({ cls := "NameRingModel", name := "takeAfter", desc := "(III)I" } : Jvm.MethodName) prog_14_method_20_code (4 : Nat) (Option.some Jvm.ClassFile.FieldType.int)) ∈ gw := g7 186 rfl rfl
theorem wd_7_187 : (Jvm.Cond.methodLink "NameRingModel" (219 : Nat) ({ cls := "NameRingModel", name := "allOf", desc := "(I)V" } : Jvm.MethodName)) ∈ gw := g7 187 rfl rfl
theorem wd_7_189 : (Jvm.Cond.instanceMethod ({ cls := "NameRingModel", name := "allOf", desc := "(I)V" } : Jvm.MethodName)) ∈ gw := g7 189 rfl rfl
theorem wd_7_190 : (Jvm.Cond.code ({ cls := "NameRingModel", name := "allOf", desc := "(I)V" } : Jvm.MethodName) prog_14_method_34_code (3 : Nat) (Option.none : Option Jvm.ClassFile.FieldType)) ∈ gw := g7 190 rfl rfl
theorem wd_7_191 : (Jvm.Cond.methodLink "NameRingModel" (239 : Nat) ({ cls := "NameRingModel", name := "test", desc := "(I)V" } : Jvm.MethodName)) ∈ gw := g7 191 rfl rfl
theorem wd_7_193 : (Jvm.Cond.instanceMethod ({ cls := "NameRingModel", name := "test", desc := "(I)V" } : Jvm.MethodName)) ∈ gw := g7 193 rfl rfl
theorem wd_7_194 : (Jvm.Cond.code ({ cls := "NameRingModel", name := "test", desc := "(I)V" } : Jvm.MethodName) prog_14_method_35_code (3 : Nat) (Option.none : Option Jvm.ClassFile.FieldType)) ∈ gw := g7 194 rfl rfl
theorem wd_7_195 : (Jvm.Cond.methodLink "NameRingModel" (242 : Nat) ({ cls := "NameRingModel", name := "sums", desc := "(I)V" } : Jvm.MethodName)) ∈ gw := g7 195 rfl rfl
theorem wd_7_197 : (Jvm.Cond.instanceMethod ({ cls := "NameRingModel", name := "sums", desc := "(I)V" } : Jvm.MethodName)) ∈ gw := g7 197 rfl rfl
theorem wd_7_198 : (Jvm.Cond.code ({ cls := "NameRingModel", name := "sums", desc := "(I)V" } : Jvm.MethodName) prog_14_method_36_code (3 : Nat) (Option.none : Option Jvm.ClassFile.FieldType)) ∈ gw := g7 198 rfl rfl
theorem wd_7_199 : (Jvm.Cond.methodLink "NameRingModel" (248 : Nat) ({ cls := "NameRingModel", name := "products", desc := "(I)V" } : Jvm.MethodName)) ∈ gw := g7 199 rfl rfl
theorem wd_7_201 : (Jvm.Cond.instanceMethod ({ cls := "NameRingModel", name := "products", desc := "(I)V" } : Jvm.MethodName)) ∈ gw := g7 201 rfl rfl
theorem wd_7_202 : (Jvm.Cond.code ({ cls := "NameRingModel", name := "products", desc := "(I)V" } : Jvm.MethodName) prog_14_method_37_code (2 : Nat) (Option.none : Option Jvm.ClassFile.FieldType)) ∈ gw := g7 202 rfl rfl
theorem wd_7_203 : (Jvm.Cond.methodLink "NameRingModel" (251 : Nat) ({ cls := "NameRingModel", name := "takePart", desc := "(I)V" } : Jvm.MethodName)) ∈ gw := g7 203 rfl rfl
theorem wd_7_205 : (Jvm.Cond.instanceMethod ({ cls := "NameRingModel", name := "takePart", desc := "(I)V" } : Jvm.MethodName)) ∈ gw := g7 205 rfl rfl
theorem wd_7_206 : (Jvm.Cond.code ({ cls := "NameRingModel", name := "takePart", desc := "(I)V" } : Jvm.MethodName) prog_14_method_38_code (4 : Nat) (Option.none : Option Jvm.ClassFile.FieldType)) ∈ gw := g7 206 rfl rfl
theorem wd_7_207 : (Jvm.Cond.methodLink "NameRingModel" (160 : Nat) ({ cls := "NameRingModel", name := "isSign", desc := "(I)Z" } : Jvm.MethodName)) ∈ gw := g7 207 rfl rfl
theorem wd_7_209 : (Jvm.Cond.instanceMethod ({ cls := "NameRingModel", name := "isSign", desc := "(I)Z" } : Jvm.MethodName)) ∈ gw := g7 209 rfl rfl
theorem wd_7_210 : (Jvm.Cond.code ({ cls := "NameRingModel", name := "isSign", desc := "(I)Z" } : Jvm.MethodName) prog_14_method_11_code (2 : Nat) (Option.some Jvm.ClassFile.FieldType.boolean)) ∈ gw := g7 210 rfl rfl
theorem wd_7_211 : (Jvm.Cond.methodLink "NameRingModel" (222 : Nat) ({ cls := "NameRingModel", name := "emit", desc := "(II)V" } : Jvm.MethodName)) ∈ gw := g7 211 rfl rfl
theorem wd_7_213 : (Jvm.Cond.instanceMethod ({ cls := "NameRingModel", name := "emit", desc := "(II)V" } : Jvm.MethodName)) ∈ gw := g7 213 rfl rfl
theorem wd_7_214 : (Jvm.Cond.code ({ cls := "NameRingModel", name := "emit", desc := "(II)V" } : Jvm.MethodName) prog_14_method_33_code (3 : Nat) (Option.none : Option Jvm.ClassFile.FieldType)) ∈ gw := g7 214 rfl rfl
theorem wd_7_215 : (Jvm.Cond.methodLink "NameRingModel" (245 : Nat) ({ cls := "NameRingModel", name := "hasSign", desc := "(I)Z" } : Jvm.MethodName)) ∈ gw := g7 215 rfl rfl
theorem wd_7_217 : (Jvm.Cond.instanceMethod ({ cls := "NameRingModel", name := "hasSign", desc := "(I)Z" } : Jvm.MethodName)) ∈ gw := g7 217 rfl rfl
theorem wd_7_218 : (Jvm.Cond.code ({ cls := "NameRingModel", name := "hasSign", desc := "(I)Z" } : Jvm.MethodName) prog_14_method_14_code (3 : Nat) (Option.some Jvm.ClassFile.FieldType.boolean)) ∈ gw := g7 218 rfl rfl
theorem wd_7_219 : (Jvm.Cond.methodLink "NameRingModel" (198 : Nat) ({ cls := "NameRingModel", name := "takeSign", desc := "(I)V" } : Jvm.MethodName)) ∈ gw := g7 219 rfl rfl
theorem wd_7_221 : (Jvm.Cond.instanceMethod ({ cls := "NameRingModel", name := "takeSign", desc := "(I)V" } : Jvm.MethodName)) ∈ gw := g7 221 rfl rfl
theorem wd_7_222 : (Jvm.Cond.code ({ cls := "NameRingModel", name := "takeSign", desc := "(I)V" } : Jvm.MethodName) prog_14_method_13_code (2 : Nat) (Option.none : Option Jvm.ClassFile.FieldType)) ∈ gw := g7 222 rfl rfl
theorem wd_7_223 : (Jvm.Cond.methodLink "NameRingLaw" (34 : Nat) ({ cls := "NameRingModel", name := "work", desc := "()I" } : Jvm.MethodName)) ∈ gw := g7 223 rfl rfl
theorem wd_7_224 : (Jvm.Cond.instanceMethod ({ cls := "NameRingModel", name := "work", desc := "()I" } : Jvm.MethodName)) ∈ gw := g7 224 rfl rfl
theorem wd_7_225 : (Jvm.Cond.selects "NameRingModel" ({ cls := "NameRingModel", name := "work", desc := "()I" } : Jvm.MethodName) ({ cls := "NameRingModel", name := "work", desc := "()I" } : Jvm.MethodName)) ∈ gw := g7 225 rfl rfl
theorem wd_7_226 : (Jvm.Cond.code ({ cls := "NameRingModel", name := "work", desc := "()I" } : Jvm.MethodName) prog_14_method_32_code (4 : Nat) (Option.some Jvm.ClassFile.FieldType.int)) ∈ gw := g7 226 rfl rfl
theorem wd_7_227 : (Jvm.Cond.methodLink "NameRingModel" (233 : Nat) ({ cls := "NameRingModel", name := "takeTold", desc := "(II)I" } : Jvm.MethodName)) ∈ gw := g7 227 rfl rfl
theorem wd_7_229 : (Jvm.Cond.instanceMethod ({ cls := "NameRingModel", name := "takeTold", desc := "(II)I" } : Jvm.MethodName)) ∈ gw := g7 229 rfl rfl
theorem wd_7_230 : (Jvm.Cond.code ({ cls := "NameRingModel", name := "takeTold", desc := "(II)I" } : Jvm.MethodName) prog_14_method_25_code (4 : Nat) (Option.some Jvm.ClassFile.FieldType.int)) ∈ gw := g7 230 rfl rfl
theorem wd_7_231 : (Jvm.Cond.methodLink "NameRingLaw" (56 : Nat) ({ cls := "NameRingModel", name := "start", desc := "(I)Z" } : Jvm.MethodName)) ∈ gw := g7 231 rfl rfl
theorem wd_7_232 : (Jvm.Cond.instanceMethod ({ cls := "NameRingModel", name := "start", desc := "(I)Z" } : Jvm.MethodName)) ∈ gw := g7 232 rfl rfl
theorem wd_7_233 : (Jvm.Cond.selects "NameRingModel" ({ cls := "NameRingModel", name := "start", desc := "(I)Z" } : Jvm.MethodName) ({ cls := "NameRingModel", name := "start", desc := "(I)Z" } : Jvm.MethodName)) ∈ gw := g7 233 rfl rfl
theorem wd_7_234 : (Jvm.Cond.code ({ cls := "NameRingModel", name := "start", desc := "(I)Z" } : Jvm.MethodName) prog_14_method_91_code (2 : Nat) (Option.some Jvm.ClassFile.FieldType.boolean)) ∈ gw := g7 234 rfl rfl
theorem wd_7_235 : (Jvm.Cond.methodLink "NameRingModel" (383 : Nat) ({ cls := "NameRingModel", name := "aside", desc := "()V" } : Jvm.MethodName)) ∈ gw := g7 235 rfl rfl
theorem wd_7_237 : (Jvm.Cond.instanceMethod ({ cls := "NameRingModel", name := "aside", desc := "()V" } : Jvm.MethodName)) ∈ gw := g7 237 rfl rfl
theorem wd_7_238 : (Jvm.Cond.code ({ cls := "NameRingModel", name := "aside", desc := "()V" } : Jvm.MethodName) prog_14_method_54_code (1 : Nat) (Option.none : Option Jvm.ClassFile.FieldType)) ∈ gw := g7 238 rfl rfl
theorem wd_7_239 : (Jvm.Cond.methodLink "NameRingModel" (275 : Nat) ({ cls := "NameRingModel", name := "copies", desc := "(III)V" } : Jvm.MethodName)) ∈ gw := g7 239 rfl rfl
theorem wd_8_1 : (Jvm.Cond.instanceMethod ({ cls := "NameRingModel", name := "copies", desc := "(III)V" } : Jvm.MethodName)) ∈ gw := g8 1 rfl rfl
theorem wd_8_2 : (Jvm.Cond.code ({ cls := "NameRingModel", name := "copies", desc := "(III)V" } : Jvm.MethodName) prog_14_method_41_code (5 : Nat) (Option.none : Option Jvm.ClassFile.FieldType)) ∈ gw := g8 2 rfl rfl
theorem wd_8_3 : (Jvm.Cond.methodLink "NameRingModel" (386 : Nat) ({ cls := "NameRingModel", name := "isNode", desc := "(I)Z" } : Jvm.MethodName)) ∈ gw := g8 3 rfl rfl
theorem wd_8_5 : (Jvm.Cond.instanceMethod ({ cls := "NameRingModel", name := "isNode", desc := "(I)Z" } : Jvm.MethodName)) ∈ gw := g8 5 rfl rfl
theorem wd_8_6 : (Jvm.Cond.code ({ cls := "NameRingModel", name := "isNode", desc := "(I)Z" } : Jvm.MethodName) prog_14_method_47_code (2 : Nat) (Option.some Jvm.ClassFile.FieldType.boolean)) ∈ gw := g8 6 rfl rfl
theorem wd_8_7 : (Jvm.Cond.methodLink "NameRingModel" (359 : Nat) ({ cls := "NameRingModel", name := "begun", desc := "(II)Z" } : Jvm.MethodName)) ∈ gw := g8 7 rfl rfl
theorem wd_8_9 : (Jvm.Cond.instanceMethod ({ cls := "NameRingModel", name := "begun", desc := "(II)Z" } : Jvm.MethodName)) ∈ gw := g8 9 rfl rfl
theorem wd_8_10 : (Jvm.Cond.code ({ cls := "NameRingModel", name := "begun", desc := "(II)Z" } : Jvm.MethodName) prog_14_method_73_code (3 : Nat) (Option.some Jvm.ClassFile.FieldType.boolean)) ∈ gw := g8 10 rfl rfl
theorem wd_8_11 : (Jvm.Cond.methodLink "NameRingModel" (316 : Nat) ({ cls := "NameRingModel", name := "inSet", desc := "(I)I" } : Jvm.MethodName)) ∈ gw := g8 11 rfl rfl
theorem wd_8_13 : (Jvm.Cond.instanceMethod ({ cls := "NameRingModel", name := "inSet", desc := "(I)I" } : Jvm.MethodName)) ∈ gw := g8 13 rfl rfl
theorem wd_8_14 : (Jvm.Cond.code ({ cls := "NameRingModel", name := "inSet", desc := "(I)I" } : Jvm.MethodName) prog_14_method_57_code (4 : Nat) (Option.some Jvm.ClassFile.FieldType.int)) ∈ gw := g8 14 rfl rfl
theorem wd_8_15 : (Jvm.Cond.methodLink "NameRingModel" (278 : Nat) ({ cls := "NameRingModel", name := "isIn", desc := "(II)Z" } : Jvm.MethodName)) ∈ gw := g8 15 rfl rfl
theorem wd_8_17 : (Jvm.Cond.instanceMethod ({ cls := "NameRingModel", name := "isIn", desc := "(II)Z" } : Jvm.MethodName)) ∈ gw := g8 17 rfl rfl
theorem wd_8_18 : (Jvm.Cond.code ({ cls := "NameRingModel", name := "isIn", desc := "(II)Z" } : Jvm.MethodName) prog_14_method_56_code (3 : Nat) (Option.some Jvm.ClassFile.FieldType.boolean)) ∈ gw := g8 18 rfl rfl
theorem wd_8_19 : (Jvm.Cond.methodLink "NameRingModel" (389 : Nat) ({ cls := "NameRingModel", name := "keeps", desc := "()V" } : Jvm.MethodName)) ∈ gw := g8 19 rfl rfl
theorem wd_8_21 : (Jvm.Cond.instanceMethod ({ cls := "NameRingModel", name := "keeps", desc := "()V" } : Jvm.MethodName)) ∈ gw := g8 21 rfl rfl
theorem wd_8_22 : (Jvm.Cond.code ({ cls := "NameRingModel", name := "keeps", desc := "()V" } : Jvm.MethodName) prog_14_method_55_code (2 : Nat) (Option.none : Option Jvm.ClassFile.FieldType)) ∈ gw := g8 22 rfl rfl
theorem wd_8_23 : (Jvm.Cond.methodLink "NameRingLaw" (60 : Nat) ({ cls := "NameRingModel", name := "join", desc := "(II)I" } : Jvm.MethodName)) ∈ gw := g8 23 rfl rfl
theorem wd_8_24 : (Jvm.Cond.instanceMethod ({ cls := "NameRingModel", name := "join", desc := "(II)I" } : Jvm.MethodName)) ∈ gw := g8 24 rfl rfl
theorem wd_8_25 : (Jvm.Cond.selects "NameRingModel" ({ cls := "NameRingModel", name := "join", desc := "(II)I" } : Jvm.MethodName) ({ cls := "NameRingModel", name := "join", desc := "(II)I" } : Jvm.MethodName)) ∈ gw := g8 25 rfl rfl
theorem wd_8_26 : (Jvm.Cond.code ({ cls := "NameRingModel", name := "join", desc := "(II)I" } : Jvm.MethodName) prog_14_method_93_code (4 : Nat) (Option.some Jvm.ClassFile.FieldType.int)) ∈ gw := g8 26 rfl rfl
theorem wd_8_27 : (Jvm.Cond.methodLink "NameRingModel" (362 : Nat) ({ cls := "NameRingModel", name := "joined", desc := "(III)I" } : Jvm.MethodName)) ∈ gw := g8 27 rfl rfl
theorem wd_8_29 : (Jvm.Cond.instanceMethod ({ cls := "NameRingModel", name := "joined", desc := "(III)I" } : Jvm.MethodName)) ∈ gw := g8 29 rfl rfl
theorem wd_8_30 : (Jvm.Cond.code ({ cls := "NameRingModel", name := "joined", desc := "(III)I" } : Jvm.MethodName) prog_14_method_76_code (5 : Nat) (Option.some Jvm.ClassFile.FieldType.int)) ∈ gw := g8 30 rfl rfl
theorem wd_8_31 : (Jvm.Cond.methodLink "NameRingModel" (282 : Nat) ({ cls := "NameRingModel", name := "placeOf", desc := "(I)I" } : Jvm.MethodName)) ∈ gw := g8 31 rfl rfl
theorem wd_8_33 : (Jvm.Cond.instanceMethod ({ cls := "NameRingModel", name := "placeOf", desc := "(I)I" } : Jvm.MethodName)) ∈ gw := g8 33 rfl rfl
theorem wd_8_34 : (Jvm.Cond.code ({ cls := "NameRingModel", name := "placeOf", desc := "(I)I" } : Jvm.MethodName) prog_14_method_46_code (2 : Nat) (Option.some Jvm.ClassFile.FieldType.int)) ∈ gw := g8 34 rfl rfl
theorem wd_8_35 : (Jvm.Cond.methodLink "NameRingModel" (325 : Nat) ({ cls := "NameRingModel", name := "finds", desc := "(III)I" } : Jvm.MethodName)) ∈ gw := g8 35 rfl rfl
theorem wd_8_37 : (Jvm.Cond.instanceMethod ({ cls := "NameRingModel", name := "finds", desc := "(III)I" } : Jvm.MethodName)) ∈ gw := g8 37 rfl rfl
theorem wd_8_38 : (Jvm.Cond.code ({ cls := "NameRingModel", name := "finds", desc := "(III)I" } : Jvm.MethodName) prog_14_method_72_code (7 : Nat) (Option.some Jvm.ClassFile.FieldType.int)) ∈ gw := g8 38 rfl rfl
theorem wd_8_39 : (Jvm.Cond.methodLink "NameRingModel" (310 : Nat) ({ cls := "NameRingModel", name := "firstOf", desc := "(II)I" } : Jvm.MethodName)) ∈ gw := g8 39 rfl rfl
theorem wd_8_41 : (Jvm.Cond.instanceMethod ({ cls := "NameRingModel", name := "firstOf", desc := "(II)I" } : Jvm.MethodName)) ∈ gw := g8 41 rfl rfl
theorem wd_8_42 : (Jvm.Cond.code ({ cls := "NameRingModel", name := "firstOf", desc := "(II)I" } : Jvm.MethodName) prog_14_method_69_code (4 : Nat) (Option.some Jvm.ClassFile.FieldType.int)) ∈ gw := g8 42 rfl rfl
theorem wd_8_43 : (Jvm.Cond.methodLink "NameRingModel" (291 : Nat) ({ cls := "NameRingModel", name := "longOf", desc := "(II)I" } : Jvm.MethodName)) ∈ gw := g8 43 rfl rfl
theorem wd_8_45 : (Jvm.Cond.instanceMethod ({ cls := "NameRingModel", name := "longOf", desc := "(II)I" } : Jvm.MethodName)) ∈ gw := g8 45 rfl rfl
theorem wd_8_46 : (Jvm.Cond.code ({ cls := "NameRingModel", name := "longOf", desc := "(II)I" } : Jvm.MethodName) prog_14_method_65_code (3 : Nat) (Option.some Jvm.ClassFile.FieldType.int)) ∈ gw := g8 46 rfl rfl
theorem wd_8_47 : (Jvm.Cond.methodLink "NameRingModel" (294 : Nat) ({ cls := "NameRingModel", name := "listedOf", desc := "(III)I" } : Jvm.MethodName)) ∈ gw := g8 47 rfl rfl
theorem wd_8_49 : (Jvm.Cond.instanceMethod ({ cls := "NameRingModel", name := "listedOf", desc := "(III)I" } : Jvm.MethodName)) ∈ gw := g8 49 rfl rfl
theorem wd_8_50 : (Jvm.Cond.code ({ cls := "NameRingModel", name := "listedOf", desc := "(III)I" } : Jvm.MethodName) prog_14_method_64_code (4 : Nat) (Option.some Jvm.ClassFile.FieldType.int)) ∈ gw := g8 50 rfl rfl
theorem wd_8_51 : (Jvm.Cond.methodLink "NameRingModel" (285 : Nat) ({ cls := "NameRingModel", name := "way", desc := "(II)I" } : Jvm.MethodName)) ∈ gw := g8 51 rfl rfl
theorem wd_8_53 : (Jvm.Cond.instanceMethod ({ cls := "NameRingModel", name := "way", desc := "(II)I" } : Jvm.MethodName)) ∈ gw := g8 53 rfl rfl
theorem wd_8_54 : (Jvm.Cond.code ({ cls := "NameRingModel", name := "way", desc := "(II)I" } : Jvm.MethodName) prog_14_method_59_code (3 : Nat) (Option.some Jvm.ClassFile.FieldType.int)) ∈ gw := g8 54 rfl rfl
theorem wd_8_55 : (Jvm.Cond.methodLink "NameRingModel" (297 : Nat) ({ cls := "NameRingModel", name := "wayTo", desc := "(II)I" } : Jvm.MethodName)) ∈ gw := g8 55 rfl rfl
theorem wd_8_57 : (Jvm.Cond.instanceMethod ({ cls := "NameRingModel", name := "wayTo", desc := "(II)I" } : Jvm.MethodName)) ∈ gw := g8 57 rfl rfl
theorem wd_8_58 : (Jvm.Cond.code ({ cls := "NameRingModel", name := "wayTo", desc := "(II)I" } : Jvm.MethodName) prog_14_method_60_code (3 : Nat) (Option.some Jvm.ClassFile.FieldType.int)) ∈ gw := g8 58 rfl rfl
theorem wd_8_59 : (Jvm.Cond.methodLink "NameRingModel" (313 : Nat) ({ cls := "NameRingModel", name := "asksOn", desc := "(III)I" } : Jvm.MethodName)) ∈ gw := g8 59 rfl rfl
theorem wd_8_61 : (Jvm.Cond.instanceMethod ({ cls := "NameRingModel", name := "asksOn", desc := "(III)I" } : Jvm.MethodName)) ∈ gw := g8 61 rfl rfl
theorem wd_8_62 : (Jvm.Cond.code ({ cls := "NameRingModel", name := "asksOn", desc := "(III)I" } : Jvm.MethodName) prog_14_method_71_code (6 : Nat) (Option.some Jvm.ClassFile.FieldType.int)) ∈ gw := g8 62 rfl rfl
theorem wd_8_63 : (Jvm.Cond.methodLink "NameRingModel" (300 : Nat) ({ cls := "NameRingModel", name := "farther", desc := "(IIIII)I" } : Jvm.MethodName)) ∈ gw := g8 63 rfl rfl
theorem wd_8_65 : (Jvm.Cond.instanceMethod ({ cls := "NameRingModel", name := "farther", desc := "(IIIII)I" } : Jvm.MethodName)) ∈ gw := g8 65 rfl rfl
theorem wd_8_66 : (Jvm.Cond.code ({ cls := "NameRingModel", name := "farther", desc := "(IIIII)I" } : Jvm.MethodName) prog_14_method_70_code (7 : Nat) (Option.some Jvm.ClassFile.FieldType.int)) ∈ gw := g8 66 rfl rfl
theorem wd_8_67 : (Jvm.Cond.methodLink "NameRingModel" (304 : Nat) ({ cls := "NameRingModel", name := "fingerOf", desc := "(III)I" } : Jvm.MethodName)) ∈ gw := g8 67 rfl rfl
theorem wd_8_69 : (Jvm.Cond.instanceMethod ({ cls := "NameRingModel", name := "fingerOf", desc := "(III)I" } : Jvm.MethodName)) ∈ gw := g8 69 rfl rfl
theorem wd_8_70 : (Jvm.Cond.code ({ cls := "NameRingModel", name := "fingerOf", desc := "(III)I" } : Jvm.MethodName) prog_14_method_66_code (4 : Nat) (Option.some Jvm.ClassFile.FieldType.int)) ∈ gw := g8 70 rfl rfl
theorem wd_8_71 : (Jvm.Cond.methodLink "NameRingModel" (328 : Nat) ({ cls := "NameRingModel", name := "lists", desc := "(III)V" } : Jvm.MethodName)) ∈ gw := g8 71 rfl rfl
theorem wd_8_73 : (Jvm.Cond.instanceMethod ({ cls := "NameRingModel", name := "lists", desc := "(III)V" } : Jvm.MethodName)) ∈ gw := g8 73 rfl rfl
theorem wd_8_74 : (Jvm.Cond.code ({ cls := "NameRingModel", name := "lists", desc := "(III)V" } : Jvm.MethodName) prog_14_method_74_code (10 : Nat) (Option.none : Option Jvm.ClassFile.FieldType)) ∈ gw := g8 74 rfl rfl
theorem wd_8_75 : (Jvm.Cond.methodLink "NameRingModel" (319 : Nat) ({ cls := "NameRingModel", name := "kindOf", desc := "(I)I" } : Jvm.MethodName)) ∈ gw := g8 75 rfl rfl
theorem wd_8_77 : (Jvm.Cond.instanceMethod ({ cls := "NameRingModel", name := "kindOf", desc := "(I)I" } : Jvm.MethodName)) ∈ gw := g8 77 rfl rfl
theorem wd_8_78 : (Jvm.Cond.code ({ cls := "NameRingModel", name := "kindOf", desc := "(I)I" } : Jvm.MethodName) prog_14_method_45_code (2 : Nat) (Option.some Jvm.ClassFile.FieldType.int)) ∈ gw := g8 78 rfl rfl
theorem wd_8_79 : (Jvm.Cond.methodLink "NameRingModel" (322 : Nat) ({ cls := "NameRingModel", name := "listIs", desc := "(III)V" } : Jvm.MethodName)) ∈ gw := g8 79 rfl rfl
theorem wd_8_81 : (Jvm.Cond.instanceMethod ({ cls := "NameRingModel", name := "listIs", desc := "(III)V" } : Jvm.MethodName)) ∈ gw := g8 81 rfl rfl
theorem wd_8_82 : (Jvm.Cond.code ({ cls := "NameRingModel", name := "listIs", desc := "(III)V" } : Jvm.MethodName) prog_14_method_75_code (5 : Nat) (Option.none : Option Jvm.ClassFile.FieldType)) ∈ gw := g8 82 rfl rfl
theorem wd_8_83 : (Jvm.Cond.methodLink "NameRingModel" (392 : Nat) ({ cls := "NameRingModel", name := "done", desc := "(I)I" } : Jvm.MethodName)) ∈ gw := g8 83 rfl rfl
theorem wd_8_85 : (Jvm.Cond.instanceMethod ({ cls := "NameRingModel", name := "done", desc := "(I)I" } : Jvm.MethodName)) ∈ gw := g8 85 rfl rfl
theorem wd_8_86 : (Jvm.Cond.code ({ cls := "NameRingModel", name := "done", desc := "(I)I" } : Jvm.MethodName) prog_14_method_92_code (2 : Nat) (Option.some Jvm.ClassFile.FieldType.int)) ∈ gw := g8 86 rfl rfl
theorem wd_8_87 : (Jvm.Cond.methodLink "NameRingLaw" (64 : Nat) ({ cls := "NameRingModel", name := "leave", desc := "(I)Z" } : Jvm.MethodName)) ∈ gw := g8 87 rfl rfl
theorem wd_8_88 : (Jvm.Cond.instanceMethod ({ cls := "NameRingModel", name := "leave", desc := "(I)Z" } : Jvm.MethodName)) ∈ gw := g8 88 rfl rfl
theorem wd_8_89 : (Jvm.Cond.selects "NameRingModel" ({ cls := "NameRingModel", name := "leave", desc := "(I)Z" } : Jvm.MethodName) ({ cls := "NameRingModel", name := "leave", desc := "(I)Z" } : Jvm.MethodName)) ∈ gw := g8 89 rfl rfl
theorem wd_8_90 : (Jvm.Cond.code ({ cls := "NameRingModel", name := "leave", desc := "(I)Z" } : Jvm.MethodName) prog_14_method_94_code (2 : Nat) (Option.some Jvm.ClassFile.FieldType.boolean)) ∈ gw := g8 90 rfl rfl
theorem wd_8_91 : (Jvm.Cond.methodLink "NameRingModel" (365 : Nat) ({ cls := "NameRingModel", name := "left", desc := "(II)Z" } : Jvm.MethodName)) ∈ gw := g8 91 rfl rfl
theorem wd_8_93 : (Jvm.Cond.instanceMethod ({ cls := "NameRingModel", name := "left", desc := "(II)Z" } : Jvm.MethodName)) ∈ gw := g8 93 rfl rfl
theorem wd_8_94 : (Jvm.Cond.code ({ cls := "NameRingModel", name := "left", desc := "(II)Z" } : Jvm.MethodName) prog_14_method_78_code (4 : Nat) (Option.some Jvm.ClassFile.FieldType.boolean)) ∈ gw := g8 94 rfl rfl
theorem wd_8_95 : (Jvm.Cond.methodLink "NameRingModel" (334 : Nat) ({ cls := "NameRingModel", name := "giveAll", desc := "(III)V" } : Jvm.MethodName)) ∈ gw := g8 95 rfl rfl
theorem wd_8_97 : (Jvm.Cond.instanceMethod ({ cls := "NameRingModel", name := "giveAll", desc := "(III)V" } : Jvm.MethodName)) ∈ gw := g8 97 rfl rfl
theorem wd_8_98 : (Jvm.Cond.code ({ cls := "NameRingModel", name := "giveAll", desc := "(III)V" } : Jvm.MethodName) prog_14_method_77_code (5 : Nat) (Option.none : Option Jvm.ClassFile.FieldType)) ∈ gw := g8 98 rfl rfl
theorem wd_8_99 : (Jvm.Cond.methodLink "NameRingModel" (331 : Nat) ({ cls := "NameRingModel", name := "holderOf", desc := "(II)I" } : Jvm.MethodName)) ∈ gw := g8 99 rfl rfl
theorem wd_8_101 : (Jvm.Cond.instanceMethod ({ cls := "NameRingModel", name := "holderOf", desc := "(II)I" } : Jvm.MethodName)) ∈ gw := g8 101 rfl rfl
theorem wd_8_102 : (Jvm.Cond.code ({ cls := "NameRingModel", name := "holderOf", desc := "(II)I" } : Jvm.MethodName) prog_14_method_68_code (3 : Nat) (Option.some Jvm.ClassFile.FieldType.int)) ∈ gw := g8 102 rfl rfl
theorem wd_8_103 : (Jvm.Cond.methodLink "NameRingLaw" (69 : Nat) ({ cls := "NameRingModel", name := "fail", desc := "(I)I" } : Jvm.MethodName)) ∈ gw := g8 103 rfl rfl
theorem wd_8_104 : (Jvm.Cond.instanceMethod ({ cls := "NameRingModel", name := "fail", desc := "(I)I" } : Jvm.MethodName)) ∈ gw := g8 104 rfl rfl
theorem wd_8_105 : (Jvm.Cond.selects "NameRingModel" ({ cls := "NameRingModel", name := "fail", desc := "(I)I" } : Jvm.MethodName) ({ cls := "NameRingModel", name := "fail", desc := "(I)I" } : Jvm.MethodName)) ∈ gw := g8 105 rfl rfl
theorem wd_8_106 : (Jvm.Cond.code ({ cls := "NameRingModel", name := "fail", desc := "(I)I" } : Jvm.MethodName) prog_14_method_95_code (3 : Nat) (Option.some Jvm.ClassFile.FieldType.int)) ∈ gw := g8 106 rfl rfl
theorem wd_8_107 : (Jvm.Cond.methodLink "NameRingModel" (368 : Nat) ({ cls := "NameRingModel", name := "failed", desc := "(II)I" } : Jvm.MethodName)) ∈ gw := g8 107 rfl rfl
theorem wd_8_109 : (Jvm.Cond.instanceMethod ({ cls := "NameRingModel", name := "failed", desc := "(II)I" } : Jvm.MethodName)) ∈ gw := g8 109 rfl rfl
theorem wd_8_110 : (Jvm.Cond.code ({ cls := "NameRingModel", name := "failed", desc := "(II)I" } : Jvm.MethodName) prog_14_method_80_code (4 : Nat) (Option.some Jvm.ClassFile.FieldType.int)) ∈ gw := g8 110 rfl rfl
theorem wd_8_111 : (Jvm.Cond.methodLink "NameRingModel" (337 : Nat) ({ cls := "NameRingModel", name := "heldSet", desc := "(II)I" } : Jvm.MethodName)) ∈ gw := g8 111 rfl rfl
theorem wd_8_113 : (Jvm.Cond.instanceMethod ({ cls := "NameRingModel", name := "heldSet", desc := "(II)I" } : Jvm.MethodName)) ∈ gw := g8 113 rfl rfl
theorem wd_8_114 : (Jvm.Cond.code ({ cls := "NameRingModel", name := "heldSet", desc := "(II)I" } : Jvm.MethodName) prog_14_method_79_code (5 : Nat) (Option.some Jvm.ClassFile.FieldType.int)) ∈ gw := g8 114 rfl rfl
theorem wd_8_115 : (Jvm.Cond.methodLink "NameRingModel" (340 : Nat) ({ cls := "NameRingModel", name := "manyOf", desc := "(I)I" } : Jvm.MethodName)) ∈ gw := g8 115 rfl rfl
theorem wd_8_116 : (Jvm.Cond.static ({ cls := "NameRingModel", name := "manyOf", desc := "(I)I" } : Jvm.MethodName)) ∈ gw := g8 116 rfl rfl
theorem wd_8_117 : (Jvm.Cond.code ({ cls := "NameRingModel", name := "manyOf", desc := "(I)I" } : Jvm.MethodName) prog_14_method_58_code (3 : Nat) (Option.some Jvm.ClassFile.FieldType.int)) ∈ gw := g8 117 rfl rfl
theorem wd_8_118 : (Jvm.Cond.methodLink "NameRingLaw" (73 : Nat) ({ cls := "NameRingModel", name := "tidy", desc := "(I)I" } : Jvm.MethodName)) ∈ gw := g8 118 rfl rfl
theorem wd_8_119 : (Jvm.Cond.instanceMethod ({ cls := "NameRingModel", name := "tidy", desc := "(I)I" } : Jvm.MethodName)) ∈ gw := g8 119 rfl rfl
theorem wd_8_120 : (Jvm.Cond.selects "NameRingModel" ({ cls := "NameRingModel", name := "tidy", desc := "(I)I" } : Jvm.MethodName) ({ cls := "NameRingModel", name := "tidy", desc := "(I)I" } : Jvm.MethodName)) ∈ gw := g8 120 rfl rfl
theorem wd_8_121 : (Jvm.Cond.code ({ cls := "NameRingModel", name := "tidy", desc := "(I)I" } : Jvm.MethodName) prog_14_method_96_code (3 : Nat) (Option.some Jvm.ClassFile.FieldType.int)) ∈ gw := g8 121 rfl rfl
theorem wd_8_122 : (Jvm.Cond.methodLink "NameRingModel" (371 : Nat) ({ cls := "NameRingModel", name := "tidied", desc := "(II)I" } : Jvm.MethodName)) ∈ gw := g8 122 rfl rfl
theorem wd_8_124 : (Jvm.Cond.instanceMethod ({ cls := "NameRingModel", name := "tidied", desc := "(II)I" } : Jvm.MethodName)) ∈ gw := g8 124 rfl rfl
theorem wd_8_125 : (Jvm.Cond.code ({ cls := "NameRingModel", name := "tidied", desc := "(II)I" } : Jvm.MethodName) prog_14_method_81_code (7 : Nat) (Option.some Jvm.ClassFile.FieldType.int)) ∈ gw := g8 125 rfl rfl
theorem wd_8_126 : (Jvm.Cond.methodLink "NameRingModel" (343 : Nat) ({ cls := "NameRingModel", name := "aheadOf", desc := "(II)I" } : Jvm.MethodName)) ∈ gw := g8 126 rfl rfl
theorem wd_8_128 : (Jvm.Cond.instanceMethod ({ cls := "NameRingModel", name := "aheadOf", desc := "(II)I" } : Jvm.MethodName)) ∈ gw := g8 128 rfl rfl
theorem wd_8_129 : (Jvm.Cond.code ({ cls := "NameRingModel", name := "aheadOf", desc := "(II)I" } : Jvm.MethodName) prog_14_method_67_code (3 : Nat) (Option.some Jvm.ClassFile.FieldType.int)) ∈ gw := g8 129 rfl rfl
theorem wd_8_130 : (Jvm.Cond.methodLink "NameRingModel" (346 : Nat) ({ cls := "NameRingModel", name := "handsBack", desc := "(III)V" } : Jvm.MethodName)) ∈ gw := g8 130 rfl rfl
theorem wd_8_132 : (Jvm.Cond.instanceMethod ({ cls := "NameRingModel", name := "handsBack", desc := "(III)V" } : Jvm.MethodName)) ∈ gw := g8 132 rfl rfl
theorem wd_8_133 : (Jvm.Cond.code ({ cls := "NameRingModel", name := "handsBack", desc := "(III)V" } : Jvm.MethodName) prog_14_method_82_code (6 : Nat) (Option.none : Option Jvm.ClassFile.FieldType)) ∈ gw := g8 133 rfl rfl
theorem wd_8_134 : (Jvm.Cond.methodLink "NameRingLaw" (77 : Nat) ({ cls := "NameRingModel", name := "flush", desc := "(I)I" } : Jvm.MethodName)) ∈ gw := g8 134 rfl rfl
theorem wd_8_135 : (Jvm.Cond.instanceMethod ({ cls := "NameRingModel", name := "flush", desc := "(I)I" } : Jvm.MethodName)) ∈ gw := g8 135 rfl rfl
theorem wd_8_136 : (Jvm.Cond.selects "NameRingModel" ({ cls := "NameRingModel", name := "flush", desc := "(I)I" } : Jvm.MethodName) ({ cls := "NameRingModel", name := "flush", desc := "(I)I" } : Jvm.MethodName)) ∈ gw := g8 136 rfl rfl
theorem wd_8_137 : (Jvm.Cond.code ({ cls := "NameRingModel", name := "flush", desc := "(I)I" } : Jvm.MethodName) prog_14_method_97_code (3 : Nat) (Option.some Jvm.ClassFile.FieldType.int)) ∈ gw := g8 137 rfl rfl
theorem wd_8_138 : (Jvm.Cond.methodLink "NameRingModel" (374 : Nat) ({ cls := "NameRingModel", name := "flushed", desc := "(II)I" } : Jvm.MethodName)) ∈ gw := g8 138 rfl rfl
theorem wd_8_140 : (Jvm.Cond.instanceMethod ({ cls := "NameRingModel", name := "flushed", desc := "(II)I" } : Jvm.MethodName)) ∈ gw := g8 140 rfl rfl
theorem wd_8_141 : (Jvm.Cond.code ({ cls := "NameRingModel", name := "flushed", desc := "(II)I" } : Jvm.MethodName) prog_14_method_83_code (7 : Nat) (Option.some Jvm.ClassFile.FieldType.int)) ∈ gw := g8 141 rfl rfl
theorem wd_8_142 : (Jvm.Cond.methodLink "NameRingLaw" (82 : Nat) ({ cls := "NameRingModel", name := "fix", desc := "(II)Z" } : Jvm.MethodName)) ∈ gw := g8 142 rfl rfl
theorem wd_8_143 : (Jvm.Cond.instanceMethod ({ cls := "NameRingModel", name := "fix", desc := "(II)Z" } : Jvm.MethodName)) ∈ gw := g8 143 rfl rfl
theorem wd_8_144 : (Jvm.Cond.selects "NameRingModel" ({ cls := "NameRingModel", name := "fix", desc := "(II)Z" } : Jvm.MethodName) ({ cls := "NameRingModel", name := "fix", desc := "(II)Z" } : Jvm.MethodName)) ∈ gw := g8 144 rfl rfl
theorem wd_8_145 : (Jvm.Cond.code ({ cls := "NameRingModel", name := "fix", desc := "(II)Z" } : Jvm.MethodName) prog_14_method_98_code (3 : Nat) (Option.some Jvm.ClassFile.FieldType.boolean)) ∈ gw := g8 145 rfl rfl
theorem wd_8_146 : (Jvm.Cond.methodLink "NameRingModel" (355 : Nat) ({ cls := "NameRingModel", name := "fixed", desc := "(III)Z" } : Jvm.MethodName)) ∈ gw := g8 146 rfl rfl
theorem wd_8_148 : (Jvm.Cond.instanceMethod ({ cls := "NameRingModel", name := "fixed", desc := "(III)Z" } : Jvm.MethodName)) ∈ gw := g8 148 rfl rfl
theorem wd_8_149 : (Jvm.Cond.code ({ cls := "NameRingModel", name := "fixed", desc := "(III)Z" } : Jvm.MethodName) prog_14_method_86_code (5 : Nat) (Option.some Jvm.ClassFile.FieldType.boolean)) ∈ gw := g8 149 rfl rfl
theorem wd_8_150 : (Jvm.Cond.methodLink "NameRingModel" (349 : Nat) ({ cls := "NameRingModel", name := "hasFinger", desc := "(I)Z" } : Jvm.MethodName)) ∈ gw := g8 150 rfl rfl
theorem wd_8_152 : (Jvm.Cond.instanceMethod ({ cls := "NameRingModel", name := "hasFinger", desc := "(I)Z" } : Jvm.MethodName)) ∈ gw := g8 152 rfl rfl
theorem wd_8_153 : (Jvm.Cond.code ({ cls := "NameRingModel", name := "hasFinger", desc := "(I)Z" } : Jvm.MethodName) prog_14_method_84_code (2 : Nat) (Option.some Jvm.ClassFile.FieldType.boolean)) ∈ gw := g8 153 rfl rfl
theorem wd_8_154 : (Jvm.Cond.methodLink "NameRingModel" (352 : Nat) ({ cls := "NameRingModel", name := "fingerPlace", desc := "(II)I" } : Jvm.MethodName)) ∈ gw := g8 154 rfl rfl
theorem wd_8_156 : (Jvm.Cond.instanceMethod ({ cls := "NameRingModel", name := "fingerPlace", desc := "(II)I" } : Jvm.MethodName)) ∈ gw := g8 156 rfl rfl
theorem wd_8_157 : (Jvm.Cond.code ({ cls := "NameRingModel", name := "fingerPlace", desc := "(II)I" } : Jvm.MethodName) prog_14_method_85_code (3 : Nat) (Option.some Jvm.ClassFile.FieldType.int)) ∈ gw := g8 157 rfl rfl
theorem wd_8_158 : (Jvm.Cond.methodLink "NameRingLaw" (86 : Nat) ({ cls := "NameRingModel", name := "mend", desc := "(I)I" } : Jvm.MethodName)) ∈ gw := g8 158 rfl rfl
theorem wd_8_159 : (Jvm.Cond.instanceMethod ({ cls := "NameRingModel", name := "mend", desc := "(I)I" } : Jvm.MethodName)) ∈ gw := g8 159 rfl rfl
theorem wd_8_160 : (Jvm.Cond.selects "NameRingModel" ({ cls := "NameRingModel", name := "mend", desc := "(I)I" } : Jvm.MethodName) ({ cls := "NameRingModel", name := "mend", desc := "(I)I" } : Jvm.MethodName)) ∈ gw := g8 160 rfl rfl
theorem wd_8_161 : (Jvm.Cond.code ({ cls := "NameRingModel", name := "mend", desc := "(I)I" } : Jvm.MethodName) prog_14_method_99_code (3 : Nat) (Option.some Jvm.ClassFile.FieldType.int)) ∈ gw := g8 161 rfl rfl
theorem wd_8_162 : (Jvm.Cond.methodLink "NameRingModel" (395 : Nat) ({ cls := "NameRingModel", name := "mended", desc := "(II)I" } : Jvm.MethodName)) ∈ gw := g8 162 rfl rfl
theorem wd_8_164 : (Jvm.Cond.instanceMethod ({ cls := "NameRingModel", name := "mended", desc := "(II)I" } : Jvm.MethodName)) ∈ gw := g8 164 rfl rfl
theorem wd_8_165 : (Jvm.Cond.code ({ cls := "NameRingModel", name := "mended", desc := "(II)I" } : Jvm.MethodName) prog_14_method_87_code (7 : Nat) (Option.some Jvm.ClassFile.FieldType.int)) ∈ gw := g8 165 rfl rfl
theorem wd_8_166 : (Jvm.Cond.methodLink "NameRingLaw" (90 : Nat) ({ cls := "NameRingModel", name := "put", desc := "(II)I" } : Jvm.MethodName)) ∈ gw := g8 166 rfl rfl
theorem wd_8_167 : (Jvm.Cond.instanceMethod ({ cls := "NameRingModel", name := "put", desc := "(II)I" } : Jvm.MethodName)) ∈ gw := g8 167 rfl rfl
theorem wd_8_168 : (Jvm.Cond.selects "NameRingModel" ({ cls := "NameRingModel", name := "put", desc := "(II)I" } : Jvm.MethodName) ({ cls := "NameRingModel", name := "put", desc := "(II)I" } : Jvm.MethodName)) ∈ gw := g8 168 rfl rfl
theorem wd_8_169 : (Jvm.Cond.code ({ cls := "NameRingModel", name := "put", desc := "(II)I" } : Jvm.MethodName) prog_14_method_100_code (4 : Nat) (Option.some Jvm.ClassFile.FieldType.int)) ∈ gw := g8 169 rfl rfl
theorem wd_8_170 : (Jvm.Cond.methodLink "NameRingModel" (398 : Nat) ({ cls := "NameRingModel", name := "isKey", desc := "(I)Z" } : Jvm.MethodName)) ∈ gw := g8 170 rfl rfl
theorem wd_8_172 : (Jvm.Cond.instanceMethod ({ cls := "NameRingModel", name := "isKey", desc := "(I)Z" } : Jvm.MethodName)) ∈ gw := g8 172 rfl rfl
theorem wd_8_173 : (Jvm.Cond.code ({ cls := "NameRingModel", name := "isKey", desc := "(I)Z" } : Jvm.MethodName) prog_14_method_48_code (2 : Nat) (Option.some Jvm.ClassFile.FieldType.boolean)) ∈ gw := g8 173 rfl rfl
theorem wd_8_174 : (Jvm.Cond.methodLink "NameRingModel" (377 : Nat) ({ cls := "NameRingModel", name := "putBy", desc := "(III)I" } : Jvm.MethodName)) ∈ gw := g8 174 rfl rfl
theorem wd_8_176 : (Jvm.Cond.instanceMethod ({ cls := "NameRingModel", name := "putBy", desc := "(III)I" } : Jvm.MethodName)) ∈ gw := g8 176 rfl rfl
theorem wd_8_177 : (Jvm.Cond.code ({ cls := "NameRingModel", name := "putBy", desc := "(III)I" } : Jvm.MethodName) prog_14_method_88_code (5 : Nat) (Option.some Jvm.ClassFile.FieldType.int)) ∈ gw := g8 177 rfl rfl
theorem wd_8_178 : (Jvm.Cond.methodLink "NameRingLaw" (94 : Nat) ({ cls := "NameRingModel", name := "hand", desc := "(I)I" } : Jvm.MethodName)) ∈ gw := g8 178 rfl rfl
theorem wd_8_179 : (Jvm.Cond.instanceMethod ({ cls := "NameRingModel", name := "hand", desc := "(I)I" } : Jvm.MethodName)) ∈ gw := g8 179 rfl rfl
theorem wd_8_180 : (Jvm.Cond.selects "NameRingModel" ({ cls := "NameRingModel", name := "hand", desc := "(I)I" } : Jvm.MethodName) ({ cls := "NameRingModel", name := "hand", desc := "(I)I" } : Jvm.MethodName)) ∈ gw := g8 180 rfl rfl
theorem wd_8_181 : (Jvm.Cond.code ({ cls := "NameRingModel", name := "hand", desc := "(I)I" } : Jvm.MethodName) prog_14_method_101_code (3 : Nat) (Option.some Jvm.ClassFile.FieldType.int)) ∈ gw := g8 181 rfl rfl
theorem wd_8_182 : (Jvm.Cond.methodLink "NameRingModel" (380 : Nat) ({ cls := "NameRingModel", name := "handed", desc := "(II)I" } : Jvm.MethodName)) ∈ gw := g8 182 rfl rfl
theorem wd_8_184 : (Jvm.Cond.instanceMethod ({ cls := "NameRingModel", name := "handed", desc := "(II)I" } : Jvm.MethodName)) ∈ gw := g8 184 rfl rfl
theorem wd_8_185 : (Jvm.Cond.code ({ cls := "NameRingModel", name := "handed", desc := "(II)I" } : Jvm.MethodName) prog_14_method_89_code (7 : Nat) (Option.some Jvm.ClassFile.FieldType.int)) ∈ gw := g8 185 rfl rfl
theorem wd_8_186 : (Jvm.Cond.methodLink "NameRingLaw" (99 : Nat) ({ cls := "NameRingModel", name := "undo", desc := "()Z" } : Jvm.MethodName)) ∈ gw := g8 186 rfl rfl
theorem wd_8_187 : (Jvm.Cond.instanceMethod ({ cls := "NameRingModel", name := "undo", desc := "()Z" } : Jvm.MethodName)) ∈ gw := g8 187 rfl rfl
theorem wd_8_188 : (Jvm.Cond.selects "NameRingModel" ({ cls := "NameRingModel", name := "undo", desc := "()Z" } : Jvm.MethodName) ({ cls := "NameRingModel", name := "undo", desc := "()Z" } : Jvm.MethodName)) ∈ gw := g8 188 rfl rfl
theorem wd_8_189 : (Jvm.Cond.code ({ cls := "NameRingModel", name := "undo", desc := "()Z" } : Jvm.MethodName) prog_14_method_102_code (1 : Nat) (Option.some Jvm.ClassFile.FieldType.boolean)) ∈ gw := g8 189 rfl rfl
theorem wd_8_190 : (Jvm.Cond.methodLink "NameRingLaw" (103 : Nat) ({ cls := "NameRingModel", name := "judged", desc := "(I)I" } : Jvm.MethodName)) ∈ gw := g8 190 rfl rfl
theorem wd_8_191 : (Jvm.Cond.instanceMethod ({ cls := "NameRingModel", name := "judged", desc := "(I)I" } : Jvm.MethodName)) ∈ gw := g8 191 rfl rfl
theorem wd_8_192 : (Jvm.Cond.selects "NameRingModel" ({ cls := "NameRingModel", name := "judged", desc := "(I)I" } : Jvm.MethodName) ({ cls := "NameRingModel", name := "judged", desc := "(I)I" } : Jvm.MethodName)) ∈ gw := g8 192 rfl rfl
theorem wd_8_193 : (Jvm.Cond.code ({ cls := "NameRingModel", name := "judged", desc := "(I)I" } : Jvm.MethodName) prog_14_method_104_code (6 : Nat) (Option.some Jvm.ClassFile.FieldType.int)) ∈ gw := g8 193 rfl rfl
theorem wd_8_194 : (Jvm.Cond.methodLink "NameRingModel" (401 : Nat) ({ cls := "NameRingModel", name := "within", desc := "(III)Z" } : Jvm.MethodName)) ∈ gw := g8 194 rfl rfl
theorem wd_8_195 : (Jvm.Cond.static ({ cls := "NameRingModel", name := "within", desc := "(III)Z" } : Jvm.MethodName)) ∈ gw := g8 195 rfl rfl
theorem wd_8_196 : (Jvm.Cond.code ({ cls := "NameRingModel", name := "within", desc := "(III)Z" } : Jvm.MethodName) prog_14_method_17_code (3 : Nat) (Option.some Jvm.ClassFile.FieldType.boolean)) ∈ gw := g8 196 rfl rfl
theorem wd_8_197 : (Jvm.Cond.methodLink "NameRingModel" (404 : Nat) ({ cls := "NameRingModel", name := "acts", desc := "(IIII)Z" } : Jvm.MethodName)) ∈ gw := g8 197 rfl rfl
theorem wd_8_199 : (Jvm.Cond.instanceMethod ({ cls := "NameRingModel", name := "acts", desc := "(IIII)Z" } : Jvm.MethodName)) ∈ gw := g8 199 rfl rfl
theorem wd_8_200 : (Jvm.Cond.code ({ cls := "NameRingModel", name := "acts", desc := "(IIII)Z" } : Jvm.MethodName) prog_14_method_90_code (5 : Nat) (Option.some Jvm.ClassFile.FieldType.boolean)) ∈ gw := g8 200 rfl rfl
theorem wd_8_201 : (Jvm.Cond.methodLink "NameRingModel" (408 : Nat) ({ cls := "NameRingModel", name := "heldMany", desc := "(I)I" } : Jvm.MethodName)) ∈ gw := g8 201 rfl rfl
theorem wd_8_203 : (Jvm.Cond.instanceMethod ({ cls := "NameRingModel", name := "heldMany", desc := "(I)I" } : Jvm.MethodName)) ∈ gw := g8 203 rfl rfl
theorem wd_8_204 : (Jvm.Cond.code ({ cls := "NameRingModel", name := "heldMany", desc := "(I)I" } : Jvm.MethodName) prog_14_method_103_code (4 : Nat) (Option.some Jvm.ClassFile.FieldType.int)) ∈ gw := g8 204 rfl rfl
theorem wd_8_205 : (Jvm.Cond.methodLink "NameRingLaw" (39 : Nat) ({ cls := "NameRingModel", name := "node", desc := "(II)I" } : Jvm.MethodName)) ∈ gw := g8 205 rfl rfl
theorem wd_8_206 : (Jvm.Cond.instanceMethod ({ cls := "NameRingModel", name := "node", desc := "(II)I" } : Jvm.MethodName)) ∈ gw := g8 206 rfl rfl
theorem wd_8_207 : (Jvm.Cond.selects "NameRingModel" ({ cls := "NameRingModel", name := "node", desc := "(II)I" } : Jvm.MethodName) ({ cls := "NameRingModel", name := "node", desc := "(II)I" } : Jvm.MethodName)) ∈ gw := g8 207 rfl rfl
theorem wd_8_208 : (Jvm.Cond.code ({ cls := "NameRingModel", name := "node", desc := "(II)I" } : Jvm.MethodName) prog_14_method_105_code (3 : Nat) (Option.some Jvm.ClassFile.FieldType.int)) ∈ gw := g8 208 rfl rfl
theorem wd_8_209 : (Jvm.Cond.methodLink "NameRingLaw" (43 : Nat) ({ cls := "NameRingModel", name := "listed", desc := "(II)I" } : Jvm.MethodName)) ∈ gw := g8 209 rfl rfl
theorem wd_8_210 : (Jvm.Cond.instanceMethod ({ cls := "NameRingModel", name := "listed", desc := "(II)I" } : Jvm.MethodName)) ∈ gw := g8 210 rfl rfl
theorem wd_8_211 : (Jvm.Cond.selects "NameRingModel" ({ cls := "NameRingModel", name := "listed", desc := "(II)I" } : Jvm.MethodName) ({ cls := "NameRingModel", name := "listed", desc := "(II)I" } : Jvm.MethodName)) ∈ gw := g8 211 rfl rfl
theorem wd_8_212 : (Jvm.Cond.code ({ cls := "NameRingModel", name := "listed", desc := "(II)I" } : Jvm.MethodName) prog_14_method_106_code (3 : Nat) (Option.some Jvm.ClassFile.FieldType.int)) ∈ gw := g8 212 rfl rfl
theorem wd_8_213 : (Jvm.Cond.methodLink "NameRingLaw" (47 : Nat) ({ cls := "NameRingModel", name := "finger", desc := "(II)I" } : Jvm.MethodName)) ∈ gw := g8 213 rfl rfl
theorem wd_8_214 : (Jvm.Cond.instanceMethod ({ cls := "NameRingModel", name := "finger", desc := "(II)I" } : Jvm.MethodName)) ∈ gw := g8 214 rfl rfl
theorem wd_8_215 : (Jvm.Cond.selects "NameRingModel" ({ cls := "NameRingModel", name := "finger", desc := "(II)I" } : Jvm.MethodName) ({ cls := "NameRingModel", name := "finger", desc := "(II)I" } : Jvm.MethodName)) ∈ gw := g8 215 rfl rfl
theorem wd_8_216 : (Jvm.Cond.code ({ cls := "NameRingModel", name := "finger", desc := "(II)I" } : Jvm.MethodName) prog_14_method_107_code (3 : Nat) (Option.some Jvm.ClassFile.FieldType.int)) ∈ gw := g8 216 rfl rfl
theorem wd_8_217 : (Jvm.Cond.methodLink "NameRingLaw" (51 : Nat) ({ cls := "NameRingModel", name := "key", desc := "(II)I" } : Jvm.MethodName)) ∈ gw := g8 217 rfl rfl
theorem wd_8_218 : (Jvm.Cond.instanceMethod ({ cls := "NameRingModel", name := "key", desc := "(II)I" } : Jvm.MethodName)) ∈ gw := g8 218 rfl rfl
theorem wd_8_219 : (Jvm.Cond.selects "NameRingModel" ({ cls := "NameRingModel", name := "key", desc := "(II)I" } : Jvm.MethodName) ({ cls := "NameRingModel", name := "key", desc := "(II)I" } : Jvm.MethodName)) ∈ gw := g8 219 rfl rfl
theorem wd_8_220 : (Jvm.Cond.code ({ cls := "NameRingModel", name := "key", desc := "(II)I" } : Jvm.MethodName) prog_14_method_109_code (3 : Nat) (Option.some Jvm.ClassFile.FieldType.int)) ∈ gw := g8 220 rfl rfl
theorem wd_8_221 : (Jvm.Cond.methodLink "NameRingModel" (414 : Nat) ({ cls := "NameRingModel", name := "ownerOf", desc := "(II)I" } : Jvm.MethodName)) ∈ gw := g8 221 rfl rfl
theorem wd_8_223 : (Jvm.Cond.instanceMethod ({ cls := "NameRingModel", name := "ownerOf", desc := "(II)I" } : Jvm.MethodName)) ∈ gw := g8 223 rfl rfl
theorem wd_8_224 : (Jvm.Cond.code ({ cls := "NameRingModel", name := "ownerOf", desc := "(II)I" } : Jvm.MethodName) prog_14_method_108_code (3 : Nat) (Option.some Jvm.ClassFile.FieldType.int)) ∈ gw := g8 224 rfl rfl
theorem wd_8_225 : (Jvm.Cond.methodLink "NameRingModel" (411 : Nat) ({ cls := "NameRingModel", name := "metFrom", desc := "(II)I" } : Jvm.MethodName)) ∈ gw := g8 225 rfl rfl
theorem wd_8_227 : (Jvm.Cond.instanceMethod ({ cls := "NameRingModel", name := "metFrom", desc := "(II)I" } : Jvm.MethodName)) ∈ gw := g8 227 rfl rfl
theorem wd_8_228 : (Jvm.Cond.code ({ cls := "NameRingModel", name := "metFrom", desc := "(II)I" } : Jvm.MethodName) prog_14_method_62_code (5 : Nat) (Option.some Jvm.ClassFile.FieldType.int)) ∈ gw := g8 228 rfl rfl
theorem wd_8_229 : (Jvm.Cond.methodLink "NameRingModel" (288 : Nat) ({ cls := "NameRingModel", name := "inAt", desc := "(II)I" } : Jvm.MethodName)) ∈ gw := g8 229 rfl rfl
theorem wd_8_231 : (Jvm.Cond.instanceMethod ({ cls := "NameRingModel", name := "inAt", desc := "(II)I" } : Jvm.MethodName)) ∈ gw := g8 231 rfl rfl
theorem wd_8_232 : (Jvm.Cond.code ({ cls := "NameRingModel", name := "inAt", desc := "(II)I" } : Jvm.MethodName) prog_14_method_61_code (5 : Nat) (Option.some Jvm.ClassFile.FieldType.int)) ∈ gw := g8 232 rfl rfl
theorem wd_8_233 : (Jvm.Cond.methodLink "NameRingLaw" (107 : Nat) ({ cls := "NameRingModel", name := "find", desc := "(II)I" } : Jvm.MethodName)) ∈ gw := g8 233 rfl rfl
theorem wd_8_234 : (Jvm.Cond.instanceMethod ({ cls := "NameRingModel", name := "find", desc := "(II)I" } : Jvm.MethodName)) ∈ gw := g8 234 rfl rfl
theorem wd_8_235 : (Jvm.Cond.selects "NameRingModel" ({ cls := "NameRingModel", name := "find", desc := "(II)I" } : Jvm.MethodName) ({ cls := "NameRingModel", name := "find", desc := "(II)I" } : Jvm.MethodName)) ∈ gw := g8 235 rfl rfl
theorem wd_8_236 : (Jvm.Cond.code ({ cls := "NameRingModel", name := "find", desc := "(II)I" } : Jvm.MethodName) prog_14_method_111_code (3 : Nat) (Option.some Jvm.ClassFile.FieldType.int)) ∈ gw := g8 236 rfl rfl
theorem wd_8_237 : (Jvm.Cond.methodLink "NameRingModel" (420 : Nat) ({ cls := "NameRingModel", name := "canFind", desc := "(II)Z" } : Jvm.MethodName)) ∈ gw := g8 237 rfl rfl
theorem wd_8_239 : (Jvm.Cond.instanceMethod ({ cls := "NameRingModel", name := "canFind", desc := "(II)Z" } : Jvm.MethodName)) ∈ gw := g8 239 rfl rfl
theorem wd_9_0 : (Jvm.Cond.code ({ cls := "NameRingModel", name := "canFind", desc := "(II)Z" } : Jvm.MethodName) prog_14_method_110_code (3 : Nat) (Option.some Jvm.ClassFile.FieldType.boolean)) ∈ gw := g9 0 rfl rfl
theorem wd_9_1 : (Jvm.Cond.methodLink "NameRingModel" (417 : Nat) ({ cls := "NameRingModel", name := "isPlace", desc := "(I)Z" } : Jvm.MethodName)) ∈ gw := g9 1 rfl rfl
theorem wd_9_3 : (Jvm.Cond.instanceMethod ({ cls := "NameRingModel", name := "isPlace", desc := "(I)Z" } : Jvm.MethodName)) ∈ gw := g9 3 rfl rfl
theorem wd_9_4 : (Jvm.Cond.code ({ cls := "NameRingModel", name := "isPlace", desc := "(I)Z" } : Jvm.MethodName) prog_14_method_49_code (2 : Nat) (Option.some Jvm.ClassFile.FieldType.boolean)) ∈ gw := g9 4 rfl rfl
theorem wd_9_5 : (Jvm.Cond.methodLink "NameRingLaw" (111 : Nat) ({ cls := "NameRingModel", name := "steps", desc := "(II)I" } : Jvm.MethodName)) ∈ gw := g9 5 rfl rfl
theorem wd_9_6 : (Jvm.Cond.instanceMethod ({ cls := "NameRingModel", name := "steps", desc := "(II)I" } : Jvm.MethodName)) ∈ gw := g9 6 rfl rfl
theorem wd_9_7 : (Jvm.Cond.selects "NameRingModel" ({ cls := "NameRingModel", name := "steps", desc := "(II)I" } : Jvm.MethodName) ({ cls := "NameRingModel", name := "steps", desc := "(II)I" } : Jvm.MethodName)) ∈ gw := g9 7 rfl rfl
theorem wd_9_8 : (Jvm.Cond.code ({ cls := "NameRingModel", name := "steps", desc := "(II)I" } : Jvm.MethodName) prog_14_method_113_code (3 : Nat) (Option.some Jvm.ClassFile.FieldType.int)) ∈ gw := g9 8 rfl rfl
theorem wd_9_9 : (Jvm.Cond.methodLink "NameRingModel" (423 : Nat) ({ cls := "NameRingModel", name := "stepsTo", desc := "(III)I" } : Jvm.MethodName)) ∈ gw := g9 9 rfl rfl
theorem wd_9_11 : (Jvm.Cond.instanceMethod ({ cls := "NameRingModel", name := "stepsTo", desc := "(III)I" } : Jvm.MethodName)) ∈ gw := g9 11 rfl rfl
theorem wd_9_12 : (Jvm.Cond.code ({ cls := "NameRingModel", name := "stepsTo", desc := "(III)I" } : Jvm.MethodName) prog_14_method_112_code (5 : Nat) (Option.some Jvm.ClassFile.FieldType.int)) ∈ gw := g9 12 rfl rfl
theorem wd_9_13 : (Jvm.Cond.methodLink "NameRingLaw" (117 : Nat) ({ cls := "NameRingModel", name := "route", desc := "(III)I" } : Jvm.MethodName)) ∈ gw := g9 13 rfl rfl
theorem wd_9_14 : (Jvm.Cond.instanceMethod ({ cls := "NameRingModel", name := "route", desc := "(III)I" } : Jvm.MethodName)) ∈ gw := g9 14 rfl rfl
theorem wd_9_15 : (Jvm.Cond.selects "NameRingModel" ({ cls := "NameRingModel", name := "route", desc := "(III)I" } : Jvm.MethodName) ({ cls := "NameRingModel", name := "route", desc := "(III)I" } : Jvm.MethodName)) ∈ gw := g9 15 rfl rfl
theorem wd_9_16 : (Jvm.Cond.code ({ cls := "NameRingModel", name := "route", desc := "(III)I" } : Jvm.MethodName) prog_14_method_114_code (5 : Nat) (Option.some Jvm.ClassFile.FieldType.int)) ∈ gw := g9 16 rfl rfl
theorem wd_9_17 : (Jvm.Cond.methodLink "NameRingLaw" (124 : Nat) ({ cls := "NameRingModel", name := "astray", desc := "()I" } : Jvm.MethodName)) ∈ gw := g9 17 rfl rfl
theorem wd_9_18 : (Jvm.Cond.instanceMethod ({ cls := "NameRingModel", name := "astray", desc := "()I" } : Jvm.MethodName)) ∈ gw := g9 18 rfl rfl
theorem wd_9_19 : (Jvm.Cond.selects "NameRingModel" ({ cls := "NameRingModel", name := "astray", desc := "()I" } : Jvm.MethodName) ({ cls := "NameRingModel", name := "astray", desc := "()I" } : Jvm.MethodName)) ∈ gw := g9 19 rfl rfl
theorem wd_9_20 : (Jvm.Cond.code ({ cls := "NameRingModel", name := "astray", desc := "()I" } : Jvm.MethodName) prog_14_method_116_code (1 : Nat) (Option.some Jvm.ClassFile.FieldType.int)) ∈ gw := g9 20 rfl rfl
theorem wd_9_21 : (Jvm.Cond.methodLink "NameRingModel" (426 : Nat) ({ cls := "NameRingModel", name := "astrayBy", desc := "(I)I" } : Jvm.MethodName)) ∈ gw := g9 21 rfl rfl
theorem wd_9_23 : (Jvm.Cond.instanceMethod ({ cls := "NameRingModel", name := "astrayBy", desc := "(I)I" } : Jvm.MethodName)) ∈ gw := g9 23 rfl rfl
theorem wd_9_24 : (Jvm.Cond.code ({ cls := "NameRingModel", name := "astrayBy", desc := "(I)I" } : Jvm.MethodName) prog_14_method_115_code (5 : Nat) (Option.some Jvm.ClassFile.FieldType.int)) ∈ gw := g9 24 rfl rfl
theorem wd_9_25 : (Jvm.Cond.methodLink "NameRingLaw" (128 : Nat) ({ cls := "NameRingModel", name := "lost", desc := "()I" } : Jvm.MethodName)) ∈ gw := g9 25 rfl rfl
theorem wd_9_26 : (Jvm.Cond.instanceMethod ({ cls := "NameRingModel", name := "lost", desc := "()I" } : Jvm.MethodName)) ∈ gw := g9 26 rfl rfl
theorem wd_9_27 : (Jvm.Cond.selects "NameRingModel" ({ cls := "NameRingModel", name := "lost", desc := "()I" } : Jvm.MethodName) ({ cls := "NameRingModel", name := "lost", desc := "()I" } : Jvm.MethodName)) ∈ gw := g9 27 rfl rfl
theorem wd_9_28 : (Jvm.Cond.code ({ cls := "NameRingModel", name := "lost", desc := "()I" } : Jvm.MethodName) prog_14_method_117_code (1 : Nat) (Option.some Jvm.ClassFile.FieldType.int)) ∈ gw := g9 28 rfl rfl
theorem wd_9_29 : (Jvm.Cond.methodLink "NameRingLaw" (132 : Nat) ({ cls := "NameRingModel", name := "cycles", desc := "(I)I" } : Jvm.MethodName)) ∈ gw := g9 29 rfl rfl
theorem wd_9_30 : (Jvm.Cond.instanceMethod ({ cls := "NameRingModel", name := "cycles", desc := "(I)I" } : Jvm.MethodName)) ∈ gw := g9 30 rfl rfl
theorem wd_9_31 : (Jvm.Cond.selects "NameRingModel" ({ cls := "NameRingModel", name := "cycles", desc := "(I)I" } : Jvm.MethodName) ({ cls := "NameRingModel", name := "cycles", desc := "(I)I" } : Jvm.MethodName)) ∈ gw := g9 31 rfl rfl
theorem wd_9_32 : (Jvm.Cond.code ({ cls := "NameRingModel", name := "cycles", desc := "(I)I" } : Jvm.MethodName) prog_14_method_124_code (4 : Nat) (Option.some Jvm.ClassFile.FieldType.int)) ∈ gw := g9 32 rfl rfl
theorem wd_9_33 : (Jvm.Cond.methodLink "NameRingModel" (435 : Nat) ({ cls := "NameRingModel", name := "cycleSet", desc := "(I)I" } : Jvm.MethodName)) ∈ gw := g9 33 rfl rfl
theorem wd_9_35 : (Jvm.Cond.instanceMethod ({ cls := "NameRingModel", name := "cycleSet", desc := "(I)I" } : Jvm.MethodName)) ∈ gw := g9 35 rfl rfl
theorem wd_9_36 : (Jvm.Cond.code ({ cls := "NameRingModel", name := "cycleSet", desc := "(I)I" } : Jvm.MethodName) prog_14_method_120_code (4 : Nat) (Option.some Jvm.ClassFile.FieldType.int)) ∈ gw := g9 36 rfl rfl
theorem wd_9_37 : (Jvm.Cond.methodLink "NameRingModel" (432 : Nat) ({ cls := "NameRingModel", name := "isOnCycle", desc := "(II)Z" } : Jvm.MethodName)) ∈ gw := g9 37 rfl rfl
theorem wd_9_39 : (Jvm.Cond.instanceMethod ({ cls := "NameRingModel", name := "isOnCycle", desc := "(II)Z" } : Jvm.MethodName)) ∈ gw := g9 39 rfl rfl
theorem wd_9_40 : (Jvm.Cond.code ({ cls := "NameRingModel", name := "isOnCycle", desc := "(II)Z" } : Jvm.MethodName) prog_14_method_119_code (5 : Nat) (Option.some Jvm.ClassFile.FieldType.boolean)) ∈ gw := g9 40 rfl rfl
theorem wd_9_41 : (Jvm.Cond.methodLink "NameRingModel" (429 : Nat) ({ cls := "NameRingModel", name := "comesTo", desc := "(III)I" } : Jvm.MethodName)) ∈ gw := g9 41 rfl rfl
theorem wd_9_43 : (Jvm.Cond.instanceMethod ({ cls := "NameRingModel", name := "comesTo", desc := "(III)I" } : Jvm.MethodName)) ∈ gw := g9 43 rfl rfl
theorem wd_9_44 : (Jvm.Cond.code ({ cls := "NameRingModel", name := "comesTo", desc := "(III)I" } : Jvm.MethodName) prog_14_method_118_code (6 : Nat) (Option.some Jvm.ClassFile.FieldType.int)) ∈ gw := g9 44 rfl rfl
theorem wd_9_45 : (Jvm.Cond.methodLink "NameRingModel" (441 : Nat) ({ cls := "NameRingModel", name := "brokenSet", desc := "(I)I" } : Jvm.MethodName)) ∈ gw := g9 45 rfl rfl
theorem wd_9_47 : (Jvm.Cond.instanceMethod ({ cls := "NameRingModel", name := "brokenSet", desc := "(I)I" } : Jvm.MethodName)) ∈ gw := g9 47 rfl rfl
theorem wd_9_48 : (Jvm.Cond.code ({ cls := "NameRingModel", name := "brokenSet", desc := "(I)I" } : Jvm.MethodName) prog_14_method_121_code (4 : Nat) (Option.some Jvm.ClassFile.FieldType.int)) ∈ gw := g9 48 rfl rfl
theorem wd_9_49 : (Jvm.Cond.methodLink "NameRingModel" (444 : Nat) ({ cls := "NameRingModel", name := "cyclesMany", desc := "(I)I" } : Jvm.MethodName)) ∈ gw := g9 49 rfl rfl
theorem wd_9_51 : (Jvm.Cond.instanceMethod ({ cls := "NameRingModel", name := "cyclesMany", desc := "(I)I" } : Jvm.MethodName)) ∈ gw := g9 51 rfl rfl
theorem wd_9_52 : (Jvm.Cond.code ({ cls := "NameRingModel", name := "cyclesMany", desc := "(I)I" } : Jvm.MethodName) prog_14_method_123_code (5 : Nat) (Option.some Jvm.ClassFile.FieldType.int)) ∈ gw := g9 52 rfl rfl
theorem wd_9_53 : (Jvm.Cond.methodLink "NameRingModel" (438 : Nat) ({ cls := "NameRingModel", name := "isLeast", desc := "(II)Z" } : Jvm.MethodName)) ∈ gw := g9 53 rfl rfl
theorem wd_9_55 : (Jvm.Cond.instanceMethod ({ cls := "NameRingModel", name := "isLeast", desc := "(II)Z" } : Jvm.MethodName)) ∈ gw := g9 55 rfl rfl
theorem wd_9_56 : (Jvm.Cond.code ({ cls := "NameRingModel", name := "isLeast", desc := "(II)Z" } : Jvm.MethodName) prog_14_method_122_code (5 : Nat) (Option.some Jvm.ClassFile.FieldType.boolean)) ∈ gw := g9 56 rfl rfl
theorem wd_9_57 : (Jvm.Cond.methodLink "NameRingLaw" (136 : Nat) ({ cls := "NameRingModel", name := "ordered", desc := "()Z" } : Jvm.MethodName)) ∈ gw := g9 57 rfl rfl
theorem wd_9_58 : (Jvm.Cond.instanceMethod ({ cls := "NameRingModel", name := "ordered", desc := "()Z" } : Jvm.MethodName)) ∈ gw := g9 58 rfl rfl
theorem wd_9_59 : (Jvm.Cond.selects "NameRingModel" ({ cls := "NameRingModel", name := "ordered", desc := "()Z" } : Jvm.MethodName) ({ cls := "NameRingModel", name := "ordered", desc := "()Z" } : Jvm.MethodName)) ∈ gw := g9 59 rfl rfl
theorem wd_9_60 : (Jvm.Cond.code ({ cls := "NameRingModel", name := "ordered", desc := "()Z" } : Jvm.MethodName) prog_14_method_126_code (1 : Nat) (Option.some Jvm.ClassFile.FieldType.boolean)) ∈ gw := g9 60 rfl rfl
theorem wd_9_61 : (Jvm.Cond.methodLink "NameRingModel" (447 : Nat) ({ cls := "NameRingModel", name := "isOrdered", desc := "(I)Z" } : Jvm.MethodName)) ∈ gw := g9 61 rfl rfl
theorem wd_9_63 : (Jvm.Cond.instanceMethod ({ cls := "NameRingModel", name := "isOrdered", desc := "(I)Z" } : Jvm.MethodName)) ∈ gw := g9 63 rfl rfl
theorem wd_9_64 : (Jvm.Cond.code ({ cls := "NameRingModel", name := "isOrdered", desc := "(I)Z" } : Jvm.MethodName) prog_14_method_125_code (5 : Nat) (Option.some Jvm.ClassFile.FieldType.boolean)) ∈ gw := g9 64 rfl rfl
theorem wd_9_65 : (Jvm.Cond.methodLink "NameRingLaw" (140 : Nat) ({ cls := "NameRingModel", name := "amiss", desc := "()I" } : Jvm.MethodName)) ∈ gw := g9 65 rfl rfl
theorem wd_9_66 : (Jvm.Cond.instanceMethod ({ cls := "NameRingModel", name := "amiss", desc := "()I" } : Jvm.MethodName)) ∈ gw := g9 66 rfl rfl
theorem wd_9_67 : (Jvm.Cond.selects "NameRingModel" ({ cls := "NameRingModel", name := "amiss", desc := "()I" } : Jvm.MethodName) ({ cls := "NameRingModel", name := "amiss", desc := "()I" } : Jvm.MethodName)) ∈ gw := g9 67 rfl rfl
theorem wd_9_68 : (Jvm.Cond.code ({ cls := "NameRingModel", name := "amiss", desc := "()I" } : Jvm.MethodName) prog_14_method_128_code (1 : Nat) (Option.some Jvm.ClassFile.FieldType.int)) ∈ gw := g9 68 rfl rfl
theorem wd_9_69 : (Jvm.Cond.methodLink "NameRingModel" (450 : Nat) ({ cls := "NameRingModel", name := "amissBy", desc := "(I)I" } : Jvm.MethodName)) ∈ gw := g9 69 rfl rfl
theorem wd_9_71 : (Jvm.Cond.instanceMethod ({ cls := "NameRingModel", name := "amissBy", desc := "(I)I" } : Jvm.MethodName)) ∈ gw := g9 71 rfl rfl
theorem wd_9_72 : (Jvm.Cond.code ({ cls := "NameRingModel", name := "amissBy", desc := "(I)I" } : Jvm.MethodName) prog_14_method_127_code (4 : Nat) (Option.some Jvm.ClassFile.FieldType.int)) ∈ gw := g9 72 rfl rfl
theorem wd_9_73 : (Jvm.Cond.methodLink "NameRingLaw" (144 : Nat) ({ cls := "NameRingModel", name := "behind", desc := "()I" } : Jvm.MethodName)) ∈ gw := g9 73 rfl rfl
theorem wd_9_74 : (Jvm.Cond.instanceMethod ({ cls := "NameRingModel", name := "behind", desc := "()I" } : Jvm.MethodName)) ∈ gw := g9 74 rfl rfl
theorem wd_9_75 : (Jvm.Cond.selects "NameRingModel" ({ cls := "NameRingModel", name := "behind", desc := "()I" } : Jvm.MethodName) ({ cls := "NameRingModel", name := "behind", desc := "()I" } : Jvm.MethodName)) ∈ gw := g9 75 rfl rfl
theorem wd_9_76 : (Jvm.Cond.code ({ cls := "NameRingModel", name := "behind", desc := "()I" } : Jvm.MethodName) prog_14_method_130_code (1 : Nat) (Option.some Jvm.ClassFile.FieldType.int)) ∈ gw := g9 76 rfl rfl
theorem wd_9_77 : (Jvm.Cond.methodLink "NameRingModel" (456 : Nat) ({ cls := "NameRingModel", name := "behindBy", desc := "(I)I" } : Jvm.MethodName)) ∈ gw := g9 77 rfl rfl
theorem wd_9_79 : (Jvm.Cond.instanceMethod ({ cls := "NameRingModel", name := "behindBy", desc := "(I)I" } : Jvm.MethodName)) ∈ gw := g9 79 rfl rfl
theorem wd_9_80 : (Jvm.Cond.code ({ cls := "NameRingModel", name := "behindBy", desc := "(I)I" } : Jvm.MethodName) prog_14_method_129_code (5 : Nat) (Option.some Jvm.ClassFile.FieldType.int)) ∈ gw := g9 80 rfl rfl
theorem wd_9_81 : (Jvm.Cond.methodLink "NameRingModel" (453 : Nat) ({ cls := "NameRingModel", name := "metBack", desc := "(II)I" } : Jvm.MethodName)) ∈ gw := g9 81 rfl rfl
theorem wd_9_83 : (Jvm.Cond.instanceMethod ({ cls := "NameRingModel", name := "metBack", desc := "(II)I" } : Jvm.MethodName)) ∈ gw := g9 83 rfl rfl
theorem wd_9_84 : (Jvm.Cond.code ({ cls := "NameRingModel", name := "metBack", desc := "(II)I" } : Jvm.MethodName) prog_14_method_63_code (5 : Nat) (Option.some Jvm.ClassFile.FieldType.int)) ∈ gw := g9 84 rfl rfl
theorem wd_9_85 : (Jvm.Cond.methodLink "NameRingLaw" (148 : Nat) ({ cls := "NameRingModel", name := "rests", desc := "()I" } : Jvm.MethodName)) ∈ gw := g9 85 rfl rfl
theorem wd_9_86 : (Jvm.Cond.instanceMethod ({ cls := "NameRingModel", name := "rests", desc := "()I" } : Jvm.MethodName)) ∈ gw := g9 86 rfl rfl
theorem wd_9_87 : (Jvm.Cond.selects "NameRingModel" ({ cls := "NameRingModel", name := "rests", desc := "()I" } : Jvm.MethodName) ({ cls := "NameRingModel", name := "rests", desc := "()I" } : Jvm.MethodName)) ∈ gw := g9 87 rfl rfl
theorem wd_9_88 : (Jvm.Cond.code ({ cls := "NameRingModel", name := "rests", desc := "()I" } : Jvm.MethodName) prog_14_method_133_code (2 : Nat) (Option.some Jvm.ClassFile.FieldType.int)) ∈ gw := g9 88 rfl rfl
theorem wd_9_89 : (Jvm.Cond.methodLink "NameRingModel" (459 : Nat) ({ cls := "NameRingModel", name := "rounds", desc := "(I)V" } : Jvm.MethodName)) ∈ gw := g9 89 rfl rfl
theorem wd_9_91 : (Jvm.Cond.instanceMethod ({ cls := "NameRingModel", name := "rounds", desc := "(I)V" } : Jvm.MethodName)) ∈ gw := g9 91 rfl rfl
theorem wd_9_92 : (Jvm.Cond.code ({ cls := "NameRingModel", name := "rounds", desc := "(I)V" } : Jvm.MethodName) prog_14_method_131_code (4 : Nat) (Option.none : Option Jvm.ClassFile.FieldType)) ∈ gw := g9 92 rfl rfl
theorem wd_9_93 : (Jvm.Cond.methodLink "NameRingModel" (462 : Nat) ({ cls := "NameRingModel", name := "areAlike", desc := "(II)Z" } : Jvm.MethodName)) ∈ gw := g9 93 rfl rfl
theorem wd_9_95 : (Jvm.Cond.instanceMethod ({ cls := "NameRingModel", name := "areAlike", desc := "(II)Z" } : Jvm.MethodName)) ∈ gw := g9 95 rfl rfl
theorem wd_9_96 : (Jvm.Cond.code ({ cls := "NameRingModel", name := "areAlike", desc := "(II)Z" } : Jvm.MethodName) prog_14_method_132_code (5 : Nat) (Option.some Jvm.ClassFile.FieldType.boolean)) ∈ gw := g9 96 rfl rfl
theorem wd_9_97 : (Jvm.Cond.methodLink "NameRingLaw" (152 : Nat) ({ cls := "NameRingModel", name := "after", desc := "(II)I" } : Jvm.MethodName)) ∈ gw := g9 97 rfl rfl
theorem wd_9_98 : (Jvm.Cond.instanceMethod ({ cls := "NameRingModel", name := "after", desc := "(II)I" } : Jvm.MethodName)) ∈ gw := g9 98 rfl rfl
theorem wd_9_99 : (Jvm.Cond.selects "NameRingModel" ({ cls := "NameRingModel", name := "after", desc := "(II)I" } : Jvm.MethodName) ({ cls := "NameRingModel", name := "after", desc := "(II)I" } : Jvm.MethodName)) ∈ gw := g9 99 rfl rfl
theorem wd_9_100 : (Jvm.Cond.code ({ cls := "NameRingModel", name := "after", desc := "(II)I" } : Jvm.MethodName) prog_14_method_134_code (4 : Nat) (Option.some Jvm.ClassFile.FieldType.int)) ∈ gw := g9 100 rfl rfl
theorem wd_9_101 : (Jvm.Cond.methodLink "NameRingLaw" (156 : Nat) ({ cls := "NameRingModel", name := "wrongs", desc := "(I)I" } : Jvm.MethodName)) ∈ gw := g9 101 rfl rfl
theorem wd_9_102 : (Jvm.Cond.instanceMethod ({ cls := "NameRingModel", name := "wrongs", desc := "(I)I" } : Jvm.MethodName)) ∈ gw := g9 102 rfl rfl
theorem wd_9_103 : (Jvm.Cond.selects "NameRingModel" ({ cls := "NameRingModel", name := "wrongs", desc := "(I)I" } : Jvm.MethodName) ({ cls := "NameRingModel", name := "wrongs", desc := "(I)I" } : Jvm.MethodName)) ∈ gw := g9 103 rfl rfl
theorem wd_9_104 : (Jvm.Cond.code ({ cls := "NameRingModel", name := "wrongs", desc := "(I)I" } : Jvm.MethodName) prog_14_method_136_code (4 : Nat) (Option.some Jvm.ClassFile.FieldType.int)) ∈ gw := g9 104 rfl rfl
theorem wd_9_105 : (Jvm.Cond.methodLink "NameRingModel" (465 : Nat) ({ cls := "NameRingModel", name := "isThere", desc := "(I)Z" } : Jvm.MethodName)) ∈ gw := g9 105 rfl rfl
theorem wd_9_107 : (Jvm.Cond.instanceMethod ({ cls := "NameRingModel", name := "isThere", desc := "(I)Z" } : Jvm.MethodName)) ∈ gw := g9 107 rfl rfl
theorem wd_9_108 : (Jvm.Cond.code ({ cls := "NameRingModel", name := "isThere", desc := "(I)Z" } : Jvm.MethodName) prog_14_method_135_code (2 : Nat) (Option.some Jvm.ClassFile.FieldType.boolean)) ∈ gw := g9 108 rfl rfl
theorem wd_9_109 : (Jvm.Cond.methodLink "NameRingLaw" (160 : Nat) ({ cls := "NameRingModel", name := "far", desc := "(I)I" } : Jvm.MethodName)) ∈ gw := g9 109 rfl rfl
theorem wd_9_110 : (Jvm.Cond.instanceMethod ({ cls := "NameRingModel", name := "far", desc := "(I)I" } : Jvm.MethodName)) ∈ gw := g9 110 rfl rfl
theorem wd_9_111 : (Jvm.Cond.selects "NameRingModel" ({ cls := "NameRingModel", name := "far", desc := "(I)I" } : Jvm.MethodName) ({ cls := "NameRingModel", name := "far", desc := "(I)I" } : Jvm.MethodName)) ∈ gw := g9 111 rfl rfl
theorem wd_9_112 : (Jvm.Cond.code ({ cls := "NameRingModel", name := "far", desc := "(I)I" } : Jvm.MethodName) prog_14_method_137_code (5 : Nat) (Option.some Jvm.ClassFile.FieldType.int)) ∈ gw := g9 112 rfl rfl
theorem wd_9_113 : (Jvm.Cond.methodLink "NameRingLaw" (188 : Nat) ({ cls := "NameRingModel", name := "toil", desc := "(I)I" } : Jvm.MethodName)) ∈ gw := g9 113 rfl rfl
theorem wd_9_114 : (Jvm.Cond.instanceMethod ({ cls := "NameRingModel", name := "toil", desc := "(I)I" } : Jvm.MethodName)) ∈ gw := g9 114 rfl rfl
theorem wd_9_115 : (Jvm.Cond.selects "NameRingModel" ({ cls := "NameRingModel", name := "toil", desc := "(I)I" } : Jvm.MethodName) ({ cls := "NameRingModel", name := "toil", desc := "(I)I" } : Jvm.MethodName)) ∈ gw := g9 115 rfl rfl
theorem wd_9_116 : (Jvm.Cond.code ({ cls := "NameRingModel", name := "toil", desc := "(I)I" } : Jvm.MethodName) prog_14_method_138_code (5 : Nat) (Option.some Jvm.ClassFile.FieldType.int)) ∈ gw := g9 116 rfl rfl
theorem wd_9_117 : (Jvm.Cond.methodLink "NameRingLaw" (164 : Nat) ({ cls := "NameRingModel", name := "arc", desc := "(I)I" } : Jvm.MethodName)) ∈ gw := g9 117 rfl rfl
theorem wd_9_118 : (Jvm.Cond.instanceMethod ({ cls := "NameRingModel", name := "arc", desc := "(I)I" } : Jvm.MethodName)) ∈ gw := g9 118 rfl rfl
theorem wd_9_119 : (Jvm.Cond.selects "NameRingModel" ({ cls := "NameRingModel", name := "arc", desc := "(I)I" } : Jvm.MethodName) ({ cls := "NameRingModel", name := "arc", desc := "(I)I" } : Jvm.MethodName)) ∈ gw := g9 119 rfl rfl
theorem wd_9_120 : (Jvm.Cond.code ({ cls := "NameRingModel", name := "arc", desc := "(I)I" } : Jvm.MethodName) prog_14_method_140_code (2 : Nat) (Option.some Jvm.ClassFile.FieldType.int)) ∈ gw := g9 120 rfl rfl
theorem wd_9_121 : (Jvm.Cond.methodLink "NameRingModel" (468 : Nat) ({ cls := "NameRingModel", name := "arcOf", desc := "(I)I" } : Jvm.MethodName)) ∈ gw := g9 121 rfl rfl
theorem wd_9_123 : (Jvm.Cond.instanceMethod ({ cls := "NameRingModel", name := "arcOf", desc := "(I)I" } : Jvm.MethodName)) ∈ gw := g9 123 rfl rfl
theorem wd_9_124 : (Jvm.Cond.code ({ cls := "NameRingModel", name := "arcOf", desc := "(I)I" } : Jvm.MethodName) prog_14_method_139_code (2 : Nat) (Option.some Jvm.ClassFile.FieldType.int)) ∈ gw := g9 124 rfl rfl
theorem wd_9_125 : (Jvm.Cond.methodLink "NameRingLaw" (184 : Nat) ({ cls := "NameRingModel", name := "widest", desc := "()I" } : Jvm.MethodName)) ∈ gw := g9 125 rfl rfl
theorem wd_9_126 : (Jvm.Cond.instanceMethod ({ cls := "NameRingModel", name := "widest", desc := "()I" } : Jvm.MethodName)) ∈ gw := g9 126 rfl rfl
theorem wd_9_127 : (Jvm.Cond.selects "NameRingModel" ({ cls := "NameRingModel", name := "widest", desc := "()I" } : Jvm.MethodName) ({ cls := "NameRingModel", name := "widest", desc := "()I" } : Jvm.MethodName)) ∈ gw := g9 127 rfl rfl
theorem wd_9_128 : (Jvm.Cond.code ({ cls := "NameRingModel", name := "widest", desc := "()I" } : Jvm.MethodName) prog_14_method_141_code (3 : Nat) (Option.some Jvm.ClassFile.FieldType.int)) ∈ gw := g9 128 rfl rfl
theorem wd_9_129 : (Jvm.Cond.methodLink "NameRingLaw" (168 : Nat) ({ cls := "NameRingModel", name := "load", desc := "(I)I" } : Jvm.MethodName)) ∈ gw := g9 129 rfl rfl
theorem wd_9_130 : (Jvm.Cond.instanceMethod ({ cls := "NameRingModel", name := "load", desc := "(I)I" } : Jvm.MethodName)) ∈ gw := g9 130 rfl rfl
theorem wd_9_131 : (Jvm.Cond.selects "NameRingModel" ({ cls := "NameRingModel", name := "load", desc := "(I)I" } : Jvm.MethodName) ({ cls := "NameRingModel", name := "load", desc := "(I)I" } : Jvm.MethodName)) ∈ gw := g9 131 rfl rfl
theorem wd_9_132 : (Jvm.Cond.code ({ cls := "NameRingModel", name := "load", desc := "(I)I" } : Jvm.MethodName) prog_14_method_142_code (4 : Nat) (Option.some Jvm.ClassFile.FieldType.int)) ∈ gw := g9 132 rfl rfl
theorem wd_9_133 : (Jvm.Cond.methodLink "NameRingLaw" (172 : Nat) ({ cls := "NameRingModel", name := "hosts", desc := "(I)I" } : Jvm.MethodName)) ∈ gw := g9 133 rfl rfl
theorem wd_9_134 : (Jvm.Cond.instanceMethod ({ cls := "NameRingModel", name := "hosts", desc := "(I)I" } : Jvm.MethodName)) ∈ gw := g9 134 rfl rfl
theorem wd_9_135 : (Jvm.Cond.selects "NameRingModel" ({ cls := "NameRingModel", name := "hosts", desc := "(I)I" } : Jvm.MethodName) ({ cls := "NameRingModel", name := "hosts", desc := "(I)I" } : Jvm.MethodName)) ∈ gw := g9 135 rfl rfl
theorem wd_9_136 : (Jvm.Cond.code ({ cls := "NameRingModel", name := "hosts", desc := "(I)I" } : Jvm.MethodName) prog_14_method_144_code (4 : Nat) (Option.some Jvm.ClassFile.FieldType.int)) ∈ gw := g9 136 rfl rfl
theorem wd_9_137 : (Jvm.Cond.methodLink "NameRingModel" (471 : Nat) ({ cls := "NameRingModel", name := "isListed", desc := "(II)Z" } : Jvm.MethodName)) ∈ gw := g9 137 rfl rfl
theorem wd_9_139 : (Jvm.Cond.instanceMethod ({ cls := "NameRingModel", name := "isListed", desc := "(II)Z" } : Jvm.MethodName)) ∈ gw := g9 139 rfl rfl
theorem wd_9_140 : (Jvm.Cond.code ({ cls := "NameRingModel", name := "isListed", desc := "(II)Z" } : Jvm.MethodName) prog_14_method_143_code (5 : Nat) (Option.some Jvm.ClassFile.FieldType.boolean)) ∈ gw := g9 140 rfl rfl
theorem wd_9_141 : (Jvm.Cond.methodLink "NameRingLaw" (176 : Nat) ({ cls := "NameRingModel", name := "reaches", desc := "(I)I" } : Jvm.MethodName)) ∈ gw := g9 141 rfl rfl
theorem wd_9_142 : (Jvm.Cond.instanceMethod ({ cls := "NameRingModel", name := "reaches", desc := "(I)I" } : Jvm.MethodName)) ∈ gw := g9 142 rfl rfl
theorem wd_9_143 : (Jvm.Cond.selects "NameRingModel" ({ cls := "NameRingModel", name := "reaches", desc := "(I)I" } : Jvm.MethodName) ({ cls := "NameRingModel", name := "reaches", desc := "(I)I" } : Jvm.MethodName)) ∈ gw := g9 143 rfl rfl
theorem wd_9_144 : (Jvm.Cond.code ({ cls := "NameRingModel", name := "reaches", desc := "(I)I" } : Jvm.MethodName) prog_14_method_146_code (6 : Nat) (Option.some Jvm.ClassFile.FieldType.int)) ∈ gw := g9 144 rfl rfl
theorem wd_9_145 : (Jvm.Cond.methodLink "NameRingModel" (474 : Nat) ({ cls := "NameRingModel", name := "knows", desc := "(II)Z" } : Jvm.MethodName)) ∈ gw := g9 145 rfl rfl
theorem wd_9_147 : (Jvm.Cond.instanceMethod ({ cls := "NameRingModel", name := "knows", desc := "(II)Z" } : Jvm.MethodName)) ∈ gw := g9 147 rfl rfl
theorem wd_9_148 : (Jvm.Cond.code ({ cls := "NameRingModel", name := "knows", desc := "(II)Z" } : Jvm.MethodName) prog_14_method_145_code (5 : Nat) (Option.some Jvm.ClassFile.FieldType.boolean)) ∈ gw := g9 148 rfl rfl
theorem wd_9_149 : (Jvm.Cond.methodLink "NameRingLaw" (180 : Nat) ({ cls := "NameRingModel", name := "heirs", desc := "(II)I" } : Jvm.MethodName)) ∈ gw := g9 149 rfl rfl
theorem wd_9_150 : (Jvm.Cond.instanceMethod ({ cls := "NameRingModel", name := "heirs", desc := "(II)I" } : Jvm.MethodName)) ∈ gw := g9 150 rfl rfl
theorem wd_9_151 : (Jvm.Cond.selects "NameRingModel" ({ cls := "NameRingModel", name := "heirs", desc := "(II)I" } : Jvm.MethodName) ({ cls := "NameRingModel", name := "heirs", desc := "(II)I" } : Jvm.MethodName)) ∈ gw := g9 151 rfl rfl
theorem wd_9_152 : (Jvm.Cond.code ({ cls := "NameRingModel", name := "heirs", desc := "(II)I" } : Jvm.MethodName) prog_14_method_147_code (6 : Nat) (Option.some Jvm.ClassFile.FieldType.int)) ∈ gw := g9 152 rfl rfl
theorem wd_9_153 : (Jvm.Cond.methodLink "NameRingLaw" (192 : Nat) ({ cls := "NameRingModel", name := "risk", desc := "(I)I" } : Jvm.MethodName)) ∈ gw := g9 153 rfl rfl
theorem wd_9_154 : (Jvm.Cond.instanceMethod ({ cls := "NameRingModel", name := "risk", desc := "(I)I" } : Jvm.MethodName)) ∈ gw := g9 154 rfl rfl
theorem wd_9_155 : (Jvm.Cond.selects "NameRingModel" ({ cls := "NameRingModel", name := "risk", desc := "(I)I" } : Jvm.MethodName) ({ cls := "NameRingModel", name := "risk", desc := "(I)I" } : Jvm.MethodName)) ∈ gw := g9 155 rfl rfl
theorem wd_9_156 : (Jvm.Cond.code ({ cls := "NameRingModel", name := "risk", desc := "(I)I" } : Jvm.MethodName) prog_14_method_149_code (5 : Nat) (Option.some Jvm.ClassFile.FieldType.int)) ∈ gw := g9 156 rfl rfl
theorem wd_9_157 : (Jvm.Cond.methodLink "NameRingModel" (477 : Nat) ({ cls := "NameRingModel", name := "strands", desc := "(I)Z" } : Jvm.MethodName)) ∈ gw := g9 157 rfl rfl
theorem wd_9_159 : (Jvm.Cond.instanceMethod ({ cls := "NameRingModel", name := "strands", desc := "(I)Z" } : Jvm.MethodName)) ∈ gw := g9 159 rfl rfl
theorem wd_9_160 : (Jvm.Cond.code ({ cls := "NameRingModel", name := "strands", desc := "(I)Z" } : Jvm.MethodName) prog_14_method_148_code (8 : Nat) (Option.some Jvm.ClassFile.FieldType.boolean)) ∈ gw := g9 160 rfl rfl
theorem wd_9_161 : (Jvm.Cond.methodLink "NameRingLaw" (196 : Nat) ({ cls := "NameRingModel", name := "moves", desc := "(I)I" } : Jvm.MethodName)) ∈ gw := g9 161 rfl rfl
theorem wd_9_162 : (Jvm.Cond.instanceMethod ({ cls := "NameRingModel", name := "moves", desc := "(I)I" } : Jvm.MethodName)) ∈ gw := g9 162 rfl rfl
theorem wd_9_163 : (Jvm.Cond.selects "NameRingModel" ({ cls := "NameRingModel", name := "moves", desc := "(I)I" } : Jvm.MethodName) ({ cls := "NameRingModel", name := "moves", desc := "(I)I" } : Jvm.MethodName)) ∈ gw := g9 163 rfl rfl
theorem wd_9_164 : (Jvm.Cond.code ({ cls := "NameRingModel", name := "moves", desc := "(I)I" } : Jvm.MethodName) prog_14_method_150_code (4 : Nat) (Option.some Jvm.ClassFile.FieldType.int)) ∈ gw := g9 164 rfl rfl
theorem wd_9_165 : (Jvm.Cond.methodLink "NameRingLaw" (201 : Nat) ({ cls := "NameRingModel", name := "see", desc := "(IIZ)Z" } : Jvm.MethodName)) ∈ gw := g9 165 rfl rfl
theorem wd_9_166 : (Jvm.Cond.instanceMethod ({ cls := "NameRingModel", name := "see", desc := "(IIZ)Z" } : Jvm.MethodName)) ∈ gw := g9 166 rfl rfl
theorem wd_9_167 : (Jvm.Cond.selects "NameRingModel" ({ cls := "NameRingModel", name := "see", desc := "(IIZ)Z" } : Jvm.MethodName) ({ cls := "NameRingModel", name := "see", desc := "(IIZ)Z" } : Jvm.MethodName)) ∈ gw := g9 167 rfl rfl
theorem wd_9_168 : (Jvm.Cond.code ({ cls := "NameRingModel", name := "see", desc := "(IIZ)Z" } : Jvm.MethodName) prog_14_method_151_code (5 : Nat) (Option.some Jvm.ClassFile.FieldType.boolean)) ∈ gw := g9 168 rfl rfl
theorem wd_9_169 : (Jvm.Cond.methodLink "NameRingLaw" (205 : Nat) ({ cls := "NameRingModel", name := "who", desc := "()I" } : Jvm.MethodName)) ∈ gw := g9 169 rfl rfl
theorem wd_9_170 : (Jvm.Cond.instanceMethod ({ cls := "NameRingModel", name := "who", desc := "()I" } : Jvm.MethodName)) ∈ gw := g9 170 rfl rfl
theorem wd_9_171 : (Jvm.Cond.selects "NameRingModel" ({ cls := "NameRingModel", name := "who", desc := "()I" } : Jvm.MethodName) ({ cls := "NameRingModel", name := "who", desc := "()I" } : Jvm.MethodName)) ∈ gw := g9 171 rfl rfl
theorem wd_9_172 : (Jvm.Cond.code ({ cls := "NameRingModel", name := "who", desc := "()I" } : Jvm.MethodName) prog_14_method_153_code (1 : Nat) (Option.some Jvm.ClassFile.FieldType.int)) ∈ gw := g9 172 rfl rfl
theorem wd_9_173 : (Jvm.Cond.methodLink "NameRingModel" (480 : Nat) ({ cls := "NameRingModel", name := "whoNow", desc := "()I" } : Jvm.MethodName)) ∈ gw := g9 173 rfl rfl
theorem wd_9_175 : (Jvm.Cond.instanceMethod ({ cls := "NameRingModel", name := "whoNow", desc := "()I" } : Jvm.MethodName)) ∈ gw := g9 175 rfl rfl
theorem wd_9_176 : (Jvm.Cond.code ({ cls := "NameRingModel", name := "whoNow", desc := "()I" } : Jvm.MethodName) prog_14_method_152_code (7 : Nat) (Option.some Jvm.ClassFile.FieldType.int)) ∈ gw := g9 176 rfl rfl
theorem wd_9_177 : (Jvm.Cond.methodLink "NameRingLaw" (209 : Nat) ({ cls := "NameRingModel", name := "ask", desc := "()I" } : Jvm.MethodName)) ∈ gw := g9 177 rfl rfl
theorem wd_9_178 : (Jvm.Cond.instanceMethod ({ cls := "NameRingModel", name := "ask", desc := "()I" } : Jvm.MethodName)) ∈ gw := g9 178 rfl rfl
theorem wd_9_179 : (Jvm.Cond.selects "NameRingModel" ({ cls := "NameRingModel", name := "ask", desc := "()I" } : Jvm.MethodName) ({ cls := "NameRingModel", name := "ask", desc := "()I" } : Jvm.MethodName)) ∈ gw := g9 179 rfl rfl
theorem wd_9_180 : (Jvm.Cond.code ({ cls := "NameRingModel", name := "ask", desc := "()I" } : Jvm.MethodName) prog_14_method_155_code (6 : Nat) (Option.some Jvm.ClassFile.FieldType.int)) ∈ gw := g9 180 rfl rfl
theorem wd_9_181 : (Jvm.Cond.methodLink "NameRingModel" (483 : Nat) ({ cls := "NameRingModel", name := "greatestGroup", desc := "(II)I" } : Jvm.MethodName)) ∈ gw := g9 181 rfl rfl
theorem wd_9_183 : (Jvm.Cond.instanceMethod ({ cls := "NameRingModel", name := "greatestGroup", desc := "(II)I" } : Jvm.MethodName)) ∈ gw := g9 183 rfl rfl
theorem wd_9_184 : (Jvm.Cond.code ({ cls := "NameRingModel", name := "greatestGroup", desc := "(II)I" } : Jvm.MethodName) prog_14_method_154_code (6 : Nat) (Option.some Jvm.ClassFile.FieldType.int)) ∈ gw := g9 184 rfl rfl
theorem wd_9_185 : (Jvm.Cond.methodLink "NameRingLaw" (213 : Nat) ({ cls := "NameRingModel", name := "drives", desc := "(III)I" } : Jvm.MethodName)) ∈ gw := g9 185 rfl rfl
theorem wd_9_186 : (Jvm.Cond.instanceMethod ({ cls := "NameRingModel", name := "drives", desc := "(III)I" } : Jvm.MethodName)) ∈ gw := g9 186 rfl rfl
theorem wd_9_187 : (Jvm.Cond.selects "NameRingModel" ({ cls := "NameRingModel", name := "drives", desc := "(III)I" } : Jvm.MethodName) ({ cls := "NameRingModel", name := "drives", desc := "(III)I" } : Jvm.MethodName)) ∈ gw := g9 187 rfl rfl
theorem wd_9_188 : (Jvm.Cond.code ({ cls := "NameRingModel", name := "drives", desc := "(III)I" } : Jvm.MethodName) prog_14_method_158_code (11 : Nat) (Option.some Jvm.ClassFile.FieldType.int)) ∈ gw := g9 188 rfl rfl
theorem wd_9_189 : (Jvm.Cond.methodLink "NameRingModel" (498 : Nat) ({ cls := "NameRingModel", name := "draw", desc := "(I)I" } : Jvm.MethodName)) ∈ gw := g9 189 rfl rfl
theorem wd_9_191 : (Jvm.Cond.instanceMethod ({ cls := "NameRingModel", name := "draw", desc := "(I)I" } : Jvm.MethodName)) ∈ gw := g9 191 rfl rfl
theorem wd_9_192 : (Jvm.Cond.code ({ cls := "NameRingModel", name := "draw", desc := "(I)I" } : Jvm.MethodName) prog_14_method_156_code (2 : Nat) (Option.some Jvm.ClassFile.FieldType.int)) ∈ gw := g9 192 rfl rfl
theorem wd_9_193 : (Jvm.Cond.constantLong "NameRingModel" (490 : Nat) (1103515245 : Int64)) ∈ gw := g9 193 rfl rfl
theorem wd_9_194 : (Jvm.Cond.constantLong "NameRingModel" (492 : Nat) (12345 : Int64)) ∈ gw := g9 194 rfl rfl
theorem wd_9_195 : (Jvm.Cond.constantLong "NameRingModel" (494 : Nat) (2147483648 : Int64)) ∈ gw := g9 195 rfl rfl
theorem wd_9_196 : (Jvm.Cond.constantLong "NameRingModel" (496 : Nat) (65536 : Int64)) ∈ gw := g9 196 rfl rfl
theorem wd_9_197 : (Jvm.Cond.methodLink "NameRingModel" (501 : Nat) ({ cls := "NameRingModel", name := "doneBy", desc := "(I)I" } : Jvm.MethodName)) ∈ gw := g9 197 rfl rfl
theorem wd_9_198 : (Jvm.Cond.static ({ cls := "NameRingModel", name := "doneBy", desc := "(I)I" } : Jvm.MethodName)) ∈ gw := g9 198 rfl rfl
theorem wd_9_199 : (Jvm.Cond.code ({ cls := "NameRingModel", name := "doneBy", desc := "(I)I" } : Jvm.MethodName) prog_14_method_157_code (1 : Nat) (Option.some Jvm.ClassFile.FieldType.int)) ∈ gw := g9 199 rfl rfl
theorem wd_9_200 : (Jvm.Cond.methodLink "NameRingLaw" (218 : Nat) ({ cls := "NameRingModel", name := "mark", desc := "(IZ)Z" } : Jvm.MethodName)) ∈ gw := g9 200 rfl rfl
theorem wd_9_201 : (Jvm.Cond.instanceMethod ({ cls := "NameRingModel", name := "mark", desc := "(IZ)Z" } : Jvm.MethodName)) ∈ gw := g9 201 rfl rfl
theorem wd_9_202 : (Jvm.Cond.selects "NameRingModel" ({ cls := "NameRingModel", name := "mark", desc := "(IZ)Z" } : Jvm.MethodName) ({ cls := "NameRingModel", name := "mark", desc := "(IZ)Z" } : Jvm.MethodName)) ∈ gw := g9 202 rfl rfl
theorem wd_9_203 : (Jvm.Cond.code ({ cls := "NameRingModel", name := "mark", desc := "(IZ)Z" } : Jvm.MethodName) prog_14_method_159_code (3 : Nat) (Option.some Jvm.ClassFile.FieldType.boolean)) ∈ gw := g9 203 rfl rfl
theorem wd_9_204 : (Jvm.Cond.methodLink "NameRingLaw" (222 : Nat) ({ cls := "NameRingModel", name := "count", desc := "(I)I" } : Jvm.MethodName)) ∈ gw := g9 204 rfl rfl
theorem wd_9_205 : (Jvm.Cond.instanceMethod ({ cls := "NameRingModel", name := "count", desc := "(I)I" } : Jvm.MethodName)) ∈ gw := g9 205 rfl rfl
theorem wd_9_206 : (Jvm.Cond.selects "NameRingModel" ({ cls := "NameRingModel", name := "count", desc := "(I)I" } : Jvm.MethodName) ({ cls := "NameRingModel", name := "count", desc := "(I)I" } : Jvm.MethodName)) ∈ gw := g9 206 rfl rfl
theorem wd_9_207 : (Jvm.Cond.code ({ cls := "NameRingModel", name := "count", desc := "(I)I" } : Jvm.MethodName) prog_14_method_160_code (2 : Nat) (Option.some Jvm.ClassFile.FieldType.int)) ∈ gw := g9 207 rfl rfl
theorem wd_9_208 : (Jvm.Cond.constantLong "NameRingLaw" (19 : Nat) (4294967295 : Int64)) ∈ gw := g9 208 rfl rfl
theorem wd_9_226 : (Jvm.Cond.fieldLink "java/lang/String" (9 : Nat) "java/lang/String" "value" "[B") ∈ gw := g9 226 rfl rfl
theorem wd_9_227 : (Jvm.Cond.fieldLink "java/lang/String" (15 : Nat) "java/lang/String" "coder" "B") ∈ gw := g9 227 rfl rfl
