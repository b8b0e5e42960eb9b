/-- the words that stay true while classes are resolved -/
def tb : List Cond := lw_tbl.filter goodWord
theorem tbm {w : Cond} (i : Nat) (h : tables_1[i]? = some w) (hg : goodWord w = true) : w ∈ tb := List.mem_filter.mpr ⟨List.mem_append_right _ (List.mem_of_getElem? h), hg⟩
theorem tbp {w : Cond} (i : Nat) (h : (k2_sels lw_privs)[i]? = some w) (hg : goodWord w = true) : w ∈ tb := List.mem_filter.mpr ⟨List.mem_append_left _ (List.mem_of_getElem? h), hg⟩
theorem tb_good : ∀ w ∈ tb, goodWord w = true := fun w h => (List.mem_filter.mp h).2

theorem kw_0 : (Jvm.Cond.initialized "GreenPathLaw") ∈ tb := tbm 0 (by decide +kernel) rfl
theorem kw_1 : (Jvm.Cond.initialized "GreenPath") ∈ tb := tbm 1 (by decide +kernel) rfl
theorem kw_2 : (Jvm.Cond.initialized "GreenPath$Search") ∈ tb := tbm 2 (by decide +kernel) rfl
theorem kw_3 : (Jvm.Cond.initialized "GreenPath$Island") ∈ tb := tbm 3 (by decide +kernel) rfl
theorem kw_4 : (Jvm.Cond.initialized "GreenPath$Row") ∈ tb := tbm 4 (by decide +kernel) rfl
theorem kw_5 : (Jvm.Cond.initialized "java/lang/Math") ∈ tb := tbm 5 (by decide +kernel) rfl
theorem kw_6 : (Jvm.Cond.initialized "GreenPath$Law") ∈ tb := tbm 6 (by decide +kernel) rfl
theorem kw_7 : (Jvm.Cond.initialized "GreenPath$Third") ∈ tb := tbm 7 (by decide +kernel) rfl
theorem kw_8 : (Jvm.Cond.initialized "java/util/Arrays") ∈ tb := tbm 8 (by decide +kernel) rfl
theorem kw_9 : (Jvm.Cond.initialized "GreenPath$Text") ∈ tb := tbm 9 (by decide +kernel) rfl
theorem kw_10 : (Jvm.Cond.initialized "GreenPathModel") ∈ tb := tbm 10 (by decide +kernel) rfl
theorem kw_11 : (Jvm.Cond.initialized "GreenPath$Eat") ∈ tb := tbm 11 (by decide +kernel) rfl
theorem kw_12 : (Jvm.Cond.initialized "GreenPath$Split") ∈ tb := tbm 12 (by decide +kernel) rfl
theorem kw_13 : (Jvm.Cond.initialized "GreenPath$Copy") ∈ tb := tbm 13 (by decide +kernel) rfl
theorem kw_14 : (Jvm.Cond.initialized "GreenPath$Join") ∈ tb := tbm 14 (by decide +kernel) rfl
theorem kw_15 : (Jvm.Cond.initialized "GreenPath$Told") ∈ tb := tbm 15 (by decide +kernel) rfl
theorem kw_16 : (Jvm.Cond.initialized "java/lang/String") ∈ tb := tbm 16 (by decide +kernel) rfl
theorem kw_17 : (Jvm.Cond.initialized "java/lang/StringLatin1") ∈ tb := tbm 17 (by decide +kernel) rfl
theorem kw_18 : (Jvm.Cond.initialized "java/lang/StringUTF16") ∈ tb := tbm 18 (by decide +kernel) rfl
theorem kw_19 : (Jvm.Cond.initialized "jdk/internal/util/Preconditions") ∈ tb := tbm 19 (by decide +kernel) rfl
theorem kw_20 : (Jvm.Cond.initialized "java/lang/Character") ∈ tb := tbm 20 (by decide +kernel) rfl
theorem kw_21 : (Jvm.Cond.initialized "java/lang/Integer") ∈ tb := tbm 21 (by decide +kernel) rfl
theorem kw_22 : (Jvm.Cond.initialized "java/lang/System") ∈ tb := tbm 22 (by decide +kernel) rfl
theorem kw_23 : (Jvm.Cond.classLink "GreenPathLaw" (7 : Nat) "GreenPath") ∈ tb := tbm 23 (by decide +kernel) rfl
theorem kw_24 : (Jvm.Cond.instantiable "GreenPath" (8 : Nat)) ∈ tb := tbm 24 (by decide +kernel) rfl
theorem kw_25 : (Jvm.Cond.methodLink "GreenPathLaw" (9 : Nat) ({ cls := "GreenPath", name := "<init>", desc := "()V" } : Jvm.MethodName)) ∈ tb := tbm 25 (by decide +kernel) rfl
theorem kw_26 : (Jvm.Cond.instanceMethod ({ cls := "GreenPath", name := "<init>", desc := "()V" } : Jvm.MethodName)) ∈ tb := tbm 26 (by decide +kernel) rfl
theorem kw_27 : (Jvm.Cond.code ({ cls := "GreenPath", name := "<init>", desc := "()V" } : Jvm.MethodName) prog_1_method_1_code (2 : Nat) (Option.none : Option Jvm.ClassFile.FieldType)) ∈ tb := tbm 27 (by decide +kernel) rfl
theorem kw_28 : (Jvm.Cond.methodLink "GreenPath" (3 : Nat) ({ cls := "java/lang/Object", name := "<init>", desc := "()V" } : Jvm.MethodName)) ∈ tb := tbm 28 (by decide +kernel) rfl
theorem kw_29 : (Jvm.Cond.instanceMethod ({ cls := "java/lang/Object", name := "<init>", desc := "()V" } : Jvm.MethodName)) ∈ tb := tbm 29 (by decide +kernel) rfl
theorem kw_30 : (Jvm.Cond.code ({ cls := "java/lang/Object", name := "<init>", desc := "()V" } : Jvm.MethodName) object_method_1_code (1 : Nat) (Option.none : Option Jvm.ClassFile.FieldType)) ∈ tb := tbm 30 (by decide +kernel) rfl
theorem kw_31 : (Jvm.Cond.classLink "GreenPath" (9 : Nat) "GreenPath$Search") ∈ tb := tbm 31 (by decide +kernel) rfl
theorem kw_32 : (Jvm.Cond.instantiable "GreenPath$Search" (11 : Nat)) ∈ tb := tbm 32 (by decide +kernel) rfl
theorem kw_33 : (Jvm.Cond.methodLink "GreenPath" (11 : Nat) ({ cls := "GreenPath$Search", name := "<init>", desc := "()V" } : Jvm.MethodName)) ∈ tb := tbm 33 (by decide +kernel) rfl
theorem kw_34 : (Jvm.Cond.instanceMethod ({ cls := "GreenPath$Search", name := "<init>", desc := "()V" } : Jvm.MethodName)) ∈ tb := tbm 34 (by decide +kernel) rfl
theorem kw_35 : (Jvm.Cond.code ({ cls := "GreenPath$Search", name := "<init>", desc := "()V" } : Jvm.MethodName) prog_8_method_1_code (3 : Nat) (Option.none : Option Jvm.ClassFile.FieldType)) ∈ tb := tbm 35 (by decide +kernel) rfl
theorem kw_36 : (Jvm.Cond.methodLink "GreenPath$Search" (3 : Nat) ({ cls := "java/lang/Object", name := "<init>", desc := "()V" } : Jvm.MethodName)) ∈ tb := tbm 36 (by decide +kernel) rfl
theorem kw_37 : (Jvm.Cond.classLink "GreenPath$Search" (9 : Nat) "GreenPath$Island") ∈ tb := tbm 37 (by decide +kernel) rfl
theorem kw_38 : (Jvm.Cond.instantiable "GreenPath$Island" (12 : Nat)) ∈ tb := tbm 38 (by decide +kernel) rfl
theorem kw_39 : (Jvm.Cond.methodLink "GreenPath$Search" (11 : Nat) ({ cls := "GreenPath$Island", name := "<init>", desc := "()V" } : Jvm.MethodName)) ∈ tb := tbm 39 (by decide +kernel) rfl
theorem kw_40 : (Jvm.Cond.instanceMethod ({ cls := "GreenPath$Island", name := "<init>", desc := "()V" } : Jvm.MethodName)) ∈ tb := tbm 40 (by decide +kernel) rfl
theorem kw_41 : (Jvm.Cond.code ({ cls := "GreenPath$Island", name := "<init>", desc := "()V" } : Jvm.MethodName) prog_4_method_1_code (2 : Nat) (Option.none : Option Jvm.ClassFile.FieldType)) ∈ tb := tbm 41 (by decide +kernel) rfl
theorem kw_42 : (Jvm.Cond.methodLink "GreenPath$Island" (3 : Nat) ({ cls := "java/lang/Object", name := "<init>", desc := "()V" } : Jvm.MethodName)) ∈ tb := tbm 42 (by decide +kernel) rfl
theorem kw_43 : (Jvm.Cond.classLink "GreenPath$Island" (9 : Nat) "GreenPath$Law") ∈ tb := tbm 43 (by decide +kernel) rfl
theorem kw_45 : (Jvm.Cond.classLink "GreenPath$Island" (17 : Nat) "GreenPath$Text") ∈ tb := tbm 45 (by decide +kernel) rfl
theorem kw_47 : (Jvm.Cond.classLink "GreenPath$Island" (23 : Nat) "GreenPath$Row") ∈ tb := tbm 47 (by decide +kernel) rfl
theorem kw_48 : (Jvm.Cond.instantiable "GreenPath$Row" (2 : Nat)) ∈ tb := tbm 48 (by decide +kernel) rfl
theorem kw_49 : (Jvm.Cond.methodLink "GreenPath$Island" (25 : Nat) ({ cls := "GreenPath$Row", name := "<init>", desc := "(I)V" } : Jvm.MethodName)) ∈ tb := tbm 49 (by decide +kernel) rfl
theorem kw_50 : (Jvm.Cond.instanceMethod ({ cls := "GreenPath$Row", name := "<init>", desc := "(I)V" } : Jvm.MethodName)) ∈ tb := tbm 50 (by decide +kernel) rfl
theorem kw_51 : (Jvm.Cond.code ({ cls := "GreenPath$Row", name := "<init>", desc := "(I)V" } : Jvm.MethodName) prog_7_method_1_code (2 : Nat) (Option.none : Option Jvm.ClassFile.FieldType)) ∈ tb := tbm 51 (by decide +kernel) rfl
theorem kw_52 : (Jvm.Cond.methodLink "GreenPath$Row" (1 : Nat) ({ cls := "java/lang/Object", name := "<init>", desc := "()V" } : Jvm.MethodName)) ∈ tb := tbm 52 (by decide +kernel) rfl
theorem kw_53 : (Jvm.Cond.methodLink "GreenPath$Row" (7 : Nat) ({ cls := "java/lang/Math", name := "max", desc := "(II)I" } : Jvm.MethodName)) ∈ tb := tbm 53 (by decide +kernel) rfl
theorem kw_54 : (Jvm.Cond.static ({ cls := "java/lang/Math", name := "max", desc := "(II)I" } : Jvm.MethodName)) ∈ tb := tbm 54 (by decide +kernel) rfl
theorem kw_55 : (Jvm.Cond.code ({ cls := "java/lang/Math", name := "max", desc := "(II)I" } : Jvm.MethodName) prog_17_method_65_code (2 : Nat) (Option.some Jvm.ClassFile.FieldType.int)) ∈ tb := tbm 55 (by decide +kernel) rfl
theorem kw_56 : (Jvm.Cond.fieldLink "GreenPath$Row" (13 : Nat) "GreenPath$Row" "cells" "[I") ∈ tb := tbm 56 (by decide +kernel) rfl
theorem kw_57 : (Jvm.Cond.fieldLink "GreenPath$Text" (42 : Nat) "GreenPath$Row" "cells" "[I") ∈ tb := tbm 57 (by decide +kernel) rfl
theorem kw_58 : (Jvm.Cond.fieldLink "GreenPath" (252 : Nat) "GreenPath$Row" "cells" "[I") ∈ tb := tbm 58 (by decide +kernel) rfl
theorem kw_59 : (Jvm.Cond.fieldLink "GreenPath$Text" (21 : Nat) "GreenPath$Row" "size" "I") ∈ tb := tbm 59 (by decide +kernel) rfl
theorem kw_60 : (Jvm.Cond.fieldLink "GreenPath$Row" (19 : Nat) "GreenPath$Row" "size" "I") ∈ tb := tbm 60 (by decide +kernel) rfl
theorem kw_61 : (Jvm.Cond.fieldLink "GreenPath" (122 : Nat) "GreenPath$Row" "size" "I") ∈ tb := tbm 61 (by decide +kernel) rfl
theorem kw_62 : (Jvm.Cond.laysFinal "GreenPath$Row" "GreenPath$Row" "cells" "[I") ∈ tb := tbm 62 (by decide +kernel) rfl
theorem kw_64 : (Jvm.Cond.lays "GreenPath$Row" "GreenPath$Row" "size" "I") ∈ tb := tbm 64 (by decide +kernel) rfl
theorem kw_66 : (Jvm.Cond.superclass "GreenPath$Row" "java/lang/Object") ∈ tb := tbm 66 (by decide +kernel) rfl
theorem kw_67 : (Jvm.Cond.arrayClass Jvm.ClassFile.FieldType.int) ∈ tb := tbm 67 (by decide +kernel) rfl
theorem kw_68 : (Jvm.Cond.classLink "GreenPath$Island" (49 : Nat) "GreenPath$Third") ∈ tb := tbm 68 (by decide +kernel) rfl
theorem kw_69 : (Jvm.Cond.instantiable "GreenPath$Third" (5 : Nat)) ∈ tb := tbm 69 (by decide +kernel) rfl
theorem kw_70 : (Jvm.Cond.methodLink "GreenPath$Island" (51 : Nat) ({ cls := "GreenPath$Third", name := "<init>", desc := "(III)V" } : Jvm.MethodName)) ∈ tb := tbm 70 (by decide +kernel) rfl
theorem kw_71 : (Jvm.Cond.instanceMethod ({ cls := "GreenPath$Third", name := "<init>", desc := "(III)V" } : Jvm.MethodName)) ∈ tb := tbm 71 (by decide +kernel) rfl
theorem kw_72 : (Jvm.Cond.code ({ cls := "GreenPath$Third", name := "<init>", desc := "(III)V" } : Jvm.MethodName) prog_11_method_1_code (4 : Nat) (Option.none : Option Jvm.ClassFile.FieldType)) ∈ tb := tbm 72 (by decide +kernel) rfl
theorem kw_73 : (Jvm.Cond.methodLink "GreenPath$Third" (1 : Nat) ({ cls := "GreenPath$Law", name := "<init>", desc := "(III)V" } : Jvm.MethodName)) ∈ tb := tbm 73 (by decide +kernel) rfl
theorem kw_74 : (Jvm.Cond.instanceMethod ({ cls := "GreenPath$Law", name := "<init>", desc := "(III)V" } : Jvm.MethodName)) ∈ tb := tbm 74 (by decide +kernel) rfl
theorem kw_75 : (Jvm.Cond.code ({ cls := "GreenPath$Law", name := "<init>", desc := "(III)V" } : Jvm.MethodName) prog_6_method_1_code (4 : Nat) (Option.none : Option Jvm.ClassFile.FieldType)) ∈ tb := tbm 75 (by decide +kernel) rfl
theorem kw_76 : (Jvm.Cond.methodLink "GreenPath$Law" (3 : Nat) ({ cls := "java/lang/Object", name := "<init>", desc := "()V" } : Jvm.MethodName)) ∈ tb := tbm 76 (by decide +kernel) rfl
theorem kw_81 : (Jvm.Cond.fieldLink "GreenPath$Law" (9 : Nat) "GreenPath$Law" "kind" "I") ∈ tb := tbm 81 (by decide +kernel) rfl
theorem kw_82 : (Jvm.Cond.fieldLink "GreenPath" (90 : Nat) "GreenPath$Law" "kind" "I") ∈ tb := tbm 82 (by decide +kernel) rfl
theorem kw_83 : (Jvm.Cond.fieldLink "GreenPath$Island" (110 : Nat) "GreenPath$Law" "kind" "I") ∈ tb := tbm 83 (by decide +kernel) rfl
theorem kw_84 : (Jvm.Cond.fieldLink "GreenPath$Law" (15 : Nat) "GreenPath$Law" "pair" "I") ∈ tb := tbm 84 (by decide +kernel) rfl
theorem kw_85 : (Jvm.Cond.fieldLink "GreenPath$Told" (41 : Nat) "GreenPath$Told" "pair" "I") ∈ tb := tbm 85 (by decide +kernel) rfl
theorem kw_86 : (Jvm.Cond.sameField "GreenPath$Told" "GreenPath$Law" "pair" "I") ∈ tb := tbm 86 (by decide +kernel) rfl
theorem kw_87 : (Jvm.Cond.fieldLink "GreenPath$Law" (18 : Nat) "GreenPath$Law" "m" "I") ∈ tb := tbm 87 (by decide +kernel) rfl
theorem kw_88 : (Jvm.Cond.fieldLink "GreenPath$Split" (7 : Nat) "GreenPath$Split" "m" "I") ∈ tb := tbm 88 (by decide +kernel) rfl
theorem kw_89 : (Jvm.Cond.sameField "GreenPath$Split" "GreenPath$Law" "m" "I") ∈ tb := tbm 89 (by decide +kernel) rfl
theorem kw_90 : (Jvm.Cond.fieldLink "GreenPath$Join" (16 : Nat) "GreenPath$Join" "m" "I") ∈ tb := tbm 90 (by decide +kernel) rfl
theorem kw_91 : (Jvm.Cond.sameField "GreenPath$Join" "GreenPath$Law" "m" "I") ∈ tb := tbm 91 (by decide +kernel) rfl
theorem kw_92 : (Jvm.Cond.fieldLink "GreenPath$Told" (18 : Nat) "GreenPath$Told" "m" "I") ∈ tb := tbm 92 (by decide +kernel) rfl
theorem kw_93 : (Jvm.Cond.sameField "GreenPath$Told" "GreenPath$Law" "m" "I") ∈ tb := tbm 93 (by decide +kernel) rfl
theorem kw_94 : (Jvm.Cond.fieldLink "GreenPath" (95 : Nat) "GreenPath$Law" "m" "I") ∈ tb := tbm 94 (by decide +kernel) rfl
theorem kw_95 : (Jvm.Cond.fieldLink "GreenPath$Law" (25 : Nat) "GreenPath$Law" "a" "I") ∈ tb := tbm 95 (by decide +kernel) rfl
theorem kw_96 : (Jvm.Cond.fieldLink "GreenPath$Copy" (7 : Nat) "GreenPath$Copy" "a" "I") ∈ tb := tbm 96 (by decide +kernel) rfl
theorem kw_97 : (Jvm.Cond.sameField "GreenPath$Copy" "GreenPath$Law" "a" "I") ∈ tb := tbm 97 (by decide +kernel) rfl
theorem kw_98 : (Jvm.Cond.fieldLink "GreenPath$Third" (7 : Nat) "GreenPath$Third" "a" "I") ∈ tb := tbm 98 (by decide +kernel) rfl
theorem kw_99 : (Jvm.Cond.sameField "GreenPath$Third" "GreenPath$Law" "a" "I") ∈ tb := tbm 99 (by decide +kernel) rfl
theorem kw_100 : (Jvm.Cond.fieldLink "GreenPath$Join" (7 : Nat) "GreenPath$Join" "a" "I") ∈ tb := tbm 100 (by decide +kernel) rfl
theorem kw_101 : (Jvm.Cond.sameField "GreenPath$Join" "GreenPath$Law" "a" "I") ∈ tb := tbm 101 (by decide +kernel) rfl
theorem kw_102 : (Jvm.Cond.fieldLink "GreenPath$Told" (9 : Nat) "GreenPath$Told" "a" "I") ∈ tb := tbm 102 (by decide +kernel) rfl
theorem kw_103 : (Jvm.Cond.sameField "GreenPath$Told" "GreenPath$Law" "a" "I") ∈ tb := tbm 103 (by decide +kernel) rfl
theorem kw_104 : (Jvm.Cond.fieldLink "GreenPath$Law" (31 : Nat) "GreenPath$Law" "b" "I") ∈ tb := tbm 104 (by decide +kernel) rfl
theorem kw_105 : (Jvm.Cond.fieldLink "GreenPath$Copy" (13 : Nat) "GreenPath$Copy" "b" "I") ∈ tb := tbm 105 (by decide +kernel) rfl
theorem kw_106 : (Jvm.Cond.sameField "GreenPath$Copy" "GreenPath$Law" "b" "I") ∈ tb := tbm 106 (by decide +kernel) rfl
theorem kw_107 : (Jvm.Cond.fieldLink "GreenPath$Third" (13 : Nat) "GreenPath$Third" "b" "I") ∈ tb := tbm 107 (by decide +kernel) rfl
theorem kw_108 : (Jvm.Cond.sameField "GreenPath$Third" "GreenPath$Law" "b" "I") ∈ tb := tbm 108 (by decide +kernel) rfl
theorem kw_109 : (Jvm.Cond.fieldLink "GreenPath$Eat" (9 : Nat) "GreenPath$Eat" "b" "I") ∈ tb := tbm 109 (by decide +kernel) rfl
theorem kw_110 : (Jvm.Cond.sameField "GreenPath$Eat" "GreenPath$Law" "b" "I") ∈ tb := tbm 110 (by decide +kernel) rfl
theorem kw_111 : (Jvm.Cond.fieldLink "GreenPath$Join" (13 : Nat) "GreenPath$Join" "b" "I") ∈ tb := tbm 111 (by decide +kernel) rfl
theorem kw_112 : (Jvm.Cond.sameField "GreenPath$Join" "GreenPath$Law" "b" "I") ∈ tb := tbm 112 (by decide +kernel) rfl
theorem kw_113 : (Jvm.Cond.fieldLink "GreenPath$Told" (15 : Nat) "GreenPath$Told" "b" "I") ∈ tb := tbm 113 (by decide +kernel) rfl
theorem kw_114 : (Jvm.Cond.sameField "GreenPath$Told" "GreenPath$Law" "b" "I") ∈ tb := tbm 114 (by decide +kernel) rfl
theorem kw_115 : (Jvm.Cond.laysFinal "GreenPath$Third" "GreenPath$Law" "kind" "I") ∈ tb := tbm 115 (by decide +kernel) rfl
theorem kw_117 : (Jvm.Cond.laysFinal "GreenPath$Third" "GreenPath$Law" "pair" "I") ∈ tb := tbm 117 (by decide +kernel) rfl
theorem kw_119 : (Jvm.Cond.laysFinal "GreenPath$Third" "GreenPath$Law" "m" "I") ∈ tb := tbm 119 (by decide +kernel) rfl
theorem kw_121 : (Jvm.Cond.laysFinal "GreenPath$Third" "GreenPath$Law" "a" "I") ∈ tb := tbm 121 (by decide +kernel) rfl
theorem kw_123 : (Jvm.Cond.laysFinal "GreenPath$Third" "GreenPath$Law" "b" "I") ∈ tb := tbm 123 (by decide +kernel) rfl
theorem kw_125 : (Jvm.Cond.superclass "GreenPath$Third" "GreenPath$Law") ∈ tb := tbm 125 (by decide +kernel) rfl
theorem kw_126 : (Jvm.Cond.fieldLink "GreenPath$Island" (11 : Nat) "GreenPath$Island" "laws" "[LGreenPath$Law;") ∈ tb := tbm 126 (by decide +kernel) rfl
theorem kw_127 : (Jvm.Cond.fieldLink "GreenPath" (79 : Nat) "GreenPath$Island" "laws" "[LGreenPath$Law;") ∈ tb := tbm 127 (by decide +kernel) rfl
theorem kw_128 : (Jvm.Cond.fieldLink "GreenPath$Island" (19 : Nat) "GreenPath$Island" "texts" "[LGreenPath$Text;") ∈ tb := tbm 128 (by decide +kernel) rfl
theorem kw_129 : (Jvm.Cond.fieldLink "GreenPath" (144 : Nat) "GreenPath$Island" "texts" "[LGreenPath$Text;") ∈ tb := tbm 129 (by decide +kernel) rfl
theorem kw_130 : (Jvm.Cond.fieldLink "GreenPath$Island" (28 : Nat) "GreenPath$Island" "tape" "LGreenPath$Row;") ∈ tb := tbm 130 (by decide +kernel) rfl
theorem kw_131 : (Jvm.Cond.fieldLink "GreenPath" (119 : Nat) "GreenPath$Island" "tape" "LGreenPath$Row;") ∈ tb := tbm 131 (by decide +kernel) rfl
theorem kw_132 : (Jvm.Cond.fieldLink "GreenPath$Island" (32 : Nat) "GreenPath$Island" "waiting" "LGreenPath$Row;") ∈ tb := tbm 132 (by decide +kernel) rfl
theorem kw_133 : (Jvm.Cond.fieldLink "GreenPath" (277 : Nat) "GreenPath$Island" "waiting" "LGreenPath$Row;") ∈ tb := tbm 133 (by decide +kernel) rfl
theorem kw_134 : (Jvm.Cond.fieldLink "GreenPath" (61 : Nat) "GreenPath$Island" "state" "I") ∈ tb := tbm 134 (by decide +kernel) rfl
theorem kw_135 : (Jvm.Cond.fieldLink "GreenPath$Island" (58 : Nat) "GreenPath$Island" "state" "I") ∈ tb := tbm 135 (by decide +kernel) rfl
theorem kw_136 : (Jvm.Cond.fieldLink "GreenPath$Search" (78 : Nat) "GreenPath$Island" "state" "I") ∈ tb := tbm 136 (by decide +kernel) rfl
theorem kw_137 : (Jvm.Cond.fieldLink "GreenPath$Island" (61 : Nat) "GreenPath$Island" "fenced" "I") ∈ tb := tbm 137 (by decide +kernel) rfl
theorem kw_138 : (Jvm.Cond.fieldLink "GreenPath" (101 : Nat) "GreenPath$Island" "fenced" "I") ∈ tb := tbm 138 (by decide +kernel) rfl
theorem kw_139 : (Jvm.Cond.fieldLink "GreenPath$Search" (111 : Nat) "GreenPath$Island" "fenced" "I") ∈ tb := tbm 139 (by decide +kernel) rfl
theorem kw_140 : (Jvm.Cond.fieldLink "GreenPath$Island" (64 : Nat) "GreenPath$Island" "met" "I") ∈ tb := tbm 140 (by decide +kernel) rfl
theorem kw_141 : (Jvm.Cond.fieldLink "GreenPath" (156 : Nat) "GreenPath$Island" "met" "I") ∈ tb := tbm 141 (by decide +kernel) rfl
theorem kw_142 : (Jvm.Cond.fieldLink "GreenPath$Island" (67 : Nat) "GreenPath$Island" "spent" "I") ∈ tb := tbm 142 (by decide +kernel) rfl
theorem kw_143 : (Jvm.Cond.fieldLink "GreenPath" (283 : Nat) "GreenPath$Island" "spent" "I") ∈ tb := tbm 143 (by decide +kernel) rfl
theorem kw_144 : (Jvm.Cond.fieldLink "GreenPath$Island" (35 : Nat) "GreenPath$Island" "z" "I") ∈ tb := tbm 144 (by decide +kernel) rfl
theorem kw_145 : (Jvm.Cond.fieldLink "GreenPath" (233 : Nat) "GreenPath$Island" "z" "I") ∈ tb := tbm 145 (by decide +kernel) rfl
theorem kw_146 : (Jvm.Cond.fieldLink "GreenPath$Island" (39 : Nat) "GreenPath$Island" "change" "[I") ∈ tb := tbm 146 (by decide +kernel) rfl
theorem kw_147 : (Jvm.Cond.fieldLink "GreenPath$Island" (43 : Nat) "GreenPath$Island" "growth" "[I") ∈ tb := tbm 147 (by decide +kernel) rfl
theorem kw_148 : (Jvm.Cond.fieldLink "GreenPath" (107 : Nat) "GreenPath$Island" "growth" "[I") ∈ tb := tbm 148 (by decide +kernel) rfl
theorem kw_149 : (Jvm.Cond.fieldLink "GreenPath$Island" (46 : Nat) "GreenPath$Island" "shift" "[I") ∈ tb := tbm 149 (by decide +kernel) rfl
theorem kw_150 : (Jvm.Cond.laysFinal "GreenPath$Island" "GreenPath$Island" "laws" "[LGreenPath$Law;") ∈ tb := tbm 150 (by decide +kernel) rfl
theorem kw_152 : (Jvm.Cond.laysFinal "GreenPath$Island" "GreenPath$Island" "texts" "[LGreenPath$Text;") ∈ tb := tbm 152 (by decide +kernel) rfl
theorem kw_154 : (Jvm.Cond.laysFinal "GreenPath$Island" "GreenPath$Island" "tape" "LGreenPath$Row;") ∈ tb := tbm 154 (by decide +kernel) rfl
theorem kw_156 : (Jvm.Cond.laysFinal "GreenPath$Island" "GreenPath$Island" "waiting" "LGreenPath$Row;") ∈ tb := tbm 156 (by decide +kernel) rfl
theorem kw_158 : (Jvm.Cond.lays "GreenPath$Island" "GreenPath$Island" "state" "I") ∈ tb := tbm 158 (by decide +kernel) rfl
theorem kw_160 : (Jvm.Cond.lays "GreenPath$Island" "GreenPath$Island" "fenced" "I") ∈ tb := tbm 160 (by decide +kernel) rfl
theorem kw_162 : (Jvm.Cond.lays "GreenPath$Island" "GreenPath$Island" "met" "I") ∈ tb := tbm 162 (by decide +kernel) rfl
theorem kw_164 : (Jvm.Cond.lays "GreenPath$Island" "GreenPath$Island" "spent" "I") ∈ tb := tbm 164 (by decide +kernel) rfl
theorem kw_166 : (Jvm.Cond.lays "GreenPath$Island" "GreenPath$Island" "z" "I") ∈ tb := tbm 166 (by decide +kernel) rfl
theorem kw_168 : (Jvm.Cond.laysFinal "GreenPath$Island" "GreenPath$Island" "change" "[I") ∈ tb := tbm 168 (by decide +kernel) rfl
theorem kw_170 : (Jvm.Cond.laysFinal "GreenPath$Island" "GreenPath$Island" "growth" "[I") ∈ tb := tbm 170 (by decide +kernel) rfl
theorem kw_172 : (Jvm.Cond.laysFinal "GreenPath$Island" "GreenPath$Island" "shift" "[I") ∈ tb := tbm 172 (by decide +kernel) rfl
theorem kw_174 : (Jvm.Cond.superclass "GreenPath$Island" "java/lang/Object") ∈ tb := tbm 174 (by decide +kernel) rfl
theorem kw_178 : (Jvm.Cond.static ({ cls := "GreenPath", name := "isState", desc := "(I)Z" } : Jvm.MethodName)) ∈ tb := tbm 178 (by decide +kernel) rfl
theorem kw_179 : (Jvm.Cond.code ({ cls := "GreenPath", name := "isState", desc := "(I)Z" } : Jvm.MethodName) prog_1_method_45_code (1 : Nat) (Option.some Jvm.ClassFile.FieldType.boolean)) ∈ tb := tbm 179 (by decide +kernel) rfl
theorem kw_180 : (Jvm.Cond.fieldLink "GreenPath" (73 : Nat) "GreenPath" "WEIGHT" "[I") ∈ tb := tbm 180 (by decide +kernel) rfl
theorem kw_181 : (Jvm.Cond.methodLink "GreenPath" (69 : Nat) ({ cls := "GreenPath", name := "beingsOf", desc := "(I)I" } : Jvm.MethodName)) ∈ tb := tbm 181 (by decide +kernel) rfl
theorem kw_182 : (Jvm.Cond.static ({ cls := "GreenPath", name := "beingsOf", desc := "(I)I" } : Jvm.MethodName)) ∈ tb := tbm 182 (by decide +kernel) rfl
theorem kw_183 : (Jvm.Cond.code ({ cls := "GreenPath", name := "beingsOf", desc := "(I)I" } : Jvm.MethodName) prog_1_method_48_code (1 : Nat) (Option.some Jvm.ClassFile.FieldType.int)) ∈ tb := tbm 183 (by decide +kernel) rfl
theorem kw_184 : (Jvm.Cond.methodLink "GreenPath$Search" (54 : Nat) ({ cls := "java/util/Arrays", name := "fill", desc := "([II)V" } : Jvm.MethodName)) ∈ tb := tbm 184 (by decide +kernel) rfl
theorem kw_185 : (Jvm.Cond.static ({ cls := "java/util/Arrays", name := "fill", desc := "([II)V" } : Jvm.MethodName)) ∈ tb := tbm 185 (by decide +kernel) rfl
theorem kw_186 : (Jvm.Cond.code ({ cls := "java/util/Arrays", name := "fill", desc := "([II)V" } : Jvm.MethodName) prog_22_method_103_code (4 : Nat) (Option.none : Option Jvm.ClassFile.FieldType)) ∈ tb := tbm 186 (by decide +kernel) rfl
theorem kw_187 : (Jvm.Cond.fieldLink "GreenPath$Search" (12 : Nat) "GreenPath$Search" "island" "LGreenPath$Island;") ∈ tb := tbm 187 (by decide +kernel) rfl
theorem kw_188 : (Jvm.Cond.fieldLink "GreenPath" (16 : Nat) "GreenPath$Search" "island" "LGreenPath$Island;") ∈ tb := tbm 188 (by decide +kernel) rfl
theorem kw_189 : (Jvm.Cond.fieldLink "GreenPath$Search" (18 : Nat) "GreenPath$Search" "states" "[I") ∈ tb := tbm 189 (by decide +kernel) rfl
theorem kw_190 : (Jvm.Cond.fieldLink "GreenPath$Search" (22 : Nat) "GreenPath$Search" "leads" "[I") ∈ tb := tbm 190 (by decide +kernel) rfl
theorem kw_191 : (Jvm.Cond.fieldLink "GreenPath$Search" (25 : Nat) "GreenPath$Search" "queue" "[I") ∈ tb := tbm 191 (by decide +kernel) rfl
theorem kw_192 : (Jvm.Cond.fieldLink "GreenPath$Search" (28 : Nat) "GreenPath$Search" "distance" "[I") ∈ tb := tbm 192 (by decide +kernel) rfl
theorem kw_193 : (Jvm.Cond.fieldLink "GreenPath$Search" (31 : Nat) "GreenPath$Search" "origin" "[I") ∈ tb := tbm 193 (by decide +kernel) rfl
theorem kw_194 : (Jvm.Cond.fieldLink "GreenPath$Search" (74 : Nat) "GreenPath$Search" "found" "I") ∈ tb := tbm 194 (by decide +kernel) rfl
theorem kw_195 : (Jvm.Cond.fieldLink "GreenPath" (186 : Nat) "GreenPath$Search" "found" "I") ∈ tb := tbm 195 (by decide +kernel) rfl
theorem kw_196 : (Jvm.Cond.fieldLink "GreenPath$Search" (34 : Nat) "GreenPath$Search" "marks" "[I") ∈ tb := tbm 196 (by decide +kernel) rfl
theorem kw_197 : (Jvm.Cond.fieldLink "GreenPath$Search" (37 : Nat) "GreenPath$Search" "otherMarks" "[I") ∈ tb := tbm 197 (by decide +kernel) rfl
theorem kw_198 : (Jvm.Cond.fieldLink "GreenPath$Search" (40 : Nat) "GreenPath$Search" "sums" "[J") ∈ tb := tbm 198 (by decide +kernel) rfl
theorem kw_199 : (Jvm.Cond.fieldLink "GreenPath$Search" (44 : Nat) "GreenPath$Search" "otherSums" "[J") ∈ tb := tbm 199 (by decide +kernel) rfl
theorem kw_200 : (Jvm.Cond.laysFinal "GreenPath$Search" "GreenPath$Search" "island" "LGreenPath$Island;") ∈ tb := tbm 200 (by decide +kernel) rfl
theorem kw_202 : (Jvm.Cond.laysFinal "GreenPath$Search" "GreenPath$Search" "states" "[I") ∈ tb := tbm 202 (by decide +kernel) rfl
theorem kw_204 : (Jvm.Cond.laysFinal "GreenPath$Search" "GreenPath$Search" "leads" "[I") ∈ tb := tbm 204 (by decide +kernel) rfl
theorem kw_206 : (Jvm.Cond.laysFinal "GreenPath$Search" "GreenPath$Search" "queue" "[I") ∈ tb := tbm 206 (by decide +kernel) rfl
theorem kw_208 : (Jvm.Cond.laysFinal "GreenPath$Search" "GreenPath$Search" "distance" "[I") ∈ tb := tbm 208 (by decide +kernel) rfl
theorem kw_210 : (Jvm.Cond.laysFinal "GreenPath$Search" "GreenPath$Search" "origin" "[I") ∈ tb := tbm 210 (by decide +kernel) rfl
theorem kw_212 : (Jvm.Cond.lays "GreenPath$Search" "GreenPath$Search" "found" "I") ∈ tb := tbm 212 (by decide +kernel) rfl
theorem kw_214 : (Jvm.Cond.lays "GreenPath$Search" "GreenPath$Search" "marks" "[I") ∈ tb := tbm 214 (by decide +kernel) rfl
theorem kw_216 : (Jvm.Cond.lays "GreenPath$Search" "GreenPath$Search" "otherMarks" "[I") ∈ tb := tbm 216 (by decide +kernel) rfl
theorem kw_218 : (Jvm.Cond.lays "GreenPath$Search" "GreenPath$Search" "sums" "[J") ∈ tb := tbm 218 (by decide +kernel) rfl
theorem kw_220 : (Jvm.Cond.lays "GreenPath$Search" "GreenPath$Search" "otherSums" "[J") ∈ tb := tbm 220 (by decide +kernel) rfl
theorem kw_222 : (Jvm.Cond.superclass "GreenPath$Search" "java/lang/Object") ∈ tb := tbm 222 (by decide +kernel) rfl
theorem kw_223 : (Jvm.Cond.arrayClass Jvm.ClassFile.FieldType.long) ∈ tb := tbm 223 (by decide +kernel) rfl
theorem kw_224 : (Jvm.Cond.methodLink "GreenPath" (23 : Nat) ({ cls := "GreenPath$Island", name := "settle", desc := "()V" } : Jvm.MethodName)) ∈ tb := tbm 224 (by decide +kernel) rfl
theorem kw_225 : (Jvm.Cond.instanceMethod ({ cls := "GreenPath$Island", name := "settle", desc := "()V" } : Jvm.MethodName)) ∈ tb := tbm 225 (by decide +kernel) rfl
theorem kw_226 : (Jvm.Cond.selects "GreenPath$Island" ({ cls := "GreenPath$Island", name := "settle", desc := "()V" } : Jvm.MethodName) ({ cls := "GreenPath$Island", name := "settle", desc := "()V" } : Jvm.MethodName)) ∈ tb := tbm 226 (by decide +kernel) rfl
theorem kw_227 : (Jvm.Cond.code ({ cls := "GreenPath$Island", name := "settle", desc := "()V" } : Jvm.MethodName) prog_4_method_3_code (5 : Nat) (Option.none : Option Jvm.ClassFile.FieldType)) ∈ tb := tbm 227 (by decide +kernel) rfl
theorem kw_228 : (Jvm.Cond.methodLink "GreenPath$Island" (70 : Nat) ({ cls := "java/util/Arrays", name := "fill", desc := "([II)V" } : Jvm.MethodName)) ∈ tb := tbm 228 (by decide +kernel) rfl
theorem kw_230 : (Jvm.Cond.methodLink "GreenPath$Island" (79 : Nat) ({ cls := "GreenPath$Island", name := "addChange", desc := "(III)V" } : Jvm.MethodName)) ∈ tb := tbm 230 (by decide +kernel) rfl
theorem kw_231 : (Jvm.Cond.instanceMethod ({ cls := "GreenPath$Island", name := "addChange", desc := "(III)V" } : Jvm.MethodName)) ∈ tb := tbm 231 (by decide +kernel) rfl
theorem kw_232 : (Jvm.Cond.selects "GreenPath$Island" ({ cls := "GreenPath$Island", name := "addChange", desc := "(III)V" } : Jvm.MethodName) ({ cls := "GreenPath$Island", name := "addChange", desc := "(III)V" } : Jvm.MethodName)) ∈ tb := tbm 232 (by decide +kernel) rfl
theorem kw_233 : (Jvm.Cond.code ({ cls := "GreenPath$Island", name := "addChange", desc := "(III)V" } : Jvm.MethodName) prog_4_method_4_code (4 : Nat) (Option.none : Option Jvm.ClassFile.FieldType)) ∈ tb := tbm 233 (by decide +kernel) rfl
theorem kw_235 : (Jvm.Cond.static ({ cls := "GreenPath", name := "isSort", desc := "(I)Z" } : Jvm.MethodName)) ∈ tb := tbm 235 (by decide +kernel) rfl
theorem kw_236 : (Jvm.Cond.code ({ cls := "GreenPath", name := "isSort", desc := "(I)Z" } : Jvm.MethodName) prog_1_method_40_code (1 : Nat) (Option.some Jvm.ClassFile.FieldType.boolean)) ∈ tb := tbm 236 (by decide +kernel) rfl
theorem kw_238 : (Jvm.Cond.methodLink "GreenPath$Island" (85 : Nat) ({ cls := "GreenPath$Law", name := "comes", desc := "(ILGreenPath$Island;)I" } : Jvm.MethodName)) ∈ tb := tbm 238 (by decide +kernel) rfl
theorem kw_239 : (Jvm.Cond.instanceMethod ({ cls := "GreenPath$Law", name := "comes", desc := "(ILGreenPath$Island;)I" } : Jvm.MethodName)) ∈ tb := tbm 239 (by decide +kernel) rfl
theorem kw_240 : (Jvm.Cond.selects "GreenPath$Law" ({ cls := "GreenPath$Law", name := "comes", desc := "(ILGreenPath$Island;)I" } : Jvm.MethodName) ({ cls := "GreenPath$Law", name := "comes", desc := "(ILGreenPath$Island;)I" } : Jvm.MethodName)) ∈ tb := tbm 240 (by decide +kernel) rfl
theorem kw_241 : (Jvm.Cond.sameMethod "GreenPath$Law" "GreenPath$Law" "comes" "(ILGreenPath$Island;)I") ∈ tb := tbm 241 (by decide +kernel) rfl
theorem kw_242 : (Jvm.Cond.selects "GreenPath$Copy" ({ cls := "GreenPath$Law", name := "comes", desc := "(ILGreenPath$Island;)I" } : Jvm.MethodName) ({ cls := "GreenPath$Copy", name := "comes", desc := "(ILGreenPath$Island;)I" } : Jvm.MethodName)) ∈ tb := tbm 242 (by decide +kernel) rfl
theorem kw_243 : (Jvm.Cond.instanceMethod ({ cls := "GreenPath$Copy", name := "comes", desc := "(ILGreenPath$Island;)I" } : Jvm.MethodName)) ∈ tb := tbm 243 (by decide +kernel) rfl
theorem kw_244 : (Jvm.Cond.code ({ cls := "GreenPath$Copy", name := "comes", desc := "(ILGreenPath$Island;)I" } : Jvm.MethodName) prog_2_method_2_code (3 : Nat) (Option.some Jvm.ClassFile.FieldType.int)) ∈ tb := tbm 244 (by decide +kernel) rfl
theorem kw_245 : (Jvm.Cond.methodLink "GreenPath$Copy" (16 : Nat) ({ cls := "GreenPath$Third", name := "comes", desc := "(ILGreenPath$Island;)I" } : Jvm.MethodName)) ∈ tb := tbm 245 (by decide +kernel) rfl
theorem kw_246 : (Jvm.Cond.superclass "GreenPath$Copy" "GreenPath$Third") ∈ tb := tbm 246 (by decide +kernel) rfl
theorem kw_247 : (Jvm.Cond.instanceMethod ({ cls := "GreenPath$Third", name := "comes", desc := "(ILGreenPath$Island;)I" } : Jvm.MethodName)) ∈ tb := tbm 247 (by decide +kernel) rfl
theorem kw_248 : (Jvm.Cond.code ({ cls := "GreenPath$Third", name := "comes", desc := "(ILGreenPath$Island;)I" } : Jvm.MethodName) prog_11_method_2_code (3 : Nat) (Option.some Jvm.ClassFile.FieldType.int)) ∈ tb := tbm 248 (by decide +kernel) rfl
theorem kw_249 : (Jvm.Cond.methodLink "GreenPath$Third" (16 : Nat) ({ cls := "GreenPath$Law", name := "comes", desc := "(ILGreenPath$Island;)I" } : Jvm.MethodName)) ∈ tb := tbm 249 (by decide +kernel) rfl
theorem kw_250 : (Jvm.Cond.selects "GreenPath$Eat" ({ cls := "GreenPath$Law", name := "comes", desc := "(ILGreenPath$Island;)I" } : Jvm.MethodName) ({ cls := "GreenPath$Eat", name := "comes", desc := "(ILGreenPath$Island;)I" } : Jvm.MethodName)) ∈ tb := tbm 250 (by decide +kernel) rfl
theorem kw_251 : (Jvm.Cond.instanceMethod ({ cls := "GreenPath$Eat", name := "comes", desc := "(ILGreenPath$Island;)I" } : Jvm.MethodName)) ∈ tb := tbm 251 (by decide +kernel) rfl
theorem kw_252 : (Jvm.Cond.code ({ cls := "GreenPath$Eat", name := "comes", desc := "(ILGreenPath$Island;)I" } : Jvm.MethodName) prog_3_method_2_code (3 : Nat) (Option.some Jvm.ClassFile.FieldType.int)) ∈ tb := tbm 252 (by decide +kernel) rfl
theorem kw_253 : (Jvm.Cond.selects "GreenPath$Join" ({ cls := "GreenPath$Law", name := "comes", desc := "(ILGreenPath$Island;)I" } : Jvm.MethodName) ({ cls := "GreenPath$Join", name := "comes", desc := "(ILGreenPath$Island;)I" } : Jvm.MethodName)) ∈ tb := tbm 253 (by decide +kernel) rfl
theorem kw_254 : (Jvm.Cond.instanceMethod ({ cls := "GreenPath$Join", name := "comes", desc := "(ILGreenPath$Island;)I" } : Jvm.MethodName)) ∈ tb := tbm 254 (by decide +kernel) rfl
theorem kw_255 : (Jvm.Cond.code ({ cls := "GreenPath$Join", name := "comes", desc := "(ILGreenPath$Island;)I" } : Jvm.MethodName) prog_5_method_2_code (3 : Nat) (Option.some Jvm.ClassFile.FieldType.int)) ∈ tb := tbm 255 (by decide +kernel) rfl
theorem kw_256 : (Jvm.Cond.methodLink "GreenPath$Join" (19 : Nat) ({ cls := "GreenPath$Eat", name := "comes", desc := "(ILGreenPath$Island;)I" } : Jvm.MethodName)) ∈ tb := tbm 256 (by decide +kernel) rfl
theorem kw_257 : (Jvm.Cond.superclass "GreenPath$Join" "GreenPath$Eat") ∈ tb := tbm 257 (by decide +kernel) rfl
theorem kw_258 : (Jvm.Cond.selects "GreenPath$Split" ({ cls := "GreenPath$Law", name := "comes", desc := "(ILGreenPath$Island;)I" } : Jvm.MethodName) ({ cls := "GreenPath$Split", name := "comes", desc := "(ILGreenPath$Island;)I" } : Jvm.MethodName)) ∈ tb := tbm 258 (by decide +kernel) rfl
theorem kw_259 : (Jvm.Cond.instanceMethod ({ cls := "GreenPath$Split", name := "comes", desc := "(ILGreenPath$Island;)I" } : Jvm.MethodName)) ∈ tb := tbm 259 (by decide +kernel) rfl
theorem kw_260 : (Jvm.Cond.code ({ cls := "GreenPath$Split", name := "comes", desc := "(ILGreenPath$Island;)I" } : Jvm.MethodName) prog_9_method_2_code (3 : Nat) (Option.some Jvm.ClassFile.FieldType.int)) ∈ tb := tbm 260 (by decide +kernel) rfl
theorem kw_261 : (Jvm.Cond.methodLink "GreenPath$Split" (13 : Nat) ({ cls := "GreenPath$Law", name := "comes", desc := "(ILGreenPath$Island;)I" } : Jvm.MethodName)) ∈ tb := tbm 261 (by decide +kernel) rfl
theorem kw_262 : (Jvm.Cond.superclass "GreenPath$Split" "GreenPath$Law") ∈ tb := tbm 262 (by decide +kernel) rfl
theorem kw_263 : (Jvm.Cond.selects "GreenPath$Third" ({ cls := "GreenPath$Law", name := "comes", desc := "(ILGreenPath$Island;)I" } : Jvm.MethodName) ({ cls := "GreenPath$Third", name := "comes", desc := "(ILGreenPath$Island;)I" } : Jvm.MethodName)) ∈ tb := tbm 263 (by decide +kernel) rfl
theorem kw_264 : (Jvm.Cond.selects "GreenPath$Told" ({ cls := "GreenPath$Law", name := "comes", desc := "(ILGreenPath$Island;)I" } : Jvm.MethodName) ({ cls := "GreenPath$Told", name := "comes", desc := "(ILGreenPath$Island;)I" } : Jvm.MethodName)) ∈ tb := tbm 264 (by decide +kernel) rfl
theorem kw_265 : (Jvm.Cond.instanceMethod ({ cls := "GreenPath$Told", name := "comes", desc := "(ILGreenPath$Island;)I" } : Jvm.MethodName)) ∈ tb := tbm 265 (by decide +kernel) rfl
theorem kw_266 : (Jvm.Cond.code ({ cls := "GreenPath$Told", name := "comes", desc := "(ILGreenPath$Island;)I" } : Jvm.MethodName) prog_12_method_2_code (3 : Nat) (Option.some Jvm.ClassFile.FieldType.int)) ∈ tb := tbm 266 (by decide +kernel) rfl
theorem kw_267 : (Jvm.Cond.methodLink "GreenPath$Told" (21 : Nat) ({ cls := "GreenPath$Island", name := "sortGiven", desc := "(III)I" } : Jvm.MethodName)) ∈ tb := tbm 267 (by decide +kernel) rfl
theorem kw_268 : (Jvm.Cond.instanceMethod ({ cls := "GreenPath$Island", name := "sortGiven", desc := "(III)I" } : Jvm.MethodName)) ∈ tb := tbm 268 (by decide +kernel) rfl
theorem kw_269 : (Jvm.Cond.selects "GreenPath$Island" ({ cls := "GreenPath$Island", name := "sortGiven", desc := "(III)I" } : Jvm.MethodName) ({ cls := "GreenPath$Island", name := "sortGiven", desc := "(III)I" } : Jvm.MethodName)) ∈ tb := tbm 269 (by decide +kernel) rfl
theorem kw_270 : (Jvm.Cond.code ({ cls := "GreenPath$Island", name := "sortGiven", desc := "(III)I" } : Jvm.MethodName) prog_4_method_12_code (5 : Nat) (Option.some Jvm.ClassFile.FieldType.int)) ∈ tb := tbm 270 (by decide +kernel) rfl
theorem kw_271 : (Jvm.Cond.methodLink "GreenPath$Island" (139 : Nat) ({ cls := "GreenPath$Text", name := "worth", desc := "(IIII)I" } : Jvm.MethodName)) ∈ tb := tbm 271 (by decide +kernel) rfl
theorem kw_272 : (Jvm.Cond.instanceMethod ({ cls := "GreenPath$Text", name := "worth", desc := "(IIII)I" } : Jvm.MethodName)) ∈ tb := tbm 272 (by decide +kernel) rfl
theorem kw_273 : (Jvm.Cond.selects "GreenPath$Text" ({ cls := "GreenPath$Text", name := "worth", desc := "(IIII)I" } : Jvm.MethodName) ({ cls := "GreenPath$Text", name := "worth", desc := "(IIII)I" } : Jvm.MethodName)) ∈ tb := tbm 273 (by decide +kernel) rfl
theorem kw_274 : (Jvm.Cond.code ({ cls := "GreenPath$Text", name := "worth", desc := "(IIII)I" } : Jvm.MethodName) prog_10_method_10_code (8 : Nat) (Option.some Jvm.ClassFile.FieldType.int)) ∈ tb := tbm 274 (by decide +kernel) rfl
theorem kw_275 : (Jvm.Cond.methodLink "GreenPath$Text" (89 : Nat) ({ cls := "GreenPath$Text", name := "joined", desc := "(III)I" } : Jvm.MethodName)) ∈ tb := tbm 275 (by decide +kernel) rfl
theorem kw_276 : (Jvm.Cond.static ({ cls := "GreenPath$Text", name := "joined", desc := "(III)I" } : Jvm.MethodName)) ∈ tb := tbm 276 (by decide +kernel) rfl
theorem kw_277 : (Jvm.Cond.code ({ cls := "GreenPath$Text", name := "joined", desc := "(III)I" } : Jvm.MethodName) prog_10_method_11_code (3 : Nat) (Option.some Jvm.ClassFile.FieldType.int)) ∈ tb := tbm 277 (by decide +kernel) rfl
theorem kw_278 : (Jvm.Cond.methodLink "GreenPath$Island" (124 : Nat) ({ cls := "java/lang/Math", name := "max", desc := "(II)I" } : Jvm.MethodName)) ∈ tb := tbm 278 (by decide +kernel) rfl
theorem kw_279 : (Jvm.Cond.methodLink "GreenPath$Told" (27 : Nat) ({ cls := "GreenPath$Split", name := "comes", desc := "(ILGreenPath$Island;)I" } : Jvm.MethodName)) ∈ tb := tbm 279 (by decide +kernel) rfl
theorem kw_280 : (Jvm.Cond.superclass "GreenPath$Told" "GreenPath$Split") ∈ tb := tbm 280 (by decide +kernel) rfl
theorem kw_281 : (Jvm.Cond.code ({ cls := "GreenPath$Law", name := "comes", desc := "(ILGreenPath$Island;)I" } : Jvm.MethodName) prog_6_method_2_code (3 : Nat) (Option.some Jvm.ClassFile.FieldType.int)) ∈ tb := tbm 281 (by decide +kernel) rfl
theorem kw_283 : (Jvm.Cond.classLink "GreenPath" (24 : Nat) "GreenPath$Island") ∈ tb := tbm 283 (by decide +kernel) rfl
theorem kw_284 : (Jvm.Cond.methodLink "GreenPath" (28 : Nat) ({ cls := "GreenPath$Island", name := "<init>", desc := "()V" } : Jvm.MethodName)) ∈ tb := tbm 284 (by decide +kernel) rfl
theorem kw_285 : (Jvm.Cond.classLink "GreenPath" (32 : Nat) "GreenPath$Row") ∈ tb := tbm 285 (by decide +kernel) rfl
theorem kw_286 : (Jvm.Cond.methodLink "GreenPath" (34 : Nat) ({ cls := "GreenPath$Row", name := "<init>", desc := "(I)V" } : Jvm.MethodName)) ∈ tb := tbm 286 (by decide +kernel) rfl
theorem kw_288 : (Jvm.Cond.fieldLink "GreenPath" (20 : Nat) "GreenPath" "now" "LGreenPath$Island;") ∈ tb := tbm 288 (by decide +kernel) rfl
theorem kw_289 : (Jvm.Cond.fieldLink "GreenPath" (29 : Nat) "GreenPath" "kept" "LGreenPath$Island;") ∈ tb := tbm 289 (by decide +kernel) rfl
theorem kw_290 : (Jvm.Cond.fieldLink "GreenPath" (12 : Nat) "GreenPath" "search" "LGreenPath$Search;") ∈ tb := tbm 290 (by decide +kernel) rfl
theorem kw_291 : (Jvm.Cond.fieldLink "GreenPath" (37 : Nat) "GreenPath" "bodies" "LGreenPath$Row;") ∈ tb := tbm 291 (by decide +kernel) rfl
theorem kw_292 : (Jvm.Cond.fieldLink "GreenPath" (41 : Nat) "GreenPath" "sheets" "[LGreenPath$Row;") ∈ tb := tbm 292 (by decide +kernel) rfl
theorem kw_293 : (Jvm.Cond.fieldLink "GreenPath" (45 : Nat) "GreenPath" "sheetBits" "[I") ∈ tb := tbm 293 (by decide +kernel) rfl
theorem kw_294 : (Jvm.Cond.fieldLink "GreenPath" (49 : Nat) "GreenPath" "errors" "[I") ∈ tb := tbm 294 (by decide +kernel) rfl
theorem kw_295 : (Jvm.Cond.fieldLink "GreenPath" (274 : Nat) "GreenPath" "images" "I") ∈ tb := tbm 295 (by decide +kernel) rfl
theorem kw_296 : (Jvm.Cond.laysFinal "GreenPath" "GreenPath" "now" "LGreenPath$Island;") ∈ tb := tbm 296 (by decide +kernel) rfl
theorem kw_298 : (Jvm.Cond.laysFinal "GreenPath" "GreenPath" "kept" "LGreenPath$Island;") ∈ tb := tbm 298 (by decide +kernel) rfl
theorem kw_300 : (Jvm.Cond.laysFinal "GreenPath" "GreenPath" "search" "LGreenPath$Search;") ∈ tb := tbm 300 (by decide +kernel) rfl
theorem kw_302 : (Jvm.Cond.laysFinal "GreenPath" "GreenPath" "bodies" "LGreenPath$Row;") ∈ tb := tbm 302 (by decide +kernel) rfl
theorem kw_304 : (Jvm.Cond.laysFinal "GreenPath" "GreenPath" "sheets" "[LGreenPath$Row;") ∈ tb := tbm 304 (by decide +kernel) rfl
theorem kw_306 : (Jvm.Cond.laysFinal "GreenPath" "GreenPath" "sheetBits" "[I") ∈ tb := tbm 306 (by decide +kernel) rfl
theorem kw_308 : (Jvm.Cond.laysFinal "GreenPath" "GreenPath" "errors" "[I") ∈ tb := tbm 308 (by decide +kernel) rfl
theorem kw_310 : (Jvm.Cond.lays "GreenPath" "GreenPath" "images" "I") ∈ tb := tbm 310 (by decide +kernel) rfl
theorem kw_312 : (Jvm.Cond.superclass "GreenPath" "java/lang/Object") ∈ tb := tbm 312 (by decide +kernel) rfl
theorem kw_313 : (Jvm.Cond.methodLink "GreenPathLaw" (13 : Nat) ({ cls := "GreenPath", name := "be", desc := "(II)I" } : Jvm.MethodName)) ∈ tb := tbm 313 (by decide +kernel) rfl
theorem kw_314 : (Jvm.Cond.instanceMethod ({ cls := "GreenPath", name := "be", desc := "(II)I" } : Jvm.MethodName)) ∈ tb := tbm 314 (by decide +kernel) rfl
theorem kw_315 : (Jvm.Cond.selects "GreenPath" ({ cls := "GreenPath", name := "be", desc := "(II)I" } : Jvm.MethodName) ({ cls := "GreenPath", name := "be", desc := "(II)I" } : Jvm.MethodName)) ∈ tb := tbm 315 (by decide +kernel) rfl
theorem kw_316 : (Jvm.Cond.code ({ cls := "GreenPath", name := "be", desc := "(II)I" } : Jvm.MethodName) prog_1_method_2_code (4 : Nat) (Option.some Jvm.ClassFile.FieldType.int)) ∈ tb := tbm 316 (by decide +kernel) rfl
theorem kw_317 : (Jvm.Cond.methodLink "GreenPath" (52 : Nat) ({ cls := "GreenPath", name := "isSort", desc := "(I)Z" } : Jvm.MethodName)) ∈ tb := tbm 317 (by decide +kernel) rfl
theorem kw_318 : (Jvm.Cond.constant "GreenPath" (56 : Nat) (-1000000001 : Int32)) ∈ tb := tbm 318 (by decide +kernel) rfl
theorem kw_319 : (Jvm.Cond.methodLink "GreenPath" (57 : Nat) ({ cls := "GreenPath", name := "error", desc := "(I)I" } : Jvm.MethodName)) ∈ tb := tbm 319 (by decide +kernel) rfl
theorem kw_321 : (Jvm.Cond.instanceMethod ({ cls := "GreenPath", name := "error", desc := "(I)I" } : Jvm.MethodName)) ∈ tb := tbm 321 (by decide +kernel) rfl
theorem kw_322 : (Jvm.Cond.code ({ cls := "GreenPath", name := "error", desc := "(I)I" } : Jvm.MethodName) prog_1_method_37_code (3 : Nat) (Option.some Jvm.ClassFile.FieldType.int)) ∈ tb := tbm 322 (by decide +kernel) rfl
theorem kw_323 : (Jvm.Cond.constant "GreenPath" (286 : Nat) (-1000000000 : Int32)) ∈ tb := tbm 323 (by decide +kernel) rfl
theorem kw_324 : (Jvm.Cond.methodLink "GreenPath" (65 : Nat) ({ cls := "GreenPath", name := "countOf", desc := "(II)I" } : Jvm.MethodName)) ∈ tb := tbm 324 (by decide +kernel) rfl
theorem kw_325 : (Jvm.Cond.static ({ cls := "GreenPath", name := "countOf", desc := "(II)I" } : Jvm.MethodName)) ∈ tb := tbm 325 (by decide +kernel) rfl
theorem kw_326 : (Jvm.Cond.code ({ cls := "GreenPath", name := "countOf", desc := "(II)I" } : Jvm.MethodName) prog_1_method_47_code (2 : Nat) (Option.some Jvm.ClassFile.FieldType.int)) ∈ tb := tbm 326 (by decide +kernel) rfl
theorem kw_327 : (Jvm.Cond.constant "GreenPath" (72 : Nat) (-1000000004 : Int32)) ∈ tb := tbm 327 (by decide +kernel) rfl
theorem kw_328 : (Jvm.Cond.methodLink "GreenPathLaw" (18 : Nat) ({ cls := "GreenPath", name := "of", desc := "(I)I" } : Jvm.MethodName)) ∈ tb := tbm 328 (by decide +kernel) rfl
theorem kw_329 : (Jvm.Cond.instanceMethod ({ cls := "GreenPath", name := "of", desc := "(I)I" } : Jvm.MethodName)) ∈ tb := tbm 329 (by decide +kernel) rfl
theorem kw_330 : (Jvm.Cond.selects "GreenPath" ({ cls := "GreenPath", name := "of", desc := "(I)I" } : Jvm.MethodName) ({ cls := "GreenPath", name := "of", desc := "(I)I" } : Jvm.MethodName)) ∈ tb := tbm 330 (by decide +kernel) rfl
theorem kw_331 : (Jvm.Cond.code ({ cls := "GreenPath", name := "of", desc := "(I)I" } : Jvm.MethodName) prog_1_method_3_code (2 : Nat) (Option.some Jvm.ClassFile.FieldType.int)) ∈ tb := tbm 331 (by decide +kernel) rfl
theorem kw_332 : (Jvm.Cond.methodLink "GreenPathLaw" (23 : Nat) ({ cls := "GreenPath", name := "law", desc := "(II)I" } : Jvm.MethodName)) ∈ tb := tbm 332 (by decide +kernel) rfl
theorem kw_333 : (Jvm.Cond.instanceMethod ({ cls := "GreenPath", name := "law", desc := "(II)I" } : Jvm.MethodName)) ∈ tb := tbm 333 (by decide +kernel) rfl
theorem kw_334 : (Jvm.Cond.selects "GreenPath" ({ cls := "GreenPath", name := "law", desc := "(II)I" } : Jvm.MethodName) ({ cls := "GreenPath", name := "law", desc := "(II)I" } : Jvm.MethodName)) ∈ tb := tbm 334 (by decide +kernel) rfl
theorem kw_335 : (Jvm.Cond.code ({ cls := "GreenPath", name := "law", desc := "(II)I" } : Jvm.MethodName) prog_1_method_4_code (4 : Nat) (Option.some Jvm.ClassFile.FieldType.int)) ∈ tb := tbm 335 (by decide +kernel) rfl
theorem kw_336 : (Jvm.Cond.methodLink "GreenPath" (76 : Nat) ({ cls := "GreenPath", name := "isPair", desc := "(I)Z" } : Jvm.MethodName)) ∈ tb := tbm 336 (by decide +kernel) rfl
theorem kw_337 : (Jvm.Cond.static ({ cls := "GreenPath", name := "isPair", desc := "(I)Z" } : Jvm.MethodName)) ∈ tb := tbm 337 (by decide +kernel) rfl
theorem kw_338 : (Jvm.Cond.code ({ cls := "GreenPath", name := "isPair", desc := "(I)Z" } : Jvm.MethodName) prog_1_method_41_code (1 : Nat) (Option.some Jvm.ClassFile.FieldType.boolean)) ∈ tb := tbm 338 (by decide +kernel) rfl
theorem kw_339 : (Jvm.Cond.methodLink "GreenPath" (83 : Nat) ({ cls := "GreenPath", name := "newLaw", desc := "(III)LGreenPath$Law;" } : Jvm.MethodName)) ∈ tb := tbm 339 (by decide +kernel) rfl
theorem kw_340 : (Jvm.Cond.static ({ cls := "GreenPath", name := "newLaw", desc := "(III)LGreenPath$Law;" } : Jvm.MethodName)) ∈ tb := tbm 340 (by decide +kernel) rfl
theorem kw_341 : (Jvm.Cond.code ({ cls := "GreenPath", name := "newLaw", desc := "(III)LGreenPath$Law;" } : Jvm.MethodName) prog_1_method_51_code (3 : Nat) (Option.some (Jvm.ClassFile.FieldType.object "GreenPath$Law"))) ∈ tb := tbm 341 (by decide +kernel) rfl
theorem kw_342 : (Jvm.Cond.classLink "GreenPath" (290 : Nat) "GreenPath$Third") ∈ tb := tbm 342 (by decide +kernel) rfl
theorem kw_343 : (Jvm.Cond.methodLink "GreenPath" (302 : Nat) ({ cls := "GreenPath$Third", name := "<init>", desc := "(III)V" } : Jvm.MethodName)) ∈ tb := tbm 343 (by decide +kernel) rfl
theorem kw_344 : (Jvm.Cond.classLink "GreenPath" (292 : Nat) "GreenPath$Eat") ∈ tb := tbm 344 (by decide +kernel) rfl
theorem kw_345 : (Jvm.Cond.instantiable "GreenPath$Eat" (5 : Nat)) ∈ tb := tbm 345 (by decide +kernel) rfl
theorem kw_346 : (Jvm.Cond.methodLink "GreenPath" (305 : Nat) ({ cls := "GreenPath$Eat", name := "<init>", desc := "(III)V" } : Jvm.MethodName)) ∈ tb := tbm 346 (by decide +kernel) rfl
theorem kw_347 : (Jvm.Cond.instanceMethod ({ cls := "GreenPath$Eat", name := "<init>", desc := "(III)V" } : Jvm.MethodName)) ∈ tb := tbm 347 (by decide +kernel) rfl
theorem kw_348 : (Jvm.Cond.code ({ cls := "GreenPath$Eat", name := "<init>", desc := "(III)V" } : Jvm.MethodName) prog_3_method_1_code (4 : Nat) (Option.none : Option Jvm.ClassFile.FieldType)) ∈ tb := tbm 348 (by decide +kernel) rfl
theorem kw_349 : (Jvm.Cond.methodLink "GreenPath$Eat" (3 : Nat) ({ cls := "GreenPath$Law", name := "<init>", desc := "(III)V" } : Jvm.MethodName)) ∈ tb := tbm 349 (by decide +kernel) rfl
theorem kw_350 : (Jvm.Cond.laysFinal "GreenPath$Eat" "GreenPath$Law" "kind" "I") ∈ tb := tbm 350 (by decide +kernel) rfl
theorem kw_351 : (Jvm.Cond.laysFinal "GreenPath$Eat" "GreenPath$Law" "pair" "I") ∈ tb := tbm 351 (by decide +kernel) rfl
theorem kw_352 : (Jvm.Cond.laysFinal "GreenPath$Eat" "GreenPath$Law" "m" "I") ∈ tb := tbm 352 (by decide +kernel) rfl
theorem kw_353 : (Jvm.Cond.laysFinal "GreenPath$Eat" "GreenPath$Law" "a" "I") ∈ tb := tbm 353 (by decide +kernel) rfl
theorem kw_354 : (Jvm.Cond.laysFinal "GreenPath$Eat" "GreenPath$Law" "b" "I") ∈ tb := tbm 354 (by decide +kernel) rfl
theorem kw_355 : (Jvm.Cond.superclass "GreenPath$Eat" "GreenPath$Law") ∈ tb := tbm 355 (by decide +kernel) rfl
theorem kw_356 : (Jvm.Cond.classLink "GreenPath" (294 : Nat) "GreenPath$Split") ∈ tb := tbm 356 (by decide +kernel) rfl
theorem kw_357 : (Jvm.Cond.instantiable "GreenPath$Split" (5 : Nat)) ∈ tb := tbm 357 (by decide +kernel) rfl
theorem kw_358 : (Jvm.Cond.methodLink "GreenPath" (306 : Nat) ({ cls := "GreenPath$Split", name := "<init>", desc := "(III)V" } : Jvm.MethodName)) ∈ tb := tbm 358 (by decide +kernel) rfl
theorem kw_359 : (Jvm.Cond.instanceMethod ({ cls := "GreenPath$Split", name := "<init>", desc := "(III)V" } : Jvm.MethodName)) ∈ tb := tbm 359 (by decide +kernel) rfl
theorem kw_360 : (Jvm.Cond.code ({ cls := "GreenPath$Split", name := "<init>", desc := "(III)V" } : Jvm.MethodName) prog_9_method_1_code (4 : Nat) (Option.none : Option Jvm.ClassFile.FieldType)) ∈ tb := tbm 360 (by decide +kernel) rfl
theorem kw_361 : (Jvm.Cond.methodLink "GreenPath$Split" (1 : Nat) ({ cls := "GreenPath$Law", name := "<init>", desc := "(III)V" } : Jvm.MethodName)) ∈ tb := tbm 361 (by decide +kernel) rfl
theorem kw_362 : (Jvm.Cond.laysFinal "GreenPath$Split" "GreenPath$Law" "kind" "I") ∈ tb := tbm 362 (by decide +kernel) rfl
theorem kw_363 : (Jvm.Cond.laysFinal "GreenPath$Split" "GreenPath$Law" "pair" "I") ∈ tb := tbm 363 (by decide +kernel) rfl
theorem kw_364 : (Jvm.Cond.laysFinal "GreenPath$Split" "GreenPath$Law" "m" "I") ∈ tb := tbm 364 (by decide +kernel) rfl
theorem kw_365 : (Jvm.Cond.laysFinal "GreenPath$Split" "GreenPath$Law" "a" "I") ∈ tb := tbm 365 (by decide +kernel) rfl
theorem kw_366 : (Jvm.Cond.laysFinal "GreenPath$Split" "GreenPath$Law" "b" "I") ∈ tb := tbm 366 (by decide +kernel) rfl
theorem kw_367 : (Jvm.Cond.classLink "GreenPath" (296 : Nat) "GreenPath$Copy") ∈ tb := tbm 367 (by decide +kernel) rfl
theorem kw_368 : (Jvm.Cond.instantiable "GreenPath$Copy" (5 : Nat)) ∈ tb := tbm 368 (by decide +kernel) rfl
theorem kw_369 : (Jvm.Cond.methodLink "GreenPath" (307 : Nat) ({ cls := "GreenPath$Copy", name := "<init>", desc := "(III)V" } : Jvm.MethodName)) ∈ tb := tbm 369 (by decide +kernel) rfl
theorem kw_370 : (Jvm.Cond.instanceMethod ({ cls := "GreenPath$Copy", name := "<init>", desc := "(III)V" } : Jvm.MethodName)) ∈ tb := tbm 370 (by decide +kernel) rfl
theorem kw_371 : (Jvm.Cond.code ({ cls := "GreenPath$Copy", name := "<init>", desc := "(III)V" } : Jvm.MethodName) prog_2_method_1_code (4 : Nat) (Option.none : Option Jvm.ClassFile.FieldType)) ∈ tb := tbm 371 (by decide +kernel) rfl
theorem kw_372 : (Jvm.Cond.methodLink "GreenPath$Copy" (1 : Nat) ({ cls := "GreenPath$Third", name := "<init>", desc := "(III)V" } : Jvm.MethodName)) ∈ tb := tbm 372 (by decide +kernel) rfl
theorem kw_373 : (Jvm.Cond.laysFinal "GreenPath$Copy" "GreenPath$Law" "kind" "I") ∈ tb := tbm 373 (by decide +kernel) rfl
theorem kw_374 : (Jvm.Cond.laysFinal "GreenPath$Copy" "GreenPath$Law" "pair" "I") ∈ tb := tbm 374 (by decide +kernel) rfl
theorem kw_375 : (Jvm.Cond.laysFinal "GreenPath$Copy" "GreenPath$Law" "m" "I") ∈ tb := tbm 375 (by decide +kernel) rfl
theorem kw_376 : (Jvm.Cond.laysFinal "GreenPath$Copy" "GreenPath$Law" "a" "I") ∈ tb := tbm 376 (by decide +kernel) rfl
theorem kw_377 : (Jvm.Cond.laysFinal "GreenPath$Copy" "GreenPath$Law" "b" "I") ∈ tb := tbm 377 (by decide +kernel) rfl
theorem kw_378 : (Jvm.Cond.classLink "GreenPath" (298 : Nat) "GreenPath$Join") ∈ tb := tbm 378 (by decide +kernel) rfl
theorem kw_379 : (Jvm.Cond.instantiable "GreenPath$Join" (5 : Nat)) ∈ tb := tbm 379 (by decide +kernel) rfl
theorem kw_380 : (Jvm.Cond.methodLink "GreenPath" (308 : Nat) ({ cls := "GreenPath$Join", name := "<init>", desc := "(III)V" } : Jvm.MethodName)) ∈ tb := tbm 380 (by decide +kernel) rfl
theorem kw_381 : (Jvm.Cond.instanceMethod ({ cls := "GreenPath$Join", name := "<init>", desc := "(III)V" } : Jvm.MethodName)) ∈ tb := tbm 381 (by decide +kernel) rfl
theorem kw_382 : (Jvm.Cond.code ({ cls := "GreenPath$Join", name := "<init>", desc := "(III)V" } : Jvm.MethodName) prog_5_method_1_code (4 : Nat) (Option.none : Option Jvm.ClassFile.FieldType)) ∈ tb := tbm 382 (by decide +kernel) rfl
theorem kw_383 : (Jvm.Cond.methodLink "GreenPath$Join" (1 : Nat) ({ cls := "GreenPath$Eat", name := "<init>", desc := "(III)V" } : Jvm.MethodName)) ∈ tb := tbm 383 (by decide +kernel) rfl
theorem kw_384 : (Jvm.Cond.laysFinal "GreenPath$Join" "GreenPath$Law" "kind" "I") ∈ tb := tbm 384 (by decide +kernel) rfl
theorem kw_385 : (Jvm.Cond.laysFinal "GreenPath$Join" "GreenPath$Law" "pair" "I") ∈ tb := tbm 385 (by decide +kernel) rfl
theorem kw_386 : (Jvm.Cond.laysFinal "GreenPath$Join" "GreenPath$Law" "m" "I") ∈ tb := tbm 386 (by decide +kernel) rfl
theorem kw_387 : (Jvm.Cond.laysFinal "GreenPath$Join" "GreenPath$Law" "a" "I") ∈ tb := tbm 387 (by decide +kernel) rfl
theorem kw_388 : (Jvm.Cond.laysFinal "GreenPath$Join" "GreenPath$Law" "b" "I") ∈ tb := tbm 388 (by decide +kernel) rfl
theorem kw_389 : (Jvm.Cond.classLink "GreenPath" (300 : Nat) "GreenPath$Told") ∈ tb := tbm 389 (by decide +kernel) rfl
theorem kw_390 : (Jvm.Cond.instantiable "GreenPath$Told" (5 : Nat)) ∈ tb := tbm 390 (by decide +kernel) rfl
theorem kw_391 : (Jvm.Cond.methodLink "GreenPath" (309 : Nat) ({ cls := "GreenPath$Told", name := "<init>", desc := "(III)V" } : Jvm.MethodName)) ∈ tb := tbm 391 (by decide +kernel) rfl
theorem kw_392 : (Jvm.Cond.instanceMethod ({ cls := "GreenPath$Told", name := "<init>", desc := "(III)V" } : Jvm.MethodName)) ∈ tb := tbm 392 (by decide +kernel) rfl
theorem kw_393 : (Jvm.Cond.code ({ cls := "GreenPath$Told", name := "<init>", desc := "(III)V" } : Jvm.MethodName) prog_12_method_1_code (4 : Nat) (Option.none : Option Jvm.ClassFile.FieldType)) ∈ tb := tbm 393 (by decide +kernel) rfl
theorem kw_394 : (Jvm.Cond.methodLink "GreenPath$Told" (3 : Nat) ({ cls := "GreenPath$Split", name := "<init>", desc := "(III)V" } : Jvm.MethodName)) ∈ tb := tbm 394 (by decide +kernel) rfl
theorem kw_395 : (Jvm.Cond.laysFinal "GreenPath$Told" "GreenPath$Law" "kind" "I") ∈ tb := tbm 395 (by decide +kernel) rfl
theorem kw_396 : (Jvm.Cond.laysFinal "GreenPath$Told" "GreenPath$Law" "pair" "I") ∈ tb := tbm 396 (by decide +kernel) rfl
theorem kw_397 : (Jvm.Cond.laysFinal "GreenPath$Told" "GreenPath$Law" "m" "I") ∈ tb := tbm 397 (by decide +kernel) rfl
theorem kw_398 : (Jvm.Cond.laysFinal "GreenPath$Told" "GreenPath$Law" "a" "I") ∈ tb := tbm 398 (by decide +kernel) rfl
theorem kw_399 : (Jvm.Cond.laysFinal "GreenPath$Told" "GreenPath$Law" "b" "I") ∈ tb := tbm 399 (by decide +kernel) rfl
theorem kw_400 : (Jvm.Cond.classLink "GreenPath" (91 : Nat) "GreenPath$Law") ∈ tb := tbm 400 (by decide +kernel) rfl
theorem kw_401 : (Jvm.Cond.instantiable "GreenPath$Law" (5 : Nat)) ∈ tb := tbm 401 (by decide +kernel) rfl
theorem kw_402 : (Jvm.Cond.methodLink "GreenPath" (310 : Nat) ({ cls := "GreenPath$Law", name := "<init>", desc := "(III)V" } : Jvm.MethodName)) ∈ tb := tbm 402 (by decide +kernel) rfl
theorem kw_403 : (Jvm.Cond.laysFinal "GreenPath$Law" "GreenPath$Law" "kind" "I") ∈ tb := tbm 403 (by decide +kernel) rfl
theorem kw_404 : (Jvm.Cond.laysFinal "GreenPath$Law" "GreenPath$Law" "pair" "I") ∈ tb := tbm 404 (by decide +kernel) rfl
theorem kw_405 : (Jvm.Cond.laysFinal "GreenPath$Law" "GreenPath$Law" "m" "I") ∈ tb := tbm 405 (by decide +kernel) rfl
theorem kw_406 : (Jvm.Cond.laysFinal "GreenPath$Law" "GreenPath$Law" "a" "I") ∈ tb := tbm 406 (by decide +kernel) rfl
theorem kw_407 : (Jvm.Cond.laysFinal "GreenPath$Law" "GreenPath$Law" "b" "I") ∈ tb := tbm 407 (by decide +kernel) rfl
theorem kw_408 : (Jvm.Cond.superclass "GreenPath$Law" "java/lang/Object") ∈ tb := tbm 408 (by decide +kernel) rfl
theorem kw_409 : (Jvm.Cond.methodLink "GreenPath" (87 : Nat) ({ cls := "GreenPath", name := "rulesChanged", desc := "()V" } : Jvm.MethodName)) ∈ tb := tbm 409 (by decide +kernel) rfl
theorem kw_411 : (Jvm.Cond.instanceMethod ({ cls := "GreenPath", name := "rulesChanged", desc := "()V" } : Jvm.MethodName)) ∈ tb := tbm 411 (by decide +kernel) rfl
theorem kw_412 : (Jvm.Cond.code ({ cls := "GreenPath", name := "rulesChanged", desc := "()V" } : Jvm.MethodName) prog_1_method_39_code (1 : Nat) (Option.none : Option Jvm.ClassFile.FieldType)) ∈ tb := tbm 412 (by decide +kernel) rfl
theorem kw_413 : (Jvm.Cond.methodLink "GreenPath" (287 : Nat) ({ cls := "GreenPath$Search", name := "forget", desc := "()V" } : Jvm.MethodName)) ∈ tb := tbm 413 (by decide +kernel) rfl
theorem kw_414 : (Jvm.Cond.instanceMethod ({ cls := "GreenPath$Search", name := "forget", desc := "()V" } : Jvm.MethodName)) ∈ tb := tbm 414 (by decide +kernel) rfl
theorem kw_415 : (Jvm.Cond.selects "GreenPath$Search" ({ cls := "GreenPath$Search", name := "forget", desc := "()V" } : Jvm.MethodName) ({ cls := "GreenPath$Search", name := "forget", desc := "()V" } : Jvm.MethodName)) ∈ tb := tbm 415 (by decide +kernel) rfl
theorem kw_416 : (Jvm.Cond.code ({ cls := "GreenPath$Search", name := "forget", desc := "()V" } : Jvm.MethodName) prog_8_method_2_code (1 : Nat) (Option.none : Option Jvm.ClassFile.FieldType)) ∈ tb := tbm 416 (by decide +kernel) rfl
theorem kw_417 : (Jvm.Cond.methodLink "GreenPathLaw" (27 : Nat) ({ cls := "GreenPath", name := "fence", desc := "(II)I" } : Jvm.MethodName)) ∈ tb := tbm 417 (by decide +kernel) rfl
theorem kw_418 : (Jvm.Cond.instanceMethod ({ cls := "GreenPath", name := "fence", desc := "(II)I" } : Jvm.MethodName)) ∈ tb := tbm 418 (by decide +kernel) rfl
theorem kw_419 : (Jvm.Cond.selects "GreenPath" ({ cls := "GreenPath", name := "fence", desc := "(II)I" } : Jvm.MethodName) ({ cls := "GreenPath", name := "fence", desc := "(II)I" } : Jvm.MethodName)) ∈ tb := tbm 419 (by decide +kernel) rfl
theorem kw_420 : (Jvm.Cond.code ({ cls := "GreenPath", name := "fence", desc := "(II)I" } : Jvm.MethodName) prog_1_method_5_code (4 : Nat) (Option.some Jvm.ClassFile.FieldType.int)) ∈ tb := tbm 420 (by decide +kernel) rfl
theorem kw_421 : (Jvm.Cond.methodLink "GreenPath" (98 : Nat) ({ cls := "GreenPath$Island", name := "fencedAt", desc := "(I)I" } : Jvm.MethodName)) ∈ tb := tbm 421 (by decide +kernel) rfl
theorem kw_422 : (Jvm.Cond.instanceMethod ({ cls := "GreenPath$Island", name := "fencedAt", desc := "(I)I" } : Jvm.MethodName)) ∈ tb := tbm 422 (by decide +kernel) rfl
theorem kw_423 : (Jvm.Cond.selects "GreenPath$Island" ({ cls := "GreenPath$Island", name := "fencedAt", desc := "(I)I" } : Jvm.MethodName) ({ cls := "GreenPath$Island", name := "fencedAt", desc := "(I)I" } : Jvm.MethodName)) ∈ tb := tbm 423 (by decide +kernel) rfl
theorem kw_424 : (Jvm.Cond.code ({ cls := "GreenPath$Island", name := "fencedAt", desc := "(I)I" } : Jvm.MethodName) prog_4_method_5_code (2 : Nat) (Option.some Jvm.ClassFile.FieldType.int)) ∈ tb := tbm 424 (by decide +kernel) rfl
theorem kw_425 : (Jvm.Cond.methodLink "GreenPathLaw" (31 : Nat) ({ cls := "GreenPath", name := "ofPair", desc := "(II)I" } : Jvm.MethodName)) ∈ tb := tbm 425 (by decide +kernel) rfl
theorem kw_426 : (Jvm.Cond.instanceMethod ({ cls := "GreenPath", name := "ofPair", desc := "(II)I" } : Jvm.MethodName)) ∈ tb := tbm 426 (by decide +kernel) rfl
theorem kw_427 : (Jvm.Cond.selects "GreenPath" ({ cls := "GreenPath", name := "ofPair", desc := "(II)I" } : Jvm.MethodName) ({ cls := "GreenPath", name := "ofPair", desc := "(II)I" } : Jvm.MethodName)) ∈ tb := tbm 427 (by decide +kernel) rfl
theorem kw_428 : (Jvm.Cond.code ({ cls := "GreenPath", name := "ofPair", desc := "(II)I" } : Jvm.MethodName) prog_1_method_6_code (3 : Nat) (Option.some Jvm.ClassFile.FieldType.int)) ∈ tb := tbm 428 (by decide +kernel) rfl
theorem kw_429 : (Jvm.Cond.methodLink "GreenPath" (104 : Nat) ({ cls := "GreenPath$Island", name := "next", desc := "(II)I" } : Jvm.MethodName)) ∈ tb := tbm 429 (by decide +kernel) rfl
theorem kw_430 : (Jvm.Cond.instanceMethod ({ cls := "GreenPath$Island", name := "next", desc := "(II)I" } : Jvm.MethodName)) ∈ tb := tbm 430 (by decide +kernel) rfl
theorem kw_431 : (Jvm.Cond.selects "GreenPath$Island" ({ cls := "GreenPath$Island", name := "next", desc := "(II)I" } : Jvm.MethodName) ({ cls := "GreenPath$Island", name := "next", desc := "(II)I" } : Jvm.MethodName)) ∈ tb := tbm 431 (by decide +kernel) rfl
theorem kw_432 : (Jvm.Cond.code ({ cls := "GreenPath$Island", name := "next", desc := "(II)I" } : Jvm.MethodName) prog_4_method_6_code (6 : Nat) (Option.some Jvm.ClassFile.FieldType.int)) ∈ tb := tbm 432 (by decide +kernel) rfl
theorem kw_433 : (Jvm.Cond.methodLink "GreenPath$Island" (96 : Nat) ({ cls := "GreenPath$Island", name := "fencedAt", desc := "(I)I" } : Jvm.MethodName)) ∈ tb := tbm 433 (by decide +kernel) rfl
theorem kw_436 : (Jvm.Cond.methodLink "GreenPath" (110 : Nat) ({ cls := "GreenPath$Law", name := "comes", desc := "(ILGreenPath$Island;)I" } : Jvm.MethodName)) ∈ tb := tbm 436 (by decide +kernel) rfl
theorem kw_437 : (Jvm.Cond.methodLink "GreenPathLaw" (35 : Nat) ({ cls := "GreenPath", name := "as", desc := "(II)I" } : Jvm.MethodName)) ∈ tb := tbm 437 (by decide +kernel) rfl
theorem kw_438 : (Jvm.Cond.instanceMethod ({ cls := "GreenPath", name := "as", desc := "(II)I" } : Jvm.MethodName)) ∈ tb := tbm 438 (by decide +kernel) rfl
theorem kw_439 : (Jvm.Cond.selects "GreenPath" ({ cls := "GreenPath", name := "as", desc := "(II)I" } : Jvm.MethodName) ({ cls := "GreenPath", name := "as", desc := "(II)I" } : Jvm.MethodName)) ∈ tb := tbm 439 (by decide +kernel) rfl
theorem kw_440 : (Jvm.Cond.code ({ cls := "GreenPath", name := "as", desc := "(II)I" } : Jvm.MethodName) prog_1_method_7_code (3 : Nat) (Option.some Jvm.ClassFile.FieldType.int)) ∈ tb := tbm 440 (by decide +kernel) rfl
theorem kw_441 : (Jvm.Cond.methodLink "GreenPath" (114 : Nat) ({ cls := "GreenPath", name := "isOfKind", desc := "(LGreenPath$Law;I)Z" } : Jvm.MethodName)) ∈ tb := tbm 441 (by decide +kernel) rfl
theorem kw_442 : (Jvm.Cond.static ({ cls := "GreenPath", name := "isOfKind", desc := "(LGreenPath$Law;I)Z" } : Jvm.MethodName)) ∈ tb := tbm 442 (by decide +kernel) rfl
theorem kw_443 : (Jvm.Cond.code ({ cls := "GreenPath", name := "isOfKind", desc := "(LGreenPath$Law;I)Z" } : Jvm.MethodName) prog_1_method_50_code (2 : Nat) (Option.some Jvm.ClassFile.FieldType.boolean)) ∈ tb := tbm 443 (by decide +kernel) rfl
theorem kw_444 : (Jvm.Cond.constant "GreenPath" (118 : Nat) (-1000000005 : Int32)) ∈ tb := tbm 444 (by decide +kernel) rfl
theorem kw_445 : (Jvm.Cond.methodLink "GreenPathLaw" (41 : Nat) ({ cls := "GreenPath", name := "feed", desc := "(JI)I" } : Jvm.MethodName)) ∈ tb := tbm 445 (by decide +kernel) rfl
theorem kw_446 : (Jvm.Cond.instanceMethod ({ cls := "GreenPath", name := "feed", desc := "(JI)I" } : Jvm.MethodName)) ∈ tb := tbm 446 (by decide +kernel) rfl
theorem kw_447 : (Jvm.Cond.selects "GreenPath" ({ cls := "GreenPath", name := "feed", desc := "(JI)I" } : Jvm.MethodName) ({ cls := "GreenPath", name := "feed", desc := "(JI)I" } : Jvm.MethodName)) ∈ tb := tbm 447 (by decide +kernel) rfl
theorem kw_448 : (Jvm.Cond.code ({ cls := "GreenPath", name := "feed", desc := "(JI)I" } : Jvm.MethodName) prog_1_method_8_code (5 : Nat) (Option.some Jvm.ClassFile.FieldType.int)) ∈ tb := tbm 448 (by decide +kernel) rfl
theorem kw_449 : (Jvm.Cond.methodLink "GreenPath" (125 : Nat) ({ cls := "GreenPath$Row", name := "add", desc := "(I)Z" } : Jvm.MethodName)) ∈ tb := tbm 449 (by decide +kernel) rfl
theorem kw_450 : (Jvm.Cond.instanceMethod ({ cls := "GreenPath$Row", name := "add", desc := "(I)Z" } : Jvm.MethodName)) ∈ tb := tbm 450 (by decide +kernel) rfl
theorem kw_451 : (Jvm.Cond.selects "GreenPath$Row" ({ cls := "GreenPath$Row", name := "add", desc := "(I)Z" } : Jvm.MethodName) ({ cls := "GreenPath$Row", name := "add", desc := "(I)Z" } : Jvm.MethodName)) ∈ tb := tbm 451 (by decide +kernel) rfl
theorem kw_452 : (Jvm.Cond.code ({ cls := "GreenPath$Row", name := "add", desc := "(I)Z" } : Jvm.MethodName) prog_7_method_2_code (2 : Nat) (Option.some Jvm.ClassFile.FieldType.boolean)) ∈ tb := tbm 452 (by decide +kernel) rfl
theorem kw_453 : (Jvm.Cond.methodLink "GreenPathLaw" (46 : Nat) ({ cls := "GreenPath", name := "text", desc := "(I)I" } : Jvm.MethodName)) ∈ tb := tbm 453 (by decide +kernel) rfl
theorem kw_454 : (Jvm.Cond.instanceMethod ({ cls := "GreenPath", name := "text", desc := "(I)I" } : Jvm.MethodName)) ∈ tb := tbm 454 (by decide +kernel) rfl
theorem kw_455 : (Jvm.Cond.selects "GreenPath" ({ cls := "GreenPath", name := "text", desc := "(I)I" } : Jvm.MethodName) ({ cls := "GreenPath", name := "text", desc := "(I)I" } : Jvm.MethodName)) ∈ tb := tbm 455 (by decide +kernel) rfl
theorem kw_456 : (Jvm.Cond.code ({ cls := "GreenPath", name := "text", desc := "(I)I" } : Jvm.MethodName) prog_1_method_9_code (4 : Nat) (Option.some Jvm.ClassFile.FieldType.int)) ∈ tb := tbm 456 (by decide +kernel) rfl
theorem kw_457 : (Jvm.Cond.methodLink "GreenPath" (128 : Nat) ({ cls := "GreenPath", name := "isUse", desc := "(I)Z" } : Jvm.MethodName)) ∈ tb := tbm 457 (by decide +kernel) rfl
theorem kw_458 : (Jvm.Cond.static ({ cls := "GreenPath", name := "isUse", desc := "(I)Z" } : Jvm.MethodName)) ∈ tb := tbm 458 (by decide +kernel) rfl
theorem kw_459 : (Jvm.Cond.code ({ cls := "GreenPath", name := "isUse", desc := "(I)Z" } : Jvm.MethodName) prog_1_method_42_code (1 : Nat) (Option.some Jvm.ClassFile.FieldType.boolean)) ∈ tb := tbm 459 (by decide +kernel) rfl
theorem kw_460 : (Jvm.Cond.classLink "GreenPath" (131 : Nat) "GreenPath$Text") ∈ tb := tbm 460 (by decide +kernel) rfl
theorem kw_461 : (Jvm.Cond.instantiable "GreenPath$Text" (6 : Nat)) ∈ tb := tbm 461 (by decide +kernel) rfl
theorem kw_464 : (Jvm.Cond.methodLink "GreenPath" (137 : Nat) ({ cls := "GreenPath$Text", name := "<init>", desc := "(LGreenPath$Row;Ljava/lang/String;)V" } : Jvm.MethodName)) ∈ tb := tbm 464 (by decide +kernel) rfl
theorem kw_465 : (Jvm.Cond.instanceMethod ({ cls := "GreenPath$Text", name := "<init>", desc := "(LGreenPath$Row;Ljava/lang/String;)V" } : Jvm.MethodName)) ∈ tb := tbm 465 (by decide +kernel) rfl
theorem kw_466 : (Jvm.Cond.code ({ cls := "GreenPath$Text", name := "<init>", desc := "(LGreenPath$Row;Ljava/lang/String;)V" } : Jvm.MethodName) prog_10_method_1_code (3 : Nat) (Option.none : Option Jvm.ClassFile.FieldType)) ∈ tb := tbm 466 (by decide +kernel) rfl
theorem kw_467 : (Jvm.Cond.methodLink "GreenPath$Text" (3 : Nat) ({ cls := "java/lang/Object", name := "<init>", desc := "()V" } : Jvm.MethodName)) ∈ tb := tbm 467 (by decide +kernel) rfl
theorem kw_468 : (Jvm.Cond.classLink "GreenPath$Text" (19 : Nat) "GreenPath$Row") ∈ tb := tbm 468 (by decide +kernel) rfl
theorem kw_469 : (Jvm.Cond.methodLink "GreenPath$Text" (25 : Nat) ({ cls := "GreenPath$Row", name := "<init>", desc := "(I)V" } : Jvm.MethodName)) ∈ tb := tbm 469 (by decide +kernel) rfl
theorem kw_470 : (Jvm.Cond.fieldLink "GreenPath$Text" (9 : Nat) "GreenPath$Text" "tape" "LGreenPath$Row;") ∈ tb := tbm 470 (by decide +kernel) rfl
theorem kw_471 : (Jvm.Cond.fieldLink "GreenPath$Text" (15 : Nat) "GreenPath$Text" "names" "Ljava/lang/String;") ∈ tb := tbm 471 (by decide +kernel) rfl
theorem kw_472 : (Jvm.Cond.fieldLink "GreenPath$Text" (28 : Nat) "GreenPath$Text" "code" "LGreenPath$Row;") ∈ tb := tbm 472 (by decide +kernel) rfl
theorem kw_473 : (Jvm.Cond.fieldLink "GreenPath$Text" (31 : Nat) "GreenPath$Text" "values" "[I") ∈ tb := tbm 473 (by decide +kernel) rfl
theorem kw_474 : (Jvm.Cond.fieldLink "GreenPath$Text" (39 : Nat) "GreenPath$Text" "at" "I") ∈ tb := tbm 474 (by decide +kernel) rfl
theorem kw_475 : (Jvm.Cond.fieldLink "GreenPath$Text" (83 : Nat) "GreenPath$Text" "open" "I") ∈ tb := tbm 475 (by decide +kernel) rfl
theorem kw_476 : (Jvm.Cond.laysFinal "GreenPath$Text" "GreenPath$Text" "tape" "LGreenPath$Row;") ∈ tb := tbm 476 (by decide +kernel) rfl
theorem kw_478 : (Jvm.Cond.laysFinal "GreenPath$Text" "GreenPath$Text" "names" "Ljava/lang/String;") ∈ tb := tbm 478 (by decide +kernel) rfl
theorem kw_480 : (Jvm.Cond.laysFinal "GreenPath$Text" "GreenPath$Text" "code" "LGreenPath$Row;") ∈ tb := tbm 480 (by decide +kernel) rfl
theorem kw_482 : (Jvm.Cond.laysFinal "GreenPath$Text" "GreenPath$Text" "values" "[I") ∈ tb := tbm 482 (by decide +kernel) rfl
theorem kw_484 : (Jvm.Cond.lays "GreenPath$Text" "GreenPath$Text" "at" "I") ∈ tb := tbm 484 (by decide +kernel) rfl
theorem kw_486 : (Jvm.Cond.lays "GreenPath$Text" "GreenPath$Text" "open" "I") ∈ tb := tbm 486 (by decide +kernel) rfl
theorem kw_488 : (Jvm.Cond.superclass "GreenPath$Text" "java/lang/Object") ∈ tb := tbm 488 (by decide +kernel) rfl
theorem kw_489 : (Jvm.Cond.arrayClass Jvm.ClassFile.FieldType.byte) ∈ tb := tbm 489 (by decide +kernel) rfl
theorem kw_490 : (Jvm.Cond.methodLink "GreenPath" (140 : Nat) ({ cls := "GreenPath$Text", name := "faultOfReading", desc := "()I" } : Jvm.MethodName)) ∈ tb := tbm 490 (by decide +kernel) rfl
theorem kw_491 : (Jvm.Cond.instanceMethod ({ cls := "GreenPath$Text", name := "faultOfReading", desc := "()I" } : Jvm.MethodName)) ∈ tb := tbm 491 (by decide +kernel) rfl
theorem kw_492 : (Jvm.Cond.selects "GreenPath$Text" ({ cls := "GreenPath$Text", name := "faultOfReading", desc := "()I" } : Jvm.MethodName) ({ cls := "GreenPath$Text", name := "faultOfReading", desc := "()I" } : Jvm.MethodName)) ∈ tb := tbm 492 (by decide +kernel) rfl
theorem kw_493 : (Jvm.Cond.code ({ cls := "GreenPath$Text", name := "faultOfReading", desc := "()I" } : Jvm.MethodName) prog_10_method_2_code (1 : Nat) (Option.some Jvm.ClassFile.FieldType.int)) ∈ tb := tbm 493 (by decide +kernel) rfl
theorem kw_494 : (Jvm.Cond.methodLink "GreenPath$Text" (35 : Nat) ({ cls := "GreenPath$Text", name := "readLevel", desc := "(I)Z" } : Jvm.MethodName)) ∈ tb := tbm 494 (by decide +kernel) rfl
theorem kw_496 : (Jvm.Cond.instanceMethod ({ cls := "GreenPath$Text", name := "readLevel", desc := "(I)Z" } : Jvm.MethodName)) ∈ tb := tbm 496 (by decide +kernel) rfl
theorem kw_497 : (Jvm.Cond.code ({ cls := "GreenPath$Text", name := "readLevel", desc := "(I)Z" } : Jvm.MethodName) prog_10_method_6_code (5 : Nat) (Option.some Jvm.ClassFile.FieldType.boolean)) ∈ tb := tbm 497 (by decide +kernel) rfl
theorem kw_498 : (Jvm.Cond.methodLink "GreenPath$Text" (61 : Nat) ({ cls := "GreenPath$Text", name := "readSingle", desc := "()Z" } : Jvm.MethodName)) ∈ tb := tbm 498 (by decide +kernel) rfl
theorem kw_500 : (Jvm.Cond.instanceMethod ({ cls := "GreenPath$Text", name := "readSingle", desc := "()Z" } : Jvm.MethodName)) ∈ tb := tbm 500 (by decide +kernel) rfl
theorem kw_501 : (Jvm.Cond.code ({ cls := "GreenPath$Text", name := "readSingle", desc := "()Z" } : Jvm.MethodName) prog_10_method_7_code (3 : Nat) (Option.some Jvm.ClassFile.FieldType.boolean)) ∈ tb := tbm 501 (by decide +kernel) rfl
theorem kw_502 : (Jvm.Cond.methodLink "GreenPath$Text" (65 : Nat) ({ cls := "GreenPath$Text", name := "sign", desc := "()I" } : Jvm.MethodName)) ∈ tb := tbm 502 (by decide +kernel) rfl
theorem kw_503 : (Jvm.Cond.instanceMethod ({ cls := "GreenPath$Text", name := "sign", desc := "()I" } : Jvm.MethodName)) ∈ tb := tbm 503 (by decide +kernel) rfl
theorem kw_504 : (Jvm.Cond.selects "GreenPath$Text" ({ cls := "GreenPath$Text", name := "sign", desc := "()I" } : Jvm.MethodName) ({ cls := "GreenPath$Text", name := "sign", desc := "()I" } : Jvm.MethodName)) ∈ tb := tbm 504 (by decide +kernel) rfl
theorem kw_505 : (Jvm.Cond.code ({ cls := "GreenPath$Text", name := "sign", desc := "()I" } : Jvm.MethodName) prog_10_method_3_code (1 : Nat) (Option.some Jvm.ClassFile.FieldType.int)) ∈ tb := tbm 505 (by decide +kernel) rfl
theorem kw_506 : (Jvm.Cond.methodLink "GreenPath$Text" (80 : Nat) ({ cls := "GreenPath$Text", name := "readNumber", desc := "()Z" } : Jvm.MethodName)) ∈ tb := tbm 506 (by decide +kernel) rfl
theorem kw_507 : (Jvm.Cond.instanceMethod ({ cls := "GreenPath$Text", name := "readNumber", desc := "()Z" } : Jvm.MethodName)) ∈ tb := tbm 507 (by decide +kernel) rfl
theorem kw_508 : (Jvm.Cond.selects "GreenPath$Text" ({ cls := "GreenPath$Text", name := "readNumber", desc := "()Z" } : Jvm.MethodName) ({ cls := "GreenPath$Text", name := "readNumber", desc := "()Z" } : Jvm.MethodName)) ∈ tb := tbm 508 (by decide +kernel) rfl
theorem kw_509 : (Jvm.Cond.code ({ cls := "GreenPath$Text", name := "readNumber", desc := "()Z" } : Jvm.MethodName) prog_10_method_8_code (3 : Nat) (Option.some Jvm.ClassFile.FieldType.boolean)) ∈ tb := tbm 509 (by decide +kernel) rfl
theorem kw_510 : (Jvm.Cond.methodLink "GreenPath$Text" (77 : Nat) ({ cls := "GreenPath$Row", name := "add", desc := "(I)Z" } : Jvm.MethodName)) ∈ tb := tbm 510 (by decide +kernel) rfl
theorem kw_511 : (Jvm.Cond.methodLink "GreenPath$Text" (73 : Nat) ({ cls := "GreenPath$Text", name := "isAmong", desc := "(ILjava/lang/String;)Z" } : Jvm.MethodName)) ∈ tb := tbm 511 (by decide +kernel) rfl
theorem kw_512 : (Jvm.Cond.static ({ cls := "GreenPath$Text", name := "isAmong", desc := "(ILjava/lang/String;)Z" } : Jvm.MethodName)) ∈ tb := tbm 512 (by decide +kernel) rfl
theorem kw_513 : (Jvm.Cond.code ({ cls := "GreenPath$Text", name := "isAmong", desc := "(ILjava/lang/String;)Z" } : Jvm.MethodName) prog_10_method_4_code (2 : Nat) (Option.some Jvm.ClassFile.FieldType.boolean)) ∈ tb := tbm 513 (by decide +kernel) rfl
theorem kw_514 : (Jvm.Cond.methodLink "GreenPath$Text" (45 : Nat) ({ cls := "java/lang/String", name := "indexOf", desc := "(I)I" } : Jvm.MethodName)) ∈ tb := tbm 514 (by decide +kernel) rfl
theorem kw_515 : (Jvm.Cond.instanceMethod ({ cls := "java/lang/String", name := "indexOf", desc := "(I)I" } : Jvm.MethodName)) ∈ tb := tbm 515 (by decide +kernel) rfl
theorem kw_516 : (Jvm.Cond.selects "java/lang/String" ({ cls := "java/lang/String", name := "indexOf", desc := "(I)I" } : Jvm.MethodName) ({ cls := "java/lang/String", name := "indexOf", desc := "(I)I" } : Jvm.MethodName)) ∈ tb := tbm 516 (by decide +kernel) rfl
theorem kw_517 : (Jvm.Cond.code ({ cls := "java/lang/String", name := "indexOf", desc := "(I)I" } : Jvm.MethodName) prog_18_method_79_code (2 : Nat) (Option.some Jvm.ClassFile.FieldType.int)) ∈ tb := tbm 517 (by decide +kernel) rfl
theorem kw_518 : (Jvm.Cond.methodLink "java/lang/String" (633 : Nat) ({ cls := "java/lang/String", name := "indexOf", desc := "(II)I" } : Jvm.MethodName)) ∈ tb := tbm 518 (by decide +kernel) rfl
theorem kw_519 : (Jvm.Cond.instanceMethod ({ cls := "java/lang/String", name := "indexOf", desc := "(II)I" } : Jvm.MethodName)) ∈ tb := tbm 519 (by decide +kernel) rfl
theorem kw_520 : (Jvm.Cond.selects "java/lang/String" ({ cls := "java/lang/String", name := "indexOf", desc := "(II)I" } : Jvm.MethodName) ({ cls := "java/lang/String", name := "indexOf", desc := "(II)I" } : Jvm.MethodName)) ∈ tb := tbm 520 (by decide +kernel) rfl
theorem kw_521 : (Jvm.Cond.code ({ cls := "java/lang/String", name := "indexOf", desc := "(II)I" } : Jvm.MethodName) prog_18_method_80_code (3 : Nat) (Option.some Jvm.ClassFile.FieldType.int)) ∈ tb := tbm 521 (by decide +kernel) rfl
theorem kw_522 : (Jvm.Cond.methodLink "java/lang/String" (492 : Nat) ({ cls := "java/lang/String", name := "isLatin1", desc := "()Z" } : Jvm.MethodName)) ∈ tb := tbm 522 (by decide +kernel) rfl
theorem kw_523 : (Jvm.Cond.instanceMethod ({ cls := "java/lang/String", name := "isLatin1", desc := "()Z" } : Jvm.MethodName)) ∈ tb := tbm 523 (by decide +kernel) rfl
theorem kw_524 : (Jvm.Cond.selects "java/lang/String" ({ cls := "java/lang/String", name := "isLatin1", desc := "()Z" } : Jvm.MethodName) ({ cls := "java/lang/String", name := "isLatin1", desc := "()Z" } : Jvm.MethodName)) ∈ tb := tbm 524 (by decide +kernel) rfl
theorem kw_525 : (Jvm.Cond.code ({ cls := "java/lang/String", name := "isLatin1", desc := "()Z" } : Jvm.MethodName) prog_18_method_154_code (1 : Nat) (Option.some Jvm.ClassFile.FieldType.boolean)) ∈ tb := tbm 525 (by decide +kernel) rfl
theorem kw_526 : (Jvm.Cond.fieldLink "java/lang/String" (38 : Nat) "java/lang/String" "COMPACT_STRINGS" "Z") ∈ tb := tbm 526 (by decide +kernel) rfl
theorem kw_528 : (Jvm.Cond.methodLink "java/lang/String" (505 : Nat) ({ cls := "java/lang/String", name := "length", desc := "()I" } : Jvm.MethodName)) ∈ tb := tbm 528 (by decide +kernel) rfl
theorem kw_529 : (Jvm.Cond.instanceMethod ({ cls := "java/lang/String", name := "length", desc := "()I" } : Jvm.MethodName)) ∈ tb := tbm 529 (by decide +kernel) rfl
theorem kw_530 : (Jvm.Cond.selects "java/lang/String" ({ cls := "java/lang/String", name := "length", desc := "()I" } : Jvm.MethodName) ({ cls := "java/lang/String", name := "length", desc := "()I" } : Jvm.MethodName)) ∈ tb := tbm 530 (by decide +kernel) rfl
theorem kw_531 : (Jvm.Cond.code ({ cls := "java/lang/String", name := "length", desc := "()I" } : Jvm.MethodName) prog_18_method_54_code (1 : Nat) (Option.some Jvm.ClassFile.FieldType.int)) ∈ tb := tbm 531 (by decide +kernel) rfl
theorem kw_532 : (Jvm.Cond.methodLink "java/lang/String" (335 : Nat) ({ cls := "java/lang/String", name := "coder", desc := "()B" } : Jvm.MethodName)) ∈ tb := tbm 532 (by decide +kernel) rfl
theorem kw_533 : (Jvm.Cond.instanceMethod ({ cls := "java/lang/String", name := "coder", desc := "()B" } : Jvm.MethodName)) ∈ tb := tbm 533 (by decide +kernel) rfl
theorem kw_534 : (Jvm.Cond.selects "java/lang/String" ({ cls := "java/lang/String", name := "coder", desc := "()B" } : Jvm.MethodName) ({ cls := "java/lang/String", name := "coder", desc := "()B" } : Jvm.MethodName)) ∈ tb := tbm 534 (by decide +kernel) rfl
theorem kw_535 : (Jvm.Cond.code ({ cls := "java/lang/String", name := "coder", desc := "()B" } : Jvm.MethodName) prog_18_method_152_code (1 : Nat) (Option.some Jvm.ClassFile.FieldType.byte)) ∈ tb := tbm 535 (by decide +kernel) rfl
theorem kw_536 : (Jvm.Cond.methodLink "java/lang/String" (637 : Nat) ({ cls := "java/lang/StringLatin1", name := "indexOf", desc := "([BIII)I" } : Jvm.MethodName)) ∈ tb := tbm 536 (by decide +kernel) rfl
theorem kw_537 : (Jvm.Cond.static ({ cls := "java/lang/StringLatin1", name := "indexOf", desc := "([BIII)I" } : Jvm.MethodName)) ∈ tb := tbm 537 (by decide +kernel) rfl
theorem kw_538 : (Jvm.Cond.code ({ cls := "java/lang/StringLatin1", name := "indexOf", desc := "([BIII)I" } : Jvm.MethodName) prog_19_method_22_code (4 : Nat) (Option.some Jvm.ClassFile.FieldType.int)) ∈ tb := tbm 538 (by decide +kernel) rfl
theorem kw_539 : (Jvm.Cond.methodLink "java/lang/StringLatin1" (88 : Nat) ({ cls := "java/lang/StringLatin1", name := "canEncode", desc := "(I)Z" } : Jvm.MethodName)) ∈ tb := tbm 539 (by decide +kernel) rfl
theorem kw_540 : (Jvm.Cond.static ({ cls := "java/lang/StringLatin1", name := "canEncode", desc := "(I)Z" } : Jvm.MethodName)) ∈ tb := tbm 540 (by decide +kernel) rfl
theorem kw_541 : (Jvm.Cond.code ({ cls := "java/lang/StringLatin1", name := "canEncode", desc := "(I)Z" } : Jvm.MethodName) prog_19_method_4_code (1 : Nat) (Option.some Jvm.ClassFile.FieldType.boolean)) ∈ tb := tbm 541 (by decide +kernel) rfl
theorem kw_542 : (Jvm.Cond.methodLink "java/lang/StringLatin1" (92 : Nat) ({ cls := "java/lang/Math", name := "max", desc := "(II)I" } : Jvm.MethodName)) ∈ tb := tbm 542 (by decide +kernel) rfl
theorem kw_543 : (Jvm.Cond.methodLink "java/lang/StringLatin1" (38 : Nat) ({ cls := "java/lang/Math", name := "min", desc := "(II)I" } : Jvm.MethodName)) ∈ tb := tbm 543 (by decide +kernel) rfl
theorem kw_544 : (Jvm.Cond.static ({ cls := "java/lang/Math", name := "min", desc := "(II)I" } : Jvm.MethodName)) ∈ tb := tbm 544 (by decide +kernel) rfl
theorem kw_545 : (Jvm.Cond.code ({ cls := "java/lang/Math", name := "min", desc := "(II)I" } : Jvm.MethodName) prog_17_method_69_code (2 : Nat) (Option.some Jvm.ClassFile.FieldType.int)) ∈ tb := tbm 545 (by decide +kernel) rfl
theorem kw_546 : (Jvm.Cond.methodLink "java/lang/StringLatin1" (95 : Nat) ({ cls := "java/lang/StringLatin1", name := "indexOfChar", desc := "([BIII)I" } : Jvm.MethodName)) ∈ tb := tbm 546 (by decide +kernel) rfl
theorem kw_547 : (Jvm.Cond.static ({ cls := "java/lang/StringLatin1", name := "indexOfChar", desc := "([BIII)I" } : Jvm.MethodName)) ∈ tb := tbm 547 (by decide +kernel) rfl
theorem kw_548 : (Jvm.Cond.code ({ cls := "java/lang/StringLatin1", name := "indexOfChar", desc := "([BIII)I" } : Jvm.MethodName) prog_19_method_23_code (6 : Nat) (Option.some Jvm.ClassFile.FieldType.int)) ∈ tb := tbm 548 (by decide +kernel) rfl
theorem kw_549 : (Jvm.Cond.methodLink "java/lang/String" (640 : Nat) ({ cls := "java/lang/StringUTF16", name := "indexOf", desc := "([BIII)I" } : Jvm.MethodName)) ∈ tb := tbm 549 (by decide +kernel) rfl
theorem kw_550 : (Jvm.Cond.static ({ cls := "java/lang/StringUTF16", name := "indexOf", desc := "([BIII)I" } : Jvm.MethodName)) ∈ tb := tbm 550 (by decide +kernel) rfl
theorem kw_551 : (Jvm.Cond.code ({ cls := "java/lang/StringUTF16", name := "indexOf", desc := "([BIII)I" } : Jvm.MethodName) prog_20_method_40_code (4 : Nat) (Option.some Jvm.ClassFile.FieldType.int)) ∈ tb := tbm 551 (by decide +kernel) rfl
theorem kw_552 : (Jvm.Cond.methodLink "java/lang/StringUTF16" (224 : Nat) ({ cls := "java/lang/Math", name := "max", desc := "(II)I" } : Jvm.MethodName)) ∈ tb := tbm 552 (by decide +kernel) rfl
theorem kw_553 : (Jvm.Cond.methodLink "java/lang/StringUTF16" (183 : Nat) ({ cls := "java/lang/Math", name := "min", desc := "(II)I" } : Jvm.MethodName)) ∈ tb := tbm 553 (by decide +kernel) rfl
theorem kw_554 : (Jvm.Cond.constant "java/lang/StringUTF16" (227 : Nat) (65536 : Int32)) ∈ tb := tbm 554 (by decide +kernel) rfl
theorem kw_555 : (Jvm.Cond.methodLink "java/lang/StringUTF16" (228 : Nat) ({ cls := "java/lang/StringUTF16", name := "indexOfChar", desc := "([BIII)I" } : Jvm.MethodName)) ∈ tb := tbm 555 (by decide +kernel) rfl
theorem kw_556 : (Jvm.Cond.static ({ cls := "java/lang/StringUTF16", name := "indexOfChar", desc := "([BIII)I" } : Jvm.MethodName)) ∈ tb := tbm 556 (by decide +kernel) rfl
theorem kw_557 : (Jvm.Cond.code ({ cls := "java/lang/StringUTF16", name := "indexOfChar", desc := "([BIII)I" } : Jvm.MethodName) prog_20_method_47_code (4 : Nat) (Option.some Jvm.ClassFile.FieldType.int)) ∈ tb := tbm 557 (by decide +kernel) rfl
theorem kw_558 : (Jvm.Cond.methodLink "java/lang/StringUTF16" (96 : Nat) ({ cls := "java/lang/StringUTF16", name := "checkBoundsBeginEnd", desc := "(II[B)V" } : Jvm.MethodName)) ∈ tb := tbm 558 (by decide +kernel) rfl
theorem kw_559 : (Jvm.Cond.static ({ cls := "java/lang/StringUTF16", name := "checkBoundsBeginEnd", desc := "(II[B)V" } : Jvm.MethodName)) ∈ tb := tbm 559 (by decide +kernel) rfl
theorem kw_560 : (Jvm.Cond.code ({ cls := "java/lang/StringUTF16", name := "checkBoundsBeginEnd", desc := "(II[B)V" } : Jvm.MethodName) prog_20_method_93_code (3 : Nat) (Option.none : Option Jvm.ClassFile.FieldType)) ∈ tb := tbm 560 (by decide +kernel) rfl
theorem kw_561 : (Jvm.Cond.methodLink "java/lang/StringUTF16" (48 : Nat) ({ cls := "java/lang/StringUTF16", name := "length", desc := "([B)I" } : Jvm.MethodName)) ∈ tb := tbm 561 (by decide +kernel) rfl
theorem kw_562 : (Jvm.Cond.static ({ cls := "java/lang/StringUTF16", name := "length", desc := "([B)I" } : Jvm.MethodName)) ∈ tb := tbm 562 (by decide +kernel) rfl
theorem kw_563 : (Jvm.Cond.code ({ cls := "java/lang/StringUTF16", name := "length", desc := "([B)I" } : Jvm.MethodName) prog_20_method_6_code (1 : Nat) (Option.some Jvm.ClassFile.FieldType.int)) ∈ tb := tbm 563 (by decide +kernel) rfl
theorem kw_564 : (Jvm.Cond.methodLink "java/lang/StringUTF16" (241 : Nat) ({ cls := "java/lang/String", name := "checkBoundsBeginEnd", desc := "(III)V" } : Jvm.MethodName)) ∈ tb := tbm 564 (by decide +kernel) rfl
theorem kw_565 : (Jvm.Cond.static ({ cls := "java/lang/String", name := "checkBoundsBeginEnd", desc := "(III)V" } : Jvm.MethodName)) ∈ tb := tbm 565 (by decide +kernel) rfl
theorem kw_566 : (Jvm.Cond.code ({ cls := "java/lang/String", name := "checkBoundsBeginEnd", desc := "(III)V" } : Jvm.MethodName) prog_18_method_158_code (3 : Nat) (Option.none : Option Jvm.ClassFile.FieldType)) ∈ tb := tbm 566 (by decide +kernel) rfl
theorem kw_567 : (Jvm.Cond.fieldLink "java/lang/String" (1053 : Nat) "jdk/internal/util/Preconditions" "SIOOBE_FORMATTER" "Ljava/util/function/BiFunction;") ∈ tb := tbm 567 (by decide +kernel) rfl
theorem kw_569 : (Jvm.Cond.methodLink "java/lang/String" (1062 : Nat) ({ cls := "jdk/internal/util/Preconditions", name := "checkFromToIndex", desc := "(IIILjava/util/function/BiFunction;)I" } : Jvm.MethodName)) ∈ tb := tbm 569 (by decide +kernel) rfl
theorem kw_570 : (Jvm.Cond.static ({ cls := "jdk/internal/util/Preconditions", name := "checkFromToIndex", desc := "(IIILjava/util/function/BiFunction;)I" } : Jvm.MethodName)) ∈ tb := tbm 570 (by decide +kernel) rfl
theorem kw_571 : (Jvm.Cond.code ({ cls := "jdk/internal/util/Preconditions", name := "checkFromToIndex", desc := "(IIILjava/util/function/BiFunction;)I" } : Jvm.MethodName) prog_23_method_12_code (4 : Nat) (Option.some Jvm.ClassFile.FieldType.int)) ∈ tb := tbm 571 (by decide +kernel) rfl
theorem kw_572 : (Jvm.Cond.methodLink "java/lang/StringUTF16" (244 : Nat) ({ cls := "java/lang/StringUTF16", name := "indexOfCharUnsafe", desc := "([BIII)I" } : Jvm.MethodName)) ∈ tb := tbm 572 (by decide +kernel) rfl
theorem kw_573 : (Jvm.Cond.static ({ cls := "java/lang/StringUTF16", name := "indexOfCharUnsafe", desc := "([BIII)I" } : Jvm.MethodName)) ∈ tb := tbm 573 (by decide +kernel) rfl
theorem kw_574 : (Jvm.Cond.code ({ cls := "java/lang/StringUTF16", name := "indexOfCharUnsafe", desc := "([BIII)I" } : Jvm.MethodName) prog_20_method_48_code (5 : Nat) (Option.some Jvm.ClassFile.FieldType.int)) ∈ tb := tbm 574 (by decide +kernel) rfl
theorem kw_575 : (Jvm.Cond.methodLink "java/lang/StringUTF16" (71 : Nat) ({ cls := "java/lang/StringUTF16", name := "getChar", desc := "([BI)C" } : Jvm.MethodName)) ∈ tb := tbm 575 (by decide +kernel) rfl
theorem kw_576 : (Jvm.Cond.static ({ cls := "java/lang/StringUTF16", name := "getChar", desc := "([BI)C" } : Jvm.MethodName)) ∈ tb := tbm 576 (by decide +kernel) rfl
theorem kw_577 : (Jvm.Cond.code ({ cls := "java/lang/StringUTF16", name := "getChar", desc := "([BI)C" } : Jvm.MethodName) prog_20_method_5_code (2 : Nat) (Option.some Jvm.ClassFile.FieldType.char)) ∈ tb := tbm 577 (by decide +kernel) rfl
theorem kw_578 : (Jvm.Cond.fieldLink "java/lang/StringUTF16" (44 : Nat) "java/lang/StringUTF16" "$assertionsDisabled" "Z") ∈ tb := tbm 578 (by decide +kernel) rfl
theorem kw_580 : (Jvm.Cond.fieldLink "java/lang/StringUTF16" (59 : Nat) "java/lang/StringUTF16" "HI_BYTE_SHIFT" "I") ∈ tb := tbm 580 (by decide +kernel) rfl
theorem kw_582 : (Jvm.Cond.fieldLink "java/lang/StringUTF16" (63 : Nat) "java/lang/StringUTF16" "LO_BYTE_SHIFT" "I") ∈ tb := tbm 582 (by decide +kernel) rfl
theorem kw_584 : (Jvm.Cond.methodLink "java/lang/StringUTF16" (232 : Nat) ({ cls := "java/lang/StringUTF16", name := "indexOfSupplementary", desc := "([BIII)I" } : Jvm.MethodName)) ∈ tb := tbm 584 (by decide +kernel) rfl
theorem kw_585 : (Jvm.Cond.static ({ cls := "java/lang/StringUTF16", name := "indexOfSupplementary", desc := "([BIII)I" } : Jvm.MethodName)) ∈ tb := tbm 585 (by decide +kernel) rfl
theorem kw_586 : (Jvm.Cond.code ({ cls := "java/lang/StringUTF16", name := "indexOfSupplementary", desc := "([BIII)I" } : Jvm.MethodName) prog_20_method_49_code (7 : Nat) (Option.some Jvm.ClassFile.FieldType.int)) ∈ tb := tbm 586 (by decide +kernel) rfl
theorem kw_587 : (Jvm.Cond.methodLink "java/lang/StringUTF16" (164 : Nat) ({ cls := "java/lang/Character", name := "isValidCodePoint", desc := "(I)Z" } : Jvm.MethodName)) ∈ tb := tbm 587 (by decide +kernel) rfl
theorem kw_588 : (Jvm.Cond.static ({ cls := "java/lang/Character", name := "isValidCodePoint", desc := "(I)Z" } : Jvm.MethodName)) ∈ tb := tbm 588 (by decide +kernel) rfl
theorem kw_589 : (Jvm.Cond.code ({ cls := "java/lang/Character", name := "isValidCodePoint", desc := "(I)Z" } : Jvm.MethodName) prog_15_method_11_code (2 : Nat) (Option.some Jvm.ClassFile.FieldType.boolean)) ∈ tb := tbm 589 (by decide +kernel) rfl
theorem kw_590 : (Jvm.Cond.methodLink "java/lang/StringUTF16" (157 : Nat) ({ cls := "java/lang/Character", name := "highSurrogate", desc := "(I)C" } : Jvm.MethodName)) ∈ tb := tbm 590 (by decide +kernel) rfl
theorem kw_591 : (Jvm.Cond.static ({ cls := "java/lang/Character", name := "highSurrogate", desc := "(I)C" } : Jvm.MethodName)) ∈ tb := tbm 591 (by decide +kernel) rfl
theorem kw_592 : (Jvm.Cond.code ({ cls := "java/lang/Character", name := "highSurrogate", desc := "(I)C" } : Jvm.MethodName) prog_15_method_28_code (1 : Nat) (Option.some Jvm.ClassFile.FieldType.char)) ∈ tb := tbm 592 (by decide +kernel) rfl
theorem kw_593 : (Jvm.Cond.constant "java/lang/Character" (110 : Nat) (55232 : Int32)) ∈ tb := tbm 593 (by decide +kernel) rfl
theorem kw_594 : (Jvm.Cond.methodLink "java/lang/StringUTF16" (161 : Nat) ({ cls := "java/lang/Character", name := "lowSurrogate", desc := "(I)C" } : Jvm.MethodName)) ∈ tb := tbm 594 (by decide +kernel) rfl
theorem kw_595 : (Jvm.Cond.static ({ cls := "java/lang/Character", name := "lowSurrogate", desc := "(I)C" } : Jvm.MethodName)) ∈ tb := tbm 595 (by decide +kernel) rfl
theorem kw_596 : (Jvm.Cond.code ({ cls := "java/lang/Character", name := "lowSurrogate", desc := "(I)C" } : Jvm.MethodName) prog_15_method_29_code (1 : Nat) (Option.some Jvm.ClassFile.FieldType.char)) ∈ tb := tbm 596 (by decide +kernel) rfl
theorem kw_597 : (Jvm.Cond.constant "java/lang/Character" (76 : Nat) (56320 : Int32)) ∈ tb := tbm 597 (by decide +kernel) rfl
theorem kw_598 : (Jvm.Cond.methodLink "GreenPath$Text" (86 : Nat) ({ cls := "GreenPath$Text", name := "readClosing", desc := "()Z" } : Jvm.MethodName)) ∈ tb := tbm 598 (by decide +kernel) rfl
theorem kw_599 : (Jvm.Cond.instanceMethod ({ cls := "GreenPath$Text", name := "readClosing", desc := "()Z" } : Jvm.MethodName)) ∈ tb := tbm 599 (by decide +kernel) rfl
theorem kw_600 : (Jvm.Cond.selects "GreenPath$Text" ({ cls := "GreenPath$Text", name := "readClosing", desc := "()Z" } : Jvm.MethodName) ({ cls := "GreenPath$Text", name := "readClosing", desc := "()Z" } : Jvm.MethodName)) ∈ tb := tbm 600 (by decide +kernel) rfl
theorem kw_601 : (Jvm.Cond.code ({ cls := "GreenPath$Text", name := "readClosing", desc := "()Z" } : Jvm.MethodName) prog_10_method_9_code (1 : Nat) (Option.some Jvm.ClassFile.FieldType.boolean)) ∈ tb := tbm 601 (by decide +kernel) rfl
theorem kw_602 : (Jvm.Cond.methodLink "GreenPath$Text" (69 : Nat) ({ cls := "GreenPath$Text", name := "signsOf", desc := "(I)Ljava/lang/String;" } : Jvm.MethodName)) ∈ tb := tbm 602 (by decide +kernel) rfl
theorem kw_603 : (Jvm.Cond.static ({ cls := "GreenPath$Text", name := "signsOf", desc := "(I)Ljava/lang/String;" } : Jvm.MethodName)) ∈ tb := tbm 603 (by decide +kernel) rfl
theorem kw_604 : (Jvm.Cond.code ({ cls := "GreenPath$Text", name := "signsOf", desc := "(I)Ljava/lang/String;" } : Jvm.MethodName) prog_10_method_5_code (1 : Nat) (Option.some (Jvm.ClassFile.FieldType.object "java/lang/String"))) ∈ tb := tbm 604 (by decide +kernel) rfl
theorem kw_610 : (Jvm.Cond.methodLink "GreenPathLaw" (50 : Nat) ({ cls := "GreenPath", name := "gives", desc := "(IIIII)I" } : Jvm.MethodName)) ∈ tb := tbm 610 (by decide +kernel) rfl
theorem kw_611 : (Jvm.Cond.instanceMethod ({ cls := "GreenPath", name := "gives", desc := "(IIIII)I" } : Jvm.MethodName)) ∈ tb := tbm 611 (by decide +kernel) rfl
theorem kw_612 : (Jvm.Cond.selects "GreenPath" ({ cls := "GreenPath", name := "gives", desc := "(IIIII)I" } : Jvm.MethodName) ({ cls := "GreenPath", name := "gives", desc := "(IIIII)I" } : Jvm.MethodName)) ∈ tb := tbm 612 (by decide +kernel) rfl
theorem kw_613 : (Jvm.Cond.code ({ cls := "GreenPath", name := "gives", desc := "(IIIII)I" } : Jvm.MethodName) prog_1_method_10_code (6 : Nat) (Option.some Jvm.ClassFile.FieldType.int)) ∈ tb := tbm 613 (by decide +kernel) rfl
theorem kw_614 : (Jvm.Cond.methodLink "GreenPath" (148 : Nat) ({ cls := "GreenPath$Island", name := "sortGiven", desc := "(III)I" } : Jvm.MethodName)) ∈ tb := tbm 614 (by decide +kernel) rfl
theorem kw_615 : (Jvm.Cond.methodLink "GreenPath" (152 : Nat) ({ cls := "GreenPath$Island", name := "priceGiven", desc := "(IIII)I" } : Jvm.MethodName)) ∈ tb := tbm 615 (by decide +kernel) rfl
theorem kw_616 : (Jvm.Cond.instanceMethod ({ cls := "GreenPath$Island", name := "priceGiven", desc := "(IIII)I" } : Jvm.MethodName)) ∈ tb := tbm 616 (by decide +kernel) rfl
theorem kw_617 : (Jvm.Cond.selects "GreenPath$Island" ({ cls := "GreenPath$Island", name := "priceGiven", desc := "(IIII)I" } : Jvm.MethodName) ({ cls := "GreenPath$Island", name := "priceGiven", desc := "(IIII)I" } : Jvm.MethodName)) ∈ tb := tbm 617 (by decide +kernel) rfl
theorem kw_618 : (Jvm.Cond.code ({ cls := "GreenPath$Island", name := "priceGiven", desc := "(IIII)I" } : Jvm.MethodName) prog_4_method_13_code (6 : Nat) (Option.some Jvm.ClassFile.FieldType.int)) ∈ tb := tbm 618 (by decide +kernel) rfl
theorem kw_619 : (Jvm.Cond.methodLink "GreenPath$Island" (119 : Nat) ({ cls := "java/lang/Math", name := "min", desc := "(II)I" } : Jvm.MethodName)) ∈ tb := tbm 619 (by decide +kernel) rfl
theorem kw_620 : (Jvm.Cond.methodLink "GreenPathLaw" (55 : Nat) ({ cls := "GreenPath", name := "meet", desc := "(I)I" } : Jvm.MethodName)) ∈ tb := tbm 620 (by decide +kernel) rfl
theorem kw_621 : (Jvm.Cond.instanceMethod ({ cls := "GreenPath", name := "meet", desc := "(I)I" } : Jvm.MethodName)) ∈ tb := tbm 621 (by decide +kernel) rfl
theorem kw_622 : (Jvm.Cond.selects "GreenPath" ({ cls := "GreenPath", name := "meet", desc := "(I)I" } : Jvm.MethodName) ({ cls := "GreenPath", name := "meet", desc := "(I)I" } : Jvm.MethodName)) ∈ tb := tbm 622 (by decide +kernel) rfl
theorem kw_623 : (Jvm.Cond.code ({ cls := "GreenPath", name := "meet", desc := "(I)I" } : Jvm.MethodName) prog_1_method_11_code (3 : Nat) (Option.some Jvm.ClassFile.FieldType.int)) ∈ tb := tbm 623 (by decide +kernel) rfl
theorem kw_624 : (Jvm.Cond.constant "GreenPath" (159 : Nat) (-1000000003 : Int32)) ∈ tb := tbm 624 (by decide +kernel) rfl
theorem kw_625 : (Jvm.Cond.methodLink "GreenPath" (160 : Nat) ({ cls := "GreenPath$Island", name := "become", desc := "(II)V" } : Jvm.MethodName)) ∈ tb := tbm 625 (by decide +kernel) rfl
theorem kw_626 : (Jvm.Cond.instanceMethod ({ cls := "GreenPath$Island", name := "become", desc := "(II)V" } : Jvm.MethodName)) ∈ tb := tbm 626 (by decide +kernel) rfl
theorem kw_627 : (Jvm.Cond.selects "GreenPath$Island" ({ cls := "GreenPath$Island", name := "become", desc := "(II)V" } : Jvm.MethodName) ({ cls := "GreenPath$Island", name := "become", desc := "(II)V" } : Jvm.MethodName)) ∈ tb := tbm 627 (by decide +kernel) rfl
theorem kw_628 : (Jvm.Cond.code ({ cls := "GreenPath$Island", name := "become", desc := "(II)V" } : Jvm.MethodName) prog_4_method_8_code (4 : Nat) (Option.none : Option Jvm.ClassFile.FieldType)) ∈ tb := tbm 628 (by decide +kernel) rfl
theorem kw_629 : (Jvm.Cond.methodLink "GreenPath$Island" (113 : Nat) ({ cls := "GreenPath$Island", name := "priceGiven", desc := "(IIII)I" } : Jvm.MethodName)) ∈ tb := tbm 629 (by decide +kernel) rfl
theorem kw_630 : (Jvm.Cond.constant "GreenPath$Island" (117 : Nat) (-99999 : Int32)) ∈ tb := tbm 630 (by decide +kernel) rfl
theorem kw_631 : (Jvm.Cond.constant "GreenPath$Island" (118 : Nat) (99999 : Int32)) ∈ tb := tbm 631 (by decide +kernel) rfl
theorem kw_632 : (Jvm.Cond.methodLink "GreenPathLaw" (59 : Nat) ({ cls := "GreenPath", name := "chance", desc := "(I)I" } : Jvm.MethodName)) ∈ tb := tbm 632 (by decide +kernel) rfl
theorem kw_633 : (Jvm.Cond.instanceMethod ({ cls := "GreenPath", name := "chance", desc := "(I)I" } : Jvm.MethodName)) ∈ tb := tbm 633 (by decide +kernel) rfl
theorem kw_634 : (Jvm.Cond.selects "GreenPath" ({ cls := "GreenPath", name := "chance", desc := "(I)I" } : Jvm.MethodName) ({ cls := "GreenPath", name := "chance", desc := "(I)I" } : Jvm.MethodName)) ∈ tb := tbm 634 (by decide +kernel) rfl
theorem kw_635 : (Jvm.Cond.code ({ cls := "GreenPath", name := "chance", desc := "(I)I" } : Jvm.MethodName) prog_1_method_12_code (3 : Nat) (Option.some Jvm.ClassFile.FieldType.int)) ∈ tb := tbm 635 (by decide +kernel) rfl
theorem kw_636 : (Jvm.Cond.methodLink "GreenPath" (164 : Nat) ({ cls := "GreenPath$Island", name := "meetByChance", desc := "()V" } : Jvm.MethodName)) ∈ tb := tbm 636 (by decide +kernel) rfl
theorem kw_637 : (Jvm.Cond.instanceMethod ({ cls := "GreenPath$Island", name := "meetByChance", desc := "()V" } : Jvm.MethodName)) ∈ tb := tbm 637 (by decide +kernel) rfl
theorem kw_638 : (Jvm.Cond.selects "GreenPath$Island" ({ cls := "GreenPath$Island", name := "meetByChance", desc := "()V" } : Jvm.MethodName) ({ cls := "GreenPath$Island", name := "meetByChance", desc := "()V" } : Jvm.MethodName)) ∈ tb := tbm 638 (by decide +kernel) rfl
theorem kw_639 : (Jvm.Cond.code ({ cls := "GreenPath$Island", name := "meetByChance", desc := "()V" } : Jvm.MethodName) prog_4_method_9_code (8 : Nat) (Option.none : Option Jvm.ClassFile.FieldType)) ∈ tb := tbm 639 (by decide +kernel) rfl
theorem kw_640 : (Jvm.Cond.methodLink "GreenPath$Island" (127 : Nat) ({ cls := "GreenPath$Island", name := "draw", desc := "()I" } : Jvm.MethodName)) ∈ tb := tbm 640 (by decide +kernel) rfl
theorem kw_641 : (Jvm.Cond.instanceMethod ({ cls := "GreenPath$Island", name := "draw", desc := "()I" } : Jvm.MethodName)) ∈ tb := tbm 641 (by decide +kernel) rfl
theorem kw_642 : (Jvm.Cond.selects "GreenPath$Island" ({ cls := "GreenPath$Island", name := "draw", desc := "()I" } : Jvm.MethodName) ({ cls := "GreenPath$Island", name := "draw", desc := "()I" } : Jvm.MethodName)) ∈ tb := tbm 642 (by decide +kernel) rfl
theorem kw_643 : (Jvm.Cond.code ({ cls := "GreenPath$Island", name := "draw", desc := "()I" } : Jvm.MethodName) prog_4_method_10_code (1 : Nat) (Option.some Jvm.ClassFile.FieldType.int)) ∈ tb := tbm 643 (by decide +kernel) rfl
theorem kw_644 : (Jvm.Cond.constant "GreenPath$Island" (138 : Nat) (1103515245 : Int32)) ∈ tb := tbm 644 (by decide +kernel) rfl
theorem kw_645 : (Jvm.Cond.methodLink "GreenPath$Island" (131 : Nat) ({ cls := "GreenPath$Island", name := "sortAt", desc := "(II)I" } : Jvm.MethodName)) ∈ tb := tbm 645 (by decide +kernel) rfl
theorem kw_646 : (Jvm.Cond.static ({ cls := "GreenPath$Island", name := "sortAt", desc := "(II)I" } : Jvm.MethodName)) ∈ tb := tbm 646 (by decide +kernel) rfl
theorem kw_647 : (Jvm.Cond.code ({ cls := "GreenPath$Island", name := "sortAt", desc := "(II)I" } : Jvm.MethodName) prog_4_method_11_code (3 : Nat) (Option.some Jvm.ClassFile.FieldType.int)) ∈ tb := tbm 647 (by decide +kernel) rfl
theorem kw_648 : (Jvm.Cond.methodLink "GreenPath$Island" (107 : Nat) ({ cls := "GreenPath$Island", name := "next", desc := "(II)I" } : Jvm.MethodName)) ∈ tb := tbm 648 (by decide +kernel) rfl
theorem kw_649 : (Jvm.Cond.methodLink "GreenPath$Island" (134 : Nat) ({ cls := "GreenPath$Island", name := "become", desc := "(II)V" } : Jvm.MethodName)) ∈ tb := tbm 649 (by decide +kernel) rfl
theorem kw_650 : (Jvm.Cond.methodLink "GreenPathLaw" (63 : Nat) ({ cls := "GreenPath", name := "reach", desc := "(I)I" } : Jvm.MethodName)) ∈ tb := tbm 650 (by decide +kernel) rfl
theorem kw_651 : (Jvm.Cond.instanceMethod ({ cls := "GreenPath", name := "reach", desc := "(I)I" } : Jvm.MethodName)) ∈ tb := tbm 651 (by decide +kernel) rfl
theorem kw_652 : (Jvm.Cond.selects "GreenPath" ({ cls := "GreenPath", name := "reach", desc := "(I)I" } : Jvm.MethodName) ({ cls := "GreenPath", name := "reach", desc := "(I)I" } : Jvm.MethodName)) ∈ tb := tbm 652 (by decide +kernel) rfl
theorem kw_653 : (Jvm.Cond.code ({ cls := "GreenPath", name := "reach", desc := "(I)I" } : Jvm.MethodName) prog_1_method_13_code (2 : Nat) (Option.some Jvm.ClassFile.FieldType.int)) ∈ tb := tbm 653 (by decide +kernel) rfl
theorem kw_654 : (Jvm.Cond.methodLink "GreenPath" (167 : Nat) ({ cls := "GreenPath", name := "isState", desc := "(I)Z" } : Jvm.MethodName)) ∈ tb := tbm 654 (by decide +kernel) rfl
theorem kw_655 : (Jvm.Cond.methodLink "GreenPath" (170 : Nat) ({ cls := "GreenPath$Search", name := "explore", desc := "()V" } : Jvm.MethodName)) ∈ tb := tbm 655 (by decide +kernel) rfl
theorem kw_656 : (Jvm.Cond.instanceMethod ({ cls := "GreenPath$Search", name := "explore", desc := "()V" } : Jvm.MethodName)) ∈ tb := tbm 656 (by decide +kernel) rfl
theorem kw_657 : (Jvm.Cond.selects "GreenPath$Search" ({ cls := "GreenPath$Search", name := "explore", desc := "()V" } : Jvm.MethodName) ({ cls := "GreenPath$Search", name := "explore", desc := "()V" } : Jvm.MethodName)) ∈ tb := tbm 657 (by decide +kernel) rfl
theorem kw_658 : (Jvm.Cond.code ({ cls := "GreenPath$Search", name := "explore", desc := "()V" } : Jvm.MethodName) prog_8_method_5_code (5 : Nat) (Option.none : Option Jvm.ClassFile.FieldType)) ∈ tb := tbm 658 (by decide +kernel) rfl
theorem kw_659 : (Jvm.Cond.methodLink "GreenPath$Search" (70 : Nat) ({ cls := "GreenPath$Search", name := "placeOf", desc := "(I)I" } : Jvm.MethodName)) ∈ tb := tbm 659 (by decide +kernel) rfl
theorem kw_660 : (Jvm.Cond.static ({ cls := "GreenPath$Search", name := "placeOf", desc := "(I)I" } : Jvm.MethodName)) ∈ tb := tbm 660 (by decide +kernel) rfl
theorem kw_661 : (Jvm.Cond.code ({ cls := "GreenPath$Search", name := "placeOf", desc := "(I)I" } : Jvm.MethodName) prog_8_method_3_code (3 : Nat) (Option.some Jvm.ClassFile.FieldType.int)) ∈ tb := tbm 661 (by decide +kernel) rfl
theorem kw_663 : (Jvm.Cond.fieldLink "GreenPath$Search" (64 : Nat) "GreenPath$Search" "AHEAD" "[I") ∈ tb := tbm 663 (by decide +kernel) rfl
theorem kw_665 : (Jvm.Cond.methodLink "GreenPath$Search" (81 : Nat) ({ cls := "GreenPath$Search", name := "find", desc := "(III)V" } : Jvm.MethodName)) ∈ tb := tbm 665 (by decide +kernel) rfl
theorem kw_666 : (Jvm.Cond.instanceMethod ({ cls := "GreenPath$Search", name := "find", desc := "(III)V" } : Jvm.MethodName)) ∈ tb := tbm 666 (by decide +kernel) rfl
theorem kw_667 : (Jvm.Cond.selects "GreenPath$Search" ({ cls := "GreenPath$Search", name := "find", desc := "(III)V" } : Jvm.MethodName) ({ cls := "GreenPath$Search", name := "find", desc := "(III)V" } : Jvm.MethodName)) ∈ tb := tbm 667 (by decide +kernel) rfl
theorem kw_668 : (Jvm.Cond.code ({ cls := "GreenPath$Search", name := "find", desc := "(III)V" } : Jvm.MethodName) prog_8_method_6_code (4 : Nat) (Option.none : Option Jvm.ClassFile.FieldType)) ∈ tb := tbm 668 (by decide +kernel) rfl
theorem kw_669 : (Jvm.Cond.methodLink "GreenPath$Search" (85 : Nat) ({ cls := "GreenPath$Search", name := "lead", desc := "(II)I" } : Jvm.MethodName)) ∈ tb := tbm 669 (by decide +kernel) rfl
theorem kw_670 : (Jvm.Cond.instanceMethod ({ cls := "GreenPath$Search", name := "lead", desc := "(II)I" } : Jvm.MethodName)) ∈ tb := tbm 670 (by decide +kernel) rfl
theorem kw_671 : (Jvm.Cond.selects "GreenPath$Search" ({ cls := "GreenPath$Search", name := "lead", desc := "(II)I" } : Jvm.MethodName) ({ cls := "GreenPath$Search", name := "lead", desc := "(II)I" } : Jvm.MethodName)) ∈ tb := tbm 671 (by decide +kernel) rfl
theorem kw_672 : (Jvm.Cond.code ({ cls := "GreenPath$Search", name := "lead", desc := "(II)I" } : Jvm.MethodName) prog_8_method_4_code (5 : Nat) (Option.some Jvm.ClassFile.FieldType.int)) ∈ tb := tbm 672 (by decide +kernel) rfl
theorem kw_673 : (Jvm.Cond.methodLink "GreenPath$Search" (67 : Nat) ({ cls := "GreenPath$Island", name := "next", desc := "(II)I" } : Jvm.MethodName)) ∈ tb := tbm 673 (by decide +kernel) rfl
theorem kw_674 : (Jvm.Cond.methodLink "GreenPath" (173 : Nat) ({ cls := "GreenPath$Search", name := "distanceOf", desc := "(I)I" } : Jvm.MethodName)) ∈ tb := tbm 674 (by decide +kernel) rfl
theorem kw_675 : (Jvm.Cond.instanceMethod ({ cls := "GreenPath$Search", name := "distanceOf", desc := "(I)I" } : Jvm.MethodName)) ∈ tb := tbm 675 (by decide +kernel) rfl
theorem kw_676 : (Jvm.Cond.selects "GreenPath$Search" ({ cls := "GreenPath$Search", name := "distanceOf", desc := "(I)I" } : Jvm.MethodName) ({ cls := "GreenPath$Search", name := "distanceOf", desc := "(I)I" } : Jvm.MethodName)) ∈ tb := tbm 676 (by decide +kernel) rfl
theorem kw_677 : (Jvm.Cond.code ({ cls := "GreenPath$Search", name := "distanceOf", desc := "(I)I" } : Jvm.MethodName) prog_8_method_7_code (2 : Nat) (Option.some Jvm.ClassFile.FieldType.int)) ∈ tb := tbm 677 (by decide +kernel) rfl
theorem kw_678 : (Jvm.Cond.methodLink "GreenPath" (176 : Nat) ({ cls := "GreenPath", name := "orNone", desc := "(I)I" } : Jvm.MethodName)) ∈ tb := tbm 678 (by decide +kernel) rfl
theorem kw_680 : (Jvm.Cond.instanceMethod ({ cls := "GreenPath", name := "orNone", desc := "(I)I" } : Jvm.MethodName)) ∈ tb := tbm 680 (by decide +kernel) rfl
theorem kw_681 : (Jvm.Cond.code ({ cls := "GreenPath", name := "orNone", desc := "(I)I" } : Jvm.MethodName) prog_1_method_38_code (2 : Nat) (Option.some Jvm.ClassFile.FieldType.int)) ∈ tb := tbm 681 (by decide +kernel) rfl
theorem kw_682 : (Jvm.Cond.constant "GreenPath" (185 : Nat) (-1000000002 : Int32)) ∈ tb := tbm 682 (by decide +kernel) rfl
theorem kw_683 : (Jvm.Cond.methodLink "GreenPathLaw" (67 : Nat) ({ cls := "GreenPath", name := "way", desc := "(II)I" } : Jvm.MethodName)) ∈ tb := tbm 683 (by decide +kernel) rfl
theorem kw_684 : (Jvm.Cond.instanceMethod ({ cls := "GreenPath", name := "way", desc := "(II)I" } : Jvm.MethodName)) ∈ tb := tbm 684 (by decide +kernel) rfl
theorem kw_685 : (Jvm.Cond.selects "GreenPath" ({ cls := "GreenPath", name := "way", desc := "(II)I" } : Jvm.MethodName) ({ cls := "GreenPath", name := "way", desc := "(II)I" } : Jvm.MethodName)) ∈ tb := tbm 685 (by decide +kernel) rfl
theorem kw_686 : (Jvm.Cond.code ({ cls := "GreenPath", name := "way", desc := "(II)I" } : Jvm.MethodName) prog_1_method_14_code (3 : Nat) (Option.some Jvm.ClassFile.FieldType.int)) ∈ tb := tbm 686 (by decide +kernel) rfl
theorem kw_687 : (Jvm.Cond.methodLink "GreenPath" (179 : Nat) ({ cls := "GreenPath$Search", name := "pairOnWay", desc := "(II)I" } : Jvm.MethodName)) ∈ tb := tbm 687 (by decide +kernel) rfl
theorem kw_688 : (Jvm.Cond.instanceMethod ({ cls := "GreenPath$Search", name := "pairOnWay", desc := "(II)I" } : Jvm.MethodName)) ∈ tb := tbm 688 (by decide +kernel) rfl
theorem kw_689 : (Jvm.Cond.selects "GreenPath$Search" ({ cls := "GreenPath$Search", name := "pairOnWay", desc := "(II)I" } : Jvm.MethodName) ({ cls := "GreenPath$Search", name := "pairOnWay", desc := "(II)I" } : Jvm.MethodName)) ∈ tb := tbm 689 (by decide +kernel) rfl
theorem kw_690 : (Jvm.Cond.code ({ cls := "GreenPath$Search", name := "pairOnWay", desc := "(II)I" } : Jvm.MethodName) prog_8_method_8_code (6 : Nat) (Option.some Jvm.ClassFile.FieldType.int)) ∈ tb := tbm 690 (by decide +kernel) rfl
theorem kw_691 : (Jvm.Cond.methodLink "GreenPathLaw" (71 : Nat) ({ cls := "GreenPath", name := "can", desc := "(II)I" } : Jvm.MethodName)) ∈ tb := tbm 691 (by decide +kernel) rfl
theorem kw_692 : (Jvm.Cond.instanceMethod ({ cls := "GreenPath", name := "can", desc := "(II)I" } : Jvm.MethodName)) ∈ tb := tbm 692 (by decide +kernel) rfl
theorem kw_693 : (Jvm.Cond.selects "GreenPath" ({ cls := "GreenPath", name := "can", desc := "(II)I" } : Jvm.MethodName) ({ cls := "GreenPath", name := "can", desc := "(II)I" } : Jvm.MethodName)) ∈ tb := tbm 693 (by decide +kernel) rfl
theorem kw_694 : (Jvm.Cond.code ({ cls := "GreenPath", name := "can", desc := "(II)I" } : Jvm.MethodName) prog_1_method_15_code (4 : Nat) (Option.some Jvm.ClassFile.FieldType.int)) ∈ tb := tbm 694 (by decide +kernel) rfl
theorem kw_695 : (Jvm.Cond.methodLink "GreenPath" (182 : Nat) ({ cls := "GreenPath$Search", name := "nearestEnd", desc := "(I)I" } : Jvm.MethodName)) ∈ tb := tbm 695 (by decide +kernel) rfl
theorem kw_696 : (Jvm.Cond.instanceMethod ({ cls := "GreenPath$Search", name := "nearestEnd", desc := "(I)I" } : Jvm.MethodName)) ∈ tb := tbm 696 (by decide +kernel) rfl
theorem kw_697 : (Jvm.Cond.selects "GreenPath$Search" ({ cls := "GreenPath$Search", name := "nearestEnd", desc := "(I)I" } : Jvm.MethodName) ({ cls := "GreenPath$Search", name := "nearestEnd", desc := "(I)I" } : Jvm.MethodName)) ∈ tb := tbm 697 (by decide +kernel) rfl
theorem kw_698 : (Jvm.Cond.code ({ cls := "GreenPath$Search", name := "nearestEnd", desc := "(I)I" } : Jvm.MethodName) prog_8_method_9_code (6 : Nat) (Option.some Jvm.ClassFile.FieldType.int)) ∈ tb := tbm 698 (by decide +kernel) rfl
theorem kw_699 : (Jvm.Cond.methodLink "GreenPath$Search" (88 : Nat) ({ cls := "GreenPath$Search", name := "distanceOf", desc := "(I)I" } : Jvm.MethodName)) ∈ tb := tbm 699 (by decide +kernel) rfl
theorem kw_700 : (Jvm.Cond.methodLink "GreenPathLaw" (75 : Nat) ({ cls := "GreenPath", name := "reached", desc := "()I" } : Jvm.MethodName)) ∈ tb := tbm 700 (by decide +kernel) rfl
theorem kw_701 : (Jvm.Cond.instanceMethod ({ cls := "GreenPath", name := "reached", desc := "()I" } : Jvm.MethodName)) ∈ tb := tbm 701 (by decide +kernel) rfl
theorem kw_702 : (Jvm.Cond.selects "GreenPath" ({ cls := "GreenPath", name := "reached", desc := "()I" } : Jvm.MethodName) ({ cls := "GreenPath", name := "reached", desc := "()I" } : Jvm.MethodName)) ∈ tb := tbm 702 (by decide +kernel) rfl
theorem kw_703 : (Jvm.Cond.code ({ cls := "GreenPath", name := "reached", desc := "()I" } : Jvm.MethodName) prog_1_method_16_code (1 : Nat) (Option.some Jvm.ClassFile.FieldType.int)) ∈ tb := tbm 703 (by decide +kernel) rfl
theorem kw_704 : (Jvm.Cond.methodLink "GreenPathLaw" (80 : Nat) ({ cls := "GreenPath", name := "stays", desc := "(II)I" } : Jvm.MethodName)) ∈ tb := tbm 704 (by decide +kernel) rfl
theorem kw_705 : (Jvm.Cond.instanceMethod ({ cls := "GreenPath", name := "stays", desc := "(II)I" } : Jvm.MethodName)) ∈ tb := tbm 705 (by decide +kernel) rfl
theorem kw_706 : (Jvm.Cond.selects "GreenPath" ({ cls := "GreenPath", name := "stays", desc := "(II)I" } : Jvm.MethodName) ({ cls := "GreenPath", name := "stays", desc := "(II)I" } : Jvm.MethodName)) ∈ tb := tbm 706 (by decide +kernel) rfl
theorem kw_707 : (Jvm.Cond.code ({ cls := "GreenPath", name := "stays", desc := "(II)I" } : Jvm.MethodName) prog_1_method_17_code (5 : Nat) (Option.some Jvm.ClassFile.FieldType.int)) ∈ tb := tbm 707 (by decide +kernel) rfl
theorem kw_708 : (Jvm.Cond.methodLink "GreenPath" (189 : Nat) ({ cls := "GreenPath", name := "isRest", desc := "(I)Z" } : Jvm.MethodName)) ∈ tb := tbm 708 (by decide +kernel) rfl
theorem kw_709 : (Jvm.Cond.static ({ cls := "GreenPath", name := "isRest", desc := "(I)Z" } : Jvm.MethodName)) ∈ tb := tbm 709 (by decide +kernel) rfl
theorem kw_710 : (Jvm.Cond.code ({ cls := "GreenPath", name := "isRest", desc := "(I)Z" } : Jvm.MethodName) prog_1_method_44_code (1 : Nat) (Option.some Jvm.ClassFile.FieldType.boolean)) ∈ tb := tbm 710 (by decide +kernel) rfl
theorem kw_711 : (Jvm.Cond.methodLink "GreenPath" (192 : Nat) ({ cls := "GreenPath$Island", name := "keepsRest", desc := "(II)Z" } : Jvm.MethodName)) ∈ tb := tbm 711 (by decide +kernel) rfl
theorem kw_712 : (Jvm.Cond.instanceMethod ({ cls := "GreenPath$Island", name := "keepsRest", desc := "(II)Z" } : Jvm.MethodName)) ∈ tb := tbm 712 (by decide +kernel) rfl
theorem kw_713 : (Jvm.Cond.selects "GreenPath$Island" ({ cls := "GreenPath$Island", name := "keepsRest", desc := "(II)Z" } : Jvm.MethodName) ({ cls := "GreenPath$Island", name := "keepsRest", desc := "(II)Z" } : Jvm.MethodName)) ∈ tb := tbm 713 (by decide +kernel) rfl
theorem kw_714 : (Jvm.Cond.code ({ cls := "GreenPath$Island", name := "keepsRest", desc := "(II)Z" } : Jvm.MethodName) prog_4_method_14_code (6 : Nat) (Option.some Jvm.ClassFile.FieldType.boolean)) ∈ tb := tbm 714 (by decide +kernel) rfl
theorem kw_715 : (Jvm.Cond.methodLink "GreenPathLaw" (84 : Nat) ({ cls := "GreenPath", name := "bars", desc := "(II)I" } : Jvm.MethodName)) ∈ tb := tbm 715 (by decide +kernel) rfl
theorem kw_716 : (Jvm.Cond.instanceMethod ({ cls := "GreenPath", name := "bars", desc := "(II)I" } : Jvm.MethodName)) ∈ tb := tbm 716 (by decide +kernel) rfl
theorem kw_717 : (Jvm.Cond.selects "GreenPath" ({ cls := "GreenPath", name := "bars", desc := "(II)I" } : Jvm.MethodName) ({ cls := "GreenPath", name := "bars", desc := "(II)I" } : Jvm.MethodName)) ∈ tb := tbm 717 (by decide +kernel) rfl
theorem kw_718 : (Jvm.Cond.code ({ cls := "GreenPath", name := "bars", desc := "(II)I" } : Jvm.MethodName) prog_1_method_18_code (6 : Nat) (Option.some Jvm.ClassFile.FieldType.int)) ∈ tb := tbm 718 (by decide +kernel) rfl
theorem kw_719 : (Jvm.Cond.methodLink "GreenPath" (196 : Nat) ({ cls := "GreenPath", name := "restOf", desc := "(III)I" } : Jvm.MethodName)) ∈ tb := tbm 719 (by decide +kernel) rfl
theorem kw_720 : (Jvm.Cond.static ({ cls := "GreenPath", name := "restOf", desc := "(III)I" } : Jvm.MethodName)) ∈ tb := tbm 720 (by decide +kernel) rfl
theorem kw_721 : (Jvm.Cond.code ({ cls := "GreenPath", name := "restOf", desc := "(III)I" } : Jvm.MethodName) prog_1_method_49_code (3 : Nat) (Option.some Jvm.ClassFile.FieldType.int)) ∈ tb := tbm 721 (by decide +kernel) rfl
theorem kw_722 : (Jvm.Cond.methodLink "GreenPathLaw" (88 : Nat) ({ cls := "GreenPath", name := "ways", desc := "(II)J" } : Jvm.MethodName)) ∈ tb := tbm 722 (by decide +kernel) rfl
theorem kw_723 : (Jvm.Cond.instanceMethod ({ cls := "GreenPath", name := "ways", desc := "(II)J" } : Jvm.MethodName)) ∈ tb := tbm 723 (by decide +kernel) rfl
theorem kw_724 : (Jvm.Cond.selects "GreenPath" ({ cls := "GreenPath", name := "ways", desc := "(II)J" } : Jvm.MethodName) ({ cls := "GreenPath", name := "ways", desc := "(II)J" } : Jvm.MethodName)) ∈ tb := tbm 724 (by decide +kernel) rfl
theorem kw_725 : (Jvm.Cond.code ({ cls := "GreenPath", name := "ways", desc := "(II)J" } : Jvm.MethodName) prog_1_method_19_code (3 : Nat) (Option.some Jvm.ClassFile.FieldType.long)) ∈ tb := tbm 725 (by decide +kernel) rfl
theorem kw_726 : (Jvm.Cond.methodLink "GreenPath" (199 : Nat) ({ cls := "GreenPath$Search", name := "countWays", desc := "(I)V" } : Jvm.MethodName)) ∈ tb := tbm 726 (by decide +kernel) rfl
theorem kw_727 : (Jvm.Cond.instanceMethod ({ cls := "GreenPath$Search", name := "countWays", desc := "(I)V" } : Jvm.MethodName)) ∈ tb := tbm 727 (by decide +kernel) rfl
theorem kw_728 : (Jvm.Cond.selects "GreenPath$Search" ({ cls := "GreenPath$Search", name := "countWays", desc := "(I)V" } : Jvm.MethodName) ({ cls := "GreenPath$Search", name := "countWays", desc := "(I)V" } : Jvm.MethodName)) ∈ tb := tbm 728 (by decide +kernel) rfl
theorem kw_729 : (Jvm.Cond.code ({ cls := "GreenPath$Search", name := "countWays", desc := "(I)V" } : Jvm.MethodName) prog_8_method_10_code (4 : Nat) (Option.none : Option Jvm.ClassFile.FieldType)) ∈ tb := tbm 729 (by decide +kernel) rfl
theorem kw_730 : (Jvm.Cond.methodLink "GreenPath$Search" (91 : Nat) ({ cls := "java/util/Arrays", name := "fill", desc := "([JJ)V" } : Jvm.MethodName)) ∈ tb := tbm 730 (by decide +kernel) rfl
theorem kw_731 : (Jvm.Cond.static ({ cls := "java/util/Arrays", name := "fill", desc := "([JJ)V" } : Jvm.MethodName)) ∈ tb := tbm 731 (by decide +kernel) rfl
theorem kw_732 : (Jvm.Cond.code ({ cls := "java/util/Arrays", name := "fill", desc := "([JJ)V" } : Jvm.MethodName) prog_22_method_101_code (5 : Nat) (Option.none : Option Jvm.ClassFile.FieldType)) ∈ tb := tbm 732 (by decide +kernel) rfl
theorem kw_733 : (Jvm.Cond.methodLink "GreenPath$Search" (94 : Nat) ({ cls := "GreenPath$Search", name := "passOn", desc := "(I)V" } : Jvm.MethodName)) ∈ tb := tbm 733 (by decide +kernel) rfl
theorem kw_734 : (Jvm.Cond.instanceMethod ({ cls := "GreenPath$Search", name := "passOn", desc := "(I)V" } : Jvm.MethodName)) ∈ tb := tbm 734 (by decide +kernel) rfl
theorem kw_735 : (Jvm.Cond.selects "GreenPath$Search" ({ cls := "GreenPath$Search", name := "passOn", desc := "(I)V" } : Jvm.MethodName) ({ cls := "GreenPath$Search", name := "passOn", desc := "(I)V" } : Jvm.MethodName)) ∈ tb := tbm 735 (by decide +kernel) rfl
theorem kw_736 : (Jvm.Cond.code ({ cls := "GreenPath$Search", name := "passOn", desc := "(I)V" } : Jvm.MethodName) prog_8_method_11_code (4 : Nat) (Option.none : Option Jvm.ClassFile.FieldType)) ∈ tb := tbm 736 (by decide +kernel) rfl
theorem kw_737 : (Jvm.Cond.methodLink "GreenPath$Search" (98 : Nat) ({ cls := "GreenPath$Search", name := "couples", desc := "(II)I" } : Jvm.MethodName)) ∈ tb := tbm 737 (by decide +kernel) rfl
theorem kw_738 : (Jvm.Cond.static ({ cls := "GreenPath$Search", name := "couples", desc := "(II)I" } : Jvm.MethodName)) ∈ tb := tbm 738 (by decide +kernel) rfl
theorem kw_739 : (Jvm.Cond.code ({ cls := "GreenPath$Search", name := "couples", desc := "(II)I" } : Jvm.MethodName) prog_8_method_12_code (4 : Nat) (Option.some Jvm.ClassFile.FieldType.int)) ∈ tb := tbm 739 (by decide +kernel) rfl
theorem kw_742 : (Jvm.Cond.methodLink "GreenPath" (202 : Nat) ({ cls := "GreenPath$Search", name := "waysTo", desc := "(I)J" } : Jvm.MethodName)) ∈ tb := tbm 742 (by decide +kernel) rfl
theorem kw_743 : (Jvm.Cond.instanceMethod ({ cls := "GreenPath$Search", name := "waysTo", desc := "(I)J" } : Jvm.MethodName)) ∈ tb := tbm 743 (by decide +kernel) rfl
theorem kw_744 : (Jvm.Cond.selects "GreenPath$Search" ({ cls := "GreenPath$Search", name := "waysTo", desc := "(I)J" } : Jvm.MethodName) ({ cls := "GreenPath$Search", name := "waysTo", desc := "(I)J" } : Jvm.MethodName)) ∈ tb := tbm 744 (by decide +kernel) rfl
theorem kw_745 : (Jvm.Cond.code ({ cls := "GreenPath$Search", name := "waysTo", desc := "(I)J" } : Jvm.MethodName) prog_8_method_13_code (2 : Nat) (Option.some Jvm.ClassFile.FieldType.long)) ∈ tb := tbm 745 (by decide +kernel) rfl
theorem kw_746 : (Jvm.Cond.methodLink "GreenPathLaw" (93 : Nat) ({ cls := "GreenPath", name := "allWays", desc := "(I)J" } : Jvm.MethodName)) ∈ tb := tbm 746 (by decide +kernel) rfl
theorem kw_747 : (Jvm.Cond.instanceMethod ({ cls := "GreenPath", name := "allWays", desc := "(I)J" } : Jvm.MethodName)) ∈ tb := tbm 747 (by decide +kernel) rfl
theorem kw_748 : (Jvm.Cond.selects "GreenPath" ({ cls := "GreenPath", name := "allWays", desc := "(I)J" } : Jvm.MethodName) ({ cls := "GreenPath", name := "allWays", desc := "(I)J" } : Jvm.MethodName)) ∈ tb := tbm 748 (by decide +kernel) rfl
theorem kw_749 : (Jvm.Cond.code ({ cls := "GreenPath", name := "allWays", desc := "(I)J" } : Jvm.MethodName) prog_1_method_20_code (2 : Nat) (Option.some Jvm.ClassFile.FieldType.long)) ∈ tb := tbm 749 (by decide +kernel) rfl
theorem kw_750 : (Jvm.Cond.methodLink "GreenPath" (206 : Nat) ({ cls := "GreenPath$Search", name := "waysInAll", desc := "()J" } : Jvm.MethodName)) ∈ tb := tbm 750 (by decide +kernel) rfl
theorem kw_751 : (Jvm.Cond.instanceMethod ({ cls := "GreenPath$Search", name := "waysInAll", desc := "()J" } : Jvm.MethodName)) ∈ tb := tbm 751 (by decide +kernel) rfl
theorem kw_752 : (Jvm.Cond.selects "GreenPath$Search" ({ cls := "GreenPath$Search", name := "waysInAll", desc := "()J" } : Jvm.MethodName) ({ cls := "GreenPath$Search", name := "waysInAll", desc := "()J" } : Jvm.MethodName)) ∈ tb := tbm 752 (by decide +kernel) rfl
theorem kw_753 : (Jvm.Cond.code ({ cls := "GreenPath$Search", name := "waysInAll", desc := "()J" } : Jvm.MethodName) prog_8_method_14_code (4 : Nat) (Option.some Jvm.ClassFile.FieldType.long)) ∈ tb := tbm 753 (by decide +kernel) rfl
theorem kw_754 : (Jvm.Cond.methodLink "GreenPathLaw" (98 : Nat) ({ cls := "GreenPath", name := "fences", desc := "(II)I" } : Jvm.MethodName)) ∈ tb := tbm 754 (by decide +kernel) rfl
theorem kw_755 : (Jvm.Cond.instanceMethod ({ cls := "GreenPath", name := "fences", desc := "(II)I" } : Jvm.MethodName)) ∈ tb := tbm 755 (by decide +kernel) rfl
theorem kw_756 : (Jvm.Cond.selects "GreenPath" ({ cls := "GreenPath", name := "fences", desc := "(II)I" } : Jvm.MethodName) ({ cls := "GreenPath", name := "fences", desc := "(II)I" } : Jvm.MethodName)) ∈ tb := tbm 756 (by decide +kernel) rfl
theorem kw_757 : (Jvm.Cond.code ({ cls := "GreenPath", name := "fences", desc := "(II)I" } : Jvm.MethodName) prog_1_method_21_code (4 : Nat) (Option.some Jvm.ClassFile.FieldType.int)) ∈ tb := tbm 757 (by decide +kernel) rfl
theorem kw_758 : (Jvm.Cond.methodLink "GreenPath" (210 : Nat) ({ cls := "GreenPath", name := "isEnd", desc := "(II)Z" } : Jvm.MethodName)) ∈ tb := tbm 758 (by decide +kernel) rfl
theorem kw_759 : (Jvm.Cond.static ({ cls := "GreenPath", name := "isEnd", desc := "(II)Z" } : Jvm.MethodName)) ∈ tb := tbm 759 (by decide +kernel) rfl
theorem kw_760 : (Jvm.Cond.code ({ cls := "GreenPath", name := "isEnd", desc := "(II)Z" } : Jvm.MethodName) prog_1_method_46_code (2 : Nat) (Option.some Jvm.ClassFile.FieldType.boolean)) ∈ tb := tbm 760 (by decide +kernel) rfl
theorem kw_761 : (Jvm.Cond.methodLink "GreenPath" (213 : Nat) ({ cls := "GreenPath$Search", name := "leastFences", desc := "(I)I" } : Jvm.MethodName)) ∈ tb := tbm 761 (by decide +kernel) rfl
theorem kw_762 : (Jvm.Cond.instanceMethod ({ cls := "GreenPath$Search", name := "leastFences", desc := "(I)I" } : Jvm.MethodName)) ∈ tb := tbm 762 (by decide +kernel) rfl
theorem kw_763 : (Jvm.Cond.selects "GreenPath$Search" ({ cls := "GreenPath$Search", name := "leastFences", desc := "(I)I" } : Jvm.MethodName) ({ cls := "GreenPath$Search", name := "leastFences", desc := "(I)I" } : Jvm.MethodName)) ∈ tb := tbm 763 (by decide +kernel) rfl
theorem kw_764 : (Jvm.Cond.code ({ cls := "GreenPath$Search", name := "leastFences", desc := "(I)I" } : Jvm.MethodName) prog_8_method_15_code (8 : Nat) (Option.some Jvm.ClassFile.FieldType.int)) ∈ tb := tbm 764 (by decide +kernel) rfl
theorem kw_765 : (Jvm.Cond.methodLink "GreenPath$Search" (107 : Nat) ({ cls := "GreenPath$Search", name := "setsThatLetThrough", desc := "(I)J" } : Jvm.MethodName)) ∈ tb := tbm 765 (by decide +kernel) rfl
theorem kw_766 : (Jvm.Cond.instanceMethod ({ cls := "GreenPath$Search", name := "setsThatLetThrough", desc := "(I)J" } : Jvm.MethodName)) ∈ tb := tbm 766 (by decide +kernel) rfl
theorem kw_767 : (Jvm.Cond.selects "GreenPath$Search" ({ cls := "GreenPath$Search", name := "setsThatLetThrough", desc := "(I)J" } : Jvm.MethodName) ({ cls := "GreenPath$Search", name := "setsThatLetThrough", desc := "(I)J" } : Jvm.MethodName)) ∈ tb := tbm 767 (by decide +kernel) rfl
theorem kw_768 : (Jvm.Cond.code ({ cls := "GreenPath$Search", name := "setsThatLetThrough", desc := "(I)J" } : Jvm.MethodName) prog_8_method_16_code (6 : Nat) (Option.some Jvm.ClassFile.FieldType.long)) ∈ tb := tbm 768 (by decide +kernel) rfl
theorem kw_769 : (Jvm.Cond.methodLink "GreenPath$Search" (119 : Nat) ({ cls := "GreenPath$Search", name := "explore", desc := "()V" } : Jvm.MethodName)) ∈ tb := tbm 769 (by decide +kernel) rfl
theorem kw_770 : (Jvm.Cond.constantLong "GreenPath$Search" (122 : Nat) (-1 : Int64)) ∈ tb := tbm 770 (by decide +kernel) rfl
theorem kw_771 : (Jvm.Cond.methodLink "GreenPath$Search" (124 : Nat) ({ cls := "GreenPath$Search", name := "spread", desc := "(I)Z" } : Jvm.MethodName)) ∈ tb := tbm 771 (by decide +kernel) rfl
theorem kw_772 : (Jvm.Cond.instanceMethod ({ cls := "GreenPath$Search", name := "spread", desc := "(I)Z" } : Jvm.MethodName)) ∈ tb := tbm 772 (by decide +kernel) rfl
theorem kw_773 : (Jvm.Cond.selects "GreenPath$Search" ({ cls := "GreenPath$Search", name := "spread", desc := "(I)Z" } : Jvm.MethodName) ({ cls := "GreenPath$Search", name := "spread", desc := "(I)Z" } : Jvm.MethodName)) ∈ tb := tbm 773 (by decide +kernel) rfl
theorem kw_774 : (Jvm.Cond.code ({ cls := "GreenPath$Search", name := "spread", desc := "(I)Z" } : Jvm.MethodName) prog_8_method_17_code (7 : Nat) (Option.some Jvm.ClassFile.FieldType.boolean)) ∈ tb := tbm 774 (by decide +kernel) rfl
theorem kw_775 : (Jvm.Cond.fieldLink "GreenPath$Search" (130 : Nat) "GreenPath$Search" "WITHOUT" "[J") ∈ tb := tbm 775 (by decide +kernel) rfl
theorem kw_777 : (Jvm.Cond.methodLink "GreenPath$Search" (127 : Nat) ({ cls := "GreenPath$Search", name := "waysTo", desc := "(I)J" } : Jvm.MethodName)) ∈ tb := tbm 777 (by decide +kernel) rfl
theorem kw_778 : (Jvm.Cond.methodLink "GreenPath$Search" (114 : Nat) ({ cls := "java/lang/Integer", name := "bitCount", desc := "(I)I" } : Jvm.MethodName)) ∈ tb := tbm 778 (by decide +kernel) rfl
theorem kw_779 : (Jvm.Cond.static ({ cls := "java/lang/Integer", name := "bitCount", desc := "(I)I" } : Jvm.MethodName)) ∈ tb := tbm 779 (by decide +kernel) rfl
theorem kw_780 : (Jvm.Cond.code ({ cls := "java/lang/Integer", name := "bitCount", desc := "(I)I" } : Jvm.MethodName) prog_16_method_49_code (1 : Nat) (Option.some Jvm.ClassFile.FieldType.int)) ∈ tb := tbm 780 (by decide +kernel) rfl
theorem kw_781 : (Jvm.Cond.constant "java/lang/Integer" (265 : Nat) (1431655765 : Int32)) ∈ tb := tbm 781 (by decide +kernel) rfl
theorem kw_782 : (Jvm.Cond.constant "java/lang/Integer" (266 : Nat) (858993459 : Int32)) ∈ tb := tbm 782 (by decide +kernel) rfl
theorem kw_783 : (Jvm.Cond.constant "java/lang/Integer" (267 : Nat) (252645135 : Int32)) ∈ tb := tbm 783 (by decide +kernel) rfl
theorem kw_784 : (Jvm.Cond.methodLink "GreenPath" (216 : Nat) ({ cls := "java/lang/Integer", name := "bitCount", desc := "(I)I" } : Jvm.MethodName)) ∈ tb := tbm 784 (by decide +kernel) rfl
theorem kw_785 : (Jvm.Cond.methodLink "GreenPathLaw" (102 : Nat) ({ cls := "GreenPath", name := "was", desc := "(II)I" } : Jvm.MethodName)) ∈ tb := tbm 785 (by decide +kernel) rfl
theorem kw_786 : (Jvm.Cond.instanceMethod ({ cls := "GreenPath", name := "was", desc := "(II)I" } : Jvm.MethodName)) ∈ tb := tbm 786 (by decide +kernel) rfl
theorem kw_787 : (Jvm.Cond.selects "GreenPath" ({ cls := "GreenPath", name := "was", desc := "(II)I" } : Jvm.MethodName) ({ cls := "GreenPath", name := "was", desc := "(II)I" } : Jvm.MethodName)) ∈ tb := tbm 787 (by decide +kernel) rfl
theorem kw_788 : (Jvm.Cond.code ({ cls := "GreenPath", name := "was", desc := "(II)I" } : Jvm.MethodName) prog_1_method_22_code (3 : Nat) (Option.some Jvm.ClassFile.FieldType.int)) ∈ tb := tbm 788 (by decide +kernel) rfl
theorem kw_789 : (Jvm.Cond.methodLink "GreenPath" (221 : Nat) ({ cls := "GreenPath$Search", name := "goBack", desc := "(I)V" } : Jvm.MethodName)) ∈ tb := tbm 789 (by decide +kernel) rfl
theorem kw_790 : (Jvm.Cond.instanceMethod ({ cls := "GreenPath$Search", name := "goBack", desc := "(I)V" } : Jvm.MethodName)) ∈ tb := tbm 790 (by decide +kernel) rfl
theorem kw_791 : (Jvm.Cond.selects "GreenPath$Search" ({ cls := "GreenPath$Search", name := "goBack", desc := "(I)V" } : Jvm.MethodName) ({ cls := "GreenPath$Search", name := "goBack", desc := "(I)V" } : Jvm.MethodName)) ∈ tb := tbm 791 (by decide +kernel) rfl
theorem kw_792 : (Jvm.Cond.code ({ cls := "GreenPath$Search", name := "goBack", desc := "(I)V" } : Jvm.MethodName) prog_8_method_18_code (4 : Nat) (Option.none : Option Jvm.ClassFile.FieldType)) ∈ tb := tbm 792 (by decide +kernel) rfl
theorem kw_793 : (Jvm.Cond.methodLink "GreenPath$Search" (133 : Nat) ({ cls := "GreenPath$Search", name := "leadsToMark", desc := "(I)Z" } : Jvm.MethodName)) ∈ tb := tbm 793 (by decide +kernel) rfl
theorem kw_794 : (Jvm.Cond.instanceMethod ({ cls := "GreenPath$Search", name := "leadsToMark", desc := "(I)Z" } : Jvm.MethodName)) ∈ tb := tbm 794 (by decide +kernel) rfl
theorem kw_795 : (Jvm.Cond.selects "GreenPath$Search" ({ cls := "GreenPath$Search", name := "leadsToMark", desc := "(I)Z" } : Jvm.MethodName) ({ cls := "GreenPath$Search", name := "leadsToMark", desc := "(I)Z" } : Jvm.MethodName)) ∈ tb := tbm 795 (by decide +kernel) rfl
theorem kw_796 : (Jvm.Cond.code ({ cls := "GreenPath$Search", name := "leadsToMark", desc := "(I)Z" } : Jvm.MethodName) prog_8_method_19_code (4 : Nat) (Option.some Jvm.ClassFile.FieldType.boolean)) ∈ tb := tbm 796 (by decide +kernel) rfl
theorem kw_797 : (Jvm.Cond.methodLink "GreenPath" (224 : Nat) ({ cls := "GreenPath$Search", name := "originsInAll", desc := "()I" } : Jvm.MethodName)) ∈ tb := tbm 797 (by decide +kernel) rfl
theorem kw_798 : (Jvm.Cond.instanceMethod ({ cls := "GreenPath$Search", name := "originsInAll", desc := "()I" } : Jvm.MethodName)) ∈ tb := tbm 798 (by decide +kernel) rfl
theorem kw_799 : (Jvm.Cond.selects "GreenPath$Search" ({ cls := "GreenPath$Search", name := "originsInAll", desc := "()I" } : Jvm.MethodName) ({ cls := "GreenPath$Search", name := "originsInAll", desc := "()I" } : Jvm.MethodName)) ∈ tb := tbm 799 (by decide +kernel) rfl
theorem kw_800 : (Jvm.Cond.code ({ cls := "GreenPath$Search", name := "originsInAll", desc := "()I" } : Jvm.MethodName) prog_8_method_20_code (3 : Nat) (Option.some Jvm.ClassFile.FieldType.int)) ∈ tb := tbm 800 (by decide +kernel) rfl
theorem kw_801 : (Jvm.Cond.methodLink "GreenPath" (227 : Nat) ({ cls := "GreenPath$Search", name := "leastOrigin", desc := "()I" } : Jvm.MethodName)) ∈ tb := tbm 801 (by decide +kernel) rfl
theorem kw_802 : (Jvm.Cond.instanceMethod ({ cls := "GreenPath$Search", name := "leastOrigin", desc := "()I" } : Jvm.MethodName)) ∈ tb := tbm 802 (by decide +kernel) rfl
theorem kw_803 : (Jvm.Cond.selects "GreenPath$Search" ({ cls := "GreenPath$Search", name := "leastOrigin", desc := "()I" } : Jvm.MethodName) ({ cls := "GreenPath$Search", name := "leastOrigin", desc := "()I" } : Jvm.MethodName)) ∈ tb := tbm 803 (by decide +kernel) rfl
theorem kw_804 : (Jvm.Cond.code ({ cls := "GreenPath$Search", name := "leastOrigin", desc := "()I" } : Jvm.MethodName) prog_8_method_21_code (2 : Nat) (Option.some Jvm.ClassFile.FieldType.int)) ∈ tb := tbm 804 (by decide +kernel) rfl
theorem kw_805 : (Jvm.Cond.methodLink "GreenPathLaw" (106 : Nat) ({ cls := "GreenPath", name := "force", desc := "(I)I" } : Jvm.MethodName)) ∈ tb := tbm 805 (by decide +kernel) rfl
theorem kw_806 : (Jvm.Cond.instanceMethod ({ cls := "GreenPath", name := "force", desc := "(I)I" } : Jvm.MethodName)) ∈ tb := tbm 806 (by decide +kernel) rfl
theorem kw_807 : (Jvm.Cond.selects "GreenPath" ({ cls := "GreenPath", name := "force", desc := "(I)I" } : Jvm.MethodName) ({ cls := "GreenPath", name := "force", desc := "(I)I" } : Jvm.MethodName)) ∈ tb := tbm 807 (by decide +kernel) rfl
theorem kw_808 : (Jvm.Cond.code ({ cls := "GreenPath", name := "force", desc := "(I)I" } : Jvm.MethodName) prog_1_method_23_code (2 : Nat) (Option.some Jvm.ClassFile.FieldType.int)) ∈ tb := tbm 808 (by decide +kernel) rfl
theorem kw_809 : (Jvm.Cond.methodLink "GreenPath" (230 : Nat) ({ cls := "GreenPath$Search", name := "turnsToForce", desc := "(I)I" } : Jvm.MethodName)) ∈ tb := tbm 809 (by decide +kernel) rfl
theorem kw_810 : (Jvm.Cond.instanceMethod ({ cls := "GreenPath$Search", name := "turnsToForce", desc := "(I)I" } : Jvm.MethodName)) ∈ tb := tbm 810 (by decide +kernel) rfl
theorem kw_811 : (Jvm.Cond.selects "GreenPath$Search" ({ cls := "GreenPath$Search", name := "turnsToForce", desc := "(I)I" } : Jvm.MethodName) ({ cls := "GreenPath$Search", name := "turnsToForce", desc := "(I)I" } : Jvm.MethodName)) ∈ tb := tbm 811 (by decide +kernel) rfl
theorem kw_812 : (Jvm.Cond.code ({ cls := "GreenPath$Search", name := "turnsToForce", desc := "(I)I" } : Jvm.MethodName) prog_8_method_22_code (5 : Nat) (Option.some Jvm.ClassFile.FieldType.int)) ∈ tb := tbm 812 (by decide +kernel) rfl
theorem kw_814 : (Jvm.Cond.methodLink "GreenPath$Search" (140 : Nat) ({ cls := "GreenPath$Search", name := "forceWithin", desc := "(II)V" } : Jvm.MethodName)) ∈ tb := tbm 814 (by decide +kernel) rfl
theorem kw_815 : (Jvm.Cond.instanceMethod ({ cls := "GreenPath$Search", name := "forceWithin", desc := "(II)V" } : Jvm.MethodName)) ∈ tb := tbm 815 (by decide +kernel) rfl
theorem kw_816 : (Jvm.Cond.selects "GreenPath$Search" ({ cls := "GreenPath$Search", name := "forceWithin", desc := "(II)V" } : Jvm.MethodName) ({ cls := "GreenPath$Search", name := "forceWithin", desc := "(II)V" } : Jvm.MethodName)) ∈ tb := tbm 816 (by decide +kernel) rfl
theorem kw_817 : (Jvm.Cond.code ({ cls := "GreenPath$Search", name := "forceWithin", desc := "(II)V" } : Jvm.MethodName) prog_8_method_23_code (8 : Nat) (Option.none : Option Jvm.ClassFile.FieldType)) ∈ tb := tbm 817 (by decide +kernel) rfl
theorem kw_818 : (Jvm.Cond.methodLink "GreenPathLaw" (110 : Nat) ({ cls := "GreenPath", name := "seed", desc := "(I)I" } : Jvm.MethodName)) ∈ tb := tbm 818 (by decide +kernel) rfl
theorem kw_819 : (Jvm.Cond.instanceMethod ({ cls := "GreenPath", name := "seed", desc := "(I)I" } : Jvm.MethodName)) ∈ tb := tbm 819 (by decide +kernel) rfl
theorem kw_820 : (Jvm.Cond.selects "GreenPath" ({ cls := "GreenPath", name := "seed", desc := "(I)I" } : Jvm.MethodName) ({ cls := "GreenPath", name := "seed", desc := "(I)I" } : Jvm.MethodName)) ∈ tb := tbm 820 (by decide +kernel) rfl
theorem kw_821 : (Jvm.Cond.code ({ cls := "GreenPath", name := "seed", desc := "(I)I" } : Jvm.MethodName) prog_1_method_24_code (3 : Nat) (Option.some Jvm.ClassFile.FieldType.int)) ∈ tb := tbm 821 (by decide +kernel) rfl
theorem kw_822 : (Jvm.Cond.methodLink "GreenPathLaw" (114 : Nat) ({ cls := "GreenPath", name := "voice", desc := "(III)I" } : Jvm.MethodName)) ∈ tb := tbm 822 (by decide +kernel) rfl
theorem kw_823 : (Jvm.Cond.instanceMethod ({ cls := "GreenPath", name := "voice", desc := "(III)I" } : Jvm.MethodName)) ∈ tb := tbm 823 (by decide +kernel) rfl
theorem kw_824 : (Jvm.Cond.selects "GreenPath" ({ cls := "GreenPath", name := "voice", desc := "(III)I" } : Jvm.MethodName) ({ cls := "GreenPath", name := "voice", desc := "(III)I" } : Jvm.MethodName)) ∈ tb := tbm 824 (by decide +kernel) rfl
theorem kw_825 : (Jvm.Cond.code ({ cls := "GreenPath", name := "voice", desc := "(III)I" } : Jvm.MethodName) prog_1_method_25_code (5 : Nat) (Option.some Jvm.ClassFile.FieldType.int)) ∈ tb := tbm 825 (by decide +kernel) rfl
theorem kw_826 : (Jvm.Cond.methodLink "GreenPath" (236 : Nat) ({ cls := "GreenPath$Law", name := "voiceMeets", desc := "(ILGreenPath$Row;)I" } : Jvm.MethodName)) ∈ tb := tbm 826 (by decide +kernel) rfl
theorem kw_827 : (Jvm.Cond.instanceMethod ({ cls := "GreenPath$Law", name := "voiceMeets", desc := "(ILGreenPath$Row;)I" } : Jvm.MethodName)) ∈ tb := tbm 827 (by decide +kernel) rfl
theorem kw_828 : (Jvm.Cond.selects "GreenPath$Law" ({ cls := "GreenPath$Law", name := "voiceMeets", desc := "(ILGreenPath$Row;)I" } : Jvm.MethodName) ({ cls := "GreenPath$Law", name := "voiceMeets", desc := "(ILGreenPath$Row;)I" } : Jvm.MethodName)) ∈ tb := tbm 828 (by decide +kernel) rfl
theorem kw_829 : (Jvm.Cond.sameMethod "GreenPath$Law" "GreenPath$Law" "voiceMeets" "(ILGreenPath$Row;)I") ∈ tb := tbm 829 (by decide +kernel) rfl
theorem kw_830 : (Jvm.Cond.selects "GreenPath$Copy" ({ cls := "GreenPath$Law", name := "voiceMeets", desc := "(ILGreenPath$Row;)I" } : Jvm.MethodName) ({ cls := "GreenPath$Law", name := "voiceMeets", desc := "(ILGreenPath$Row;)I" } : Jvm.MethodName)) ∈ tb := tbm 830 (by decide +kernel) rfl
theorem kw_831 : (Jvm.Cond.selects "GreenPath$Eat" ({ cls := "GreenPath$Law", name := "voiceMeets", desc := "(ILGreenPath$Row;)I" } : Jvm.MethodName) ({ cls := "GreenPath$Eat", name := "voiceMeets", desc := "(ILGreenPath$Row;)I" } : Jvm.MethodName)) ∈ tb := tbm 831 (by decide +kernel) rfl
theorem kw_832 : (Jvm.Cond.instanceMethod ({ cls := "GreenPath$Eat", name := "voiceMeets", desc := "(ILGreenPath$Row;)I" } : Jvm.MethodName)) ∈ tb := tbm 832 (by decide +kernel) rfl
theorem kw_833 : (Jvm.Cond.code ({ cls := "GreenPath$Eat", name := "voiceMeets", desc := "(ILGreenPath$Row;)I" } : Jvm.MethodName) prog_3_method_3_code (3 : Nat) (Option.some Jvm.ClassFile.FieldType.int)) ∈ tb := tbm 833 (by decide +kernel) rfl
theorem kw_834 : (Jvm.Cond.methodLink "GreenPath$Eat" (15 : Nat) ({ cls := "GreenPath$Row", name := "add", desc := "(I)Z" } : Jvm.MethodName)) ∈ tb := tbm 834 (by decide +kernel) rfl
theorem kw_835 : (Jvm.Cond.methodLink "GreenPath$Eat" (21 : Nat) ({ cls := "GreenPath$Law", name := "voiceMeets", desc := "(ILGreenPath$Row;)I" } : Jvm.MethodName)) ∈ tb := tbm 835 (by decide +kernel) rfl
theorem kw_836 : (Jvm.Cond.selects "GreenPath$Join" ({ cls := "GreenPath$Law", name := "voiceMeets", desc := "(ILGreenPath$Row;)I" } : Jvm.MethodName) ({ cls := "GreenPath$Eat", name := "voiceMeets", desc := "(ILGreenPath$Row;)I" } : Jvm.MethodName)) ∈ tb := tbm 836 (by decide +kernel) rfl
theorem kw_837 : (Jvm.Cond.selects "GreenPath$Split" ({ cls := "GreenPath$Law", name := "voiceMeets", desc := "(ILGreenPath$Row;)I" } : Jvm.MethodName) ({ cls := "GreenPath$Law", name := "voiceMeets", desc := "(ILGreenPath$Row;)I" } : Jvm.MethodName)) ∈ tb := tbm 837 (by decide +kernel) rfl
theorem kw_838 : (Jvm.Cond.selects "GreenPath$Third" ({ cls := "GreenPath$Law", name := "voiceMeets", desc := "(ILGreenPath$Row;)I" } : Jvm.MethodName) ({ cls := "GreenPath$Law", name := "voiceMeets", desc := "(ILGreenPath$Row;)I" } : Jvm.MethodName)) ∈ tb := tbm 838 (by decide +kernel) rfl
theorem kw_839 : (Jvm.Cond.selects "GreenPath$Told" ({ cls := "GreenPath$Law", name := "voiceMeets", desc := "(ILGreenPath$Row;)I" } : Jvm.MethodName) ({ cls := "GreenPath$Law", name := "voiceMeets", desc := "(ILGreenPath$Row;)I" } : Jvm.MethodName)) ∈ tb := tbm 839 (by decide +kernel) rfl
theorem kw_840 : (Jvm.Cond.code ({ cls := "GreenPath$Law", name := "voiceMeets", desc := "(ILGreenPath$Row;)I" } : Jvm.MethodName) prog_6_method_3_code (3 : Nat) (Option.some Jvm.ClassFile.FieldType.int)) ∈ tb := tbm 840 (by decide +kernel) rfl
theorem kw_841 : (Jvm.Cond.methodLink "GreenPath$Law" (34 : Nat) ({ cls := "GreenPath$Row", name := "add", desc := "(I)Z" } : Jvm.MethodName)) ∈ tb := tbm 841 (by decide +kernel) rfl
theorem kw_842 : (Jvm.Cond.methodLink "GreenPath" (240 : Nat) ({ cls := "GreenPath$Law", name := "voiceTurns", desc := "(ILGreenPath$Row;)I" } : Jvm.MethodName)) ∈ tb := tbm 842 (by decide +kernel) rfl
theorem kw_843 : (Jvm.Cond.instanceMethod ({ cls := "GreenPath$Law", name := "voiceTurns", desc := "(ILGreenPath$Row;)I" } : Jvm.MethodName)) ∈ tb := tbm 843 (by decide +kernel) rfl
theorem kw_844 : (Jvm.Cond.selects "GreenPath$Law" ({ cls := "GreenPath$Law", name := "voiceTurns", desc := "(ILGreenPath$Row;)I" } : Jvm.MethodName) ({ cls := "GreenPath$Law", name := "voiceTurns", desc := "(ILGreenPath$Row;)I" } : Jvm.MethodName)) ∈ tb := tbm 844 (by decide +kernel) rfl
theorem kw_845 : (Jvm.Cond.sameMethod "GreenPath$Law" "GreenPath$Law" "voiceTurns" "(ILGreenPath$Row;)I") ∈ tb := tbm 845 (by decide +kernel) rfl
theorem kw_846 : (Jvm.Cond.selects "GreenPath$Copy" ({ cls := "GreenPath$Law", name := "voiceTurns", desc := "(ILGreenPath$Row;)I" } : Jvm.MethodName) ({ cls := "GreenPath$Copy", name := "voiceTurns", desc := "(ILGreenPath$Row;)I" } : Jvm.MethodName)) ∈ tb := tbm 846 (by decide +kernel) rfl
theorem kw_847 : (Jvm.Cond.instanceMethod ({ cls := "GreenPath$Copy", name := "voiceTurns", desc := "(ILGreenPath$Row;)I" } : Jvm.MethodName)) ∈ tb := tbm 847 (by decide +kernel) rfl
theorem kw_848 : (Jvm.Cond.code ({ cls := "GreenPath$Copy", name := "voiceTurns", desc := "(ILGreenPath$Row;)I" } : Jvm.MethodName) prog_2_method_3_code (3 : Nat) (Option.some Jvm.ClassFile.FieldType.int)) ∈ tb := tbm 848 (by decide +kernel) rfl
theorem kw_849 : (Jvm.Cond.methodLink "GreenPath$Copy" (20 : Nat) ({ cls := "GreenPath$Row", name := "add", desc := "(I)Z" } : Jvm.MethodName)) ∈ tb := tbm 849 (by decide +kernel) rfl
theorem kw_850 : (Jvm.Cond.methodLink "GreenPath$Copy" (26 : Nat) ({ cls := "GreenPath$Third", name := "voiceTurns", desc := "(ILGreenPath$Row;)I" } : Jvm.MethodName)) ∈ tb := tbm 850 (by decide +kernel) rfl
theorem kw_851 : (Jvm.Cond.instanceMethod ({ cls := "GreenPath$Third", name := "voiceTurns", desc := "(ILGreenPath$Row;)I" } : Jvm.MethodName)) ∈ tb := tbm 851 (by decide +kernel) rfl
theorem kw_852 : (Jvm.Cond.code ({ cls := "GreenPath$Third", name := "voiceTurns", desc := "(ILGreenPath$Row;)I" } : Jvm.MethodName) prog_11_method_3_code (4 : Nat) (Option.some Jvm.ClassFile.FieldType.int)) ∈ tb := tbm 852 (by decide +kernel) rfl
theorem kw_853 : (Jvm.Cond.methodLink "GreenPath$Third" (20 : Nat) ({ cls := "GreenPath$Row", name := "add", desc := "(I)Z" } : Jvm.MethodName)) ∈ tb := tbm 853 (by decide +kernel) rfl
theorem kw_854 : (Jvm.Cond.methodLink "GreenPath$Third" (26 : Nat) ({ cls := "GreenPath$Law", name := "voiceTurns", desc := "(ILGreenPath$Row;)I" } : Jvm.MethodName)) ∈ tb := tbm 854 (by decide +kernel) rfl
theorem kw_855 : (Jvm.Cond.methodLink "GreenPath$Third" (30 : Nat) ({ cls := "GreenPath$Third", name := "voiceStays", desc := "(ILGreenPath$Row;)I" } : Jvm.MethodName)) ∈ tb := tbm 855 (by decide +kernel) rfl
theorem kw_856 : (Jvm.Cond.sameMethod "GreenPath$Third" "GreenPath$Law" "voiceStays" "(ILGreenPath$Row;)I") ∈ tb := tbm 856 (by decide +kernel) rfl
theorem kw_858 : (Jvm.Cond.selects "GreenPath$Copy" ({ cls := "GreenPath$Third", name := "voiceStays", desc := "(ILGreenPath$Row;)I" } : Jvm.MethodName) ({ cls := "GreenPath$Law", name := "voiceStays", desc := "(ILGreenPath$Row;)I" } : Jvm.MethodName)) ∈ tb := tbm 858 (by decide +kernel) rfl
theorem kw_859 : (Jvm.Cond.selects "GreenPath$Third" ({ cls := "GreenPath$Third", name := "voiceStays", desc := "(ILGreenPath$Row;)I" } : Jvm.MethodName) ({ cls := "GreenPath$Law", name := "voiceStays", desc := "(ILGreenPath$Row;)I" } : Jvm.MethodName)) ∈ tb := tbm 859 (by decide +kernel) rfl
theorem kw_860 : (Jvm.Cond.instanceMethod ({ cls := "GreenPath$Law", name := "voiceStays", desc := "(ILGreenPath$Row;)I" } : Jvm.MethodName)) ∈ tb := tbm 860 (by decide +kernel) rfl
theorem kw_861 : (Jvm.Cond.code ({ cls := "GreenPath$Law", name := "voiceStays", desc := "(ILGreenPath$Row;)I" } : Jvm.MethodName) prog_6_method_5_code (3 : Nat) (Option.some Jvm.ClassFile.FieldType.int)) ∈ tb := tbm 861 (by decide +kernel) rfl
theorem kw_862 : (Jvm.Cond.selects "GreenPath$Eat" ({ cls := "GreenPath$Law", name := "voiceTurns", desc := "(ILGreenPath$Row;)I" } : Jvm.MethodName) ({ cls := "GreenPath$Law", name := "voiceTurns", desc := "(ILGreenPath$Row;)I" } : Jvm.MethodName)) ∈ tb := tbm 862 (by decide +kernel) rfl
theorem kw_863 : (Jvm.Cond.selects "GreenPath$Join" ({ cls := "GreenPath$Law", name := "voiceTurns", desc := "(ILGreenPath$Row;)I" } : Jvm.MethodName) ({ cls := "GreenPath$Law", name := "voiceTurns", desc := "(ILGreenPath$Row;)I" } : Jvm.MethodName)) ∈ tb := tbm 863 (by decide +kernel) rfl
theorem kw_864 : (Jvm.Cond.selects "GreenPath$Split" ({ cls := "GreenPath$Law", name := "voiceTurns", desc := "(ILGreenPath$Row;)I" } : Jvm.MethodName) ({ cls := "GreenPath$Law", name := "voiceTurns", desc := "(ILGreenPath$Row;)I" } : Jvm.MethodName)) ∈ tb := tbm 864 (by decide +kernel) rfl
theorem kw_865 : (Jvm.Cond.selects "GreenPath$Third" ({ cls := "GreenPath$Law", name := "voiceTurns", desc := "(ILGreenPath$Row;)I" } : Jvm.MethodName) ({ cls := "GreenPath$Third", name := "voiceTurns", desc := "(ILGreenPath$Row;)I" } : Jvm.MethodName)) ∈ tb := tbm 865 (by decide +kernel) rfl
theorem kw_866 : (Jvm.Cond.selects "GreenPath$Told" ({ cls := "GreenPath$Law", name := "voiceTurns", desc := "(ILGreenPath$Row;)I" } : Jvm.MethodName) ({ cls := "GreenPath$Law", name := "voiceTurns", desc := "(ILGreenPath$Row;)I" } : Jvm.MethodName)) ∈ tb := tbm 866 (by decide +kernel) rfl
theorem kw_867 : (Jvm.Cond.code ({ cls := "GreenPath$Law", name := "voiceTurns", desc := "(ILGreenPath$Row;)I" } : Jvm.MethodName) prog_6_method_4_code (3 : Nat) (Option.some Jvm.ClassFile.FieldType.int)) ∈ tb := tbm 867 (by decide +kernel) rfl
theorem kw_868 : (Jvm.Cond.methodLink "GreenPath$Law" (40 : Nat) ({ cls := "GreenPath$Law", name := "voiceMeets", desc := "(ILGreenPath$Row;)I" } : Jvm.MethodName)) ∈ tb := tbm 868 (by decide +kernel) rfl
theorem kw_869 : (Jvm.Cond.methodLink "GreenPath" (243 : Nat) ({ cls := "GreenPath$Law", name := "voiceStays", desc := "(ILGreenPath$Row;)I" } : Jvm.MethodName)) ∈ tb := tbm 869 (by decide +kernel) rfl
theorem kw_870 : (Jvm.Cond.instanceMethod ({ cls := "GreenPath$Split", name := "voiceStays", desc := "(ILGreenPath$Row;)I" } : Jvm.MethodName)) ∈ tb := tbm 870 (by decide +kernel) rfl
theorem kw_871 : (Jvm.Cond.code ({ cls := "GreenPath$Split", name := "voiceStays", desc := "(ILGreenPath$Row;)I" } : Jvm.MethodName) prog_9_method_3_code (3 : Nat) (Option.some Jvm.ClassFile.FieldType.int)) ∈ tb := tbm 871 (by decide +kernel) rfl
theorem kw_872 : (Jvm.Cond.methodLink "GreenPath$Split" (17 : Nat) ({ cls := "GreenPath$Row", name := "add", desc := "(I)Z" } : Jvm.MethodName)) ∈ tb := tbm 872 (by decide +kernel) rfl
theorem kw_873 : (Jvm.Cond.methodLink "GreenPath$Split" (23 : Nat) ({ cls := "GreenPath$Law", name := "voiceStays", desc := "(ILGreenPath$Row;)I" } : Jvm.MethodName)) ∈ tb := tbm 873 (by decide +kernel) rfl
theorem kw_874 : (Jvm.Cond.instanceMethod ({ cls := "GreenPath$Told", name := "voiceStays", desc := "(ILGreenPath$Row;)I" } : Jvm.MethodName)) ∈ tb := tbm 874 (by decide +kernel) rfl
theorem kw_875 : (Jvm.Cond.code ({ cls := "GreenPath$Told", name := "voiceStays", desc := "(ILGreenPath$Row;)I" } : Jvm.MethodName) prog_12_method_3_code (3 : Nat) (Option.some Jvm.ClassFile.FieldType.int)) ∈ tb := tbm 875 (by decide +kernel) rfl
theorem kw_876 : (Jvm.Cond.methodLink "GreenPath$Told" (31 : Nat) ({ cls := "GreenPath$Row", name := "add", desc := "(I)Z" } : Jvm.MethodName)) ∈ tb := tbm 876 (by decide +kernel) rfl
theorem kw_877 : (Jvm.Cond.methodLink "GreenPath$Told" (37 : Nat) ({ cls := "GreenPath$Split", name := "voiceStays", desc := "(ILGreenPath$Row;)I" } : Jvm.MethodName)) ∈ tb := tbm 877 (by decide +kernel) rfl
theorem kw_878 : (Jvm.Cond.methodLink "GreenPath" (246 : Nat) ({ cls := "GreenPath$Law", name := "voiceTells", desc := "(ILGreenPath$Row;)I" } : Jvm.MethodName)) ∈ tb := tbm 878 (by decide +kernel) rfl
theorem kw_879 : (Jvm.Cond.instanceMethod ({ cls := "GreenPath$Law", name := "voiceTells", desc := "(ILGreenPath$Row;)I" } : Jvm.MethodName)) ∈ tb := tbm 879 (by decide +kernel) rfl
theorem kw_880 : (Jvm.Cond.selects "GreenPath$Law" ({ cls := "GreenPath$Law", name := "voiceTells", desc := "(ILGreenPath$Row;)I" } : Jvm.MethodName) ({ cls := "GreenPath$Law", name := "voiceTells", desc := "(ILGreenPath$Row;)I" } : Jvm.MethodName)) ∈ tb := tbm 880 (by decide +kernel) rfl
theorem kw_881 : (Jvm.Cond.sameMethod "GreenPath$Law" "GreenPath$Law" "voiceTells" "(ILGreenPath$Row;)I") ∈ tb := tbm 881 (by decide +kernel) rfl
theorem kw_882 : (Jvm.Cond.selects "GreenPath$Copy" ({ cls := "GreenPath$Law", name := "voiceTells", desc := "(ILGreenPath$Row;)I" } : Jvm.MethodName) ({ cls := "GreenPath$Law", name := "voiceTells", desc := "(ILGreenPath$Row;)I" } : Jvm.MethodName)) ∈ tb := tbm 882 (by decide +kernel) rfl
theorem kw_883 : (Jvm.Cond.selects "GreenPath$Eat" ({ cls := "GreenPath$Law", name := "voiceTells", desc := "(ILGreenPath$Row;)I" } : Jvm.MethodName) ({ cls := "GreenPath$Law", name := "voiceTells", desc := "(ILGreenPath$Row;)I" } : Jvm.MethodName)) ∈ tb := tbm 883 (by decide +kernel) rfl
theorem kw_884 : (Jvm.Cond.selects "GreenPath$Join" ({ cls := "GreenPath$Law", name := "voiceTells", desc := "(ILGreenPath$Row;)I" } : Jvm.MethodName) ({ cls := "GreenPath$Join", name := "voiceTells", desc := "(ILGreenPath$Row;)I" } : Jvm.MethodName)) ∈ tb := tbm 884 (by decide +kernel) rfl
theorem kw_885 : (Jvm.Cond.instanceMethod ({ cls := "GreenPath$Join", name := "voiceTells", desc := "(ILGreenPath$Row;)I" } : Jvm.MethodName)) ∈ tb := tbm 885 (by decide +kernel) rfl
theorem kw_886 : (Jvm.Cond.code ({ cls := "GreenPath$Join", name := "voiceTells", desc := "(ILGreenPath$Row;)I" } : Jvm.MethodName) prog_5_method_3_code (4 : Nat) (Option.some Jvm.ClassFile.FieldType.int)) ∈ tb := tbm 886 (by decide +kernel) rfl
theorem kw_887 : (Jvm.Cond.methodLink "GreenPath$Join" (23 : Nat) ({ cls := "GreenPath$Row", name := "add", desc := "(I)Z" } : Jvm.MethodName)) ∈ tb := tbm 887 (by decide +kernel) rfl
theorem kw_888 : (Jvm.Cond.methodLink "GreenPath$Join" (29 : Nat) ({ cls := "GreenPath$Eat", name := "voiceTells", desc := "(ILGreenPath$Row;)I" } : Jvm.MethodName)) ∈ tb := tbm 888 (by decide +kernel) rfl
theorem kw_889 : (Jvm.Cond.sameMethod "GreenPath$Eat" "GreenPath$Law" "voiceTells" "(ILGreenPath$Row;)I") ∈ tb := tbm 889 (by decide +kernel) rfl
theorem kw_891 : (Jvm.Cond.methodLink "GreenPath$Join" (33 : Nat) ({ cls := "GreenPath$Join", name := "voiceMeets", desc := "(ILGreenPath$Row;)I" } : Jvm.MethodName)) ∈ tb := tbm 891 (by decide +kernel) rfl
theorem kw_892 : (Jvm.Cond.sameMethod "GreenPath$Join" "GreenPath$Eat" "voiceMeets" "(ILGreenPath$Row;)I") ∈ tb := tbm 892 (by decide +kernel) rfl
theorem kw_894 : (Jvm.Cond.selects "GreenPath$Join" ({ cls := "GreenPath$Join", name := "voiceMeets", desc := "(ILGreenPath$Row;)I" } : Jvm.MethodName) ({ cls := "GreenPath$Eat", name := "voiceMeets", desc := "(ILGreenPath$Row;)I" } : Jvm.MethodName)) ∈ tb := tbm 894 (by decide +kernel) rfl
theorem kw_895 : (Jvm.Cond.selects "GreenPath$Split" ({ cls := "GreenPath$Law", name := "voiceTells", desc := "(ILGreenPath$Row;)I" } : Jvm.MethodName) ({ cls := "GreenPath$Law", name := "voiceTells", desc := "(ILGreenPath$Row;)I" } : Jvm.MethodName)) ∈ tb := tbm 895 (by decide +kernel) rfl
theorem kw_896 : (Jvm.Cond.selects "GreenPath$Third" ({ cls := "GreenPath$Law", name := "voiceTells", desc := "(ILGreenPath$Row;)I" } : Jvm.MethodName) ({ cls := "GreenPath$Law", name := "voiceTells", desc := "(ILGreenPath$Row;)I" } : Jvm.MethodName)) ∈ tb := tbm 896 (by decide +kernel) rfl
theorem kw_897 : (Jvm.Cond.selects "GreenPath$Told" ({ cls := "GreenPath$Law", name := "voiceTells", desc := "(ILGreenPath$Row;)I" } : Jvm.MethodName) ({ cls := "GreenPath$Told", name := "voiceTells", desc := "(ILGreenPath$Row;)I" } : Jvm.MethodName)) ∈ tb := tbm 897 (by decide +kernel) rfl
theorem kw_898 : (Jvm.Cond.instanceMethod ({ cls := "GreenPath$Told", name := "voiceTells", desc := "(ILGreenPath$Row;)I" } : Jvm.MethodName)) ∈ tb := tbm 898 (by decide +kernel) rfl
theorem kw_899 : (Jvm.Cond.code ({ cls := "GreenPath$Told", name := "voiceTells", desc := "(ILGreenPath$Row;)I" } : Jvm.MethodName) prog_12_method_4_code (4 : Nat) (Option.some Jvm.ClassFile.FieldType.int)) ∈ tb := tbm 899 (by decide +kernel) rfl
theorem kw_900 : (Jvm.Cond.methodLink "GreenPath$Told" (44 : Nat) ({ cls := "GreenPath$Told", name := "voiceTurns", desc := "(ILGreenPath$Row;)I" } : Jvm.MethodName)) ∈ tb := tbm 900 (by decide +kernel) rfl
theorem kw_901 : (Jvm.Cond.sameMethod "GreenPath$Told" "GreenPath$Law" "voiceTurns" "(ILGreenPath$Row;)I") ∈ tb := tbm 901 (by decide +kernel) rfl
theorem kw_903 : (Jvm.Cond.selects "GreenPath$Told" ({ cls := "GreenPath$Told", name := "voiceTurns", desc := "(ILGreenPath$Row;)I" } : Jvm.MethodName) ({ cls := "GreenPath$Law", name := "voiceTurns", desc := "(ILGreenPath$Row;)I" } : Jvm.MethodName)) ∈ tb := tbm 903 (by decide +kernel) rfl
theorem kw_904 : (Jvm.Cond.methodLink "GreenPath$Told" (47 : Nat) ({ cls := "GreenPath$Split", name := "voiceTells", desc := "(ILGreenPath$Row;)I" } : Jvm.MethodName)) ∈ tb := tbm 904 (by decide +kernel) rfl
theorem kw_905 : (Jvm.Cond.sameMethod "GreenPath$Split" "GreenPath$Law" "voiceTells" "(ILGreenPath$Row;)I") ∈ tb := tbm 905 (by decide +kernel) rfl
theorem kw_906 : (Jvm.Cond.code ({ cls := "GreenPath$Law", name := "voiceTells", desc := "(ILGreenPath$Row;)I" } : Jvm.MethodName) prog_6_method_6_code (4 : Nat) (Option.some Jvm.ClassFile.FieldType.int)) ∈ tb := tbm 906 (by decide +kernel) rfl
theorem kw_907 : (Jvm.Cond.methodLink "GreenPath$Law" (44 : Nat) ({ cls := "GreenPath$Law", name := "voiceTurns", desc := "(ILGreenPath$Row;)I" } : Jvm.MethodName)) ∈ tb := tbm 907 (by decide +kernel) rfl
theorem kw_908 : (Jvm.Cond.methodLink "GreenPath$Law" (47 : Nat) ({ cls := "GreenPath$Law", name := "voiceStays", desc := "(ILGreenPath$Row;)I" } : Jvm.MethodName)) ∈ tb := tbm 908 (by decide +kernel) rfl
theorem kw_909 : (Jvm.Cond.methodLink "GreenPathLaw" (119 : Nat) ({ cls := "GreenPath", name := "trace", desc := "(I)I" } : Jvm.MethodName)) ∈ tb := tbm 909 (by decide +kernel) rfl
theorem kw_910 : (Jvm.Cond.instanceMethod ({ cls := "GreenPath", name := "trace", desc := "(I)I" } : Jvm.MethodName)) ∈ tb := tbm 910 (by decide +kernel) rfl
theorem kw_911 : (Jvm.Cond.selects "GreenPath" ({ cls := "GreenPath", name := "trace", desc := "(I)I" } : Jvm.MethodName) ({ cls := "GreenPath", name := "trace", desc := "(I)I" } : Jvm.MethodName)) ∈ tb := tbm 911 (by decide +kernel) rfl
theorem kw_912 : (Jvm.Cond.code ({ cls := "GreenPath", name := "trace", desc := "(I)I" } : Jvm.MethodName) prog_1_method_26_code (2 : Nat) (Option.some Jvm.ClassFile.FieldType.int)) ∈ tb := tbm 912 (by decide +kernel) rfl
theorem kw_913 : (Jvm.Cond.methodLink "GreenPath" (249 : Nat) ({ cls := "GreenPath$Row", name := "has", desc := "(I)Z" } : Jvm.MethodName)) ∈ tb := tbm 913 (by decide +kernel) rfl
theorem kw_914 : (Jvm.Cond.instanceMethod ({ cls := "GreenPath$Row", name := "has", desc := "(I)Z" } : Jvm.MethodName)) ∈ tb := tbm 914 (by decide +kernel) rfl
theorem kw_915 : (Jvm.Cond.selects "GreenPath$Row" ({ cls := "GreenPath$Row", name := "has", desc := "(I)Z" } : Jvm.MethodName) ({ cls := "GreenPath$Row", name := "has", desc := "(I)Z" } : Jvm.MethodName)) ∈ tb := tbm 915 (by decide +kernel) rfl
theorem kw_916 : (Jvm.Cond.code ({ cls := "GreenPath$Row", name := "has", desc := "(I)Z" } : Jvm.MethodName) prog_7_method_3_code (2 : Nat) (Option.some Jvm.ClassFile.FieldType.boolean)) ∈ tb := tbm 916 (by decide +kernel) rfl
theorem kw_917 : (Jvm.Cond.methodLink "GreenPathLaw" (123 : Nat) ({ cls := "GreenPath", name := "sheet", desc := "(III)I" } : Jvm.MethodName)) ∈ tb := tbm 917 (by decide +kernel) rfl
theorem kw_918 : (Jvm.Cond.instanceMethod ({ cls := "GreenPath", name := "sheet", desc := "(III)I" } : Jvm.MethodName)) ∈ tb := tbm 918 (by decide +kernel) rfl
theorem kw_919 : (Jvm.Cond.selects "GreenPath" ({ cls := "GreenPath", name := "sheet", desc := "(III)I" } : Jvm.MethodName) ({ cls := "GreenPath", name := "sheet", desc := "(III)I" } : Jvm.MethodName)) ∈ tb := tbm 919 (by decide +kernel) rfl
theorem kw_920 : (Jvm.Cond.code ({ cls := "GreenPath", name := "sheet", desc := "(III)I" } : Jvm.MethodName) prog_1_method_27_code (4 : Nat) (Option.some Jvm.ClassFile.FieldType.int)) ∈ tb := tbm 920 (by decide +kernel) rfl
theorem kw_921 : (Jvm.Cond.methodLink "GreenPath" (255 : Nat) ({ cls := "GreenPath", name := "isSheet", desc := "(I)Z" } : Jvm.MethodName)) ∈ tb := tbm 921 (by decide +kernel) rfl
theorem kw_922 : (Jvm.Cond.static ({ cls := "GreenPath", name := "isSheet", desc := "(I)Z" } : Jvm.MethodName)) ∈ tb := tbm 922 (by decide +kernel) rfl
theorem kw_923 : (Jvm.Cond.code ({ cls := "GreenPath", name := "isSheet", desc := "(I)Z" } : Jvm.MethodName) prog_1_method_43_code (1 : Nat) (Option.some Jvm.ClassFile.FieldType.boolean)) ∈ tb := tbm 923 (by decide +kernel) rfl
theorem kw_924 : (Jvm.Cond.methodLink "GreenPath" (258 : Nat) ({ cls := "GreenPath$Row", name := "zeros", desc := "(I)V" } : Jvm.MethodName)) ∈ tb := tbm 924 (by decide +kernel) rfl
theorem kw_925 : (Jvm.Cond.instanceMethod ({ cls := "GreenPath$Row", name := "zeros", desc := "(I)V" } : Jvm.MethodName)) ∈ tb := tbm 925 (by decide +kernel) rfl
theorem kw_926 : (Jvm.Cond.selects "GreenPath$Row" ({ cls := "GreenPath$Row", name := "zeros", desc := "(I)V" } : Jvm.MethodName) ({ cls := "GreenPath$Row", name := "zeros", desc := "(I)V" } : Jvm.MethodName)) ∈ tb := tbm 926 (by decide +kernel) rfl
theorem kw_927 : (Jvm.Cond.code ({ cls := "GreenPath$Row", name := "zeros", desc := "(I)V" } : Jvm.MethodName) prog_7_method_5_code (2 : Nat) (Option.none : Option Jvm.ClassFile.FieldType)) ∈ tb := tbm 927 (by decide +kernel) rfl
theorem kw_928 : (Jvm.Cond.methodLink "GreenPath$Row" (23 : Nat) ({ cls := "java/util/Arrays", name := "fill", desc := "([II)V" } : Jvm.MethodName)) ∈ tb := tbm 928 (by decide +kernel) rfl
theorem kw_929 : (Jvm.Cond.methodLink "GreenPath$Row" (29 : Nat) ({ cls := "java/lang/Math", name := "min", desc := "(II)I" } : Jvm.MethodName)) ∈ tb := tbm 929 (by decide +kernel) rfl
theorem kw_930 : (Jvm.Cond.methodLink "GreenPathLaw" (127 : Nat) ({ cls := "GreenPath", name := "put", desc := "(III)I" } : Jvm.MethodName)) ∈ tb := tbm 930 (by decide +kernel) rfl
theorem kw_931 : (Jvm.Cond.instanceMethod ({ cls := "GreenPath", name := "put", desc := "(III)I" } : Jvm.MethodName)) ∈ tb := tbm 931 (by decide +kernel) rfl
theorem kw_932 : (Jvm.Cond.selects "GreenPath" ({ cls := "GreenPath", name := "put", desc := "(III)I" } : Jvm.MethodName) ({ cls := "GreenPath", name := "put", desc := "(III)I" } : Jvm.MethodName)) ∈ tb := tbm 932 (by decide +kernel) rfl
theorem kw_933 : (Jvm.Cond.code ({ cls := "GreenPath", name := "put", desc := "(III)I" } : Jvm.MethodName) prog_1_method_28_code (4 : Nat) (Option.some Jvm.ClassFile.FieldType.int)) ∈ tb := tbm 933 (by decide +kernel) rfl
theorem kw_934 : (Jvm.Cond.methodLink "GreenPathLaw" (131 : Nat) ({ cls := "GreenPath", name := "move", desc := "(IIIII)I" } : Jvm.MethodName)) ∈ tb := tbm 934 (by decide +kernel) rfl
theorem kw_935 : (Jvm.Cond.instanceMethod ({ cls := "GreenPath", name := "move", desc := "(IIIII)I" } : Jvm.MethodName)) ∈ tb := tbm 935 (by decide +kernel) rfl
theorem kw_936 : (Jvm.Cond.selects "GreenPath" ({ cls := "GreenPath", name := "move", desc := "(IIIII)I" } : Jvm.MethodName) ({ cls := "GreenPath", name := "move", desc := "(IIIII)I" } : Jvm.MethodName)) ∈ tb := tbm 936 (by decide +kernel) rfl
theorem kw_937 : (Jvm.Cond.code ({ cls := "GreenPath", name := "move", desc := "(IIIII)I" } : Jvm.MethodName) prog_1_method_29_code (6 : Nat) (Option.some Jvm.ClassFile.FieldType.int)) ∈ tb := tbm 937 (by decide +kernel) rfl
theorem kw_938 : (Jvm.Cond.methodLink "GreenPath" (261 : Nat) ({ cls := "GreenPath$Row", name := "hasRange", desc := "(II)Z" } : Jvm.MethodName)) ∈ tb := tbm 938 (by decide +kernel) rfl
theorem kw_939 : (Jvm.Cond.instanceMethod ({ cls := "GreenPath$Row", name := "hasRange", desc := "(II)Z" } : Jvm.MethodName)) ∈ tb := tbm 939 (by decide +kernel) rfl
theorem kw_940 : (Jvm.Cond.selects "GreenPath$Row" ({ cls := "GreenPath$Row", name := "hasRange", desc := "(II)Z" } : Jvm.MethodName) ({ cls := "GreenPath$Row", name := "hasRange", desc := "(II)Z" } : Jvm.MethodName)) ∈ tb := tbm 940 (by decide +kernel) rfl
theorem kw_941 : (Jvm.Cond.code ({ cls := "GreenPath$Row", name := "hasRange", desc := "(II)Z" } : Jvm.MethodName) prog_7_method_4_code (3 : Nat) (Option.some Jvm.ClassFile.FieldType.boolean)) ∈ tb := tbm 941 (by decide +kernel) rfl
theorem kw_942 : (Jvm.Cond.methodLink "GreenPath" (264 : Nat) ({ cls := "java/lang/System", name := "arraycopy", desc := "(Ljava/lang/Object;ILjava/lang/Object;II)V" } : Jvm.MethodName)) ∈ tb := tbm 942 (by decide +kernel) rfl
theorem kw_943 : (Jvm.Cond.static ({ cls := "java/lang/System", name := "arraycopy", desc := "(Ljava/lang/Object;ILjava/lang/Object;II)V" } : Jvm.MethodName)) ∈ tb := tbm 943 (by decide +kernel) rfl
theorem kw_944 : (Jvm.Cond.native ({ cls := "java/lang/System", name := "arraycopy", desc := "(Ljava/lang/Object;ILjava/lang/Object;II)V" } : Jvm.MethodName)) ∈ tb := tbm 944 (by decide +kernel) rfl
theorem kw_945 : (Jvm.Cond.methodLink "GreenPathLaw" (135 : Nat) ({ cls := "GreenPath", name := "judge", desc := "(I)I" } : Jvm.MethodName)) ∈ tb := tbm 945 (by decide +kernel) rfl
theorem kw_946 : (Jvm.Cond.instanceMethod ({ cls := "GreenPath", name := "judge", desc := "(I)I" } : Jvm.MethodName)) ∈ tb := tbm 946 (by decide +kernel) rfl
theorem kw_947 : (Jvm.Cond.selects "GreenPath" ({ cls := "GreenPath", name := "judge", desc := "(I)I" } : Jvm.MethodName) ({ cls := "GreenPath", name := "judge", desc := "(I)I" } : Jvm.MethodName)) ∈ tb := tbm 947 (by decide +kernel) rfl
theorem kw_948 : (Jvm.Cond.code ({ cls := "GreenPath", name := "judge", desc := "(I)I" } : Jvm.MethodName) prog_1_method_30_code (5 : Nat) (Option.some Jvm.ClassFile.FieldType.int)) ∈ tb := tbm 948 (by decide +kernel) rfl
theorem kw_949 : (Jvm.Cond.methodLink "GreenPathLaw" (139 : Nat) ({ cls := "GreenPath", name := "image", desc := "()I" } : Jvm.MethodName)) ∈ tb := tbm 949 (by decide +kernel) rfl
theorem kw_950 : (Jvm.Cond.instanceMethod ({ cls := "GreenPath", name := "image", desc := "()I" } : Jvm.MethodName)) ∈ tb := tbm 950 (by decide +kernel) rfl
theorem kw_951 : (Jvm.Cond.selects "GreenPath" ({ cls := "GreenPath", name := "image", desc := "()I" } : Jvm.MethodName) ({ cls := "GreenPath", name := "image", desc := "()I" } : Jvm.MethodName)) ∈ tb := tbm 951 (by decide +kernel) rfl
theorem kw_952 : (Jvm.Cond.code ({ cls := "GreenPath", name := "image", desc := "()I" } : Jvm.MethodName) prog_1_method_31_code (1 : Nat) (Option.some Jvm.ClassFile.FieldType.int)) ∈ tb := tbm 952 (by decide +kernel) rfl
theorem kw_953 : (Jvm.Cond.methodLink "GreenPath" (270 : Nat) ({ cls := "GreenPath$Island", name := "takeFrom", desc := "(LGreenPath$Island;)V" } : Jvm.MethodName)) ∈ tb := tbm 953 (by decide +kernel) rfl
theorem kw_954 : (Jvm.Cond.instanceMethod ({ cls := "GreenPath$Island", name := "takeFrom", desc := "(LGreenPath$Island;)V" } : Jvm.MethodName)) ∈ tb := tbm 954 (by decide +kernel) rfl
theorem kw_955 : (Jvm.Cond.selects "GreenPath$Island" ({ cls := "GreenPath$Island", name := "takeFrom", desc := "(LGreenPath$Island;)V" } : Jvm.MethodName) ({ cls := "GreenPath$Island", name := "takeFrom", desc := "(LGreenPath$Island;)V" } : Jvm.MethodName)) ∈ tb := tbm 955 (by decide +kernel) rfl
theorem kw_956 : (Jvm.Cond.code ({ cls := "GreenPath$Island", name := "takeFrom", desc := "(LGreenPath$Island;)V" } : Jvm.MethodName) prog_4_method_2_code (3 : Nat) (Option.none : Option Jvm.ClassFile.FieldType)) ∈ tb := tbm 956 (by decide +kernel) rfl
theorem kw_957 : (Jvm.Cond.methodLink "GreenPath$Island" (54 : Nat) ({ cls := "GreenPath$Row", name := "takeFrom", desc := "(LGreenPath$Row;)V" } : Jvm.MethodName)) ∈ tb := tbm 957 (by decide +kernel) rfl
theorem kw_958 : (Jvm.Cond.instanceMethod ({ cls := "GreenPath$Row", name := "takeFrom", desc := "(LGreenPath$Row;)V" } : Jvm.MethodName)) ∈ tb := tbm 958 (by decide +kernel) rfl
theorem kw_959 : (Jvm.Cond.selects "GreenPath$Row" ({ cls := "GreenPath$Row", name := "takeFrom", desc := "(LGreenPath$Row;)V" } : Jvm.MethodName) ({ cls := "GreenPath$Row", name := "takeFrom", desc := "(LGreenPath$Row;)V" } : Jvm.MethodName)) ∈ tb := tbm 959 (by decide +kernel) rfl
theorem kw_960 : (Jvm.Cond.code ({ cls := "GreenPath$Row", name := "takeFrom", desc := "(LGreenPath$Row;)V" } : Jvm.MethodName) prog_7_method_6_code (3 : Nat) (Option.none : Option Jvm.ClassFile.FieldType)) ∈ tb := tbm 960 (by decide +kernel) rfl
theorem kw_961 : (Jvm.Cond.methodLink "GreenPath$Row" (32 : Nat) ({ cls := "java/lang/System", name := "arraycopy", desc := "(Ljava/lang/Object;ILjava/lang/Object;II)V" } : Jvm.MethodName)) ∈ tb := tbm 961 (by decide +kernel) rfl
theorem kw_962 : (Jvm.Cond.methodLink "GreenPathLaw" (143 : Nat) ({ cls := "GreenPath", name := "restore", desc := "()I" } : Jvm.MethodName)) ∈ tb := tbm 962 (by decide +kernel) rfl
theorem kw_963 : (Jvm.Cond.instanceMethod ({ cls := "GreenPath", name := "restore", desc := "()I" } : Jvm.MethodName)) ∈ tb := tbm 963 (by decide +kernel) rfl
theorem kw_964 : (Jvm.Cond.selects "GreenPath" ({ cls := "GreenPath", name := "restore", desc := "()I" } : Jvm.MethodName) ({ cls := "GreenPath", name := "restore", desc := "()I" } : Jvm.MethodName)) ∈ tb := tbm 964 (by decide +kernel) rfl
theorem kw_965 : (Jvm.Cond.code ({ cls := "GreenPath", name := "restore", desc := "()I" } : Jvm.MethodName) prog_1_method_32_code (1 : Nat) (Option.some Jvm.ClassFile.FieldType.int)) ∈ tb := tbm 965 (by decide +kernel) rfl
theorem kw_966 : (Jvm.Cond.methodLink "GreenPathLaw" (147 : Nat) ({ cls := "GreenPath", name := "tell", desc := "(I)I" } : Jvm.MethodName)) ∈ tb := tbm 966 (by decide +kernel) rfl
theorem kw_967 : (Jvm.Cond.instanceMethod ({ cls := "GreenPath", name := "tell", desc := "(I)I" } : Jvm.MethodName)) ∈ tb := tbm 967 (by decide +kernel) rfl
theorem kw_968 : (Jvm.Cond.selects "GreenPath" ({ cls := "GreenPath", name := "tell", desc := "(I)I" } : Jvm.MethodName) ({ cls := "GreenPath", name := "tell", desc := "(I)I" } : Jvm.MethodName)) ∈ tb := tbm 968 (by decide +kernel) rfl
theorem kw_969 : (Jvm.Cond.code ({ cls := "GreenPath", name := "tell", desc := "(I)I" } : Jvm.MethodName) prog_1_method_33_code (2 : Nat) (Option.some Jvm.ClassFile.FieldType.int)) ∈ tb := tbm 969 (by decide +kernel) rfl
theorem kw_970 : (Jvm.Cond.methodLink "GreenPathLaw" (151 : Nat) ({ cls := "GreenPath", name := "check", desc := "()I" } : Jvm.MethodName)) ∈ tb := tbm 970 (by decide +kernel) rfl
theorem kw_971 : (Jvm.Cond.instanceMethod ({ cls := "GreenPath", name := "check", desc := "()I" } : Jvm.MethodName)) ∈ tb := tbm 971 (by decide +kernel) rfl
theorem kw_972 : (Jvm.Cond.selects "GreenPath" ({ cls := "GreenPath", name := "check", desc := "()I" } : Jvm.MethodName) ({ cls := "GreenPath", name := "check", desc := "()I" } : Jvm.MethodName)) ∈ tb := tbm 972 (by decide +kernel) rfl
theorem kw_973 : (Jvm.Cond.code ({ cls := "GreenPath", name := "check", desc := "()I" } : Jvm.MethodName) prog_1_method_34_code (4 : Nat) (Option.some Jvm.ClassFile.FieldType.int)) ∈ tb := tbm 973 (by decide +kernel) rfl
theorem kw_974 : (Jvm.Cond.methodLink "GreenPath" (280 : Nat) ({ cls := "GreenPath$Island", name := "leadsTo", desc := "(II)Z" } : Jvm.MethodName)) ∈ tb := tbm 974 (by decide +kernel) rfl
theorem kw_975 : (Jvm.Cond.instanceMethod ({ cls := "GreenPath$Island", name := "leadsTo", desc := "(II)Z" } : Jvm.MethodName)) ∈ tb := tbm 975 (by decide +kernel) rfl
theorem kw_976 : (Jvm.Cond.selects "GreenPath$Island" ({ cls := "GreenPath$Island", name := "leadsTo", desc := "(II)Z" } : Jvm.MethodName) ({ cls := "GreenPath$Island", name := "leadsTo", desc := "(II)Z" } : Jvm.MethodName)) ∈ tb := tbm 976 (by decide +kernel) rfl
theorem kw_977 : (Jvm.Cond.code ({ cls := "GreenPath$Island", name := "leadsTo", desc := "(II)Z" } : Jvm.MethodName) prog_4_method_7_code (4 : Nat) (Option.some Jvm.ClassFile.FieldType.boolean)) ∈ tb := tbm 977 (by decide +kernel) rfl
theorem kw_978 : (Jvm.Cond.methodLink "GreenPathLaw" (155 : Nat) ({ cls := "GreenPath", name := "count", desc := "(I)I" } : Jvm.MethodName)) ∈ tb := tbm 978 (by decide +kernel) rfl
theorem kw_979 : (Jvm.Cond.instanceMethod ({ cls := "GreenPath", name := "count", desc := "(I)I" } : Jvm.MethodName)) ∈ tb := tbm 979 (by decide +kernel) rfl
theorem kw_980 : (Jvm.Cond.selects "GreenPath" ({ cls := "GreenPath", name := "count", desc := "(I)I" } : Jvm.MethodName) ({ cls := "GreenPath", name := "count", desc := "(I)I" } : Jvm.MethodName)) ∈ tb := tbm 980 (by decide +kernel) rfl
theorem kw_981 : (Jvm.Cond.code ({ cls := "GreenPath", name := "count", desc := "(I)I" } : Jvm.MethodName) prog_1_method_35_code (2 : Nat) (Option.some Jvm.ClassFile.FieldType.int)) ∈ tb := tbm 981 (by decide +kernel) rfl
theorem kw_982 : (Jvm.Cond.methodLink "GreenPathLaw" (159 : Nat) ({ cls := "GreenPath", name := "told", desc := "(I)I" } : Jvm.MethodName)) ∈ tb := tbm 982 (by decide +kernel) rfl
theorem kw_983 : (Jvm.Cond.instanceMethod ({ cls := "GreenPath", name := "told", desc := "(I)I" } : Jvm.MethodName)) ∈ tb := tbm 983 (by decide +kernel) rfl
theorem kw_984 : (Jvm.Cond.selects "GreenPath" ({ cls := "GreenPath", name := "told", desc := "(I)I" } : Jvm.MethodName) ({ cls := "GreenPath", name := "told", desc := "(I)I" } : Jvm.MethodName)) ∈ tb := tbm 984 (by decide +kernel) rfl
theorem kw_985 : (Jvm.Cond.code ({ cls := "GreenPath", name := "told", desc := "(I)I" } : Jvm.MethodName) prog_1_method_36_code (2 : Nat) (Option.some Jvm.ClassFile.FieldType.int)) ∈ tb := tbm 985 (by decide +kernel) rfl
theorem kw_986 : (Jvm.Cond.classLink "GreenPathLaw" (10 : Nat) "GreenPathModel") ∈ tb := tbm 986 (by decide +kernel) rfl
theorem kw_987 : (Jvm.Cond.instantiable "GreenPathModel" (30 : Nat)) ∈ tb := tbm 987 (by decide +kernel) rfl
theorem kw_988 : (Jvm.Cond.methodLink "GreenPathLaw" (12 : Nat) ({ cls := "GreenPathModel", name := "<init>", desc := "()V" } : Jvm.MethodName)) ∈ tb := tbm 988 (by decide +kernel) rfl
theorem kw_989 : (Jvm.Cond.instanceMethod ({ cls := "GreenPathModel", name := "<init>", desc := "()V" } : Jvm.MethodName)) ∈ tb := tbm 989 (by decide +kernel) rfl
theorem kw_990 : (Jvm.Cond.code ({ cls := "GreenPathModel", name := "<init>", desc := "()V" } : Jvm.MethodName) prog_14_method_1_code (2 : Nat) (Option.none : Option Jvm.ClassFile.FieldType)) ∈ tb := tbm 990 (by decide +kernel) rfl
theorem kw_991 : (Jvm.Cond.methodLink "GreenPathModel" (1 : Nat) ({ cls := "java/lang/Object", name := "<init>", desc := "()V" } : Jvm.MethodName)) ∈ tb := tbm 991 (by decide +kernel) rfl
theorem kw_992 : (Jvm.Cond.fieldLink "GreenPathModel" (7 : Nat) "GreenPathModel" "d" "[I") ∈ tb := tbm 992 (by decide +kernel) rfl
theorem kw_993 : (Jvm.Cond.fieldLink "GreenPathModel" (13 : Nat) "GreenPathModel" "kept" "[I") ∈ tb := tbm 993 (by decide +kernel) rfl
theorem kw_994 : (Jvm.Cond.fieldLink "GreenPathModel" (307 : Nat) "GreenPathModel" "images" "I") ∈ tb := tbm 994 (by decide +kernel) rfl
theorem kw_995 : (Jvm.Cond.fieldLink "GreenPathModel" (16 : Nat) "GreenPathModel" "found" "[I") ∈ tb := tbm 995 (by decide +kernel) rfl
theorem kw_996 : (Jvm.Cond.fieldLink "GreenPathModel" (104 : Nat) "GreenPathModel" "base" "I") ∈ tb := tbm 996 (by decide +kernel) rfl
theorem kw_997 : (Jvm.Cond.fieldLink "GreenPathModel" (94 : Nat) "GreenPathModel" "at" "I") ∈ tb := tbm 997 (by decide +kernel) rfl
theorem kw_998 : (Jvm.Cond.fieldLink "GreenPathModel" (98 : Nat) "GreenPathModel" "size" "I") ∈ tb := tbm 998 (by decide +kernel) rfl
theorem kw_999 : (Jvm.Cond.fieldLink "GreenPathModel" (101 : Nat) "GreenPathModel" "fault" "I") ∈ tb := tbm 999 (by decide +kernel) rfl
theorem kw_1000 : (Jvm.Cond.fieldLink "GreenPathModel" (134 : Nat) "GreenPathModel" "opened" "I") ∈ tb := tbm 1000 (by decide +kernel) rfl
theorem kw_1001 : (Jvm.Cond.fieldLink "GreenPathModel" (111 : Nat) "GreenPathModel" "isPrice" "Z") ∈ tb := tbm 1001 (by decide +kernel) rfl
theorem kw_1002 : (Jvm.Cond.fieldLink "GreenPathModel" (19 : Nat) "GreenPathModel" "names" "[I") ∈ tb := tbm 1002 (by decide +kernel) rfl
theorem kw_1003 : (Jvm.Cond.fieldLink "GreenPathModel" (22 : Nat) "GreenPathModel" "comes" "[I") ∈ tb := tbm 1003 (by decide +kernel) rfl
theorem kw_1004 : (Jvm.Cond.fieldLink "GreenPathModel" (25 : Nat) "GreenPathModel" "far" "[I") ∈ tb := tbm 1004 (by decide +kernel) rfl
theorem kw_1005 : (Jvm.Cond.fieldLink "GreenPathModel" (28 : Nat) "GreenPathModel" "line" "[I") ∈ tb := tbm 1005 (by decide +kernel) rfl
theorem kw_1006 : (Jvm.Cond.fieldLink "GreenPathModel" (31 : Nat) "GreenPathModel" "leads" "[Z") ∈ tb := tbm 1006 (by decide +kernel) rfl
theorem kw_1007 : (Jvm.Cond.fieldLink "GreenPathModel" (35 : Nat) "GreenPathModel" "waysTo" "[J") ∈ tb := tbm 1007 (by decide +kernel) rfl
theorem kw_1008 : (Jvm.Cond.fieldLink "GreenPathModel" (39 : Nat) "GreenPathModel" "waysThen" "[J") ∈ tb := tbm 1008 (by decide +kernel) rfl
theorem kw_1009 : (Jvm.Cond.fieldLink "GreenPathModel" (42 : Nat) "GreenPathModel" "could" "[Z") ∈ tb := tbm 1009 (by decide +kernel) rfl
theorem kw_1010 : (Jvm.Cond.fieldLink "GreenPathModel" (45 : Nat) "GreenPathModel" "couldAhead" "[Z") ∈ tb := tbm 1010 (by decide +kernel) rfl
theorem kw_1011 : (Jvm.Cond.fieldLink "GreenPathModel" (48 : Nat) "GreenPathModel" "sureFirst" "[Z") ∈ tb := tbm 1011 (by decide +kernel) rfl
theorem kw_1012 : (Jvm.Cond.fieldLink "GreenPathModel" (51 : Nat) "GreenPathModel" "sureOther" "[Z") ∈ tb := tbm 1012 (by decide +kernel) rfl
theorem kw_1013 : (Jvm.Cond.fieldLink "GreenPathModel" (54 : Nat) "GreenPathModel" "thenFirst" "[Z") ∈ tb := tbm 1013 (by decide +kernel) rfl
theorem kw_1014 : (Jvm.Cond.fieldLink "GreenPathModel" (57 : Nat) "GreenPathModel" "thenOther" "[Z") ∈ tb := tbm 1014 (by decide +kernel) rfl
theorem kw_1015 : (Jvm.Cond.fieldLink "GreenPathModel" (60 : Nat) "GreenPathModel" "traced" "[I") ∈ tb := tbm 1015 (by decide +kernel) rfl
theorem kw_1016 : (Jvm.Cond.fieldLink "GreenPathModel" (274 : Nat) "GreenPathModel" "traceMany" "I") ∈ tb := tbm 1016 (by decide +kernel) rfl
theorem kw_1017 : (Jvm.Cond.fieldLink "GreenPathModel" (277 : Nat) "GreenPathModel" "who" "I") ∈ tb := tbm 1017 (by decide +kernel) rfl
theorem kw_1018 : (Jvm.Cond.fieldLink "GreenPathModel" (63 : Nat) "GreenPathModel" "bitsOf" "[I") ∈ tb := tbm 1018 (by decide +kernel) rfl
theorem kw_1019 : (Jvm.Cond.fieldLink "GreenPathModel" (66 : Nat) "GreenPathModel" "sizeOf" "[I") ∈ tb := tbm 1019 (by decide +kernel) rfl
theorem kw_1020 : (Jvm.Cond.fieldLink "GreenPathModel" (69 : Nat) "GreenPathModel" "number" "[I") ∈ tb := tbm 1020 (by decide +kernel) rfl
theorem kw_1021 : (Jvm.Cond.fieldLink "GreenPathModel" (72 : Nat) "GreenPathModel" "lifted" "[I") ∈ tb := tbm 1021 (by decide +kernel) rfl
theorem kw_1022 : (Jvm.Cond.laysFinal "GreenPathModel" "GreenPathModel" "d" "[I") ∈ tb := tbm 1022 (by decide +kernel) rfl
theorem kw_1024 : (Jvm.Cond.laysFinal "GreenPathModel" "GreenPathModel" "kept" "[I") ∈ tb := tbm 1024 (by decide +kernel) rfl
theorem kw_1026 : (Jvm.Cond.lays "GreenPathModel" "GreenPathModel" "images" "I") ∈ tb := tbm 1026 (by decide +kernel) rfl
theorem kw_1028 : (Jvm.Cond.laysFinal "GreenPathModel" "GreenPathModel" "found" "[I") ∈ tb := tbm 1028 (by decide +kernel) rfl
theorem kw_1030 : (Jvm.Cond.lays "GreenPathModel" "GreenPathModel" "base" "I") ∈ tb := tbm 1030 (by decide +kernel) rfl
theorem kw_1032 : (Jvm.Cond.lays "GreenPathModel" "GreenPathModel" "at" "I") ∈ tb := tbm 1032 (by decide +kernel) rfl
theorem kw_1034 : (Jvm.Cond.lays "GreenPathModel" "GreenPathModel" "size" "I") ∈ tb := tbm 1034 (by decide +kernel) rfl
theorem kw_1036 : (Jvm.Cond.lays "GreenPathModel" "GreenPathModel" "fault" "I") ∈ tb := tbm 1036 (by decide +kernel) rfl
theorem kw_1038 : (Jvm.Cond.lays "GreenPathModel" "GreenPathModel" "opened" "I") ∈ tb := tbm 1038 (by decide +kernel) rfl
theorem kw_1040 : (Jvm.Cond.lays "GreenPathModel" "GreenPathModel" "isPrice" "Z") ∈ tb := tbm 1040 (by decide +kernel) rfl
theorem kw_1042 : (Jvm.Cond.laysFinal "GreenPathModel" "GreenPathModel" "names" "[I") ∈ tb := tbm 1042 (by decide +kernel) rfl
theorem kw_1044 : (Jvm.Cond.laysFinal "GreenPathModel" "GreenPathModel" "comes" "[I") ∈ tb := tbm 1044 (by decide +kernel) rfl
theorem kw_1046 : (Jvm.Cond.laysFinal "GreenPathModel" "GreenPathModel" "far" "[I") ∈ tb := tbm 1046 (by decide +kernel) rfl
theorem kw_1048 : (Jvm.Cond.laysFinal "GreenPathModel" "GreenPathModel" "line" "[I") ∈ tb := tbm 1048 (by decide +kernel) rfl
theorem kw_1050 : (Jvm.Cond.laysFinal "GreenPathModel" "GreenPathModel" "leads" "[Z") ∈ tb := tbm 1050 (by decide +kernel) rfl
theorem kw_1052 : (Jvm.Cond.laysFinal "GreenPathModel" "GreenPathModel" "waysTo" "[J") ∈ tb := tbm 1052 (by decide +kernel) rfl
theorem kw_1054 : (Jvm.Cond.laysFinal "GreenPathModel" "GreenPathModel" "waysThen" "[J") ∈ tb := tbm 1054 (by decide +kernel) rfl
theorem kw_1056 : (Jvm.Cond.laysFinal "GreenPathModel" "GreenPathModel" "could" "[Z") ∈ tb := tbm 1056 (by decide +kernel) rfl
theorem kw_1058 : (Jvm.Cond.laysFinal "GreenPathModel" "GreenPathModel" "couldAhead" "[Z") ∈ tb := tbm 1058 (by decide +kernel) rfl
theorem kw_1060 : (Jvm.Cond.laysFinal "GreenPathModel" "GreenPathModel" "sureFirst" "[Z") ∈ tb := tbm 1060 (by decide +kernel) rfl
theorem kw_1062 : (Jvm.Cond.laysFinal "GreenPathModel" "GreenPathModel" "sureOther" "[Z") ∈ tb := tbm 1062 (by decide +kernel) rfl
theorem kw_1064 : (Jvm.Cond.laysFinal "GreenPathModel" "GreenPathModel" "thenFirst" "[Z") ∈ tb := tbm 1064 (by decide +kernel) rfl
theorem kw_1066 : (Jvm.Cond.laysFinal "GreenPathModel" "GreenPathModel" "thenOther" "[Z") ∈ tb := tbm 1066 (by decide +kernel) rfl
theorem kw_1068 : (Jvm.Cond.laysFinal "GreenPathModel" "GreenPathModel" "traced" "[I") ∈ tb := tbm 1068 (by decide +kernel) rfl
theorem kw_1070 : (Jvm.Cond.lays "GreenPathModel" "GreenPathModel" "traceMany" "I") ∈ tb := tbm 1070 (by decide +kernel) rfl
theorem kw_1072 : (Jvm.Cond.lays "GreenPathModel" "GreenPathModel" "who" "I") ∈ tb := tbm 1072 (by decide +kernel) rfl
theorem kw_1074 : (Jvm.Cond.laysFinal "GreenPathModel" "GreenPathModel" "bitsOf" "[I") ∈ tb := tbm 1074 (by decide +kernel) rfl
theorem kw_1076 : (Jvm.Cond.laysFinal "GreenPathModel" "GreenPathModel" "sizeOf" "[I") ∈ tb := tbm 1076 (by decide +kernel) rfl
theorem kw_1078 : (Jvm.Cond.laysFinal "GreenPathModel" "GreenPathModel" "number" "[I") ∈ tb := tbm 1078 (by decide +kernel) rfl
theorem kw_1080 : (Jvm.Cond.laysFinal "GreenPathModel" "GreenPathModel" "lifted" "[I") ∈ tb := tbm 1080 (by decide +kernel) rfl
theorem kw_1082 : (Jvm.Cond.superclass "GreenPathModel" "java/lang/Object") ∈ tb := tbm 1082 (by decide +kernel) rfl
theorem kw_1083 : (Jvm.Cond.arrayClass Jvm.ClassFile.FieldType.boolean) ∈ tb := tbm 1083 (by decide +kernel) rfl
theorem kw_1084 : (Jvm.Cond.methodLink "GreenPathLaw" (45 : Nat) ({ cls := "GreenPathModel", name := "feed", desc := "(JI)I" } : Jvm.MethodName)) ∈ tb := tbm 1084 (by decide +kernel) rfl
theorem kw_1085 : (Jvm.Cond.instanceMethod ({ cls := "GreenPathModel", name := "feed", desc := "(JI)I" } : Jvm.MethodName)) ∈ tb := tbm 1085 (by decide +kernel) rfl
theorem kw_1086 : (Jvm.Cond.selects "GreenPathModel" ({ cls := "GreenPathModel", name := "feed", desc := "(JI)I" } : Jvm.MethodName) ({ cls := "GreenPathModel", name := "feed", desc := "(JI)I" } : Jvm.MethodName)) ∈ tb := tbm 1086 (by decide +kernel) rfl
theorem kw_1087 : (Jvm.Cond.code ({ cls := "GreenPathModel", name := "feed", desc := "(JI)I" } : Jvm.MethodName) prog_14_method_27_code (5 : Nat) (Option.some Jvm.ClassFile.FieldType.int)) ∈ tb := tbm 1087 (by decide +kernel) rfl
theorem kw_1088 : (Jvm.Cond.constantLong "GreenPathModel" (150 : Nat) (8 : Int64)) ∈ tb := tbm 1088 (by decide +kernel) rfl
theorem kw_1089 : (Jvm.Cond.methodLink "GreenPathModel" (78 : Nat) ({ cls := "GreenPathModel", name := "in", desc := "(JJJ)Z" } : Jvm.MethodName)) ∈ tb := tbm 1089 (by decide +kernel) rfl
theorem kw_1090 : (Jvm.Cond.static ({ cls := "GreenPathModel", name := "in", desc := "(JJJ)Z" } : Jvm.MethodName)) ∈ tb := tbm 1090 (by decide +kernel) rfl
theorem kw_1091 : (Jvm.Cond.code ({ cls := "GreenPathModel", name := "in", desc := "(JJJ)Z" } : Jvm.MethodName) prog_14_method_4_code (6 : Nat) (Option.some Jvm.ClassFile.FieldType.boolean)) ∈ tb := tbm 1091 (by decide +kernel) rfl
theorem kw_1092 : (Jvm.Cond.methodLink "GreenPathModel" (152 : Nat) ({ cls := "GreenPathModel", name := "finds", desc := "(I)I" } : Jvm.MethodName)) ∈ tb := tbm 1092 (by decide +kernel) rfl
theorem kw_1094 : (Jvm.Cond.instanceMethod ({ cls := "GreenPathModel", name := "finds", desc := "(I)I" } : Jvm.MethodName)) ∈ tb := tbm 1094 (by decide +kernel) rfl
theorem kw_1095 : (Jvm.Cond.code ({ cls := "GreenPathModel", name := "finds", desc := "(I)I" } : Jvm.MethodName) prog_14_method_3_code (2 : Nat) (Option.some Jvm.ClassFile.FieldType.int)) ∈ tb := tbm 1095 (by decide +kernel) rfl
theorem kw_1096 : (Jvm.Cond.constant "GreenPathModel" (75 : Nat) (-1000000000 : Int32)) ∈ tb := tbm 1096 (by decide +kernel) rfl
theorem kw_1097 : (Jvm.Cond.constantLong "GreenPathModel" (155 : Nat) (255 : Int64)) ∈ tb := tbm 1097 (by decide +kernel) rfl
theorem kw_1098 : (Jvm.Cond.methodLink "GreenPathLaw" (49 : Nat) ({ cls := "GreenPathModel", name := "text", desc := "(I)I" } : Jvm.MethodName)) ∈ tb := tbm 1098 (by decide +kernel) rfl
theorem kw_1099 : (Jvm.Cond.instanceMethod ({ cls := "GreenPathModel", name := "text", desc := "(I)I" } : Jvm.MethodName)) ∈ tb := tbm 1099 (by decide +kernel) rfl
theorem kw_1100 : (Jvm.Cond.selects "GreenPathModel" ({ cls := "GreenPathModel", name := "text", desc := "(I)I" } : Jvm.MethodName) ({ cls := "GreenPathModel", name := "text", desc := "(I)I" } : Jvm.MethodName)) ∈ tb := tbm 1100 (by decide +kernel) rfl
theorem kw_1101 : (Jvm.Cond.code ({ cls := "GreenPathModel", name := "text", desc := "(I)I" } : Jvm.MethodName) prog_14_method_28_code (5 : Nat) (Option.some Jvm.ClassFile.FieldType.int)) ∈ tb := tbm 1101 (by decide +kernel) rfl
theorem kw_1102 : (Jvm.Cond.methodLink "GreenPathModel" (157 : Nat) ({ cls := "GreenPathModel", name := "worked", desc := "(III)I" } : Jvm.MethodName)) ∈ tb := tbm 1102 (by decide +kernel) rfl
theorem kw_1104 : (Jvm.Cond.instanceMethod ({ cls := "GreenPathModel", name := "worked", desc := "(III)I" } : Jvm.MethodName)) ∈ tb := tbm 1104 (by decide +kernel) rfl
theorem kw_1105 : (Jvm.Cond.code ({ cls := "GreenPathModel", name := "worked", desc := "(III)I" } : Jvm.MethodName) prog_14_method_26_code (5 : Nat) (Option.some Jvm.ClassFile.FieldType.int)) ∈ tb := tbm 1105 (by decide +kernel) rfl
theorem kw_1106 : (Jvm.Cond.methodLink "GreenPathModel" (140 : Nat) ({ cls := "GreenPathModel", name := "either", desc := "()I" } : Jvm.MethodName)) ∈ tb := tbm 1106 (by decide +kernel) rfl
theorem kw_1108 : (Jvm.Cond.instanceMethod ({ cls := "GreenPathModel", name := "either", desc := "()I" } : Jvm.MethodName)) ∈ tb := tbm 1108 (by decide +kernel) rfl
theorem kw_1109 : (Jvm.Cond.code ({ cls := "GreenPathModel", name := "either", desc := "()I" } : Jvm.MethodName) prog_14_method_20_code (3 : Nat) (Option.some Jvm.ClassFile.FieldType.int)) ∈ tb := tbm 1109 (by decide +kernel) rfl
theorem kw_1110 : (Jvm.Cond.methodLink "GreenPathModel" (115 : Nat) ({ cls := "GreenPathModel", name := "both", desc := "()I" } : Jvm.MethodName)) ∈ tb := tbm 1110 (by decide +kernel) rfl
theorem kw_1112 : (Jvm.Cond.instanceMethod ({ cls := "GreenPathModel", name := "both", desc := "()I" } : Jvm.MethodName)) ∈ tb := tbm 1112 (by decide +kernel) rfl
theorem kw_1113 : (Jvm.Cond.code ({ cls := "GreenPathModel", name := "both", desc := "()I" } : Jvm.MethodName) prog_14_method_21_code (3 : Nat) (Option.some Jvm.ClassFile.FieldType.int)) ∈ tb := tbm 1113 (by decide +kernel) rfl
theorem kw_1114 : (Jvm.Cond.methodLink "GreenPathModel" (122 : Nat) ({ cls := "GreenPathModel", name := "compared", desc := "()I" } : Jvm.MethodName)) ∈ tb := tbm 1114 (by decide +kernel) rfl
theorem kw_1116 : (Jvm.Cond.instanceMethod ({ cls := "GreenPathModel", name := "compared", desc := "()I" } : Jvm.MethodName)) ∈ tb := tbm 1116 (by decide +kernel) rfl
theorem kw_1117 : (Jvm.Cond.code ({ cls := "GreenPathModel", name := "compared", desc := "()I" } : Jvm.MethodName) prog_14_method_22_code (4 : Nat) (Option.some Jvm.ClassFile.FieldType.int)) ∈ tb := tbm 1117 (by decide +kernel) rfl
theorem kw_1118 : (Jvm.Cond.methodLink "GreenPathModel" (125 : Nat) ({ cls := "GreenPathModel", name := "sum", desc := "()I" } : Jvm.MethodName)) ∈ tb := tbm 1118 (by decide +kernel) rfl
theorem kw_1120 : (Jvm.Cond.instanceMethod ({ cls := "GreenPathModel", name := "sum", desc := "()I" } : Jvm.MethodName)) ∈ tb := tbm 1120 (by decide +kernel) rfl
theorem kw_1121 : (Jvm.Cond.code ({ cls := "GreenPathModel", name := "sum", desc := "()I" } : Jvm.MethodName) prog_14_method_23_code (4 : Nat) (Option.some Jvm.ClassFile.FieldType.int)) ∈ tb := tbm 1121 (by decide +kernel) rfl
theorem kw_1122 : (Jvm.Cond.methodLink "GreenPathModel" (128 : Nat) ({ cls := "GreenPathModel", name := "product", desc := "()I" } : Jvm.MethodName)) ∈ tb := tbm 1122 (by decide +kernel) rfl
theorem kw_1124 : (Jvm.Cond.instanceMethod ({ cls := "GreenPathModel", name := "product", desc := "()I" } : Jvm.MethodName)) ∈ tb := tbm 1124 (by decide +kernel) rfl
theorem kw_1125 : (Jvm.Cond.code ({ cls := "GreenPathModel", name := "product", desc := "()I" } : Jvm.MethodName) prog_14_method_24_code (4 : Nat) (Option.some Jvm.ClassFile.FieldType.int)) ∈ tb := tbm 1125 (by decide +kernel) rfl
theorem kw_1126 : (Jvm.Cond.methodLink "GreenPathModel" (131 : Nat) ({ cls := "GreenPathModel", name := "unit", desc := "()I" } : Jvm.MethodName)) ∈ tb := tbm 1126 (by decide +kernel) rfl
theorem kw_1128 : (Jvm.Cond.instanceMethod ({ cls := "GreenPathModel", name := "unit", desc := "()I" } : Jvm.MethodName)) ∈ tb := tbm 1128 (by decide +kernel) rfl
theorem kw_1129 : (Jvm.Cond.code ({ cls := "GreenPathModel", name := "unit", desc := "()I" } : Jvm.MethodName) prog_14_method_25_code (5 : Nat) (Option.some Jvm.ClassFile.FieldType.int)) ∈ tb := tbm 1129 (by decide +kernel) rfl
theorem kw_1130 : (Jvm.Cond.methodLink "GreenPathModel" (107 : Nat) ({ cls := "GreenPathModel", name := "here", desc := "()I" } : Jvm.MethodName)) ∈ tb := tbm 1130 (by decide +kernel) rfl
theorem kw_1132 : (Jvm.Cond.instanceMethod ({ cls := "GreenPathModel", name := "here", desc := "()I" } : Jvm.MethodName)) ∈ tb := tbm 1132 (by decide +kernel) rfl
theorem kw_1133 : (Jvm.Cond.code ({ cls := "GreenPathModel", name := "here", desc := "()I" } : Jvm.MethodName) prog_14_method_16_code (1 : Nat) (Option.some Jvm.ClassFile.FieldType.int)) ∈ tb := tbm 1133 (by decide +kernel) rfl
theorem kw_1134 : (Jvm.Cond.methodLink "GreenPathModel" (137 : Nat) ({ cls := "GreenPathModel", name := "wrong", desc := "()I" } : Jvm.MethodName)) ∈ tb := tbm 1134 (by decide +kernel) rfl
theorem kw_1136 : (Jvm.Cond.instanceMethod ({ cls := "GreenPathModel", name := "wrong", desc := "()I" } : Jvm.MethodName)) ∈ tb := tbm 1136 (by decide +kernel) rfl
theorem kw_1137 : (Jvm.Cond.code ({ cls := "GreenPathModel", name := "wrong", desc := "()I" } : Jvm.MethodName) prog_14_method_17_code (1 : Nat) (Option.some Jvm.ClassFile.FieldType.int)) ∈ tb := tbm 1137 (by decide +kernel) rfl
theorem kw_1138 : (Jvm.Cond.methodLink "GreenPathModel" (118 : Nat) ({ cls := "GreenPathModel", name := "takes", desc := "(I)Z" } : Jvm.MethodName)) ∈ tb := tbm 1138 (by decide +kernel) rfl
theorem kw_1140 : (Jvm.Cond.instanceMethod ({ cls := "GreenPathModel", name := "takes", desc := "(I)Z" } : Jvm.MethodName)) ∈ tb := tbm 1140 (by decide +kernel) rfl
theorem kw_1141 : (Jvm.Cond.code ({ cls := "GreenPathModel", name := "takes", desc := "(I)Z" } : Jvm.MethodName) prog_14_method_18_code (2 : Nat) (Option.some Jvm.ClassFile.FieldType.boolean)) ∈ tb := tbm 1141 (by decide +kernel) rfl
theorem kw_1142 : (Jvm.Cond.methodLink "GreenPathModel" (143 : Nat) ({ cls := "GreenPathModel", name := "nameOf", desc := "(I)I" } : Jvm.MethodName)) ∈ tb := tbm 1142 (by decide +kernel) rfl
theorem kw_1144 : (Jvm.Cond.instanceMethod ({ cls := "GreenPathModel", name := "nameOf", desc := "(I)I" } : Jvm.MethodName)) ∈ tb := tbm 1144 (by decide +kernel) rfl
theorem kw_1145 : (Jvm.Cond.code ({ cls := "GreenPathModel", name := "nameOf", desc := "(I)I" } : Jvm.MethodName) prog_14_method_19_code (2 : Nat) (Option.some Jvm.ClassFile.FieldType.int)) ∈ tb := tbm 1145 (by decide +kernel) rfl
theorem kw_1146 : (Jvm.Cond.constantLong "GreenPathModel" (146 : Nat) (48 : Int64)) ∈ tb := tbm 1146 (by decide +kernel) rfl
theorem kw_1147 : (Jvm.Cond.constantLong "GreenPathModel" (148 : Nat) (57 : Int64)) ∈ tb := tbm 1147 (by decide +kernel) rfl
theorem kw_1148 : (Jvm.Cond.methodLink "GreenPathLaw" (54 : Nat) ({ cls := "GreenPathModel", name := "gives", desc := "(IIIII)I" } : Jvm.MethodName)) ∈ tb := tbm 1148 (by decide +kernel) rfl
theorem kw_1149 : (Jvm.Cond.instanceMethod ({ cls := "GreenPathModel", name := "gives", desc := "(IIIII)I" } : Jvm.MethodName)) ∈ tb := tbm 1149 (by decide +kernel) rfl
theorem kw_1150 : (Jvm.Cond.selects "GreenPathModel" ({ cls := "GreenPathModel", name := "gives", desc := "(IIIII)I" } : Jvm.MethodName) ({ cls := "GreenPathModel", name := "gives", desc := "(IIIII)I" } : Jvm.MethodName)) ∈ tb := tbm 1150 (by decide +kernel) rfl
theorem kw_1151 : (Jvm.Cond.code ({ cls := "GreenPathModel", name := "gives", desc := "(IIIII)I" } : Jvm.MethodName) prog_14_method_30_code (6 : Nat) (Option.some Jvm.ClassFile.FieldType.int)) ∈ tb := tbm 1151 (by decide +kernel) rfl
theorem kw_1152 : (Jvm.Cond.methodLink "GreenPathModel" (164 : Nat) ({ cls := "GreenPathModel", name := "given", desc := "(IIIII)I" } : Jvm.MethodName)) ∈ tb := tbm 1152 (by decide +kernel) rfl
theorem kw_1154 : (Jvm.Cond.instanceMethod ({ cls := "GreenPathModel", name := "given", desc := "(IIIII)I" } : Jvm.MethodName)) ∈ tb := tbm 1154 (by decide +kernel) rfl
theorem kw_1155 : (Jvm.Cond.code ({ cls := "GreenPathModel", name := "given", desc := "(IIIII)I" } : Jvm.MethodName) prog_14_method_29_code (7 : Nat) (Option.some Jvm.ClassFile.FieldType.int)) ∈ tb := tbm 1155 (by decide +kernel) rfl
theorem kw_1156 : (Jvm.Cond.methodLink "GreenPathModel" (161 : Nat) ({ cls := "GreenPathModel", name := "held", desc := "(III)I" } : Jvm.MethodName)) ∈ tb := tbm 1156 (by decide +kernel) rfl
theorem kw_1157 : (Jvm.Cond.static ({ cls := "GreenPathModel", name := "held", desc := "(III)I" } : Jvm.MethodName)) ∈ tb := tbm 1157 (by decide +kernel) rfl
theorem kw_1158 : (Jvm.Cond.code ({ cls := "GreenPathModel", name := "held", desc := "(III)I" } : Jvm.MethodName) prog_14_method_5_code (3 : Nat) (Option.some Jvm.ClassFile.FieldType.int)) ∈ tb := tbm 1158 (by decide +kernel) rfl
theorem kw_1159 : (Jvm.Cond.methodLink "GreenPathLaw" (17 : Nat) ({ cls := "GreenPathModel", name := "be", desc := "(II)I" } : Jvm.MethodName)) ∈ tb := tbm 1159 (by decide +kernel) rfl
theorem kw_1160 : (Jvm.Cond.instanceMethod ({ cls := "GreenPathModel", name := "be", desc := "(II)I" } : Jvm.MethodName)) ∈ tb := tbm 1160 (by decide +kernel) rfl
theorem kw_1161 : (Jvm.Cond.selects "GreenPathModel" ({ cls := "GreenPathModel", name := "be", desc := "(II)I" } : Jvm.MethodName) ({ cls := "GreenPathModel", name := "be", desc := "(II)I" } : Jvm.MethodName)) ∈ tb := tbm 1161 (by decide +kernel) rfl
theorem kw_1162 : (Jvm.Cond.code ({ cls := "GreenPathModel", name := "be", desc := "(II)I" } : Jvm.MethodName) prog_14_method_31_code (4 : Nat) (Option.some Jvm.ClassFile.FieldType.int)) ∈ tb := tbm 1162 (by decide +kernel) rfl
theorem kw_1163 : (Jvm.Cond.methodLink "GreenPathModel" (168 : Nat) ({ cls := "GreenPathModel", name := "isSort", desc := "(I)Z" } : Jvm.MethodName)) ∈ tb := tbm 1163 (by decide +kernel) rfl
theorem kw_1164 : (Jvm.Cond.static ({ cls := "GreenPathModel", name := "isSort", desc := "(I)Z" } : Jvm.MethodName)) ∈ tb := tbm 1164 (by decide +kernel) rfl
theorem kw_1165 : (Jvm.Cond.code ({ cls := "GreenPathModel", name := "isSort", desc := "(I)Z" } : Jvm.MethodName) prog_14_method_7_code (1 : Nat) (Option.some Jvm.ClassFile.FieldType.boolean)) ∈ tb := tbm 1165 (by decide +kernel) rfl
theorem kw_1166 : (Jvm.Cond.constantLong "GreenPathModel" (76 : Nat) (2 : Int64)) ∈ tb := tbm 1166 (by decide +kernel) rfl
theorem kw_1167 : (Jvm.Cond.constantLong "GreenPathModel" (171 : Nat) (12 : Int64)) ∈ tb := tbm 1167 (by decide +kernel) rfl
theorem kw_1168 : (Jvm.Cond.methodLink "GreenPathModel" (173 : Nat) ({ cls := "GreenPathModel", name := "now", desc := "()I" } : Jvm.MethodName)) ∈ tb := tbm 1168 (by decide +kernel) rfl
theorem kw_1170 : (Jvm.Cond.instanceMethod ({ cls := "GreenPathModel", name := "now", desc := "()I" } : Jvm.MethodName)) ∈ tb := tbm 1170 (by decide +kernel) rfl
theorem kw_1171 : (Jvm.Cond.code ({ cls := "GreenPathModel", name := "now", desc := "()I" } : Jvm.MethodName) prog_14_method_14_code (1 : Nat) (Option.some Jvm.ClassFile.FieldType.int)) ∈ tb := tbm 1171 (by decide +kernel) rfl
theorem kw_1172 : (Jvm.Cond.methodLink "GreenPathModel" (86 : Nat) ({ cls := "GreenPathModel", name := "allIn", desc := "(I)I" } : Jvm.MethodName)) ∈ tb := tbm 1172 (by decide +kernel) rfl
theorem kw_1173 : (Jvm.Cond.static ({ cls := "GreenPathModel", name := "allIn", desc := "(I)I" } : Jvm.MethodName)) ∈ tb := tbm 1173 (by decide +kernel) rfl
theorem kw_1174 : (Jvm.Cond.code ({ cls := "GreenPathModel", name := "allIn", desc := "(I)I" } : Jvm.MethodName) prog_14_method_12_code (1 : Nat) (Option.some Jvm.ClassFile.FieldType.int)) ∈ tb := tbm 1174 (by decide +kernel) rfl
theorem kw_1175 : (Jvm.Cond.methodLink "GreenPathLaw" (22 : Nat) ({ cls := "GreenPathModel", name := "of", desc := "(I)I" } : Jvm.MethodName)) ∈ tb := tbm 1175 (by decide +kernel) rfl
theorem kw_1176 : (Jvm.Cond.instanceMethod ({ cls := "GreenPathModel", name := "of", desc := "(I)I" } : Jvm.MethodName)) ∈ tb := tbm 1176 (by decide +kernel) rfl
theorem kw_1177 : (Jvm.Cond.selects "GreenPathModel" ({ cls := "GreenPathModel", name := "of", desc := "(I)I" } : Jvm.MethodName) ({ cls := "GreenPathModel", name := "of", desc := "(I)I" } : Jvm.MethodName)) ∈ tb := tbm 1177 (by decide +kernel) rfl
theorem kw_1178 : (Jvm.Cond.code ({ cls := "GreenPathModel", name := "of", desc := "(I)I" } : Jvm.MethodName) prog_14_method_32_code (2 : Nat) (Option.some Jvm.ClassFile.FieldType.int)) ∈ tb := tbm 1178 (by decide +kernel) rfl
theorem kw_1179 : (Jvm.Cond.methodLink "GreenPathLaw" (26 : Nat) ({ cls := "GreenPathModel", name := "law", desc := "(II)I" } : Jvm.MethodName)) ∈ tb := tbm 1179 (by decide +kernel) rfl
theorem kw_1180 : (Jvm.Cond.instanceMethod ({ cls := "GreenPathModel", name := "law", desc := "(II)I" } : Jvm.MethodName)) ∈ tb := tbm 1180 (by decide +kernel) rfl
theorem kw_1181 : (Jvm.Cond.selects "GreenPathModel" ({ cls := "GreenPathModel", name := "law", desc := "(II)I" } : Jvm.MethodName) ({ cls := "GreenPathModel", name := "law", desc := "(II)I" } : Jvm.MethodName)) ∈ tb := tbm 1181 (by decide +kernel) rfl
theorem kw_1182 : (Jvm.Cond.code ({ cls := "GreenPathModel", name := "law", desc := "(II)I" } : Jvm.MethodName) prog_14_method_33_code (4 : Nat) (Option.some Jvm.ClassFile.FieldType.int)) ∈ tb := tbm 1182 (by decide +kernel) rfl
theorem kw_1183 : (Jvm.Cond.methodLink "GreenPathModel" (176 : Nat) ({ cls := "GreenPathModel", name := "isPair", desc := "(I)Z" } : Jvm.MethodName)) ∈ tb := tbm 1183 (by decide +kernel) rfl
theorem kw_1184 : (Jvm.Cond.static ({ cls := "GreenPathModel", name := "isPair", desc := "(I)Z" } : Jvm.MethodName)) ∈ tb := tbm 1184 (by decide +kernel) rfl
theorem kw_1185 : (Jvm.Cond.code ({ cls := "GreenPathModel", name := "isPair", desc := "(I)Z" } : Jvm.MethodName) prog_14_method_8_code (1 : Nat) (Option.some Jvm.ClassFile.FieldType.boolean)) ∈ tb := tbm 1185 (by decide +kernel) rfl
theorem kw_1186 : (Jvm.Cond.constantLong "GreenPathModel" (82 : Nat) (5 : Int64)) ∈ tb := tbm 1186 (by decide +kernel) rfl
theorem kw_1187 : (Jvm.Cond.constantLong "GreenPathModel" (179 : Nat) (69 : Int64)) ∈ tb := tbm 1187 (by decide +kernel) rfl
theorem kw_1188 : (Jvm.Cond.methodLink "GreenPathLaw" (30 : Nat) ({ cls := "GreenPathModel", name := "fence", desc := "(II)I" } : Jvm.MethodName)) ∈ tb := tbm 1188 (by decide +kernel) rfl
theorem kw_1189 : (Jvm.Cond.instanceMethod ({ cls := "GreenPathModel", name := "fence", desc := "(II)I" } : Jvm.MethodName)) ∈ tb := tbm 1189 (by decide +kernel) rfl
theorem kw_1190 : (Jvm.Cond.selects "GreenPathModel" ({ cls := "GreenPathModel", name := "fence", desc := "(II)I" } : Jvm.MethodName) ({ cls := "GreenPathModel", name := "fence", desc := "(II)I" } : Jvm.MethodName)) ∈ tb := tbm 1190 (by decide +kernel) rfl
theorem kw_1191 : (Jvm.Cond.code ({ cls := "GreenPathModel", name := "fence", desc := "(II)I" } : Jvm.MethodName) prog_14_method_34_code (4 : Nat) (Option.some Jvm.ClassFile.FieldType.int)) ∈ tb := tbm 1191 (by decide +kernel) rfl
theorem kw_1192 : (Jvm.Cond.methodLink "GreenPathLaw" (34 : Nat) ({ cls := "GreenPathModel", name := "ofPair", desc := "(II)I" } : Jvm.MethodName)) ∈ tb := tbm 1192 (by decide +kernel) rfl
theorem kw_1193 : (Jvm.Cond.instanceMethod ({ cls := "GreenPathModel", name := "ofPair", desc := "(II)I" } : Jvm.MethodName)) ∈ tb := tbm 1193 (by decide +kernel) rfl
theorem kw_1194 : (Jvm.Cond.selects "GreenPathModel" ({ cls := "GreenPathModel", name := "ofPair", desc := "(II)I" } : Jvm.MethodName) ({ cls := "GreenPathModel", name := "ofPair", desc := "(II)I" } : Jvm.MethodName)) ∈ tb := tbm 1194 (by decide +kernel) rfl
theorem kw_1195 : (Jvm.Cond.code ({ cls := "GreenPathModel", name := "ofPair", desc := "(II)I" } : Jvm.MethodName) prog_14_method_43_code (3 : Nat) (Option.some Jvm.ClassFile.FieldType.int)) ∈ tb := tbm 1195 (by decide +kernel) rfl
theorem kw_1196 : (Jvm.Cond.constantLong "GreenPathModel" (201 : Nat) (7 : Int64)) ∈ tb := tbm 1196 (by decide +kernel) rfl
theorem kw_1197 : (Jvm.Cond.methodLink "GreenPathModel" (203 : Nat) ({ cls := "GreenPathModel", name := "findAll", desc := "()V" } : Jvm.MethodName)) ∈ tb := tbm 1197 (by decide +kernel) rfl
theorem kw_1199 : (Jvm.Cond.instanceMethod ({ cls := "GreenPathModel", name := "findAll", desc := "()V" } : Jvm.MethodName)) ∈ tb := tbm 1199 (by decide +kernel) rfl
theorem kw_1200 : (Jvm.Cond.code ({ cls := "GreenPathModel", name := "findAll", desc := "()V" } : Jvm.MethodName) prog_14_method_37_code (2 : Nat) (Option.none : Option Jvm.ClassFile.FieldType)) ∈ tb := tbm 1200 (by decide +kernel) rfl
theorem kw_1201 : (Jvm.Cond.methodLink "GreenPathModel" (191 : Nat) ({ cls := "GreenPathModel", name := "findComes", desc := "(I)V" } : Jvm.MethodName)) ∈ tb := tbm 1201 (by decide +kernel) rfl
theorem kw_1203 : (Jvm.Cond.instanceMethod ({ cls := "GreenPathModel", name := "findComes", desc := "(I)V" } : Jvm.MethodName)) ∈ tb := tbm 1203 (by decide +kernel) rfl
theorem kw_1204 : (Jvm.Cond.code ({ cls := "GreenPathModel", name := "findComes", desc := "(I)V" } : Jvm.MethodName) prog_14_method_36_code (6 : Nat) (Option.none : Option Jvm.ClassFile.FieldType)) ∈ tb := tbm 1204 (by decide +kernel) rfl
theorem kw_1205 : (Jvm.Cond.methodLink "GreenPathModel" (181 : Nat) ({ cls := "GreenPathModel", name := "first", desc := "(I)I" } : Jvm.MethodName)) ∈ tb := tbm 1205 (by decide +kernel) rfl
theorem kw_1206 : (Jvm.Cond.static ({ cls := "GreenPathModel", name := "first", desc := "(I)I" } : Jvm.MethodName)) ∈ tb := tbm 1206 (by decide +kernel) rfl
theorem kw_1207 : (Jvm.Cond.code ({ cls := "GreenPathModel", name := "first", desc := "(I)I" } : Jvm.MethodName) prog_14_method_9_code (1 : Nat) (Option.some Jvm.ClassFile.FieldType.int)) ∈ tb := tbm 1207 (by decide +kernel) rfl
theorem kw_1208 : (Jvm.Cond.methodLink "GreenPathModel" (184 : Nat) ({ cls := "GreenPathModel", name := "second", desc := "(I)I" } : Jvm.MethodName)) ∈ tb := tbm 1208 (by decide +kernel) rfl
theorem kw_1209 : (Jvm.Cond.static ({ cls := "GreenPathModel", name := "second", desc := "(I)I" } : Jvm.MethodName)) ∈ tb := tbm 1209 (by decide +kernel) rfl
theorem kw_1210 : (Jvm.Cond.code ({ cls := "GreenPathModel", name := "second", desc := "(I)I" } : Jvm.MethodName) prog_14_method_10_code (1 : Nat) (Option.some Jvm.ClassFile.FieldType.int)) ∈ tb := tbm 1210 (by decide +kernel) rfl
theorem kw_1211 : (Jvm.Cond.methodLink "GreenPathModel" (187 : Nat) ({ cls := "GreenPathModel", name := "put3", desc := "(IIII)V" } : Jvm.MethodName)) ∈ tb := tbm 1211 (by decide +kernel) rfl
theorem kw_1213 : (Jvm.Cond.instanceMethod ({ cls := "GreenPathModel", name := "put3", desc := "(IIII)V" } : Jvm.MethodName)) ∈ tb := tbm 1213 (by decide +kernel) rfl
theorem kw_1214 : (Jvm.Cond.code ({ cls := "GreenPathModel", name := "put3", desc := "(IIII)V" } : Jvm.MethodName) prog_14_method_35_code (5 : Nat) (Option.none : Option Jvm.ClassFile.FieldType)) ∈ tb := tbm 1214 (by decide +kernel) rfl
theorem kw_1215 : (Jvm.Cond.methodLink "GreenPathModel" (206 : Nat) ({ cls := "GreenPathModel", name := "fencedNow", desc := "()I" } : Jvm.MethodName)) ∈ tb := tbm 1215 (by decide +kernel) rfl
theorem kw_1217 : (Jvm.Cond.instanceMethod ({ cls := "GreenPathModel", name := "fencedNow", desc := "()I" } : Jvm.MethodName)) ∈ tb := tbm 1217 (by decide +kernel) rfl
theorem kw_1218 : (Jvm.Cond.code ({ cls := "GreenPathModel", name := "fencedNow", desc := "()I" } : Jvm.MethodName) prog_14_method_42_code (3 : Nat) (Option.some Jvm.ClassFile.FieldType.int)) ∈ tb := tbm 1218 (by decide +kernel) rfl
theorem kw_1219 : (Jvm.Cond.methodLink "GreenPathModel" (209 : Nat) ({ cls := "GreenPathModel", name := "mayMeet", desc := "(III)Z" } : Jvm.MethodName)) ∈ tb := tbm 1219 (by decide +kernel) rfl
theorem kw_1221 : (Jvm.Cond.instanceMethod ({ cls := "GreenPathModel", name := "mayMeet", desc := "(III)Z" } : Jvm.MethodName)) ∈ tb := tbm 1221 (by decide +kernel) rfl
theorem kw_1222 : (Jvm.Cond.code ({ cls := "GreenPathModel", name := "mayMeet", desc := "(III)Z" } : Jvm.MethodName) prog_14_method_40_code (7 : Nat) (Option.some Jvm.ClassFile.FieldType.boolean)) ∈ tb := tbm 1222 (by decide +kernel) rfl
theorem kw_1223 : (Jvm.Cond.methodLink "GreenPathModel" (90 : Nat) ({ cls := "GreenPathModel", name := "countIn", desc := "(II)I" } : Jvm.MethodName)) ∈ tb := tbm 1223 (by decide +kernel) rfl
theorem kw_1224 : (Jvm.Cond.static ({ cls := "GreenPathModel", name := "countIn", desc := "(II)I" } : Jvm.MethodName)) ∈ tb := tbm 1224 (by decide +kernel) rfl
theorem kw_1225 : (Jvm.Cond.code ({ cls := "GreenPathModel", name := "countIn", desc := "(II)I" } : Jvm.MethodName) prog_14_method_11_code (2 : Nat) (Option.some Jvm.ClassFile.FieldType.int)) ∈ tb := tbm 1225 (by decide +kernel) rfl
theorem kw_1226 : (Jvm.Cond.methodLink "GreenPathModel" (195 : Nat) ({ cls := "GreenPathModel", name := "manyOf", desc := "(I)I" } : Jvm.MethodName)) ∈ tb := tbm 1226 (by decide +kernel) rfl
theorem kw_1228 : (Jvm.Cond.instanceMethod ({ cls := "GreenPathModel", name := "manyOf", desc := "(I)I" } : Jvm.MethodName)) ∈ tb := tbm 1228 (by decide +kernel) rfl
theorem kw_1229 : (Jvm.Cond.code ({ cls := "GreenPathModel", name := "manyOf", desc := "(I)I" } : Jvm.MethodName) prog_14_method_38_code (2 : Nat) (Option.some Jvm.ClassFile.FieldType.int)) ∈ tb := tbm 1229 (by decide +kernel) rfl
theorem kw_1230 : (Jvm.Cond.methodLink "GreenPathLaw" (38 : Nat) ({ cls := "GreenPathModel", name := "as", desc := "(II)I" } : Jvm.MethodName)) ∈ tb := tbm 1230 (by decide +kernel) rfl
theorem kw_1231 : (Jvm.Cond.instanceMethod ({ cls := "GreenPathModel", name := "as", desc := "(II)I" } : Jvm.MethodName)) ∈ tb := tbm 1231 (by decide +kernel) rfl
theorem kw_1232 : (Jvm.Cond.selects "GreenPathModel" ({ cls := "GreenPathModel", name := "as", desc := "(II)I" } : Jvm.MethodName) ({ cls := "GreenPathModel", name := "as", desc := "(II)I" } : Jvm.MethodName)) ∈ tb := tbm 1232 (by decide +kernel) rfl
theorem kw_1233 : (Jvm.Cond.code ({ cls := "GreenPathModel", name := "as", desc := "(II)I" } : Jvm.MethodName) prog_14_method_45_code (4 : Nat) (Option.some Jvm.ClassFile.FieldType.int)) ∈ tb := tbm 1233 (by decide +kernel) rfl
theorem kw_1234 : (Jvm.Cond.constantLong "GreenPathModel" (213 : Nat) (6 : Int64)) ∈ tb := tbm 1234 (by decide +kernel) rfl
theorem kw_1235 : (Jvm.Cond.methodLink "GreenPathModel" (215 : Nat) ({ cls := "GreenPathModel", name := "above", desc := "(I)I" } : Jvm.MethodName)) ∈ tb := tbm 1235 (by decide +kernel) rfl
theorem kw_1236 : (Jvm.Cond.static ({ cls := "GreenPathModel", name := "above", desc := "(I)I" } : Jvm.MethodName)) ∈ tb := tbm 1236 (by decide +kernel) rfl
theorem kw_1237 : (Jvm.Cond.code ({ cls := "GreenPathModel", name := "above", desc := "(I)I" } : Jvm.MethodName) prog_14_method_44_code (1 : Nat) (Option.some Jvm.ClassFile.FieldType.int)) ∈ tb := tbm 1237 (by decide +kernel) rfl
theorem kw_1238 : (Jvm.Cond.methodLink "GreenPathLaw" (58 : Nat) ({ cls := "GreenPathModel", name := "meet", desc := "(I)I" } : Jvm.MethodName)) ∈ tb := tbm 1238 (by decide +kernel) rfl
theorem kw_1239 : (Jvm.Cond.instanceMethod ({ cls := "GreenPathModel", name := "meet", desc := "(I)I" } : Jvm.MethodName)) ∈ tb := tbm 1239 (by decide +kernel) rfl
theorem kw_1240 : (Jvm.Cond.selects "GreenPathModel" ({ cls := "GreenPathModel", name := "meet", desc := "(I)I" } : Jvm.MethodName) ({ cls := "GreenPathModel", name := "meet", desc := "(I)I" } : Jvm.MethodName)) ∈ tb := tbm 1240 (by decide +kernel) rfl
theorem kw_1241 : (Jvm.Cond.code ({ cls := "GreenPathModel", name := "meet", desc := "(I)I" } : Jvm.MethodName) prog_14_method_47_code (2 : Nat) (Option.some Jvm.ClassFile.FieldType.int)) ∈ tb := tbm 1241 (by decide +kernel) rfl
theorem kw_1242 : (Jvm.Cond.methodLink "GreenPathModel" (226 : Nat) ({ cls := "GreenPathModel", name := "meets", desc := "(I)V" } : Jvm.MethodName)) ∈ tb := tbm 1242 (by decide +kernel) rfl
theorem kw_1244 : (Jvm.Cond.instanceMethod ({ cls := "GreenPathModel", name := "meets", desc := "(I)V" } : Jvm.MethodName)) ∈ tb := tbm 1244 (by decide +kernel) rfl
theorem kw_1245 : (Jvm.Cond.code ({ cls := "GreenPathModel", name := "meets", desc := "(I)V" } : Jvm.MethodName) prog_14_method_46_code (3 : Nat) (Option.none : Option Jvm.ClassFile.FieldType)) ∈ tb := tbm 1245 (by decide +kernel) rfl
theorem kw_1246 : (Jvm.Cond.constant "GreenPathModel" (218 : Nat) (-99999 : Int32)) ∈ tb := tbm 1246 (by decide +kernel) rfl
theorem kw_1247 : (Jvm.Cond.constant "GreenPathModel" (219 : Nat) (99999 : Int32)) ∈ tb := tbm 1247 (by decide +kernel) rfl
theorem kw_1248 : (Jvm.Cond.methodLink "GreenPathModel" (220 : Nat) ({ cls := "GreenPathModel", name := "after", desc := "(II)I" } : Jvm.MethodName)) ∈ tb := tbm 1248 (by decide +kernel) rfl
theorem kw_1250 : (Jvm.Cond.instanceMethod ({ cls := "GreenPathModel", name := "after", desc := "(II)I" } : Jvm.MethodName)) ∈ tb := tbm 1250 (by decide +kernel) rfl
theorem kw_1251 : (Jvm.Cond.code ({ cls := "GreenPathModel", name := "after", desc := "(II)I" } : Jvm.MethodName) prog_14_method_41_code (3 : Nat) (Option.some Jvm.ClassFile.FieldType.int)) ∈ tb := tbm 1251 (by decide +kernel) rfl
theorem kw_1252 : (Jvm.Cond.methodLink "GreenPathModel" (198 : Nat) ({ cls := "GreenPathModel", name := "one", desc := "(I)I" } : Jvm.MethodName)) ∈ tb := tbm 1252 (by decide +kernel) rfl
theorem kw_1253 : (Jvm.Cond.static ({ cls := "GreenPathModel", name := "one", desc := "(I)I" } : Jvm.MethodName)) ∈ tb := tbm 1253 (by decide +kernel) rfl
theorem kw_1254 : (Jvm.Cond.code ({ cls := "GreenPathModel", name := "one", desc := "(I)I" } : Jvm.MethodName) prog_14_method_39_code (1 : Nat) (Option.some Jvm.ClassFile.FieldType.int)) ∈ tb := tbm 1254 (by decide +kernel) rfl
theorem kw_1255 : (Jvm.Cond.methodLink "GreenPathModel" (223 : Nat) ({ cls := "GreenPathModel", name := "becomes", desc := "(I)V" } : Jvm.MethodName)) ∈ tb := tbm 1255 (by decide +kernel) rfl
theorem kw_1257 : (Jvm.Cond.instanceMethod ({ cls := "GreenPathModel", name := "becomes", desc := "(I)V" } : Jvm.MethodName)) ∈ tb := tbm 1257 (by decide +kernel) rfl
theorem kw_1258 : (Jvm.Cond.code ({ cls := "GreenPathModel", name := "becomes", desc := "(I)V" } : Jvm.MethodName) prog_14_method_15_code (3 : Nat) (Option.none : Option Jvm.ClassFile.FieldType)) ∈ tb := tbm 1258 (by decide +kernel) rfl
theorem kw_1259 : (Jvm.Cond.methodLink "GreenPathLaw" (62 : Nat) ({ cls := "GreenPathModel", name := "chance", desc := "(I)I" } : Jvm.MethodName)) ∈ tb := tbm 1259 (by decide +kernel) rfl
theorem kw_1260 : (Jvm.Cond.instanceMethod ({ cls := "GreenPathModel", name := "chance", desc := "(I)I" } : Jvm.MethodName)) ∈ tb := tbm 1260 (by decide +kernel) rfl
theorem kw_1261 : (Jvm.Cond.selects "GreenPathModel" ({ cls := "GreenPathModel", name := "chance", desc := "(I)I" } : Jvm.MethodName) ({ cls := "GreenPathModel", name := "chance", desc := "(I)I" } : Jvm.MethodName)) ∈ tb := tbm 1261 (by decide +kernel) rfl
theorem kw_1262 : (Jvm.Cond.code ({ cls := "GreenPathModel", name := "chance", desc := "(I)I" } : Jvm.MethodName) prog_14_method_52_code (3 : Nat) (Option.some Jvm.ClassFile.FieldType.int)) ∈ tb := tbm 1262 (by decide +kernel) rfl
theorem kw_1263 : (Jvm.Cond.constantLong "GreenPathModel" (239 : Nat) (60 : Int64)) ∈ tb := tbm 1263 (by decide +kernel) rfl
theorem kw_1264 : (Jvm.Cond.methodLink "GreenPathModel" (241 : Nat) ({ cls := "GreenPathModel", name := "chances", desc := "()V" } : Jvm.MethodName)) ∈ tb := tbm 1264 (by decide +kernel) rfl
theorem kw_1266 : (Jvm.Cond.instanceMethod ({ cls := "GreenPathModel", name := "chances", desc := "()V" } : Jvm.MethodName)) ∈ tb := tbm 1266 (by decide +kernel) rfl
theorem kw_1267 : (Jvm.Cond.code ({ cls := "GreenPathModel", name := "chances", desc := "()V" } : Jvm.MethodName) prog_14_method_51_code (5 : Nat) (Option.none : Option Jvm.ClassFile.FieldType)) ∈ tb := tbm 1267 (by decide +kernel) rfl
theorem kw_1268 : (Jvm.Cond.methodLink "GreenPathModel" (230 : Nat) ({ cls := "GreenPathModel", name := "drawn", desc := "()I" } : Jvm.MethodName)) ∈ tb := tbm 1268 (by decide +kernel) rfl
theorem kw_1270 : (Jvm.Cond.instanceMethod ({ cls := "GreenPathModel", name := "drawn", desc := "()I" } : Jvm.MethodName)) ∈ tb := tbm 1270 (by decide +kernel) rfl
theorem kw_1271 : (Jvm.Cond.code ({ cls := "GreenPathModel", name := "drawn", desc := "()I" } : Jvm.MethodName) prog_14_method_48_code (1 : Nat) (Option.some Jvm.ClassFile.FieldType.int)) ∈ tb := tbm 1271 (by decide +kernel) rfl
theorem kw_1272 : (Jvm.Cond.constant "GreenPathModel" (229 : Nat) (1103515245 : Int32)) ∈ tb := tbm 1272 (by decide +kernel) rfl
theorem kw_1273 : (Jvm.Cond.methodLink "GreenPathModel" (233 : Nat) ({ cls := "GreenPathModel", name := "sortOf", desc := "(II)I" } : Jvm.MethodName)) ∈ tb := tbm 1273 (by decide +kernel) rfl
theorem kw_1275 : (Jvm.Cond.instanceMethod ({ cls := "GreenPathModel", name := "sortOf", desc := "(II)I" } : Jvm.MethodName)) ∈ tb := tbm 1275 (by decide +kernel) rfl
theorem kw_1276 : (Jvm.Cond.code ({ cls := "GreenPathModel", name := "sortOf", desc := "(II)I" } : Jvm.MethodName) prog_14_method_49_code (6 : Nat) (Option.some Jvm.ClassFile.FieldType.int)) ∈ tb := tbm 1276 (by decide +kernel) rfl
theorem kw_1277 : (Jvm.Cond.methodLink "GreenPathModel" (236 : Nat) ({ cls := "GreenPathModel", name := "pairOf", desc := "(II)I" } : Jvm.MethodName)) ∈ tb := tbm 1277 (by decide +kernel) rfl
theorem kw_1278 : (Jvm.Cond.static ({ cls := "GreenPathModel", name := "pairOf", desc := "(II)I" } : Jvm.MethodName)) ∈ tb := tbm 1278 (by decide +kernel) rfl
theorem kw_1279 : (Jvm.Cond.code ({ cls := "GreenPathModel", name := "pairOf", desc := "(II)I" } : Jvm.MethodName) prog_14_method_50_code (4 : Nat) (Option.some Jvm.ClassFile.FieldType.int)) ∈ tb := tbm 1279 (by decide +kernel) rfl
theorem kw_1280 : (Jvm.Cond.methodLink "GreenPathLaw" (66 : Nat) ({ cls := "GreenPathModel", name := "reach", desc := "(I)I" } : Jvm.MethodName)) ∈ tb := tbm 1280 (by decide +kernel) rfl
theorem kw_1281 : (Jvm.Cond.instanceMethod ({ cls := "GreenPathModel", name := "reach", desc := "(I)I" } : Jvm.MethodName)) ∈ tb := tbm 1281 (by decide +kernel) rfl
theorem kw_1282 : (Jvm.Cond.selects "GreenPathModel" ({ cls := "GreenPathModel", name := "reach", desc := "(I)I" } : Jvm.MethodName) ({ cls := "GreenPathModel", name := "reach", desc := "(I)I" } : Jvm.MethodName)) ∈ tb := tbm 1282 (by decide +kernel) rfl
theorem kw_1283 : (Jvm.Cond.code ({ cls := "GreenPathModel", name := "reach", desc := "(I)I" } : Jvm.MethodName) prog_14_method_54_code (3 : Nat) (Option.some Jvm.ClassFile.FieldType.int)) ∈ tb := tbm 1283 (by decide +kernel) rfl
theorem kw_1284 : (Jvm.Cond.methodLink "GreenPathModel" (245 : Nat) ({ cls := "GreenPathModel", name := "isState", desc := "(I)Z" } : Jvm.MethodName)) ∈ tb := tbm 1284 (by decide +kernel) rfl
theorem kw_1285 : (Jvm.Cond.static ({ cls := "GreenPathModel", name := "isState", desc := "(I)Z" } : Jvm.MethodName)) ∈ tb := tbm 1285 (by decide +kernel) rfl
theorem kw_1286 : (Jvm.Cond.code ({ cls := "GreenPathModel", name := "isState", desc := "(I)Z" } : Jvm.MethodName) prog_14_method_13_code (1 : Nat) (Option.some Jvm.ClassFile.FieldType.boolean)) ∈ tb := tbm 1286 (by decide +kernel) rfl
theorem kw_1287 : (Jvm.Cond.constantLong "GreenPathModel" (84 : Nat) (2196 : Int64)) ∈ tb := tbm 1287 (by decide +kernel) rfl
theorem kw_1288 : (Jvm.Cond.methodLink "GreenPathModel" (248 : Nat) ({ cls := "GreenPathModel", name := "findFar", desc := "(II)I" } : Jvm.MethodName)) ∈ tb := tbm 1288 (by decide +kernel) rfl
theorem kw_1290 : (Jvm.Cond.instanceMethod ({ cls := "GreenPathModel", name := "findFar", desc := "(II)I" } : Jvm.MethodName)) ∈ tb := tbm 1290 (by decide +kernel) rfl
theorem kw_1291 : (Jvm.Cond.code ({ cls := "GreenPathModel", name := "findFar", desc := "(II)I" } : Jvm.MethodName) prog_14_method_53_code (7 : Nat) (Option.some Jvm.ClassFile.FieldType.int)) ∈ tb := tbm 1291 (by decide +kernel) rfl
theorem kw_1292 : (Jvm.Cond.constant "GreenPathModel" (244 : Nat) (1000000 : Int32)) ∈ tb := tbm 1292 (by decide +kernel) rfl
theorem kw_1293 : (Jvm.Cond.methodLink "GreenPathLaw" (70 : Nat) ({ cls := "GreenPathModel", name := "way", desc := "(II)I" } : Jvm.MethodName)) ∈ tb := tbm 1293 (by decide +kernel) rfl
theorem kw_1294 : (Jvm.Cond.instanceMethod ({ cls := "GreenPathModel", name := "way", desc := "(II)I" } : Jvm.MethodName)) ∈ tb := tbm 1294 (by decide +kernel) rfl
theorem kw_1295 : (Jvm.Cond.selects "GreenPathModel" ({ cls := "GreenPathModel", name := "way", desc := "(II)I" } : Jvm.MethodName) ({ cls := "GreenPathModel", name := "way", desc := "(II)I" } : Jvm.MethodName)) ∈ tb := tbm 1295 (by decide +kernel) rfl
theorem kw_1296 : (Jvm.Cond.code ({ cls := "GreenPathModel", name := "way", desc := "(II)I" } : Jvm.MethodName) prog_14_method_55_code (8 : Nat) (Option.some Jvm.ClassFile.FieldType.int)) ∈ tb := tbm 1296 (by decide +kernel) rfl
theorem kw_1297 : (Jvm.Cond.methodLink "GreenPathLaw" (74 : Nat) ({ cls := "GreenPathModel", name := "can", desc := "(II)I" } : Jvm.MethodName)) ∈ tb := tbm 1297 (by decide +kernel) rfl
theorem kw_1298 : (Jvm.Cond.instanceMethod ({ cls := "GreenPathModel", name := "can", desc := "(II)I" } : Jvm.MethodName)) ∈ tb := tbm 1298 (by decide +kernel) rfl
theorem kw_1299 : (Jvm.Cond.selects "GreenPathModel" ({ cls := "GreenPathModel", name := "can", desc := "(II)I" } : Jvm.MethodName) ({ cls := "GreenPathModel", name := "can", desc := "(II)I" } : Jvm.MethodName)) ∈ tb := tbm 1299 (by decide +kernel) rfl
theorem kw_1300 : (Jvm.Cond.code ({ cls := "GreenPathModel", name := "can", desc := "(II)I" } : Jvm.MethodName) prog_14_method_57_code (5 : Nat) (Option.some Jvm.ClassFile.FieldType.int)) ∈ tb := tbm 1300 (by decide +kernel) rfl
theorem kw_1301 : (Jvm.Cond.methodLink "GreenPathModel" (251 : Nat) ({ cls := "GreenPathModel", name := "nearestEnd", desc := "(I)I" } : Jvm.MethodName)) ∈ tb := tbm 1301 (by decide +kernel) rfl
theorem kw_1303 : (Jvm.Cond.instanceMethod ({ cls := "GreenPathModel", name := "nearestEnd", desc := "(I)I" } : Jvm.MethodName)) ∈ tb := tbm 1303 (by decide +kernel) rfl
theorem kw_1304 : (Jvm.Cond.code ({ cls := "GreenPathModel", name := "nearestEnd", desc := "(I)I" } : Jvm.MethodName) prog_14_method_56_code (5 : Nat) (Option.some Jvm.ClassFile.FieldType.int)) ∈ tb := tbm 1304 (by decide +kernel) rfl
theorem kw_1305 : (Jvm.Cond.methodLink "GreenPathLaw" (79 : Nat) ({ cls := "GreenPathModel", name := "reached", desc := "()I" } : Jvm.MethodName)) ∈ tb := tbm 1305 (by decide +kernel) rfl
theorem kw_1306 : (Jvm.Cond.instanceMethod ({ cls := "GreenPathModel", name := "reached", desc := "()I" } : Jvm.MethodName)) ∈ tb := tbm 1306 (by decide +kernel) rfl
theorem kw_1307 : (Jvm.Cond.selects "GreenPathModel" ({ cls := "GreenPathModel", name := "reached", desc := "()I" } : Jvm.MethodName) ({ cls := "GreenPathModel", name := "reached", desc := "()I" } : Jvm.MethodName)) ∈ tb := tbm 1307 (by decide +kernel) rfl
theorem kw_1308 : (Jvm.Cond.code ({ cls := "GreenPathModel", name := "reached", desc := "()I" } : Jvm.MethodName) prog_14_method_58_code (1 : Nat) (Option.some Jvm.ClassFile.FieldType.int)) ∈ tb := tbm 1308 (by decide +kernel) rfl
theorem kw_1309 : (Jvm.Cond.methodLink "GreenPathLaw" (83 : Nat) ({ cls := "GreenPathModel", name := "stays", desc := "(II)I" } : Jvm.MethodName)) ∈ tb := tbm 1309 (by decide +kernel) rfl
theorem kw_1310 : (Jvm.Cond.instanceMethod ({ cls := "GreenPathModel", name := "stays", desc := "(II)I" } : Jvm.MethodName)) ∈ tb := tbm 1310 (by decide +kernel) rfl
theorem kw_1311 : (Jvm.Cond.selects "GreenPathModel" ({ cls := "GreenPathModel", name := "stays", desc := "(II)I" } : Jvm.MethodName) ({ cls := "GreenPathModel", name := "stays", desc := "(II)I" } : Jvm.MethodName)) ∈ tb := tbm 1311 (by decide +kernel) rfl
theorem kw_1312 : (Jvm.Cond.code ({ cls := "GreenPathModel", name := "stays", desc := "(II)I" } : Jvm.MethodName) prog_14_method_61_code (6 : Nat) (Option.some Jvm.ClassFile.FieldType.int)) ∈ tb := tbm 1312 (by decide +kernel) rfl
theorem kw_1313 : (Jvm.Cond.methodLink "GreenPathModel" (257 : Nat) ({ cls := "GreenPathModel", name := "isKeptBy", desc := "(II)Z" } : Jvm.MethodName)) ∈ tb := tbm 1313 (by decide +kernel) rfl
theorem kw_1315 : (Jvm.Cond.instanceMethod ({ cls := "GreenPathModel", name := "isKeptBy", desc := "(II)Z" } : Jvm.MethodName)) ∈ tb := tbm 1315 (by decide +kernel) rfl
theorem kw_1316 : (Jvm.Cond.code ({ cls := "GreenPathModel", name := "isKeptBy", desc := "(II)Z" } : Jvm.MethodName) prog_14_method_60_code (6 : Nat) (Option.some Jvm.ClassFile.FieldType.boolean)) ∈ tb := tbm 1316 (by decide +kernel) rfl
theorem kw_1317 : (Jvm.Cond.methodLink "GreenPathModel" (254 : Nat) ({ cls := "GreenPathModel", name := "weightOf", desc := "(III)I" } : Jvm.MethodName)) ∈ tb := tbm 1317 (by decide +kernel) rfl
theorem kw_1318 : (Jvm.Cond.static ({ cls := "GreenPathModel", name := "weightOf", desc := "(III)I" } : Jvm.MethodName)) ∈ tb := tbm 1318 (by decide +kernel) rfl
theorem kw_1319 : (Jvm.Cond.code ({ cls := "GreenPathModel", name := "weightOf", desc := "(III)I" } : Jvm.MethodName) prog_14_method_59_code (3 : Nat) (Option.some Jvm.ClassFile.FieldType.int)) ∈ tb := tbm 1319 (by decide +kernel) rfl
theorem kw_1320 : (Jvm.Cond.methodLink "GreenPathLaw" (87 : Nat) ({ cls := "GreenPathModel", name := "bars", desc := "(II)I" } : Jvm.MethodName)) ∈ tb := tbm 1320 (by decide +kernel) rfl
theorem kw_1321 : (Jvm.Cond.instanceMethod ({ cls := "GreenPathModel", name := "bars", desc := "(II)I" } : Jvm.MethodName)) ∈ tb := tbm 1321 (by decide +kernel) rfl
theorem kw_1322 : (Jvm.Cond.selects "GreenPathModel" ({ cls := "GreenPathModel", name := "bars", desc := "(II)I" } : Jvm.MethodName) ({ cls := "GreenPathModel", name := "bars", desc := "(II)I" } : Jvm.MethodName)) ∈ tb := tbm 1322 (by decide +kernel) rfl
theorem kw_1323 : (Jvm.Cond.code ({ cls := "GreenPathModel", name := "bars", desc := "(II)I" } : Jvm.MethodName) prog_14_method_62_code (7 : Nat) (Option.some Jvm.ClassFile.FieldType.int)) ∈ tb := tbm 1323 (by decide +kernel) rfl
theorem kw_1324 : (Jvm.Cond.methodLink "GreenPathLaw" (92 : Nat) ({ cls := "GreenPathModel", name := "ways", desc := "(II)J" } : Jvm.MethodName)) ∈ tb := tbm 1324 (by decide +kernel) rfl
theorem kw_1325 : (Jvm.Cond.instanceMethod ({ cls := "GreenPathModel", name := "ways", desc := "(II)J" } : Jvm.MethodName)) ∈ tb := tbm 1325 (by decide +kernel) rfl
theorem kw_1326 : (Jvm.Cond.selects "GreenPathModel" ({ cls := "GreenPathModel", name := "ways", desc := "(II)J" } : Jvm.MethodName) ({ cls := "GreenPathModel", name := "ways", desc := "(II)J" } : Jvm.MethodName)) ∈ tb := tbm 1326 (by decide +kernel) rfl
theorem kw_1327 : (Jvm.Cond.code ({ cls := "GreenPathModel", name := "ways", desc := "(II)J" } : Jvm.MethodName) prog_14_method_64_code (3 : Nat) (Option.some Jvm.ClassFile.FieldType.long)) ∈ tb := tbm 1327 (by decide +kernel) rfl
theorem kw_1328 : (Jvm.Cond.methodLink "GreenPathModel" (261 : Nat) ({ cls := "GreenPathModel", name := "findWays", desc := "(I)V" } : Jvm.MethodName)) ∈ tb := tbm 1328 (by decide +kernel) rfl
theorem kw_1330 : (Jvm.Cond.instanceMethod ({ cls := "GreenPathModel", name := "findWays", desc := "(I)V" } : Jvm.MethodName)) ∈ tb := tbm 1330 (by decide +kernel) rfl
theorem kw_1331 : (Jvm.Cond.code ({ cls := "GreenPathModel", name := "findWays", desc := "(I)V" } : Jvm.MethodName) prog_14_method_63_code (9 : Nat) (Option.none : Option Jvm.ClassFile.FieldType)) ∈ tb := tbm 1331 (by decide +kernel) rfl
theorem kw_1332 : (Jvm.Cond.methodLink "GreenPathLaw" (97 : Nat) ({ cls := "GreenPathModel", name := "allWays", desc := "(I)J" } : Jvm.MethodName)) ∈ tb := tbm 1332 (by decide +kernel) rfl
theorem kw_1333 : (Jvm.Cond.instanceMethod ({ cls := "GreenPathModel", name := "allWays", desc := "(I)J" } : Jvm.MethodName)) ∈ tb := tbm 1333 (by decide +kernel) rfl
theorem kw_1334 : (Jvm.Cond.selects "GreenPathModel" ({ cls := "GreenPathModel", name := "allWays", desc := "(I)J" } : Jvm.MethodName) ({ cls := "GreenPathModel", name := "allWays", desc := "(I)J" } : Jvm.MethodName)) ∈ tb := tbm 1334 (by decide +kernel) rfl
theorem kw_1335 : (Jvm.Cond.code ({ cls := "GreenPathModel", name := "allWays", desc := "(I)J" } : Jvm.MethodName) prog_14_method_65_code (5 : Nat) (Option.some Jvm.ClassFile.FieldType.long)) ∈ tb := tbm 1335 (by decide +kernel) rfl
theorem kw_1336 : (Jvm.Cond.methodLink "GreenPathLaw" (101 : Nat) ({ cls := "GreenPathModel", name := "fences", desc := "(II)I" } : Jvm.MethodName)) ∈ tb := tbm 1336 (by decide +kernel) rfl
theorem kw_1337 : (Jvm.Cond.instanceMethod ({ cls := "GreenPathModel", name := "fences", desc := "(II)I" } : Jvm.MethodName)) ∈ tb := tbm 1337 (by decide +kernel) rfl
theorem kw_1338 : (Jvm.Cond.selects "GreenPathModel" ({ cls := "GreenPathModel", name := "fences", desc := "(II)I" } : Jvm.MethodName) ({ cls := "GreenPathModel", name := "fences", desc := "(II)I" } : Jvm.MethodName)) ∈ tb := tbm 1338 (by decide +kernel) rfl
theorem kw_1339 : (Jvm.Cond.code ({ cls := "GreenPathModel", name := "fences", desc := "(II)I" } : Jvm.MethodName) prog_14_method_68_code (7 : Nat) (Option.some Jvm.ClassFile.FieldType.int)) ∈ tb := tbm 1339 (by decide +kernel) rfl
theorem kw_1340 : (Jvm.Cond.methodLink "GreenPathModel" (264 : Nat) ({ cls := "GreenPathModel", name := "isEnd", desc := "(II)Z" } : Jvm.MethodName)) ∈ tb := tbm 1340 (by decide +kernel) rfl
theorem kw_1342 : (Jvm.Cond.instanceMethod ({ cls := "GreenPathModel", name := "isEnd", desc := "(II)Z" } : Jvm.MethodName)) ∈ tb := tbm 1342 (by decide +kernel) rfl
theorem kw_1343 : (Jvm.Cond.code ({ cls := "GreenPathModel", name := "isEnd", desc := "(II)Z" } : Jvm.MethodName) prog_14_method_67_code (3 : Nat) (Option.some Jvm.ClassFile.FieldType.boolean)) ∈ tb := tbm 1343 (by decide +kernel) rfl
theorem kw_1344 : (Jvm.Cond.methodLink "GreenPathModel" (267 : Nat) ({ cls := "GreenPathModel", name := "ones", desc := "(I)I" } : Jvm.MethodName)) ∈ tb := tbm 1344 (by decide +kernel) rfl
theorem kw_1345 : (Jvm.Cond.static ({ cls := "GreenPathModel", name := "ones", desc := "(I)I" } : Jvm.MethodName)) ∈ tb := tbm 1345 (by decide +kernel) rfl
theorem kw_1346 : (Jvm.Cond.code ({ cls := "GreenPathModel", name := "ones", desc := "(I)I" } : Jvm.MethodName) prog_14_method_66_code (3 : Nat) (Option.some Jvm.ClassFile.FieldType.int)) ∈ tb := tbm 1346 (by decide +kernel) rfl
theorem kw_1347 : (Jvm.Cond.methodLink "GreenPathLaw" (105 : Nat) ({ cls := "GreenPathModel", name := "was", desc := "(II)I" } : Jvm.MethodName)) ∈ tb := tbm 1347 (by decide +kernel) rfl
theorem kw_1348 : (Jvm.Cond.instanceMethod ({ cls := "GreenPathModel", name := "was", desc := "(II)I" } : Jvm.MethodName)) ∈ tb := tbm 1348 (by decide +kernel) rfl
theorem kw_1349 : (Jvm.Cond.selects "GreenPathModel" ({ cls := "GreenPathModel", name := "was", desc := "(II)I" } : Jvm.MethodName) ({ cls := "GreenPathModel", name := "was", desc := "(II)I" } : Jvm.MethodName)) ∈ tb := tbm 1349 (by decide +kernel) rfl
theorem kw_1350 : (Jvm.Cond.code ({ cls := "GreenPathModel", name := "was", desc := "(II)I" } : Jvm.MethodName) prog_14_method_69_code (7 : Nat) (Option.some Jvm.ClassFile.FieldType.int)) ∈ tb := tbm 1350 (by decide +kernel) rfl
theorem kw_1351 : (Jvm.Cond.methodLink "GreenPathLaw" (109 : Nat) ({ cls := "GreenPathModel", name := "force", desc := "(I)I" } : Jvm.MethodName)) ∈ tb := tbm 1351 (by decide +kernel) rfl
theorem kw_1352 : (Jvm.Cond.instanceMethod ({ cls := "GreenPathModel", name := "force", desc := "(I)I" } : Jvm.MethodName)) ∈ tb := tbm 1352 (by decide +kernel) rfl
theorem kw_1353 : (Jvm.Cond.selects "GreenPathModel" ({ cls := "GreenPathModel", name := "force", desc := "(I)I" } : Jvm.MethodName) ({ cls := "GreenPathModel", name := "force", desc := "(I)I" } : Jvm.MethodName)) ∈ tb := tbm 1353 (by decide +kernel) rfl
theorem kw_1354 : (Jvm.Cond.code ({ cls := "GreenPathModel", name := "force", desc := "(I)I" } : Jvm.MethodName) prog_14_method_71_code (4 : Nat) (Option.some Jvm.ClassFile.FieldType.int)) ∈ tb := tbm 1354 (by decide +kernel) rfl
theorem kw_1355 : (Jvm.Cond.methodLink "GreenPathModel" (270 : Nat) ({ cls := "GreenPathModel", name := "oneMore", desc := "(II)V" } : Jvm.MethodName)) ∈ tb := tbm 1355 (by decide +kernel) rfl
theorem kw_1357 : (Jvm.Cond.instanceMethod ({ cls := "GreenPathModel", name := "oneMore", desc := "(II)V" } : Jvm.MethodName)) ∈ tb := tbm 1357 (by decide +kernel) rfl
theorem kw_1358 : (Jvm.Cond.code ({ cls := "GreenPathModel", name := "oneMore", desc := "(II)V" } : Jvm.MethodName) prog_14_method_70_code (8 : Nat) (Option.none : Option Jvm.ClassFile.FieldType)) ∈ tb := tbm 1358 (by decide +kernel) rfl
theorem kw_1359 : (Jvm.Cond.methodLink "GreenPathLaw" (113 : Nat) ({ cls := "GreenPathModel", name := "seed", desc := "(I)I" } : Jvm.MethodName)) ∈ tb := tbm 1359 (by decide +kernel) rfl
theorem kw_1360 : (Jvm.Cond.instanceMethod ({ cls := "GreenPathModel", name := "seed", desc := "(I)I" } : Jvm.MethodName)) ∈ tb := tbm 1360 (by decide +kernel) rfl
theorem kw_1361 : (Jvm.Cond.selects "GreenPathModel" ({ cls := "GreenPathModel", name := "seed", desc := "(I)I" } : Jvm.MethodName) ({ cls := "GreenPathModel", name := "seed", desc := "(I)I" } : Jvm.MethodName)) ∈ tb := tbm 1361 (by decide +kernel) rfl
theorem kw_1362 : (Jvm.Cond.code ({ cls := "GreenPathModel", name := "seed", desc := "(I)I" } : Jvm.MethodName) prog_14_method_72_code (3 : Nat) (Option.some Jvm.ClassFile.FieldType.int)) ∈ tb := tbm 1362 (by decide +kernel) rfl
theorem kw_1363 : (Jvm.Cond.methodLink "GreenPathLaw" (118 : Nat) ({ cls := "GreenPathModel", name := "voice", desc := "(III)I" } : Jvm.MethodName)) ∈ tb := tbm 1363 (by decide +kernel) rfl
theorem kw_1364 : (Jvm.Cond.instanceMethod ({ cls := "GreenPathModel", name := "voice", desc := "(III)I" } : Jvm.MethodName)) ∈ tb := tbm 1364 (by decide +kernel) rfl
theorem kw_1365 : (Jvm.Cond.selects "GreenPathModel" ({ cls := "GreenPathModel", name := "voice", desc := "(III)I" } : Jvm.MethodName) ({ cls := "GreenPathModel", name := "voice", desc := "(III)I" } : Jvm.MethodName)) ∈ tb := tbm 1365 (by decide +kernel) rfl
theorem kw_1366 : (Jvm.Cond.code ({ cls := "GreenPathModel", name := "voice", desc := "(III)I" } : Jvm.MethodName) prog_14_method_79_code (5 : Nat) (Option.some Jvm.ClassFile.FieldType.int)) ∈ tb := tbm 1366 (by decide +kernel) rfl
theorem kw_1367 : (Jvm.Cond.constantLong "GreenPathModel" (298 : Nat) (3 : Int64)) ∈ tb := tbm 1367 (by decide +kernel) rfl
theorem kw_1368 : (Jvm.Cond.methodLink "GreenPathModel" (286 : Nat) ({ cls := "GreenPathModel", name := "own", desc := "()I" } : Jvm.MethodName)) ∈ tb := tbm 1368 (by decide +kernel) rfl
theorem kw_1370 : (Jvm.Cond.instanceMethod ({ cls := "GreenPathModel", name := "own", desc := "()I" } : Jvm.MethodName)) ∈ tb := tbm 1370 (by decide +kernel) rfl
theorem kw_1371 : (Jvm.Cond.code ({ cls := "GreenPathModel", name := "own", desc := "()I" } : Jvm.MethodName) prog_14_method_74_code (1 : Nat) (Option.some Jvm.ClassFile.FieldType.int)) ∈ tb := tbm 1371 (by decide +kernel) rfl
theorem kw_1372 : (Jvm.Cond.methodLink "GreenPathModel" (283 : Nat) ({ cls := "GreenPathModel", name := "met", desc := "(II)I" } : Jvm.MethodName)) ∈ tb := tbm 1372 (by decide +kernel) rfl
theorem kw_1374 : (Jvm.Cond.instanceMethod ({ cls := "GreenPathModel", name := "met", desc := "(II)I" } : Jvm.MethodName)) ∈ tb := tbm 1374 (by decide +kernel) rfl
theorem kw_1375 : (Jvm.Cond.code ({ cls := "GreenPathModel", name := "met", desc := "(II)I" } : Jvm.MethodName) prog_14_method_75_code (3 : Nat) (Option.some Jvm.ClassFile.FieldType.int)) ∈ tb := tbm 1375 (by decide +kernel) rfl
theorem kw_1376 : (Jvm.Cond.methodLink "GreenPathModel" (280 : Nat) ({ cls := "GreenPathModel", name := "ran", desc := "(I)V" } : Jvm.MethodName)) ∈ tb := tbm 1376 (by decide +kernel) rfl
theorem kw_1378 : (Jvm.Cond.instanceMethod ({ cls := "GreenPathModel", name := "ran", desc := "(I)V" } : Jvm.MethodName)) ∈ tb := tbm 1378 (by decide +kernel) rfl
theorem kw_1379 : (Jvm.Cond.code ({ cls := "GreenPathModel", name := "ran", desc := "(I)V" } : Jvm.MethodName) prog_14_method_73_code (2 : Nat) (Option.none : Option Jvm.ClassFile.FieldType)) ∈ tb := tbm 1379 (by decide +kernel) rfl
theorem kw_1380 : (Jvm.Cond.methodLink "GreenPathModel" (289 : Nat) ({ cls := "GreenPathModel", name := "turns", desc := "(II)I" } : Jvm.MethodName)) ∈ tb := tbm 1380 (by decide +kernel) rfl
theorem kw_1382 : (Jvm.Cond.instanceMethod ({ cls := "GreenPathModel", name := "turns", desc := "(II)I" } : Jvm.MethodName)) ∈ tb := tbm 1382 (by decide +kernel) rfl
theorem kw_1383 : (Jvm.Cond.code ({ cls := "GreenPathModel", name := "turns", desc := "(II)I" } : Jvm.MethodName) prog_14_method_76_code (4 : Nat) (Option.some Jvm.ClassFile.FieldType.int)) ∈ tb := tbm 1383 (by decide +kernel) rfl
theorem kw_1384 : (Jvm.Cond.methodLink "GreenPathModel" (292 : Nat) ({ cls := "GreenPathModel", name := "stay", desc := "(II)I" } : Jvm.MethodName)) ∈ tb := tbm 1384 (by decide +kernel) rfl
theorem kw_1386 : (Jvm.Cond.instanceMethod ({ cls := "GreenPathModel", name := "stay", desc := "(II)I" } : Jvm.MethodName)) ∈ tb := tbm 1386 (by decide +kernel) rfl
theorem kw_1387 : (Jvm.Cond.code ({ cls := "GreenPathModel", name := "stay", desc := "(II)I" } : Jvm.MethodName) prog_14_method_77_code (3 : Nat) (Option.some Jvm.ClassFile.FieldType.int)) ∈ tb := tbm 1387 (by decide +kernel) rfl
theorem kw_1388 : (Jvm.Cond.methodLink "GreenPathModel" (295 : Nat) ({ cls := "GreenPathModel", name := "tells", desc := "(II)I" } : Jvm.MethodName)) ∈ tb := tbm 1388 (by decide +kernel) rfl
theorem kw_1390 : (Jvm.Cond.instanceMethod ({ cls := "GreenPathModel", name := "tells", desc := "(II)I" } : Jvm.MethodName)) ∈ tb := tbm 1390 (by decide +kernel) rfl
theorem kw_1391 : (Jvm.Cond.code ({ cls := "GreenPathModel", name := "tells", desc := "(II)I" } : Jvm.MethodName) prog_14_method_78_code (4 : Nat) (Option.some Jvm.ClassFile.FieldType.int)) ∈ tb := tbm 1391 (by decide +kernel) rfl
theorem kw_1392 : (Jvm.Cond.methodLink "GreenPathLaw" (122 : Nat) ({ cls := "GreenPathModel", name := "trace", desc := "(I)I" } : Jvm.MethodName)) ∈ tb := tbm 1392 (by decide +kernel) rfl
theorem kw_1393 : (Jvm.Cond.instanceMethod ({ cls := "GreenPathModel", name := "trace", desc := "(I)I" } : Jvm.MethodName)) ∈ tb := tbm 1393 (by decide +kernel) rfl
theorem kw_1394 : (Jvm.Cond.selects "GreenPathModel" ({ cls := "GreenPathModel", name := "trace", desc := "(I)I" } : Jvm.MethodName) ({ cls := "GreenPathModel", name := "trace", desc := "(I)I" } : Jvm.MethodName)) ∈ tb := tbm 1394 (by decide +kernel) rfl
theorem kw_1395 : (Jvm.Cond.code ({ cls := "GreenPathModel", name := "trace", desc := "(I)I" } : Jvm.MethodName) prog_14_method_80_code (2 : Nat) (Option.some Jvm.ClassFile.FieldType.int)) ∈ tb := tbm 1395 (by decide +kernel) rfl
theorem kw_1396 : (Jvm.Cond.methodLink "GreenPathLaw" (126 : Nat) ({ cls := "GreenPathModel", name := "sheet", desc := "(III)I" } : Jvm.MethodName)) ∈ tb := tbm 1396 (by decide +kernel) rfl
theorem kw_1397 : (Jvm.Cond.instanceMethod ({ cls := "GreenPathModel", name := "sheet", desc := "(III)I" } : Jvm.MethodName)) ∈ tb := tbm 1397 (by decide +kernel) rfl
theorem kw_1398 : (Jvm.Cond.selects "GreenPathModel" ({ cls := "GreenPathModel", name := "sheet", desc := "(III)I" } : Jvm.MethodName) ({ cls := "GreenPathModel", name := "sheet", desc := "(III)I" } : Jvm.MethodName)) ∈ tb := tbm 1398 (by decide +kernel) rfl
theorem kw_1399 : (Jvm.Cond.code ({ cls := "GreenPathModel", name := "sheet", desc := "(III)I" } : Jvm.MethodName) prog_14_method_82_code (5 : Nat) (Option.some Jvm.ClassFile.FieldType.int)) ∈ tb := tbm 1399 (by decide +kernel) rfl
theorem kw_1400 : (Jvm.Cond.methodLink "GreenPathModel" (300 : Nat) ({ cls := "GreenPathModel", name := "isSheet", desc := "(I)Z" } : Jvm.MethodName)) ∈ tb := tbm 1400 (by decide +kernel) rfl
theorem kw_1401 : (Jvm.Cond.static ({ cls := "GreenPathModel", name := "isSheet", desc := "(I)Z" } : Jvm.MethodName)) ∈ tb := tbm 1401 (by decide +kernel) rfl
theorem kw_1402 : (Jvm.Cond.code ({ cls := "GreenPathModel", name := "isSheet", desc := "(I)Z" } : Jvm.MethodName) prog_14_method_81_code (1 : Nat) (Option.some Jvm.ClassFile.FieldType.boolean)) ∈ tb := tbm 1402 (by decide +kernel) rfl
theorem kw_1403 : (Jvm.Cond.methodLink "GreenPathLaw" (130 : Nat) ({ cls := "GreenPathModel", name := "put", desc := "(III)I" } : Jvm.MethodName)) ∈ tb := tbm 1403 (by decide +kernel) rfl
theorem kw_1404 : (Jvm.Cond.instanceMethod ({ cls := "GreenPathModel", name := "put", desc := "(III)I" } : Jvm.MethodName)) ∈ tb := tbm 1404 (by decide +kernel) rfl
theorem kw_1405 : (Jvm.Cond.selects "GreenPathModel" ({ cls := "GreenPathModel", name := "put", desc := "(III)I" } : Jvm.MethodName) ({ cls := "GreenPathModel", name := "put", desc := "(III)I" } : Jvm.MethodName)) ∈ tb := tbm 1405 (by decide +kernel) rfl
theorem kw_1406 : (Jvm.Cond.code ({ cls := "GreenPathModel", name := "put", desc := "(III)I" } : Jvm.MethodName) prog_14_method_83_code (4 : Nat) (Option.some Jvm.ClassFile.FieldType.int)) ∈ tb := tbm 1406 (by decide +kernel) rfl
theorem kw_1407 : (Jvm.Cond.methodLink "GreenPathLaw" (134 : Nat) ({ cls := "GreenPathModel", name := "move", desc := "(IIIII)I" } : Jvm.MethodName)) ∈ tb := tbm 1407 (by decide +kernel) rfl
theorem kw_1408 : (Jvm.Cond.instanceMethod ({ cls := "GreenPathModel", name := "move", desc := "(IIIII)I" } : Jvm.MethodName)) ∈ tb := tbm 1408 (by decide +kernel) rfl
theorem kw_1409 : (Jvm.Cond.selects "GreenPathModel" ({ cls := "GreenPathModel", name := "move", desc := "(IIIII)I" } : Jvm.MethodName) ({ cls := "GreenPathModel", name := "move", desc := "(IIIII)I" } : Jvm.MethodName)) ∈ tb := tbm 1409 (by decide +kernel) rfl
theorem kw_1410 : (Jvm.Cond.code ({ cls := "GreenPathModel", name := "move", desc := "(IIIII)I" } : Jvm.MethodName) prog_14_method_84_code (7 : Nat) (Option.some Jvm.ClassFile.FieldType.int)) ∈ tb := tbm 1410 (by decide +kernel) rfl
theorem kw_1411 : (Jvm.Cond.methodLink "GreenPathLaw" (138 : Nat) ({ cls := "GreenPathModel", name := "judge", desc := "(I)I" } : Jvm.MethodName)) ∈ tb := tbm 1411 (by decide +kernel) rfl
theorem kw_1412 : (Jvm.Cond.instanceMethod ({ cls := "GreenPathModel", name := "judge", desc := "(I)I" } : Jvm.MethodName)) ∈ tb := tbm 1412 (by decide +kernel) rfl
theorem kw_1413 : (Jvm.Cond.selects "GreenPathModel" ({ cls := "GreenPathModel", name := "judge", desc := "(I)I" } : Jvm.MethodName) ({ cls := "GreenPathModel", name := "judge", desc := "(I)I" } : Jvm.MethodName)) ∈ tb := tbm 1413 (by decide +kernel) rfl
theorem kw_1414 : (Jvm.Cond.code ({ cls := "GreenPathModel", name := "judge", desc := "(I)I" } : Jvm.MethodName) prog_14_method_85_code (4 : Nat) (Option.some Jvm.ClassFile.FieldType.int)) ∈ tb := tbm 1414 (by decide +kernel) rfl
theorem kw_1415 : (Jvm.Cond.methodLink "GreenPathLaw" (142 : Nat) ({ cls := "GreenPathModel", name := "image", desc := "()I" } : Jvm.MethodName)) ∈ tb := tbm 1415 (by decide +kernel) rfl
theorem kw_1416 : (Jvm.Cond.instanceMethod ({ cls := "GreenPathModel", name := "image", desc := "()I" } : Jvm.MethodName)) ∈ tb := tbm 1416 (by decide +kernel) rfl
theorem kw_1417 : (Jvm.Cond.selects "GreenPathModel" ({ cls := "GreenPathModel", name := "image", desc := "()I" } : Jvm.MethodName) ({ cls := "GreenPathModel", name := "image", desc := "()I" } : Jvm.MethodName)) ∈ tb := tbm 1417 (by decide +kernel) rfl
theorem kw_1418 : (Jvm.Cond.code ({ cls := "GreenPathModel", name := "image", desc := "()I" } : Jvm.MethodName) prog_14_method_86_code (1 : Nat) (Option.some Jvm.ClassFile.FieldType.int)) ∈ tb := tbm 1418 (by decide +kernel) rfl
theorem kw_1419 : (Jvm.Cond.methodLink "GreenPathModel" (303 : Nat) ({ cls := "GreenPathModel", name := "copies", desc := "([I[I)V" } : Jvm.MethodName)) ∈ tb := tbm 1419 (by decide +kernel) rfl
theorem kw_1420 : (Jvm.Cond.static ({ cls := "GreenPathModel", name := "copies", desc := "([I[I)V" } : Jvm.MethodName)) ∈ tb := tbm 1420 (by decide +kernel) rfl
theorem kw_1421 : (Jvm.Cond.code ({ cls := "GreenPathModel", name := "copies", desc := "([I[I)V" } : Jvm.MethodName) prog_14_method_6_code (3 : Nat) (Option.none : Option Jvm.ClassFile.FieldType)) ∈ tb := tbm 1421 (by decide +kernel) rfl
theorem kw_1422 : (Jvm.Cond.methodLink "GreenPathLaw" (146 : Nat) ({ cls := "GreenPathModel", name := "restore", desc := "()I" } : Jvm.MethodName)) ∈ tb := tbm 1422 (by decide +kernel) rfl
theorem kw_1423 : (Jvm.Cond.instanceMethod ({ cls := "GreenPathModel", name := "restore", desc := "()I" } : Jvm.MethodName)) ∈ tb := tbm 1423 (by decide +kernel) rfl
theorem kw_1424 : (Jvm.Cond.selects "GreenPathModel" ({ cls := "GreenPathModel", name := "restore", desc := "()I" } : Jvm.MethodName) ({ cls := "GreenPathModel", name := "restore", desc := "()I" } : Jvm.MethodName)) ∈ tb := tbm 1424 (by decide +kernel) rfl
theorem kw_1425 : (Jvm.Cond.code ({ cls := "GreenPathModel", name := "restore", desc := "()I" } : Jvm.MethodName) prog_14_method_87_code (1 : Nat) (Option.some Jvm.ClassFile.FieldType.int)) ∈ tb := tbm 1425 (by decide +kernel) rfl
theorem kw_1426 : (Jvm.Cond.methodLink "GreenPathLaw" (150 : Nat) ({ cls := "GreenPathModel", name := "tell", desc := "(I)I" } : Jvm.MethodName)) ∈ tb := tbm 1426 (by decide +kernel) rfl
theorem kw_1427 : (Jvm.Cond.instanceMethod ({ cls := "GreenPathModel", name := "tell", desc := "(I)I" } : Jvm.MethodName)) ∈ tb := tbm 1427 (by decide +kernel) rfl
theorem kw_1428 : (Jvm.Cond.selects "GreenPathModel" ({ cls := "GreenPathModel", name := "tell", desc := "(I)I" } : Jvm.MethodName) ({ cls := "GreenPathModel", name := "tell", desc := "(I)I" } : Jvm.MethodName)) ∈ tb := tbm 1428 (by decide +kernel) rfl
theorem kw_1429 : (Jvm.Cond.code ({ cls := "GreenPathModel", name := "tell", desc := "(I)I" } : Jvm.MethodName) prog_14_method_88_code (2 : Nat) (Option.some Jvm.ClassFile.FieldType.int)) ∈ tb := tbm 1429 (by decide +kernel) rfl
theorem kw_1430 : (Jvm.Cond.methodLink "GreenPathLaw" (154 : Nat) ({ cls := "GreenPathModel", name := "check", desc := "()I" } : Jvm.MethodName)) ∈ tb := tbm 1430 (by decide +kernel) rfl
theorem kw_1431 : (Jvm.Cond.instanceMethod ({ cls := "GreenPathModel", name := "check", desc := "()I" } : Jvm.MethodName)) ∈ tb := tbm 1431 (by decide +kernel) rfl
theorem kw_1432 : (Jvm.Cond.selects "GreenPathModel" ({ cls := "GreenPathModel", name := "check", desc := "()I" } : Jvm.MethodName) ({ cls := "GreenPathModel", name := "check", desc := "()I" } : Jvm.MethodName)) ∈ tb := tbm 1432 (by decide +kernel) rfl
theorem kw_1433 : (Jvm.Cond.code ({ cls := "GreenPathModel", name := "check", desc := "()I" } : Jvm.MethodName) prog_14_method_90_code (4 : Nat) (Option.some Jvm.ClassFile.FieldType.int)) ∈ tb := tbm 1433 (by decide +kernel) rfl
theorem kw_1434 : (Jvm.Cond.methodLink "GreenPathModel" (310 : Nat) ({ cls := "GreenPathModel", name := "comesOf", desc := "(II)Z" } : Jvm.MethodName)) ∈ tb := tbm 1434 (by decide +kernel) rfl
theorem kw_1436 : (Jvm.Cond.instanceMethod ({ cls := "GreenPathModel", name := "comesOf", desc := "(II)Z" } : Jvm.MethodName)) ∈ tb := tbm 1436 (by decide +kernel) rfl
theorem kw_1437 : (Jvm.Cond.code ({ cls := "GreenPathModel", name := "comesOf", desc := "(II)Z" } : Jvm.MethodName) prog_14_method_89_code (4 : Nat) (Option.some Jvm.ClassFile.FieldType.boolean)) ∈ tb := tbm 1437 (by decide +kernel) rfl
theorem kw_1438 : (Jvm.Cond.methodLink "GreenPathLaw" (158 : Nat) ({ cls := "GreenPathModel", name := "count", desc := "(I)I" } : Jvm.MethodName)) ∈ tb := tbm 1438 (by decide +kernel) rfl
theorem kw_1439 : (Jvm.Cond.instanceMethod ({ cls := "GreenPathModel", name := "count", desc := "(I)I" } : Jvm.MethodName)) ∈ tb := tbm 1439 (by decide +kernel) rfl
theorem kw_1440 : (Jvm.Cond.selects "GreenPathModel" ({ cls := "GreenPathModel", name := "count", desc := "(I)I" } : Jvm.MethodName) ({ cls := "GreenPathModel", name := "count", desc := "(I)I" } : Jvm.MethodName)) ∈ tb := tbm 1440 (by decide +kernel) rfl
theorem kw_1441 : (Jvm.Cond.code ({ cls := "GreenPathModel", name := "count", desc := "(I)I" } : Jvm.MethodName) prog_14_method_91_code (2 : Nat) (Option.some Jvm.ClassFile.FieldType.int)) ∈ tb := tbm 1441 (by decide +kernel) rfl
theorem kw_1442 : (Jvm.Cond.methodLink "GreenPathLaw" (162 : Nat) ({ cls := "GreenPathModel", name := "told", desc := "(I)I" } : Jvm.MethodName)) ∈ tb := tbm 1442 (by decide +kernel) rfl
theorem kw_1443 : (Jvm.Cond.instanceMethod ({ cls := "GreenPathModel", name := "told", desc := "(I)I" } : Jvm.MethodName)) ∈ tb := tbm 1443 (by decide +kernel) rfl
theorem kw_1444 : (Jvm.Cond.selects "GreenPathModel" ({ cls := "GreenPathModel", name := "told", desc := "(I)I" } : Jvm.MethodName) ({ cls := "GreenPathModel", name := "told", desc := "(I)I" } : Jvm.MethodName)) ∈ tb := tbm 1444 (by decide +kernel) rfl
theorem kw_1445 : (Jvm.Cond.code ({ cls := "GreenPathModel", name := "told", desc := "(I)I" } : Jvm.MethodName) prog_14_method_92_code (2 : Nat) (Option.some Jvm.ClassFile.FieldType.int)) ∈ tb := tbm 1445 (by decide +kernel) rfl
theorem kw_1446 : (Jvm.Cond.constantLong "GreenPathLaw" (39 : Nat) (4294967295 : Int64)) ∈ tb := tbm 1446 (by decide +kernel) rfl
theorem kw_1447 : (Jvm.Cond.sameMethod "GreenPath$Third" "GreenPath$Third" "comes" "(ILGreenPath$Island;)I") ∈ tb := tbm 1447 (by decide +kernel) rfl
theorem kw_1448 : (Jvm.Cond.sameMethod "GreenPath$Eat" "GreenPath$Eat" "comes" "(ILGreenPath$Island;)I") ∈ tb := tbm 1448 (by decide +kernel) rfl
theorem kw_1449 : (Jvm.Cond.sameMethod "GreenPath$Split" "GreenPath$Split" "comes" "(ILGreenPath$Island;)I") ∈ tb := tbm 1449 (by decide +kernel) rfl
theorem kw_1450 : (Jvm.Cond.sameMethod "GreenPath$Third" "GreenPath$Third" "voiceTurns" "(ILGreenPath$Row;)I") ∈ tb := tbm 1450 (by decide +kernel) rfl
theorem kw_1451 : (Jvm.Cond.sameMethod "GreenPath$Law" "GreenPath$Law" "voiceStays" "(ILGreenPath$Row;)I") ∈ tb := tbm 1451 (by decide +kernel) rfl
theorem kw_1452 : (Jvm.Cond.selects "GreenPath$Copy" ({ cls := "GreenPath$Law", name := "voiceStays", desc := "(ILGreenPath$Row;)I" } : Jvm.MethodName) ({ cls := "GreenPath$Law", name := "voiceStays", desc := "(ILGreenPath$Row;)I" } : Jvm.MethodName)) ∈ tb := tbm 1452 (by decide +kernel) rfl
theorem kw_1453 : (Jvm.Cond.selects "GreenPath$Eat" ({ cls := "GreenPath$Law", name := "voiceStays", desc := "(ILGreenPath$Row;)I" } : Jvm.MethodName) ({ cls := "GreenPath$Law", name := "voiceStays", desc := "(ILGreenPath$Row;)I" } : Jvm.MethodName)) ∈ tb := tbm 1453 (by decide +kernel) rfl
theorem kw_1454 : (Jvm.Cond.selects "GreenPath$Join" ({ cls := "GreenPath$Law", name := "voiceStays", desc := "(ILGreenPath$Row;)I" } : Jvm.MethodName) ({ cls := "GreenPath$Law", name := "voiceStays", desc := "(ILGreenPath$Row;)I" } : Jvm.MethodName)) ∈ tb := tbm 1454 (by decide +kernel) rfl
theorem kw_1455 : (Jvm.Cond.selects "GreenPath$Law" ({ cls := "GreenPath$Law", name := "voiceStays", desc := "(ILGreenPath$Row;)I" } : Jvm.MethodName) ({ cls := "GreenPath$Law", name := "voiceStays", desc := "(ILGreenPath$Row;)I" } : Jvm.MethodName)) ∈ tb := tbm 1455 (by decide +kernel) rfl
theorem kw_1456 : (Jvm.Cond.selects "GreenPath$Split" ({ cls := "GreenPath$Law", name := "voiceStays", desc := "(ILGreenPath$Row;)I" } : Jvm.MethodName) ({ cls := "GreenPath$Split", name := "voiceStays", desc := "(ILGreenPath$Row;)I" } : Jvm.MethodName)) ∈ tb := tbm 1456 (by decide +kernel) rfl
theorem kw_1457 : (Jvm.Cond.selects "GreenPath$Third" ({ cls := "GreenPath$Law", name := "voiceStays", desc := "(ILGreenPath$Row;)I" } : Jvm.MethodName) ({ cls := "GreenPath$Law", name := "voiceStays", desc := "(ILGreenPath$Row;)I" } : Jvm.MethodName)) ∈ tb := tbm 1457 (by decide +kernel) rfl
theorem kw_1458 : (Jvm.Cond.selects "GreenPath$Told" ({ cls := "GreenPath$Law", name := "voiceStays", desc := "(ILGreenPath$Row;)I" } : Jvm.MethodName) ({ cls := "GreenPath$Told", name := "voiceStays", desc := "(ILGreenPath$Row;)I" } : Jvm.MethodName)) ∈ tb := tbm 1458 (by decide +kernel) rfl
theorem kw_1459 : (Jvm.Cond.sameMethod "GreenPath$Split" "GreenPath$Split" "voiceStays" "(ILGreenPath$Row;)I") ∈ tb := tbm 1459 (by decide +kernel) rfl
theorem kw_1469 : (Jvm.Cond.fieldLink "java/lang/String" (15 : Nat) "java/lang/String" "coder" "B") ∈ tb := tbm 1469 (by decide +kernel) rfl
theorem kw_1470 : (Jvm.Cond.fieldLink "java/lang/String" (9 : Nat) "java/lang/String" "value" "[B") ∈ tb := tbm 1470 (by decide +kernel) rfl
