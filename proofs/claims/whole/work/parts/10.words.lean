theorem tw_1 : (Jvm.Cond.initialized "WhoseThread") ∈ TT := TT_of 1 (by decide +kernel) rfl
theorem tw_2 : (Jvm.Cond.initialized "WhoseThread$Text") ∈ TT := TT_of 2 (by decide +kernel) rfl
theorem tw_3 : (Jvm.Cond.initialized "WhoseThread$Telling") ∈ TT := TT_of 3 (by decide +kernel) rfl
theorem tw_4 : (Jvm.Cond.initialized "WhoseThread$Loom") ∈ TT := TT_of 4 (by decide +kernel) rfl
theorem tw_5 : (Jvm.Cond.initialized "WhoseThread$Past") ∈ TT := TT_of 5 (by decide +kernel) rfl
theorem tw_6 : (Jvm.Cond.initialized "WhoseThread$Dealing") ∈ TT := TT_of 6 (by decide +kernel) rfl
theorem tw_7 : (Jvm.Cond.initialized "WhoseThread$Tailing") ∈ TT := TT_of 7 (by decide +kernel) rfl
theorem tw_8 : (Jvm.Cond.initialized "WhoseThreadModel") ∈ TT := TT_of 8 (by decide +kernel) rfl
theorem tw_9 : (Jvm.Cond.initialized "java/lang/System") ∈ TT := TT_of 9 (by decide +kernel) rfl
theorem tw_10 : (Jvm.Cond.initialized "java/lang/String") ∈ TT := TT_of 10 (by decide +kernel) rfl
theorem tw_11 : (Jvm.Cond.initialized "java/lang/StringLatin1") ∈ TT := TT_of 11 (by decide +kernel) rfl
theorem tw_12 : (Jvm.Cond.initialized "jdk/internal/util/Preconditions") ∈ TT := TT_of 12 (by decide +kernel) rfl
theorem tw_13 : (Jvm.Cond.initialized "java/lang/StringUTF16") ∈ TT := TT_of 13 (by decide +kernel) rfl
theorem tw_14 : (Jvm.Cond.initialized "java/lang/Math") ∈ TT := TT_of 14 (by decide +kernel) rfl
theorem tw_15 : (Jvm.Cond.initialized "java/lang/Integer") ∈ TT := TT_of 15 (by decide +kernel) rfl
theorem tw_16 : (Jvm.Cond.classLink "WhoseThreadLaw" (7 : Nat) "WhoseThread") ∈ TT := TT_of 16 (by decide +kernel) rfl
theorem tw_17 : (Jvm.Cond.instantiable "WhoseThread" (10 : Nat)) ∈ TT := TT_of 17 (by decide +kernel) rfl
theorem tw_18 : (Jvm.Cond.methodLink "WhoseThreadLaw" (9 : Nat) ({ cls := "WhoseThread", name := "<init>", desc := "()V" } : Jvm.MethodName)) ∈ TT := TT_of 18 (by decide +kernel) rfl
theorem tw_19 : (Jvm.Cond.instanceMethod ({ cls := "WhoseThread", name := "<init>", desc := "()V" } : Jvm.MethodName)) ∈ TT := TT_of 19 (by decide +kernel) rfl
theorem tw_20 : (Jvm.Cond.code ({ cls := "WhoseThread", name := "<init>", desc := "()V" } : Jvm.MethodName) prog_1_method_1_code (2 : Nat) (Option.none : Option Jvm.ClassFile.FieldType)) ∈ TT := TT_of 20 (by decide +kernel) rfl
theorem tw_24 : (Jvm.Cond.classLink "WhoseThread" (9 : Nat) "WhoseThread$Text") ∈ TT := TT_of 24 (by decide +kernel) rfl
theorem tw_25 : (Jvm.Cond.instantiable "WhoseThread$Text" (5 : Nat)) ∈ TT := TT_of 25 (by decide +kernel) rfl
theorem tw_27 : (Jvm.Cond.instanceMethod ({ cls := "WhoseThread$Text", name := "<init>", desc := "()V" } : Jvm.MethodName)) ∈ TT := TT_of 27 (by decide +kernel) rfl
theorem tw_28 : (Jvm.Cond.code ({ cls := "WhoseThread$Text", name := "<init>", desc := "()V" } : Jvm.MethodName) prog_7_method_1_code (1 : Nat) (Option.none : Option Jvm.ClassFile.FieldType)) ∈ TT := TT_of 28 (by decide +kernel) rfl
theorem tw_30 : (Jvm.Cond.fieldLink "WhoseThread$Text" (9 : Nat) "WhoseThread$Text" "letters" "[I") ∈ TT := TT_of 30 (by decide +kernel) rfl
theorem tw_31 : (Jvm.Cond.fieldLink "WhoseThread$Text" (15 : Nat) "WhoseThread$Text" "length" "I") ∈ TT := TT_of 31 (by decide +kernel) rfl
theorem tw_32 : (Jvm.Cond.fieldLink "WhoseThread" (69 : Nat) "WhoseThread$Text" "length" "I") ∈ TT := TT_of 32 (by decide +kernel) rfl
theorem tw_33 : (Jvm.Cond.fieldLink "WhoseThread$Text" (19 : Nat) "WhoseThread$Text" "clauses" "I") ∈ TT := TT_of 33 (by decide +kernel) rfl
theorem tw_34 : (Jvm.Cond.fieldLink "WhoseThread" (89 : Nat) "WhoseThread$Text" "clauses" "I") ∈ TT := TT_of 34 (by decide +kernel) rfl
theorem tw_35 : (Jvm.Cond.fieldLink "WhoseThread$Text" (32 : Nat) "WhoseThread$Text" "begin" "I") ∈ TT := TT_of 35 (by decide +kernel) rfl
theorem tw_36 : (Jvm.Cond.fieldLink "WhoseThread$Text" (22 : Nat) "WhoseThread$Text" "end" "I") ∈ TT := TT_of 36 (by decide +kernel) rfl
theorem tw_37 : (Jvm.Cond.laysFinal "WhoseThread$Text" "WhoseThread$Text" "letters" "[I") ∈ TT := TT_of 37 (by decide +kernel) rfl
theorem tw_39 : (Jvm.Cond.lays "WhoseThread$Text" "WhoseThread$Text" "length" "I") ∈ TT := TT_of 39 (by decide +kernel) rfl
theorem tw_41 : (Jvm.Cond.lays "WhoseThread$Text" "WhoseThread$Text" "clauses" "I") ∈ TT := TT_of 41 (by decide +kernel) rfl
theorem tw_43 : (Jvm.Cond.lays "WhoseThread$Text" "WhoseThread$Text" "begin" "I") ∈ TT := TT_of 43 (by decide +kernel) rfl
theorem tw_45 : (Jvm.Cond.lays "WhoseThread$Text" "WhoseThread$Text" "end" "I") ∈ TT := TT_of 45 (by decide +kernel) rfl
theorem tw_48 : (Jvm.Cond.arrayClass Jvm.ClassFile.FieldType.int) ∈ TT := TT_of 48 (by decide +kernel) rfl
theorem tw_49 : (Jvm.Cond.classLink "WhoseThread" (16 : Nat) "WhoseThread$Telling") ∈ TT := TT_of 49 (by decide +kernel) rfl
theorem tw_50 : (Jvm.Cond.instantiable "WhoseThread$Telling" (9 : Nat)) ∈ TT := TT_of 50 (by decide +kernel) rfl
theorem tw_52 : (Jvm.Cond.instanceMethod ({ cls := "WhoseThread$Telling", name := "<init>", desc := "()V" } : Jvm.MethodName)) ∈ TT := TT_of 52 (by decide +kernel) rfl
theorem tw_53 : (Jvm.Cond.code ({ cls := "WhoseThread$Telling", name := "<init>", desc := "()V" } : Jvm.MethodName) prog_6_method_1_code (1 : Nat) (Option.none : Option Jvm.ClassFile.FieldType)) ∈ TT := TT_of 53 (by decide +kernel) rfl
theorem tw_55 : (Jvm.Cond.fieldLink "WhoseThread$Telling" (33 : Nat) "WhoseThread$Telling" "threads" "I") ∈ TT := TT_of 55 (by decide +kernel) rfl
theorem tw_56 : (Jvm.Cond.fieldLink "WhoseThread$Tailing" (39 : Nat) "WhoseThread$Telling" "threads" "I") ∈ TT := TT_of 56 (by decide +kernel) rfl
theorem tw_57 : (Jvm.Cond.fieldLink "WhoseThread$Text" (75 : Nat) "WhoseThread$Telling" "threads" "I") ∈ TT := TT_of 57 (by decide +kernel) rfl
theorem tw_58 : (Jvm.Cond.fieldLink "WhoseThread" (215 : Nat) "WhoseThread$Telling" "threads" "I") ∈ TT := TT_of 58 (by decide +kernel) rfl
theorem tw_59 : (Jvm.Cond.fieldLink "WhoseThread$Telling" (37 : Nat) "WhoseThread$Telling" "orders" "I") ∈ TT := TT_of 59 (by decide +kernel) rfl
theorem tw_60 : (Jvm.Cond.fieldLink "WhoseThread$Dealing" (33 : Nat) "WhoseThread$Telling" "orders" "I") ∈ TT := TT_of 60 (by decide +kernel) rfl
theorem tw_61 : (Jvm.Cond.fieldLink "WhoseThread$Text" (48 : Nat) "WhoseThread$Telling" "orders" "I") ∈ TT := TT_of 61 (by decide +kernel) rfl
theorem tw_62 : (Jvm.Cond.fieldLink "WhoseThread" (133 : Nat) "WhoseThread$Telling" "orders" "I") ∈ TT := TT_of 62 (by decide +kernel) rfl
theorem tw_63 : (Jvm.Cond.fieldLink "WhoseThread$Loom" (90 : Nat) "WhoseThread$Telling" "orders" "I") ∈ TT := TT_of 63 (by decide +kernel) rfl
theorem tw_64 : (Jvm.Cond.fieldLink "WhoseThread$Telling" (9 : Nat) "WhoseThread$Telling" "kinds" "[I") ∈ TT := TT_of 64 (by decide +kernel) rfl
theorem tw_65 : (Jvm.Cond.fieldLink "WhoseThread" (96 : Nat) "WhoseThread$Telling" "kinds" "[I") ∈ TT := TT_of 65 (by decide +kernel) rfl
theorem tw_66 : (Jvm.Cond.fieldLink "WhoseThread$Loom" (108 : Nat) "WhoseThread$Telling" "kinds" "[I") ∈ TT := TT_of 66 (by decide +kernel) rfl
theorem tw_67 : (Jvm.Cond.fieldLink "WhoseThread$Telling" (15 : Nat) "WhoseThread$Telling" "lengths" "[I") ∈ TT := TT_of 67 (by decide +kernel) rfl
theorem tw_68 : (Jvm.Cond.fieldLink "WhoseThread$Tailing" (66 : Nat) "WhoseThread$Telling" "lengths" "[I") ∈ TT := TT_of 68 (by decide +kernel) rfl
theorem tw_69 : (Jvm.Cond.fieldLink "WhoseThread" (100 : Nat) "WhoseThread$Telling" "lengths" "[I") ∈ TT := TT_of 69 (by decide +kernel) rfl
theorem tw_70 : (Jvm.Cond.fieldLink "WhoseThread$Telling" (18 : Nat) "WhoseThread$Telling" "colours" "[I") ∈ TT := TT_of 70 (by decide +kernel) rfl
theorem tw_71 : (Jvm.Cond.fieldLink "WhoseThread$Loom" (47 : Nat) "WhoseThread$Telling" "colours" "[I") ∈ TT := TT_of 71 (by decide +kernel) rfl
theorem tw_72 : (Jvm.Cond.fieldLink "WhoseThread$Telling" (21 : Nat) "WhoseThread$Telling" "over" "[I") ∈ TT := TT_of 72 (by decide +kernel) rfl
theorem tw_73 : (Jvm.Cond.fieldLink "WhoseThread$Loom" (48 : Nat) "WhoseThread$Telling" "over" "[I") ∈ TT := TT_of 73 (by decide +kernel) rfl
theorem tw_74 : (Jvm.Cond.fieldLink "WhoseThread$Text" (78 : Nat) "WhoseThread$Telling" "over" "[I") ∈ TT := TT_of 74 (by decide +kernel) rfl
theorem tw_75 : (Jvm.Cond.fieldLink "WhoseThread$Telling" (24 : Nat) "WhoseThread$Telling" "knots" "[I") ∈ TT := TT_of 75 (by decide +kernel) rfl
theorem tw_76 : (Jvm.Cond.fieldLink "WhoseThread$Loom" (49 : Nat) "WhoseThread$Telling" "knots" "[I") ∈ TT := TT_of 76 (by decide +kernel) rfl
theorem tw_77 : (Jvm.Cond.fieldLink "WhoseThread$Text" (89 : Nat) "WhoseThread$Telling" "knots" "[I") ∈ TT := TT_of 77 (by decide +kernel) rfl
theorem tw_78 : (Jvm.Cond.fieldLink "WhoseThread$Telling" (27 : Nat) "WhoseThread$Telling" "orderThreads" "[I") ∈ TT := TT_of 78 (by decide +kernel) rfl
theorem tw_79 : (Jvm.Cond.fieldLink "WhoseThread$Dealing" (78 : Nat) "WhoseThread$Telling" "orderThreads" "[I") ∈ TT := TT_of 79 (by decide +kernel) rfl
theorem tw_80 : (Jvm.Cond.fieldLink "WhoseThread" (136 : Nat) "WhoseThread$Telling" "orderThreads" "[I") ∈ TT := TT_of 80 (by decide +kernel) rfl
theorem tw_81 : (Jvm.Cond.fieldLink "WhoseThread$Loom" (96 : Nat) "WhoseThread$Telling" "orderThreads" "[I") ∈ TT := TT_of 81 (by decide +kernel) rfl
theorem tw_82 : (Jvm.Cond.fieldLink "WhoseThread$Telling" (30 : Nat) "WhoseThread$Telling" "orderDays" "[I") ∈ TT := TT_of 82 (by decide +kernel) rfl
theorem tw_83 : (Jvm.Cond.fieldLink "WhoseThread$Dealing" (38 : Nat) "WhoseThread$Telling" "orderDays" "[I") ∈ TT := TT_of 83 (by decide +kernel) rfl
theorem tw_84 : (Jvm.Cond.fieldLink "WhoseThread" (139 : Nat) "WhoseThread$Telling" "orderDays" "[I") ∈ TT := TT_of 84 (by decide +kernel) rfl
theorem tw_85 : (Jvm.Cond.fieldLink "WhoseThread$Loom" (93 : Nat) "WhoseThread$Telling" "orderDays" "[I") ∈ TT := TT_of 85 (by decide +kernel) rfl
theorem tw_86 : (Jvm.Cond.lays "WhoseThread$Telling" "WhoseThread$Telling" "threads" "I") ∈ TT := TT_of 86 (by decide +kernel) rfl
theorem tw_88 : (Jvm.Cond.lays "WhoseThread$Telling" "WhoseThread$Telling" "orders" "I") ∈ TT := TT_of 88 (by decide +kernel) rfl
theorem tw_90 : (Jvm.Cond.laysFinal "WhoseThread$Telling" "WhoseThread$Telling" "kinds" "[I") ∈ TT := TT_of 90 (by decide +kernel) rfl
theorem tw_92 : (Jvm.Cond.laysFinal "WhoseThread$Telling" "WhoseThread$Telling" "lengths" "[I") ∈ TT := TT_of 92 (by decide +kernel) rfl
theorem tw_94 : (Jvm.Cond.laysFinal "WhoseThread$Telling" "WhoseThread$Telling" "colours" "[I") ∈ TT := TT_of 94 (by decide +kernel) rfl
theorem tw_96 : (Jvm.Cond.laysFinal "WhoseThread$Telling" "WhoseThread$Telling" "over" "[I") ∈ TT := TT_of 96 (by decide +kernel) rfl
theorem tw_98 : (Jvm.Cond.laysFinal "WhoseThread$Telling" "WhoseThread$Telling" "knots" "[I") ∈ TT := TT_of 98 (by decide +kernel) rfl
theorem tw_100 : (Jvm.Cond.laysFinal "WhoseThread$Telling" "WhoseThread$Telling" "orderThreads" "[I") ∈ TT := TT_of 100 (by decide +kernel) rfl
theorem tw_102 : (Jvm.Cond.laysFinal "WhoseThread$Telling" "WhoseThread$Telling" "orderDays" "[I") ∈ TT := TT_of 102 (by decide +kernel) rfl
theorem tw_105 : (Jvm.Cond.classLink "WhoseThread" (26 : Nat) "WhoseThread$Loom") ∈ TT := TT_of 105 (by decide +kernel) rfl
theorem tw_106 : (Jvm.Cond.instantiable "WhoseThread$Loom" (9 : Nat)) ∈ TT := TT_of 106 (by decide +kernel) rfl
theorem tw_107 : (Jvm.Cond.methodLink "WhoseThread" (28 : Nat) ({ cls := "WhoseThread$Loom", name := "<init>", desc := "(LWhoseThread$Telling;)V" } : Jvm.MethodName)) ∈ TT := TT_of 107 (by decide +kernel) rfl
theorem tw_108 : (Jvm.Cond.instanceMethod ({ cls := "WhoseThread$Loom", name := "<init>", desc := "(LWhoseThread$Telling;)V" } : Jvm.MethodName)) ∈ TT := TT_of 108 (by decide +kernel) rfl
theorem tw_109 : (Jvm.Cond.code ({ cls := "WhoseThread$Loom", name := "<init>", desc := "(LWhoseThread$Telling;)V" } : Jvm.MethodName) prog_3_method_1_code (2 : Nat) (Option.none : Option Jvm.ClassFile.FieldType)) ∈ TT := TT_of 109 (by decide +kernel) rfl
theorem tw_111 : (Jvm.Cond.fieldLink "WhoseThread$Loom" (24 : Nat) "WhoseThread$Loom" "told" "LWhoseThread$Telling;") ∈ TT := TT_of 111 (by decide +kernel) rfl
theorem tw_112 : (Jvm.Cond.fieldLink "WhoseThread$Loom" (28 : Nat) "WhoseThread$Loom" "day" "I") ∈ TT := TT_of 112 (by decide +kernel) rfl
theorem tw_113 : (Jvm.Cond.fieldLink "WhoseThread$Dealing" (41 : Nat) "WhoseThread$Loom" "day" "I") ∈ TT := TT_of 113 (by decide +kernel) rfl
theorem tw_114 : (Jvm.Cond.fieldLink "WhoseThread" (126 : Nat) "WhoseThread$Loom" "day" "I") ∈ TT := TT_of 114 (by decide +kernel) rfl
theorem tw_115 : (Jvm.Cond.fieldLink "WhoseThread$Loom" (32 : Nat) "WhoseThread$Loom" "lost" "I") ∈ TT := TT_of 115 (by decide +kernel) rfl
theorem tw_116 : (Jvm.Cond.fieldLink "WhoseThread" (179 : Nat) "WhoseThread$Loom" "lost" "I") ∈ TT := TT_of 116 (by decide +kernel) rfl
theorem tw_117 : (Jvm.Cond.fieldLink "WhoseThread$Tailing" (30 : Nat) "WhoseThread$Loom" "whole" "I") ∈ TT := TT_of 117 (by decide +kernel) rfl
theorem tw_118 : (Jvm.Cond.fieldLink "WhoseThread$Loom" (41 : Nat) "WhoseThread$Loom" "whole" "I") ∈ TT := TT_of 118 (by decide +kernel) rfl
theorem tw_119 : (Jvm.Cond.fieldLink "WhoseThread$Dealing" (57 : Nat) "WhoseThread$Loom" "whole" "I") ∈ TT := TT_of 119 (by decide +kernel) rfl
theorem tw_120 : (Jvm.Cond.fieldLink "WhoseThread" (142 : Nat) "WhoseThread$Loom" "whole" "I") ∈ TT := TT_of 120 (by decide +kernel) rfl
theorem tw_121 : (Jvm.Cond.fieldLink "WhoseThread$Loom" (44 : Nat) "WhoseThread$Loom" "cut" "I") ∈ TT := TT_of 121 (by decide +kernel) rfl
theorem tw_122 : (Jvm.Cond.fieldLink "WhoseThread$Tailing" (48 : Nat) "WhoseThread$Loom" "cut" "I") ∈ TT := TT_of 122 (by decide +kernel) rfl
theorem tw_123 : (Jvm.Cond.fieldLink "WhoseThread" (196 : Nat) "WhoseThread$Loom" "cut" "I") ∈ TT := TT_of 123 (by decide +kernel) rfl
theorem tw_124 : (Jvm.Cond.fieldLink "WhoseThread$Loom" (9 : Nat) "WhoseThread$Loom" "colours" "[I") ∈ TT := TT_of 124 (by decide +kernel) rfl
theorem tw_125 : (Jvm.Cond.fieldLink "WhoseThread$Tailing" (76 : Nat) "WhoseThread$Loom" "colours" "[I") ∈ TT := TT_of 125 (by decide +kernel) rfl
theorem tw_126 : (Jvm.Cond.fieldLink "WhoseThread" (103 : Nat) "WhoseThread$Loom" "colours" "[I") ∈ TT := TT_of 126 (by decide +kernel) rfl
theorem tw_127 : (Jvm.Cond.fieldLink "WhoseThread$Loom" (15 : Nat) "WhoseThread$Loom" "over" "[I") ∈ TT := TT_of 127 (by decide +kernel) rfl
theorem tw_128 : (Jvm.Cond.fieldLink "WhoseThread" (110 : Nat) "WhoseThread$Loom" "over" "[I") ∈ TT := TT_of 128 (by decide +kernel) rfl
theorem tw_129 : (Jvm.Cond.fieldLink "WhoseThread$Loom" (18 : Nat) "WhoseThread$Loom" "knots" "[I") ∈ TT := TT_of 129 (by decide +kernel) rfl
theorem tw_130 : (Jvm.Cond.fieldLink "WhoseThread" (113 : Nat) "WhoseThread$Loom" "knots" "[I") ∈ TT := TT_of 130 (by decide +kernel) rfl
theorem tw_131 : (Jvm.Cond.fieldLink "WhoseThread$Loom" (21 : Nat) "WhoseThread$Loom" "cutDays" "[I") ∈ TT := TT_of 131 (by decide +kernel) rfl
theorem tw_132 : (Jvm.Cond.fieldLink "WhoseThread$Tailing" (69 : Nat) "WhoseThread$Loom" "cutDays" "[I") ∈ TT := TT_of 132 (by decide +kernel) rfl
theorem tw_133 : (Jvm.Cond.fieldLink "WhoseThread" (116 : Nat) "WhoseThread$Loom" "cutDays" "[I") ∈ TT := TT_of 133 (by decide +kernel) rfl
theorem tw_134 : (Jvm.Cond.laysFinal "WhoseThread$Loom" "WhoseThread$Loom" "told" "LWhoseThread$Telling;") ∈ TT := TT_of 134 (by decide +kernel) rfl
theorem tw_136 : (Jvm.Cond.lays "WhoseThread$Loom" "WhoseThread$Loom" "day" "I") ∈ TT := TT_of 136 (by decide +kernel) rfl
theorem tw_138 : (Jvm.Cond.lays "WhoseThread$Loom" "WhoseThread$Loom" "lost" "I") ∈ TT := TT_of 138 (by decide +kernel) rfl
theorem tw_140 : (Jvm.Cond.lays "WhoseThread$Loom" "WhoseThread$Loom" "whole" "I") ∈ TT := TT_of 140 (by decide +kernel) rfl
theorem tw_142 : (Jvm.Cond.lays "WhoseThread$Loom" "WhoseThread$Loom" "cut" "I") ∈ TT := TT_of 142 (by decide +kernel) rfl
theorem tw_144 : (Jvm.Cond.laysFinal "WhoseThread$Loom" "WhoseThread$Loom" "colours" "[I") ∈ TT := TT_of 144 (by decide +kernel) rfl
theorem tw_146 : (Jvm.Cond.laysFinal "WhoseThread$Loom" "WhoseThread$Loom" "over" "[I") ∈ TT := TT_of 146 (by decide +kernel) rfl
theorem tw_148 : (Jvm.Cond.laysFinal "WhoseThread$Loom" "WhoseThread$Loom" "knots" "[I") ∈ TT := TT_of 148 (by decide +kernel) rfl
theorem tw_150 : (Jvm.Cond.laysFinal "WhoseThread$Loom" "WhoseThread$Loom" "cutDays" "[I") ∈ TT := TT_of 150 (by decide +kernel) rfl
theorem tw_153 : (Jvm.Cond.classLink "WhoseThread" (38 : Nat) "WhoseThread$Past") ∈ TT := TT_of 153 (by decide +kernel) rfl
theorem tw_154 : (Jvm.Cond.instantiable "WhoseThread$Past" (3 : Nat)) ∈ TT := TT_of 154 (by decide +kernel) rfl
theorem tw_155 : (Jvm.Cond.methodLink "WhoseThread" (40 : Nat) ({ cls := "WhoseThread$Past", name := "<init>", desc := "(LWhoseThread$Telling;)V" } : Jvm.MethodName)) ∈ TT := TT_of 155 (by decide +kernel) rfl
theorem tw_156 : (Jvm.Cond.instanceMethod ({ cls := "WhoseThread$Past", name := "<init>", desc := "(LWhoseThread$Telling;)V" } : Jvm.MethodName)) ∈ TT := TT_of 156 (by decide +kernel) rfl
theorem tw_157 : (Jvm.Cond.code ({ cls := "WhoseThread$Past", name := "<init>", desc := "(LWhoseThread$Telling;)V" } : Jvm.MethodName) prog_4_method_1_code (3 : Nat) (Option.none : Option Jvm.ClassFile.FieldType)) ∈ TT := TT_of 157 (by decide +kernel) rfl
theorem tw_159 : (Jvm.Cond.classLink "WhoseThread$Past" (9 : Nat) "WhoseThread$Loom") ∈ TT := TT_of 159 (by decide +kernel) rfl
theorem tw_161 : (Jvm.Cond.methodLink "WhoseThread$Past" (17 : Nat) ({ cls := "WhoseThread$Loom", name := "<init>", desc := "(LWhoseThread$Telling;)V" } : Jvm.MethodName)) ∈ TT := TT_of 161 (by decide +kernel) rfl
theorem tw_162 : (Jvm.Cond.fieldLink "WhoseThread$Past" (11 : Nat) "WhoseThread$Past" "ring" "[LWhoseThread$Loom;") ∈ TT := TT_of 162 (by decide +kernel) rfl
theorem tw_163 : (Jvm.Cond.fieldLink "WhoseThread$Past" (20 : Nat) "WhoseThread$Past" "next" "I") ∈ TT := TT_of 163 (by decide +kernel) rfl
theorem tw_164 : (Jvm.Cond.fieldLink "WhoseThread$Past" (28 : Nat) "WhoseThread$Past" "held" "I") ∈ TT := TT_of 164 (by decide +kernel) rfl
theorem tw_165 : (Jvm.Cond.fieldLink "WhoseThread" (86 : Nat) "WhoseThread$Past" "held" "I") ∈ TT := TT_of 165 (by decide +kernel) rfl
theorem tw_166 : (Jvm.Cond.laysFinal "WhoseThread$Past" "WhoseThread$Past" "ring" "[LWhoseThread$Loom;") ∈ TT := TT_of 166 (by decide +kernel) rfl
theorem tw_168 : (Jvm.Cond.lays "WhoseThread$Past" "WhoseThread$Past" "next" "I") ∈ TT := TT_of 168 (by decide +kernel) rfl
theorem tw_170 : (Jvm.Cond.lays "WhoseThread$Past" "WhoseThread$Past" "held" "I") ∈ TT := TT_of 170 (by decide +kernel) rfl
theorem tw_173 : (Jvm.Cond.classLink "WhoseThread" (53 : Nat) "WhoseThread$Dealing") ∈ TT := TT_of 173 (by decide +kernel) rfl
theorem tw_174 : (Jvm.Cond.instantiable "WhoseThread$Dealing" (7 : Nat)) ∈ TT := TT_of 174 (by decide +kernel) rfl
theorem tw_175 : (Jvm.Cond.methodLink "WhoseThread" (55 : Nat) ({ cls := "WhoseThread$Dealing", name := "<init>", desc := "(LWhoseThread$Telling;LWhoseThread$Loom;)V" } : Jvm.MethodName)) ∈ TT := TT_of 175 (by decide +kernel) rfl
theorem tw_176 : (Jvm.Cond.instanceMethod ({ cls := "WhoseThread$Dealing", name := "<init>", desc := "(LWhoseThread$Telling;LWhoseThread$Loom;)V" } : Jvm.MethodName)) ∈ TT := TT_of 176 (by decide +kernel) rfl
theorem tw_177 : (Jvm.Cond.code ({ cls := "WhoseThread$Dealing", name := "<init>", desc := "(LWhoseThread$Telling;LWhoseThread$Loom;)V" } : Jvm.MethodName) prog_2_method_1_code (3 : Nat) (Option.none : Option Jvm.ClassFile.FieldType)) ∈ TT := TT_of 177 (by decide +kernel) rfl
theorem tw_179 : (Jvm.Cond.fieldLink "WhoseThread$Dealing" (21 : Nat) "WhoseThread$Dealing" "told" "LWhoseThread$Telling;") ∈ TT := TT_of 179 (by decide +kernel) rfl
theorem tw_180 : (Jvm.Cond.fieldLink "WhoseThread$Dealing" (25 : Nat) "WhoseThread$Dealing" "now" "LWhoseThread$Loom;") ∈ TT := TT_of 180 (by decide +kernel) rfl
theorem tw_181 : (Jvm.Cond.fieldLink "WhoseThread$Dealing" (9 : Nat) "WhoseThread$Dealing" "days" "[I") ∈ TT := TT_of 181 (by decide +kernel) rfl
theorem tw_182 : (Jvm.Cond.fieldLink "WhoseThread$Dealing" (15 : Nat) "WhoseThread$Dealing" "row" "[I") ∈ TT := TT_of 182 (by decide +kernel) rfl
theorem tw_183 : (Jvm.Cond.fieldLink "WhoseThread$Dealing" (29 : Nat) "WhoseThread$Dealing" "slots" "I") ∈ TT := TT_of 183 (by decide +kernel) rfl
theorem tw_184 : (Jvm.Cond.fieldLink "WhoseThread$Dealing" (18 : Nat) "WhoseThread$Dealing" "first" "[I") ∈ TT := TT_of 184 (by decide +kernel) rfl
theorem tw_185 : (Jvm.Cond.fieldLink "WhoseThread" (205 : Nat) "WhoseThread$Dealing" "first" "[I") ∈ TT := TT_of 185 (by decide +kernel) rfl
theorem tw_186 : (Jvm.Cond.fieldLink "WhoseThread$Dealing" (54 : Nat) "WhoseThread$Dealing" "least" "I") ∈ TT := TT_of 186 (by decide +kernel) rfl
theorem tw_187 : (Jvm.Cond.fieldLink "WhoseThread" (202 : Nat) "WhoseThread$Dealing" "least" "I") ∈ TT := TT_of 187 (by decide +kernel) rfl
theorem tw_188 : (Jvm.Cond.laysFinal "WhoseThread$Dealing" "WhoseThread$Dealing" "told" "LWhoseThread$Telling;") ∈ TT := TT_of 188 (by decide +kernel) rfl
theorem tw_190 : (Jvm.Cond.laysFinal "WhoseThread$Dealing" "WhoseThread$Dealing" "now" "LWhoseThread$Loom;") ∈ TT := TT_of 190 (by decide +kernel) rfl
theorem tw_192 : (Jvm.Cond.laysFinal "WhoseThread$Dealing" "WhoseThread$Dealing" "days" "[I") ∈ TT := TT_of 192 (by decide +kernel) rfl
theorem tw_194 : (Jvm.Cond.laysFinal "WhoseThread$Dealing" "WhoseThread$Dealing" "row" "[I") ∈ TT := TT_of 194 (by decide +kernel) rfl
theorem tw_196 : (Jvm.Cond.lays "WhoseThread$Dealing" "WhoseThread$Dealing" "slots" "I") ∈ TT := TT_of 196 (by decide +kernel) rfl
theorem tw_198 : (Jvm.Cond.laysFinal "WhoseThread$Dealing" "WhoseThread$Dealing" "first" "[I") ∈ TT := TT_of 198 (by decide +kernel) rfl
theorem tw_200 : (Jvm.Cond.lays "WhoseThread$Dealing" "WhoseThread$Dealing" "least" "I") ∈ TT := TT_of 200 (by decide +kernel) rfl
theorem tw_203 : (Jvm.Cond.classLink "WhoseThread" (62 : Nat) "WhoseThread$Tailing") ∈ TT := TT_of 203 (by decide +kernel) rfl
theorem tw_204 : (Jvm.Cond.instantiable "WhoseThread$Tailing" (5 : Nat)) ∈ TT := TT_of 204 (by decide +kernel) rfl
theorem tw_205 : (Jvm.Cond.methodLink "WhoseThread" (64 : Nat) ({ cls := "WhoseThread$Tailing", name := "<init>", desc := "(LWhoseThread$Telling;LWhoseThread$Loom;)V" } : Jvm.MethodName)) ∈ TT := TT_of 205 (by decide +kernel) rfl
theorem tw_206 : (Jvm.Cond.instanceMethod ({ cls := "WhoseThread$Tailing", name := "<init>", desc := "(LWhoseThread$Telling;LWhoseThread$Loom;)V" } : Jvm.MethodName)) ∈ TT := TT_of 206 (by decide +kernel) rfl
theorem tw_207 : (Jvm.Cond.code ({ cls := "WhoseThread$Tailing", name := "<init>", desc := "(LWhoseThread$Telling;LWhoseThread$Loom;)V" } : Jvm.MethodName) prog_5_method_1_code (3 : Nat) (Option.none : Option Jvm.ClassFile.FieldType)) ∈ TT := TT_of 207 (by decide +kernel) rfl
theorem tw_209 : (Jvm.Cond.fieldLink "WhoseThread$Tailing" (18 : Nat) "WhoseThread$Tailing" "told" "LWhoseThread$Telling;") ∈ TT := TT_of 209 (by decide +kernel) rfl
theorem tw_210 : (Jvm.Cond.fieldLink "WhoseThread$Tailing" (22 : Nat) "WhoseThread$Tailing" "now" "LWhoseThread$Loom;") ∈ TT := TT_of 210 (by decide +kernel) rfl
theorem tw_211 : (Jvm.Cond.fieldLink "WhoseThread$Tailing" (9 : Nat) "WhoseThread$Tailing" "row" "[I") ∈ TT := TT_of 211 (by decide +kernel) rfl
theorem tw_212 : (Jvm.Cond.fieldLink "WhoseThread$Tailing" (15 : Nat) "WhoseThread$Tailing" "first" "[I") ∈ TT := TT_of 212 (by decide +kernel) rfl
theorem tw_213 : (Jvm.Cond.fieldLink "WhoseThread" (214 : Nat) "WhoseThread$Tailing" "first" "[I") ∈ TT := TT_of 213 (by decide +kernel) rfl
theorem tw_214 : (Jvm.Cond.fieldLink "WhoseThread$Tailing" (26 : Nat) "WhoseThread$Tailing" "most" "I") ∈ TT := TT_of 214 (by decide +kernel) rfl
theorem tw_215 : (Jvm.Cond.fieldLink "WhoseThread" (211 : Nat) "WhoseThread$Tailing" "most" "I") ∈ TT := TT_of 215 (by decide +kernel) rfl
theorem tw_216 : (Jvm.Cond.laysFinal "WhoseThread$Tailing" "WhoseThread$Tailing" "told" "LWhoseThread$Telling;") ∈ TT := TT_of 216 (by decide +kernel) rfl
theorem tw_218 : (Jvm.Cond.laysFinal "WhoseThread$Tailing" "WhoseThread$Tailing" "now" "LWhoseThread$Loom;") ∈ TT := TT_of 218 (by decide +kernel) rfl
theorem tw_220 : (Jvm.Cond.laysFinal "WhoseThread$Tailing" "WhoseThread$Tailing" "row" "[I") ∈ TT := TT_of 220 (by decide +kernel) rfl
theorem tw_222 : (Jvm.Cond.laysFinal "WhoseThread$Tailing" "WhoseThread$Tailing" "first" "[I") ∈ TT := TT_of 222 (by decide +kernel) rfl
theorem tw_224 : (Jvm.Cond.lays "WhoseThread$Tailing" "WhoseThread$Tailing" "most" "I") ∈ TT := TT_of 224 (by decide +kernel) rfl
theorem tw_227 : (Jvm.Cond.fieldLink "WhoseThread" (12 : Nat) "WhoseThread" "text" "LWhoseThread$Text;") ∈ TT := TT_of 227 (by decide +kernel) rfl
theorem tw_228 : (Jvm.Cond.fieldLink "WhoseThread" (19 : Nat) "WhoseThread" "told" "LWhoseThread$Telling;") ∈ TT := TT_of 228 (by decide +kernel) rfl
theorem tw_229 : (Jvm.Cond.fieldLink "WhoseThread" (23 : Nat) "WhoseThread" "trial" "LWhoseThread$Telling;") ∈ TT := TT_of 229 (by decide +kernel) rfl
theorem tw_230 : (Jvm.Cond.fieldLink "WhoseThread" (31 : Nat) "WhoseThread" "now" "LWhoseThread$Loom;") ∈ TT := TT_of 230 (by decide +kernel) rfl
theorem tw_231 : (Jvm.Cond.fieldLink "WhoseThread" (35 : Nat) "WhoseThread" "spare" "LWhoseThread$Loom;") ∈ TT := TT_of 231 (by decide +kernel) rfl
theorem tw_232 : (Jvm.Cond.fieldLink "WhoseThread" (41 : Nat) "WhoseThread" "past" "LWhoseThread$Past;") ∈ TT := TT_of 232 (by decide +kernel) rfl
theorem tw_233 : (Jvm.Cond.fieldLink "WhoseThread" (45 : Nat) "WhoseThread" "kept" "[LWhoseThread$Loom;") ∈ TT := TT_of 233 (by decide +kernel) rfl
theorem tw_234 : (Jvm.Cond.fieldLink "WhoseThread" (49 : Nat) "WhoseThread" "keptBits" "I") ∈ TT := TT_of 234 (by decide +kernel) rfl
theorem tw_235 : (Jvm.Cond.fieldLink "WhoseThread" (58 : Nat) "WhoseThread" "dealing" "LWhoseThread$Dealing;") ∈ TT := TT_of 235 (by decide +kernel) rfl
theorem tw_236 : (Jvm.Cond.fieldLink "WhoseThread" (65 : Nat) "WhoseThread" "tailing" "LWhoseThread$Tailing;") ∈ TT := TT_of 236 (by decide +kernel) rfl
theorem tw_237 : (Jvm.Cond.laysFinal "WhoseThread" "WhoseThread" "text" "LWhoseThread$Text;") ∈ TT := TT_of 237 (by decide +kernel) rfl
theorem tw_239 : (Jvm.Cond.laysFinal "WhoseThread" "WhoseThread" "told" "LWhoseThread$Telling;") ∈ TT := TT_of 239 (by decide +kernel) rfl
theorem tw_241 : (Jvm.Cond.laysFinal "WhoseThread" "WhoseThread" "trial" "LWhoseThread$Telling;") ∈ TT := TT_of 241 (by decide +kernel) rfl
theorem tw_243 : (Jvm.Cond.laysFinal "WhoseThread" "WhoseThread" "now" "LWhoseThread$Loom;") ∈ TT := TT_of 243 (by decide +kernel) rfl
theorem tw_245 : (Jvm.Cond.laysFinal "WhoseThread" "WhoseThread" "spare" "LWhoseThread$Loom;") ∈ TT := TT_of 245 (by decide +kernel) rfl
theorem tw_247 : (Jvm.Cond.laysFinal "WhoseThread" "WhoseThread" "past" "LWhoseThread$Past;") ∈ TT := TT_of 247 (by decide +kernel) rfl
theorem tw_249 : (Jvm.Cond.laysFinal "WhoseThread" "WhoseThread" "kept" "[LWhoseThread$Loom;") ∈ TT := TT_of 249 (by decide +kernel) rfl
theorem tw_251 : (Jvm.Cond.lays "WhoseThread" "WhoseThread" "keptBits" "I") ∈ TT := TT_of 251 (by decide +kernel) rfl
theorem tw_253 : (Jvm.Cond.laysFinal "WhoseThread" "WhoseThread" "dealing" "LWhoseThread$Dealing;") ∈ TT := TT_of 253 (by decide +kernel) rfl
theorem tw_255 : (Jvm.Cond.laysFinal "WhoseThread" "WhoseThread" "tailing" "LWhoseThread$Tailing;") ∈ TT := TT_of 255 (by decide +kernel) rfl
theorem tw_258 : (Jvm.Cond.methodLink "WhoseThreadLaw" (13 : Nat) ({ cls := "WhoseThread", name := "write", desc := "(I)I" } : Jvm.MethodName)) ∈ TT := TT_of 258 (by decide +kernel) rfl
theorem tw_259 : (Jvm.Cond.instanceMethod ({ cls := "WhoseThread", name := "write", desc := "(I)I" } : Jvm.MethodName)) ∈ TT := TT_of 259 (by decide +kernel) rfl
theorem tw_260 : (Jvm.Cond.selects "WhoseThread" ({ cls := "WhoseThread", name := "write", desc := "(I)I" } : Jvm.MethodName) ({ cls := "WhoseThread", name := "write", desc := "(I)I" } : Jvm.MethodName)) ∈ TT := TT_of 260 (by decide +kernel) rfl
theorem tw_261 : (Jvm.Cond.code ({ cls := "WhoseThread", name := "write", desc := "(I)I" } : Jvm.MethodName) prog_1_method_2_code (2 : Nat) (Option.some Jvm.ClassFile.FieldType.int)) ∈ TT := TT_of 261 (by decide +kernel) rfl
theorem tw_262 : (Jvm.Cond.methodLink "WhoseThread" (72 : Nat) ({ cls := "WhoseThread$Text", name := "add", desc := "(I)V" } : Jvm.MethodName)) ∈ TT := TT_of 262 (by decide +kernel) rfl
theorem tw_263 : (Jvm.Cond.instanceMethod ({ cls := "WhoseThread$Text", name := "add", desc := "(I)V" } : Jvm.MethodName)) ∈ TT := TT_of 263 (by decide +kernel) rfl
theorem tw_264 : (Jvm.Cond.selects "WhoseThread$Text" ({ cls := "WhoseThread$Text", name := "add", desc := "(I)V" } : Jvm.MethodName) ({ cls := "WhoseThread$Text", name := "add", desc := "(I)V" } : Jvm.MethodName)) ∈ TT := TT_of 264 (by decide +kernel) rfl
theorem tw_265 : (Jvm.Cond.code ({ cls := "WhoseThread$Text", name := "add", desc := "(I)V" } : Jvm.MethodName) prog_7_method_2_code (2 : Nat) (Option.none : Option Jvm.ClassFile.FieldType)) ∈ TT := TT_of 265 (by decide +kernel) rfl
theorem tw_266 : (Jvm.Cond.methodLink "WhoseThreadLaw" (18 : Nat) ({ cls := "WhoseThread", name := "erase", desc := "()I" } : Jvm.MethodName)) ∈ TT := TT_of 266 (by decide +kernel) rfl
theorem tw_267 : (Jvm.Cond.instanceMethod ({ cls := "WhoseThread", name := "erase", desc := "()I" } : Jvm.MethodName)) ∈ TT := TT_of 267 (by decide +kernel) rfl
theorem tw_268 : (Jvm.Cond.selects "WhoseThread" ({ cls := "WhoseThread", name := "erase", desc := "()I" } : Jvm.MethodName) ({ cls := "WhoseThread", name := "erase", desc := "()I" } : Jvm.MethodName)) ∈ TT := TT_of 268 (by decide +kernel) rfl
theorem tw_269 : (Jvm.Cond.code ({ cls := "WhoseThread", name := "erase", desc := "()I" } : Jvm.MethodName) prog_1_method_3_code (2 : Nat) (Option.some Jvm.ClassFile.FieldType.int)) ∈ TT := TT_of 269 (by decide +kernel) rfl
theorem tw_270 : (Jvm.Cond.methodLink "WhoseThreadLaw" (23 : Nat) ({ cls := "WhoseThread", name := "fault", desc := "()I" } : Jvm.MethodName)) ∈ TT := TT_of 270 (by decide +kernel) rfl
theorem tw_271 : (Jvm.Cond.instanceMethod ({ cls := "WhoseThread", name := "fault", desc := "()I" } : Jvm.MethodName)) ∈ TT := TT_of 271 (by decide +kernel) rfl
theorem tw_272 : (Jvm.Cond.selects "WhoseThread" ({ cls := "WhoseThread", name := "fault", desc := "()I" } : Jvm.MethodName) ({ cls := "WhoseThread", name := "fault", desc := "()I" } : Jvm.MethodName)) ∈ TT := TT_of 272 (by decide +kernel) rfl
theorem tw_273 : (Jvm.Cond.code ({ cls := "WhoseThread", name := "fault", desc := "()I" } : Jvm.MethodName) prog_1_method_4_code (1 : Nat) (Option.some Jvm.ClassFile.FieldType.int)) ∈ TT := TT_of 273 (by decide +kernel) rfl
theorem tw_274 : (Jvm.Cond.methodLink "WhoseThread" (76 : Nat) ({ cls := "WhoseThread$Telling", name := "copyFrom", desc := "(LWhoseThread$Telling;)V" } : Jvm.MethodName)) ∈ TT := TT_of 274 (by decide +kernel) rfl
theorem tw_275 : (Jvm.Cond.instanceMethod ({ cls := "WhoseThread$Telling", name := "copyFrom", desc := "(LWhoseThread$Telling;)V" } : Jvm.MethodName)) ∈ TT := TT_of 275 (by decide +kernel) rfl
theorem tw_276 : (Jvm.Cond.selects "WhoseThread$Telling" ({ cls := "WhoseThread$Telling", name := "copyFrom", desc := "(LWhoseThread$Telling;)V" } : Jvm.MethodName) ({ cls := "WhoseThread$Telling", name := "copyFrom", desc := "(LWhoseThread$Telling;)V" } : Jvm.MethodName)) ∈ TT := TT_of 276 (by decide +kernel) rfl
theorem tw_277 : (Jvm.Cond.code ({ cls := "WhoseThread$Telling", name := "copyFrom", desc := "(LWhoseThread$Telling;)V" } : Jvm.MethodName) prog_6_method_2_code (2 : Nat) (Option.none : Option Jvm.ClassFile.FieldType)) ∈ TT := TT_of 277 (by decide +kernel) rfl
theorem tw_281 : (Jvm.Cond.methodLink "WhoseThread" (79 : Nat) ({ cls := "WhoseThread$Text", name := "firstFault", desc := "(LWhoseThread$Telling;)I" } : Jvm.MethodName)) ∈ TT := TT_of 281 (by decide +kernel) rfl
theorem tw_282 : (Jvm.Cond.instanceMethod ({ cls := "WhoseThread$Text", name := "firstFault", desc := "(LWhoseThread$Telling;)I" } : Jvm.MethodName)) ∈ TT := TT_of 282 (by decide +kernel) rfl
theorem tw_283 : (Jvm.Cond.selects "WhoseThread$Text" ({ cls := "WhoseThread$Text", name := "firstFault", desc := "(LWhoseThread$Telling;)I" } : Jvm.MethodName) ({ cls := "WhoseThread$Text", name := "firstFault", desc := "(LWhoseThread$Telling;)I" } : Jvm.MethodName)) ∈ TT := TT_of 283 (by decide +kernel) rfl
theorem tw_284 : (Jvm.Cond.code ({ cls := "WhoseThread$Text", name := "firstFault", desc := "(LWhoseThread$Telling;)I" } : Jvm.MethodName) prog_7_method_3_code (3 : Nat) (Option.some Jvm.ClassFile.FieldType.int)) ∈ TT := TT_of 284 (by decide +kernel) rfl
theorem tw_285 : (Jvm.Cond.methodLink "WhoseThread$Text" (25 : Nat) ({ cls := "WhoseThread$Text", name := "step", desc := "()V" } : Jvm.MethodName)) ∈ TT := TT_of 285 (by decide +kernel) rfl
theorem tw_287 : (Jvm.Cond.instanceMethod ({ cls := "WhoseThread$Text", name := "step", desc := "()V" } : Jvm.MethodName)) ∈ TT := TT_of 287 (by decide +kernel) rfl
theorem tw_288 : (Jvm.Cond.code ({ cls := "WhoseThread$Text", name := "step", desc := "()V" } : Jvm.MethodName) prog_7_method_9_code (2 : Nat) (Option.none : Option Jvm.ClassFile.FieldType)) ∈ TT := TT_of 288 (by decide +kernel) rfl
theorem tw_289 : (Jvm.Cond.methodLink "WhoseThread$Text" (96 : Nat) ({ cls := "WhoseThread$Text", name := "sortOf", desc := "(I)I" } : Jvm.MethodName)) ∈ TT := TT_of 289 (by decide +kernel) rfl
theorem tw_290 : (Jvm.Cond.static ({ cls := "WhoseThread$Text", name := "sortOf", desc := "(I)I" } : Jvm.MethodName)) ∈ TT := TT_of 290 (by decide +kernel) rfl
theorem tw_291 : (Jvm.Cond.code ({ cls := "WhoseThread$Text", name := "sortOf", desc := "(I)I" } : Jvm.MethodName) prog_7_method_10_code (1 : Nat) (Option.some Jvm.ClassFile.FieldType.int)) ∈ TT := TT_of 291 (by decide +kernel) rfl
theorem tw_292 : (Jvm.Cond.methodLink "WhoseThread$Text" (28 : Nat) ({ cls := "WhoseThread$Text", name := "clauseStands", desc := "(LWhoseThread$Telling;)Z" } : Jvm.MethodName)) ∈ TT := TT_of 292 (by decide +kernel) rfl
theorem tw_294 : (Jvm.Cond.instanceMethod ({ cls := "WhoseThread$Text", name := "clauseStands", desc := "(LWhoseThread$Telling;)Z" } : Jvm.MethodName)) ∈ TT := TT_of 294 (by decide +kernel) rfl
theorem tw_295 : (Jvm.Cond.code ({ cls := "WhoseThread$Text", name := "clauseStands", desc := "(LWhoseThread$Telling;)Z" } : Jvm.MethodName) prog_7_method_4_code (3 : Nat) (Option.some Jvm.ClassFile.FieldType.boolean)) ∈ TT := TT_of 295 (by decide +kernel) rfl
theorem tw_296 : (Jvm.Cond.methodLink "WhoseThread$Text" (35 : Nat) ({ cls := "WhoseThread$Text", name := "word", desc := "()I" } : Jvm.MethodName)) ∈ TT := TT_of 296 (by decide +kernel) rfl
theorem tw_298 : (Jvm.Cond.instanceMethod ({ cls := "WhoseThread$Text", name := "word", desc := "()I" } : Jvm.MethodName)) ∈ TT := TT_of 298 (by decide +kernel) rfl
theorem tw_299 : (Jvm.Cond.code ({ cls := "WhoseThread$Text", name := "word", desc := "()I" } : Jvm.MethodName) prog_7_method_12_code (1 : Nat) (Option.some Jvm.ClassFile.FieldType.int)) ∈ TT := TT_of 299 (by decide +kernel) rfl
theorem tw_301 : (Jvm.Cond.methodLink "WhoseThread$Text" (101 : Nat) ({ cls := "WhoseThread$Text", name := "isWord", desc := "(Ljava/lang/String;)Z" } : Jvm.MethodName)) ∈ TT := TT_of 301 (by decide +kernel) rfl
theorem tw_303 : (Jvm.Cond.instanceMethod ({ cls := "WhoseThread$Text", name := "isWord", desc := "(Ljava/lang/String;)Z" } : Jvm.MethodName)) ∈ TT := TT_of 303 (by decide +kernel) rfl
theorem tw_304 : (Jvm.Cond.code ({ cls := "WhoseThread$Text", name := "isWord", desc := "(Ljava/lang/String;)Z" } : Jvm.MethodName) prog_7_method_13_code (3 : Nat) (Option.some Jvm.ClassFile.FieldType.boolean)) ∈ TT := TT_of 304 (by decide +kernel) rfl
theorem tw_305 : (Jvm.Cond.methodLink "WhoseThread$Text" (122 : Nat) ({ cls := "java/lang/String", name := "length", desc := "()I" } : Jvm.MethodName)) ∈ TT := TT_of 305 (by decide +kernel) rfl
theorem tw_306 : (Jvm.Cond.instanceMethod ({ cls := "java/lang/String", name := "length", desc := "()I" } : Jvm.MethodName)) ∈ TT := TT_of 306 (by decide +kernel) rfl
theorem tw_307 : (Jvm.Cond.selects "java/lang/String" ({ cls := "java/lang/String", name := "length", desc := "()I" } : Jvm.MethodName) ({ cls := "java/lang/String", name := "length", desc := "()I" } : Jvm.MethodName)) ∈ TT := TT_of 307 (by decide +kernel) rfl
theorem tw_308 : (Jvm.Cond.code ({ cls := "java/lang/String", name := "length", desc := "()I" } : Jvm.MethodName) prog_12_method_54_code (1 : Nat) (Option.some Jvm.ClassFile.FieldType.int)) ∈ TT := TT_of 308 (by decide +kernel) rfl
theorem tw_309 : (Jvm.Cond.methodLink "java/lang/String" (335 : Nat) ({ cls := "java/lang/String", name := "coder", desc := "()B" } : Jvm.MethodName)) ∈ TT := TT_of 309 (by decide +kernel) rfl
theorem tw_310 : (Jvm.Cond.instanceMethod ({ cls := "java/lang/String", name := "coder", desc := "()B" } : Jvm.MethodName)) ∈ TT := TT_of 310 (by decide +kernel) rfl
theorem tw_311 : (Jvm.Cond.selects "java/lang/String" ({ cls := "java/lang/String", name := "coder", desc := "()B" } : Jvm.MethodName) ({ cls := "java/lang/String", name := "coder", desc := "()B" } : Jvm.MethodName)) ∈ TT := TT_of 311 (by decide +kernel) rfl
theorem tw_312 : (Jvm.Cond.code ({ cls := "java/lang/String", name := "coder", desc := "()B" } : Jvm.MethodName) prog_12_method_152_code (1 : Nat) (Option.some Jvm.ClassFile.FieldType.byte)) ∈ TT := TT_of 312 (by decide +kernel) rfl
theorem tw_313 : (Jvm.Cond.fieldLink "java/lang/String" (38 : Nat) "java/lang/String" "COMPACT_STRINGS" "Z") ∈ TT := TT_of 313 (by decide +kernel) rfl
theorem tw_315 : (Jvm.Cond.methodLink "WhoseThread$Text" (126 : Nat) ({ cls := "java/lang/String", name := "charAt", desc := "(I)C" } : Jvm.MethodName)) ∈ TT := TT_of 315 (by decide +kernel) rfl
theorem tw_316 : (Jvm.Cond.instanceMethod ({ cls := "java/lang/String", name := "charAt", desc := "(I)C" } : Jvm.MethodName)) ∈ TT := TT_of 316 (by decide +kernel) rfl
theorem tw_317 : (Jvm.Cond.selects "java/lang/String" ({ cls := "java/lang/String", name := "charAt", desc := "(I)C" } : Jvm.MethodName) ({ cls := "java/lang/String", name := "charAt", desc := "(I)C" } : Jvm.MethodName)) ∈ TT := TT_of 317 (by decide +kernel) rfl
theorem tw_318 : (Jvm.Cond.code ({ cls := "java/lang/String", name := "charAt", desc := "(I)C" } : Jvm.MethodName) prog_12_method_56_code (2 : Nat) (Option.some Jvm.ClassFile.FieldType.char)) ∈ TT := TT_of 318 (by decide +kernel) rfl
theorem tw_319 : (Jvm.Cond.methodLink "java/lang/String" (492 : Nat) ({ cls := "java/lang/String", name := "isLatin1", desc := "()Z" } : Jvm.MethodName)) ∈ TT := TT_of 319 (by decide +kernel) rfl
theorem tw_320 : (Jvm.Cond.instanceMethod ({ cls := "java/lang/String", name := "isLatin1", desc := "()Z" } : Jvm.MethodName)) ∈ TT := TT_of 320 (by decide +kernel) rfl
theorem tw_321 : (Jvm.Cond.selects "java/lang/String" ({ cls := "java/lang/String", name := "isLatin1", desc := "()Z" } : Jvm.MethodName) ({ cls := "java/lang/String", name := "isLatin1", desc := "()Z" } : Jvm.MethodName)) ∈ TT := TT_of 321 (by decide +kernel) rfl
theorem tw_322 : (Jvm.Cond.code ({ cls := "java/lang/String", name := "isLatin1", desc := "()Z" } : Jvm.MethodName) prog_12_method_154_code (1 : Nat) (Option.some Jvm.ClassFile.FieldType.boolean)) ∈ TT := TT_of 322 (by decide +kernel) rfl
theorem tw_323 : (Jvm.Cond.methodLink "java/lang/String" (495 : Nat) ({ cls := "java/lang/StringLatin1", name := "charAt", desc := "([BI)C" } : Jvm.MethodName)) ∈ TT := TT_of 323 (by decide +kernel) rfl
theorem tw_324 : (Jvm.Cond.static ({ cls := "java/lang/StringLatin1", name := "charAt", desc := "([BI)C" } : Jvm.MethodName)) ∈ TT := TT_of 324 (by decide +kernel) rfl
theorem tw_325 : (Jvm.Cond.code ({ cls := "java/lang/StringLatin1", name := "charAt", desc := "([BI)C" } : Jvm.MethodName) prog_13_method_2_code (2 : Nat) (Option.some Jvm.ClassFile.FieldType.char)) ∈ TT := TT_of 325 (by decide +kernel) rfl
theorem tw_326 : (Jvm.Cond.methodLink "java/lang/StringLatin1" (9 : Nat) ({ cls := "java/lang/String", name := "checkIndex", desc := "(II)V" } : Jvm.MethodName)) ∈ TT := TT_of 326 (by decide +kernel) rfl
theorem tw_327 : (Jvm.Cond.static ({ cls := "java/lang/String", name := "checkIndex", desc := "(II)V" } : Jvm.MethodName)) ∈ TT := TT_of 327 (by decide +kernel) rfl
theorem tw_328 : (Jvm.Cond.code ({ cls := "java/lang/String", name := "checkIndex", desc := "(II)V" } : Jvm.MethodName) prog_12_method_155_code (2 : Nat) (Option.none : Option Jvm.ClassFile.FieldType)) ∈ TT := TT_of 328 (by decide +kernel) rfl
theorem tw_329 : (Jvm.Cond.fieldLink "java/lang/String" (1053 : Nat) "jdk/internal/util/Preconditions" "SIOOBE_FORMATTER" "Ljava/util/function/BiFunction;") ∈ TT := TT_of 329 (by decide +kernel) rfl
theorem tw_331 : (Jvm.Cond.methodLink "java/lang/String" (1059 : Nat) ({ cls := "jdk/internal/util/Preconditions", name := "checkIndex", desc := "(IILjava/util/function/BiFunction;)I" } : Jvm.MethodName)) ∈ TT := TT_of 331 (by decide +kernel) rfl
theorem tw_332 : (Jvm.Cond.static ({ cls := "jdk/internal/util/Preconditions", name := "checkIndex", desc := "(IILjava/util/function/BiFunction;)I" } : Jvm.MethodName)) ∈ TT := TT_of 332 (by decide +kernel) rfl
theorem tw_333 : (Jvm.Cond.code ({ cls := "jdk/internal/util/Preconditions", name := "checkIndex", desc := "(IILjava/util/function/BiFunction;)I" } : Jvm.MethodName) prog_16_method_11_code (3 : Nat) (Option.some Jvm.ClassFile.FieldType.int)) ∈ TT := TT_of 333 (by decide +kernel) rfl
theorem tw_334 : (Jvm.Cond.methodLink "java/lang/String" (498 : Nat) ({ cls := "java/lang/StringUTF16", name := "charAt", desc := "([BI)C" } : Jvm.MethodName)) ∈ TT := TT_of 334 (by decide +kernel) rfl
theorem tw_335 : (Jvm.Cond.static ({ cls := "java/lang/StringUTF16", name := "charAt", desc := "([BI)C" } : Jvm.MethodName)) ∈ TT := TT_of 335 (by decide +kernel) rfl
theorem tw_336 : (Jvm.Cond.code ({ cls := "java/lang/StringUTF16", name := "charAt", desc := "([BI)C" } : Jvm.MethodName) prog_14_method_83_code (2 : Nat) (Option.some Jvm.ClassFile.FieldType.char)) ∈ TT := TT_of 336 (by decide +kernel) rfl
theorem tw_337 : (Jvm.Cond.methodLink "java/lang/StringUTF16" (67 : Nat) ({ cls := "java/lang/StringUTF16", name := "checkIndex", desc := "(I[B)V" } : Jvm.MethodName)) ∈ TT := TT_of 337 (by decide +kernel) rfl
theorem tw_338 : (Jvm.Cond.static ({ cls := "java/lang/StringUTF16", name := "checkIndex", desc := "(I[B)V" } : Jvm.MethodName)) ∈ TT := TT_of 338 (by decide +kernel) rfl
theorem tw_339 : (Jvm.Cond.code ({ cls := "java/lang/StringUTF16", name := "checkIndex", desc := "(I[B)V" } : Jvm.MethodName) prog_14_method_91_code (2 : Nat) (Option.none : Option Jvm.ClassFile.FieldType)) ∈ TT := TT_of 339 (by decide +kernel) rfl
theorem tw_340 : (Jvm.Cond.methodLink "java/lang/StringUTF16" (48 : Nat) ({ cls := "java/lang/StringUTF16", name := "length", desc := "([B)I" } : Jvm.MethodName)) ∈ TT := TT_of 340 (by decide +kernel) rfl
theorem tw_341 : (Jvm.Cond.static ({ cls := "java/lang/StringUTF16", name := "length", desc := "([B)I" } : Jvm.MethodName)) ∈ TT := TT_of 341 (by decide +kernel) rfl
theorem tw_342 : (Jvm.Cond.code ({ cls := "java/lang/StringUTF16", name := "length", desc := "([B)I" } : Jvm.MethodName) prog_14_method_6_code (1 : Nat) (Option.some Jvm.ClassFile.FieldType.int)) ∈ TT := TT_of 342 (by decide +kernel) rfl
theorem tw_343 : (Jvm.Cond.methodLink "java/lang/StringUTF16" (414 : Nat) ({ cls := "java/lang/String", name := "checkIndex", desc := "(II)V" } : Jvm.MethodName)) ∈ TT := TT_of 343 (by decide +kernel) rfl
theorem tw_344 : (Jvm.Cond.methodLink "java/lang/StringUTF16" (71 : Nat) ({ cls := "java/lang/StringUTF16", name := "getChar", desc := "([BI)C" } : Jvm.MethodName)) ∈ TT := TT_of 344 (by decide +kernel) rfl
theorem tw_345 : (Jvm.Cond.static ({ cls := "java/lang/StringUTF16", name := "getChar", desc := "([BI)C" } : Jvm.MethodName)) ∈ TT := TT_of 345 (by decide +kernel) rfl
theorem tw_346 : (Jvm.Cond.code ({ cls := "java/lang/StringUTF16", name := "getChar", desc := "([BI)C" } : Jvm.MethodName) prog_14_method_5_code (2 : Nat) (Option.some Jvm.ClassFile.FieldType.char)) ∈ TT := TT_of 346 (by decide +kernel) rfl
theorem tw_347 : (Jvm.Cond.fieldLink "java/lang/StringUTF16" (44 : Nat) "java/lang/StringUTF16" "$assertionsDisabled" "Z") ∈ TT := TT_of 347 (by decide +kernel) rfl
theorem tw_349 : (Jvm.Cond.fieldLink "java/lang/StringUTF16" (59 : Nat) "java/lang/StringUTF16" "HI_BYTE_SHIFT" "I") ∈ TT := TT_of 349 (by decide +kernel) rfl
theorem tw_351 : (Jvm.Cond.fieldLink "java/lang/StringUTF16" (63 : Nat) "java/lang/StringUTF16" "LO_BYTE_SHIFT" "I") ∈ TT := TT_of 351 (by decide +kernel) rfl
theorem tw_362 : (Jvm.Cond.methodLink "WhoseThread$Text" (39 : Nat) ({ cls := "WhoseThread$Telling", name := "hasRoomFor", desc := "(I)Z" } : Jvm.MethodName)) ∈ TT := TT_of 362 (by decide +kernel) rfl
theorem tw_363 : (Jvm.Cond.instanceMethod ({ cls := "WhoseThread$Telling", name := "hasRoomFor", desc := "(I)Z" } : Jvm.MethodName)) ∈ TT := TT_of 363 (by decide +kernel) rfl
theorem tw_364 : (Jvm.Cond.selects "WhoseThread$Telling" ({ cls := "WhoseThread$Telling", name := "hasRoomFor", desc := "(I)Z" } : Jvm.MethodName) ({ cls := "WhoseThread$Telling", name := "hasRoomFor", desc := "(I)Z" } : Jvm.MethodName)) ∈ TT := TT_of 364 (by decide +kernel) rfl
theorem tw_365 : (Jvm.Cond.code ({ cls := "WhoseThread$Telling", name := "hasRoomFor", desc := "(I)Z" } : Jvm.MethodName) prog_6_method_3_code (2 : Nat) (Option.some Jvm.ClassFile.FieldType.boolean)) ∈ TT := TT_of 365 (by decide +kernel) rfl
theorem tw_366 : (Jvm.Cond.methodLink "WhoseThread$Text" (45 : Nat) ({ cls := "WhoseThread$Telling", name := "empty", desc := "()V" } : Jvm.MethodName)) ∈ TT := TT_of 366 (by decide +kernel) rfl
theorem tw_367 : (Jvm.Cond.instanceMethod ({ cls := "WhoseThread$Telling", name := "empty", desc := "()V" } : Jvm.MethodName)) ∈ TT := TT_of 367 (by decide +kernel) rfl
theorem tw_368 : (Jvm.Cond.selects "WhoseThread$Telling" ({ cls := "WhoseThread$Telling", name := "empty", desc := "()V" } : Jvm.MethodName) ({ cls := "WhoseThread$Telling", name := "empty", desc := "()V" } : Jvm.MethodName)) ∈ TT := TT_of 368 (by decide +kernel) rfl
theorem tw_369 : (Jvm.Cond.code ({ cls := "WhoseThread$Telling", name := "empty", desc := "()V" } : Jvm.MethodName) prog_6_method_6_code (1 : Nat) (Option.none : Option Jvm.ClassFile.FieldType)) ∈ TT := TT_of 369 (by decide +kernel) rfl
theorem tw_370 : (Jvm.Cond.methodLink "WhoseThread$Telling" (46 : Nat) ({ cls := "WhoseThread$Telling", name := "loosen", desc := "()V" } : Jvm.MethodName)) ∈ TT := TT_of 370 (by decide +kernel) rfl
theorem tw_371 : (Jvm.Cond.instanceMethod ({ cls := "WhoseThread$Telling", name := "loosen", desc := "()V" } : Jvm.MethodName)) ∈ TT := TT_of 371 (by decide +kernel) rfl
theorem tw_372 : (Jvm.Cond.selects "WhoseThread$Telling" ({ cls := "WhoseThread$Telling", name := "loosen", desc := "()V" } : Jvm.MethodName) ({ cls := "WhoseThread$Telling", name := "loosen", desc := "()V" } : Jvm.MethodName)) ∈ TT := TT_of 372 (by decide +kernel) rfl
theorem tw_373 : (Jvm.Cond.code ({ cls := "WhoseThread$Telling", name := "loosen", desc := "()V" } : Jvm.MethodName) prog_6_method_7_code (2 : Nat) (Option.none : Option Jvm.ClassFile.FieldType)) ∈ TT := TT_of 373 (by decide +kernel) rfl
theorem tw_374 : (Jvm.Cond.methodLink "WhoseThread$Text" (51 : Nat) ({ cls := "WhoseThread$Telling", name := "loosen", desc := "()V" } : Jvm.MethodName)) ∈ TT := TT_of 374 (by decide +kernel) rfl
theorem tw_375 : (Jvm.Cond.methodLink "WhoseThread$Text" (54 : Nat) ({ cls := "WhoseThread$Text", name := "overStands", desc := "(LWhoseThread$Telling;)Z" } : Jvm.MethodName)) ∈ TT := TT_of 375 (by decide +kernel) rfl
theorem tw_377 : (Jvm.Cond.instanceMethod ({ cls := "WhoseThread$Text", name := "overStands", desc := "(LWhoseThread$Telling;)Z" } : Jvm.MethodName)) ∈ TT := TT_of 377 (by decide +kernel) rfl
theorem tw_378 : (Jvm.Cond.code ({ cls := "WhoseThread$Text", name := "overStands", desc := "(LWhoseThread$Telling;)Z" } : Jvm.MethodName) prog_7_method_6_code (4 : Nat) (Option.some Jvm.ClassFile.FieldType.boolean)) ∈ TT := TT_of 378 (by decide +kernel) rfl
theorem tw_379 : (Jvm.Cond.methodLink "WhoseThread$Text" (67 : Nat) ({ cls := "WhoseThread$Text", name := "number", desc := "(II)I" } : Jvm.MethodName)) ∈ TT := TT_of 379 (by decide +kernel) rfl
theorem tw_381 : (Jvm.Cond.instanceMethod ({ cls := "WhoseThread$Text", name := "number", desc := "(II)I" } : Jvm.MethodName)) ∈ TT := TT_of 381 (by decide +kernel) rfl
theorem tw_382 : (Jvm.Cond.code ({ cls := "WhoseThread$Text", name := "number", desc := "(II)I" } : Jvm.MethodName) prog_7_method_11_code (5 : Nat) (Option.some Jvm.ClassFile.FieldType.int)) ∈ TT := TT_of 382 (by decide +kernel) rfl
theorem tw_384 : (Jvm.Cond.static ({ cls := "WhoseThread", name := "makesRing", desc := "([III)Z" } : Jvm.MethodName)) ∈ TT := TT_of 384 (by decide +kernel) rfl
theorem tw_385 : (Jvm.Cond.code ({ cls := "WhoseThread", name := "makesRing", desc := "([III)Z" } : Jvm.MethodName) prog_1_method_39_code (3 : Nat) (Option.some Jvm.ClassFile.FieldType.boolean)) ∈ TT := TT_of 385 (by decide +kernel) rfl
theorem tw_386 : (Jvm.Cond.methodLink "WhoseThread" (170 : Nat) ({ cls := "WhoseThread", name := "bit", desc := "(I)I" } : Jvm.MethodName)) ∈ TT := TT_of 386 (by decide +kernel) rfl
theorem tw_387 : (Jvm.Cond.static ({ cls := "WhoseThread", name := "bit", desc := "(I)I" } : Jvm.MethodName)) ∈ TT := TT_of 387 (by decide +kernel) rfl
theorem tw_388 : (Jvm.Cond.code ({ cls := "WhoseThread", name := "bit", desc := "(I)I" } : Jvm.MethodName) prog_1_method_34_code (1 : Nat) (Option.some Jvm.ClassFile.FieldType.int)) ∈ TT := TT_of 388 (by decide +kernel) rfl
theorem tw_389 : (Jvm.Cond.methodLink "WhoseThread" (236 : Nat) ({ cls := "WhoseThread", name := "spread", desc := "([III)I" } : Jvm.MethodName)) ∈ TT := TT_of 389 (by decide +kernel) rfl
theorem tw_390 : (Jvm.Cond.static ({ cls := "WhoseThread", name := "spread", desc := "([III)I" } : Jvm.MethodName)) ∈ TT := TT_of 390 (by decide +kernel) rfl
theorem tw_391 : (Jvm.Cond.code ({ cls := "WhoseThread", name := "spread", desc := "([III)I" } : Jvm.MethodName) prog_1_method_38_code (7 : Nat) (Option.some Jvm.ClassFile.FieldType.int)) ∈ TT := TT_of 391 (by decide +kernel) rfl
theorem tw_392 : (Jvm.Cond.methodLink "WhoseThread" (163 : Nat) ({ cls := "WhoseThread", name := "has", desc := "(II)Z" } : Jvm.MethodName)) ∈ TT := TT_of 392 (by decide +kernel) rfl
theorem tw_393 : (Jvm.Cond.static ({ cls := "WhoseThread", name := "has", desc := "(II)Z" } : Jvm.MethodName)) ∈ TT := TT_of 393 (by decide +kernel) rfl
theorem tw_394 : (Jvm.Cond.code ({ cls := "WhoseThread", name := "has", desc := "(II)Z" } : Jvm.MethodName) prog_1_method_35_code (2 : Nat) (Option.some Jvm.ClassFile.FieldType.boolean)) ∈ TT := TT_of 394 (by decide +kernel) rfl
theorem tw_396 : (Jvm.Cond.methodLink "WhoseThread$Text" (57 : Nat) ({ cls := "WhoseThread$Text", name := "knotStands", desc := "(LWhoseThread$Telling;)Z" } : Jvm.MethodName)) ∈ TT := TT_of 396 (by decide +kernel) rfl
theorem tw_398 : (Jvm.Cond.instanceMethod ({ cls := "WhoseThread$Text", name := "knotStands", desc := "(LWhoseThread$Telling;)Z" } : Jvm.MethodName)) ∈ TT := TT_of 398 (by decide +kernel) rfl
theorem tw_399 : (Jvm.Cond.code ({ cls := "WhoseThread$Text", name := "knotStands", desc := "(LWhoseThread$Telling;)Z" } : Jvm.MethodName) prog_7_method_7_code (4 : Nat) (Option.some Jvm.ClassFile.FieldType.boolean)) ∈ TT := TT_of 399 (by decide +kernel) rfl
theorem tw_400 : (Jvm.Cond.methodLink "WhoseThread$Text" (60 : Nat) ({ cls := "WhoseThread$Text", name := "orderStands", desc := "(LWhoseThread$Telling;)Z" } : Jvm.MethodName)) ∈ TT := TT_of 400 (by decide +kernel) rfl
theorem tw_402 : (Jvm.Cond.instanceMethod ({ cls := "WhoseThread$Text", name := "orderStands", desc := "(LWhoseThread$Telling;)Z" } : Jvm.MethodName)) ∈ TT := TT_of 402 (by decide +kernel) rfl
theorem tw_403 : (Jvm.Cond.code ({ cls := "WhoseThread$Text", name := "orderStands", desc := "(LWhoseThread$Telling;)Z" } : Jvm.MethodName) prog_7_method_8_code (4 : Nat) (Option.some Jvm.ClassFile.FieldType.boolean)) ∈ TT := TT_of 403 (by decide +kernel) rfl
theorem tw_404 : (Jvm.Cond.methodLink "WhoseThread$Text" (92 : Nat) ({ cls := "WhoseThread$Telling", name := "addOrder", desc := "(II)V" } : Jvm.MethodName)) ∈ TT := TT_of 404 (by decide +kernel) rfl
theorem tw_405 : (Jvm.Cond.instanceMethod ({ cls := "WhoseThread$Telling", name := "addOrder", desc := "(II)V" } : Jvm.MethodName)) ∈ TT := TT_of 405 (by decide +kernel) rfl
theorem tw_406 : (Jvm.Cond.selects "WhoseThread$Telling" ({ cls := "WhoseThread$Telling", name := "addOrder", desc := "(II)V" } : Jvm.MethodName) ({ cls := "WhoseThread$Telling", name := "addOrder", desc := "(II)V" } : Jvm.MethodName)) ∈ TT := TT_of 406 (by decide +kernel) rfl
theorem tw_407 : (Jvm.Cond.code ({ cls := "WhoseThread$Telling", name := "addOrder", desc := "(II)V" } : Jvm.MethodName) prog_6_method_5_code (3 : Nat) (Option.none : Option Jvm.ClassFile.FieldType)) ∈ TT := TT_of 407 (by decide +kernel) rfl
theorem tw_408 : (Jvm.Cond.methodLink "WhoseThread$Text" (63 : Nat) ({ cls := "WhoseThread$Text", name := "threadStands", desc := "(LWhoseThread$Telling;I)Z" } : Jvm.MethodName)) ∈ TT := TT_of 408 (by decide +kernel) rfl
theorem tw_410 : (Jvm.Cond.instanceMethod ({ cls := "WhoseThread$Text", name := "threadStands", desc := "(LWhoseThread$Telling;I)Z" } : Jvm.MethodName)) ∈ TT := TT_of 410 (by decide +kernel) rfl
theorem tw_411 : (Jvm.Cond.code ({ cls := "WhoseThread$Text", name := "threadStands", desc := "(LWhoseThread$Telling;I)Z" } : Jvm.MethodName) prog_7_method_5_code (5 : Nat) (Option.some Jvm.ClassFile.FieldType.boolean)) ∈ TT := TT_of 411 (by decide +kernel) rfl
theorem tw_412 : (Jvm.Cond.methodLink "WhoseThread$Text" (71 : Nat) ({ cls := "WhoseThread$Telling", name := "addThread", desc := "(III)V" } : Jvm.MethodName)) ∈ TT := TT_of 412 (by decide +kernel) rfl
theorem tw_413 : (Jvm.Cond.instanceMethod ({ cls := "WhoseThread$Telling", name := "addThread", desc := "(III)V" } : Jvm.MethodName)) ∈ TT := TT_of 413 (by decide +kernel) rfl
theorem tw_414 : (Jvm.Cond.selects "WhoseThread$Telling" ({ cls := "WhoseThread$Telling", name := "addThread", desc := "(III)V" } : Jvm.MethodName) ({ cls := "WhoseThread$Telling", name := "addThread", desc := "(III)V" } : Jvm.MethodName)) ∈ TT := TT_of 414 (by decide +kernel) rfl
theorem tw_415 : (Jvm.Cond.code ({ cls := "WhoseThread$Telling", name := "addThread", desc := "(III)V" } : Jvm.MethodName) prog_6_method_4_code (4 : Nat) (Option.none : Option Jvm.ClassFile.FieldType)) ∈ TT := TT_of 415 (by decide +kernel) rfl
theorem tw_417 : (Jvm.Cond.methodLink "WhoseThreadLaw" (27 : Nat) ({ cls := "WhoseThread", name := "loom", desc := "()I" } : Jvm.MethodName)) ∈ TT := TT_of 417 (by decide +kernel) rfl
theorem tw_418 : (Jvm.Cond.instanceMethod ({ cls := "WhoseThread", name := "loom", desc := "()I" } : Jvm.MethodName)) ∈ TT := TT_of 418 (by decide +kernel) rfl
theorem tw_419 : (Jvm.Cond.selects "WhoseThread" ({ cls := "WhoseThread", name := "loom", desc := "()I" } : Jvm.MethodName) ({ cls := "WhoseThread", name := "loom", desc := "()I" } : Jvm.MethodName)) ∈ TT := TT_of 419 (by decide +kernel) rfl
theorem tw_420 : (Jvm.Cond.code ({ cls := "WhoseThread", name := "loom", desc := "()I" } : Jvm.MethodName) prog_1_method_5_code (1 : Nat) (Option.some Jvm.ClassFile.FieldType.int)) ∈ TT := TT_of 420 (by decide +kernel) rfl
theorem tw_421 : (Jvm.Cond.methodLink "WhoseThread" (83 : Nat) ({ cls := "WhoseThread$Loom", name := "begin", desc := "()V" } : Jvm.MethodName)) ∈ TT := TT_of 421 (by decide +kernel) rfl
theorem tw_422 : (Jvm.Cond.instanceMethod ({ cls := "WhoseThread$Loom", name := "begin", desc := "()V" } : Jvm.MethodName)) ∈ TT := TT_of 422 (by decide +kernel) rfl
theorem tw_423 : (Jvm.Cond.selects "WhoseThread$Loom" ({ cls := "WhoseThread$Loom", name := "begin", desc := "()V" } : Jvm.MethodName) ({ cls := "WhoseThread$Loom", name := "begin", desc := "()V" } : Jvm.MethodName)) ∈ TT := TT_of 423 (by decide +kernel) rfl
theorem tw_424 : (Jvm.Cond.code ({ cls := "WhoseThread$Loom", name := "begin", desc := "()V" } : Jvm.MethodName) prog_3_method_2_code (2 : Nat) (Option.none : Option Jvm.ClassFile.FieldType)) ∈ TT := TT_of 424 (by decide +kernel) rfl
theorem tw_425 : (Jvm.Cond.methodLink "WhoseThread$Loom" (35 : Nat) ({ cls := "WhoseThread$Telling", name := "all", desc := "()I" } : Jvm.MethodName)) ∈ TT := TT_of 425 (by decide +kernel) rfl
theorem tw_426 : (Jvm.Cond.instanceMethod ({ cls := "WhoseThread$Telling", name := "all", desc := "()I" } : Jvm.MethodName)) ∈ TT := TT_of 426 (by decide +kernel) rfl
theorem tw_427 : (Jvm.Cond.selects "WhoseThread$Telling" ({ cls := "WhoseThread$Telling", name := "all", desc := "()I" } : Jvm.MethodName) ({ cls := "WhoseThread$Telling", name := "all", desc := "()I" } : Jvm.MethodName)) ∈ TT := TT_of 427 (by decide +kernel) rfl
theorem tw_428 : (Jvm.Cond.code ({ cls := "WhoseThread$Telling", name := "all", desc := "()I" } : Jvm.MethodName) prog_6_method_8_code (1 : Nat) (Option.some Jvm.ClassFile.FieldType.int)) ∈ TT := TT_of 428 (by decide +kernel) rfl
theorem tw_430 : (Jvm.Cond.methodLink "WhoseThreadLaw" (31 : Nat) ({ cls := "WhoseThread", name := "thread", desc := "(II)I" } : Jvm.MethodName)) ∈ TT := TT_of 430 (by decide +kernel) rfl
theorem tw_431 : (Jvm.Cond.instanceMethod ({ cls := "WhoseThread", name := "thread", desc := "(II)I" } : Jvm.MethodName)) ∈ TT := TT_of 431 (by decide +kernel) rfl
theorem tw_432 : (Jvm.Cond.selects "WhoseThread" ({ cls := "WhoseThread", name := "thread", desc := "(II)I" } : Jvm.MethodName) ({ cls := "WhoseThread", name := "thread", desc := "(II)I" } : Jvm.MethodName)) ∈ TT := TT_of 432 (by decide +kernel) rfl
theorem tw_433 : (Jvm.Cond.code ({ cls := "WhoseThread", name := "thread", desc := "(II)I" } : Jvm.MethodName) prog_1_method_6_code (3 : Nat) (Option.some Jvm.ClassFile.FieldType.int)) ∈ TT := TT_of 433 (by decide +kernel) rfl
theorem tw_434 : (Jvm.Cond.methodLink "WhoseThread" (92 : Nat) ({ cls := "WhoseThread", name := "known", desc := "(I)Z" } : Jvm.MethodName)) ∈ TT := TT_of 434 (by decide +kernel) rfl
theorem tw_436 : (Jvm.Cond.instanceMethod ({ cls := "WhoseThread", name := "known", desc := "(I)Z" } : Jvm.MethodName)) ∈ TT := TT_of 436 (by decide +kernel) rfl
theorem tw_437 : (Jvm.Cond.code ({ cls := "WhoseThread", name := "known", desc := "(I)Z" } : Jvm.MethodName) prog_1_method_31_code (2 : Nat) (Option.some Jvm.ClassFile.FieldType.boolean)) ∈ TT := TT_of 437 (by decide +kernel) rfl
theorem tw_438 : (Jvm.Cond.methodLink "WhoseThread" (106 : Nat) ({ cls := "WhoseThread$Loom", name := "fateOf", desc := "(I)I" } : Jvm.MethodName)) ∈ TT := TT_of 438 (by decide +kernel) rfl
theorem tw_439 : (Jvm.Cond.instanceMethod ({ cls := "WhoseThread$Loom", name := "fateOf", desc := "(I)I" } : Jvm.MethodName)) ∈ TT := TT_of 439 (by decide +kernel) rfl
theorem tw_440 : (Jvm.Cond.selects "WhoseThread$Loom" ({ cls := "WhoseThread$Loom", name := "fateOf", desc := "(I)I" } : Jvm.MethodName) ({ cls := "WhoseThread$Loom", name := "fateOf", desc := "(I)I" } : Jvm.MethodName)) ∈ TT := TT_of 440 (by decide +kernel) rfl
theorem tw_441 : (Jvm.Cond.code ({ cls := "WhoseThread$Loom", name := "fateOf", desc := "(I)I" } : Jvm.MethodName) prog_3_method_5_code (2 : Nat) (Option.some Jvm.ClassFile.FieldType.int)) ∈ TT := TT_of 441 (by decide +kernel) rfl
theorem tw_443 : (Jvm.Cond.methodLink "WhoseThreadLaw" (36 : Nat) ({ cls := "WhoseThread", name := "as", desc := "(II)I" } : Jvm.MethodName)) ∈ TT := TT_of 443 (by decide +kernel) rfl
theorem tw_444 : (Jvm.Cond.instanceMethod ({ cls := "WhoseThread", name := "as", desc := "(II)I" } : Jvm.MethodName)) ∈ TT := TT_of 444 (by decide +kernel) rfl
theorem tw_445 : (Jvm.Cond.selects "WhoseThread" ({ cls := "WhoseThread", name := "as", desc := "(II)I" } : Jvm.MethodName) ({ cls := "WhoseThread", name := "as", desc := "(II)I" } : Jvm.MethodName)) ∈ TT := TT_of 445 (by decide +kernel) rfl
theorem tw_446 : (Jvm.Cond.code ({ cls := "WhoseThread", name := "as", desc := "(II)I" } : Jvm.MethodName) prog_1_method_7_code (3 : Nat) (Option.some Jvm.ClassFile.FieldType.int)) ∈ TT := TT_of 446 (by decide +kernel) rfl
theorem tw_447 : (Jvm.Cond.methodLink "WhoseThread" (119 : Nat) ({ cls := "WhoseThread$Telling", name := "isOf", desc := "(II)Z" } : Jvm.MethodName)) ∈ TT := TT_of 447 (by decide +kernel) rfl
theorem tw_448 : (Jvm.Cond.instanceMethod ({ cls := "WhoseThread$Telling", name := "isOf", desc := "(II)Z" } : Jvm.MethodName)) ∈ TT := TT_of 448 (by decide +kernel) rfl
theorem tw_449 : (Jvm.Cond.selects "WhoseThread$Telling" ({ cls := "WhoseThread$Telling", name := "isOf", desc := "(II)Z" } : Jvm.MethodName) ({ cls := "WhoseThread$Telling", name := "isOf", desc := "(II)Z" } : Jvm.MethodName)) ∈ TT := TT_of 449 (by decide +kernel) rfl
theorem tw_450 : (Jvm.Cond.code ({ cls := "WhoseThread$Telling", name := "isOf", desc := "(II)Z" } : Jvm.MethodName) prog_6_method_9_code (4 : Nat) (Option.some Jvm.ClassFile.FieldType.boolean)) ∈ TT := TT_of 450 (by decide +kernel) rfl
theorem tw_451 : (Jvm.Cond.methodLink "WhoseThread" (123 : Nat) ({ cls := "WhoseThread$Loom", name := "isWhole", desc := "(I)Z" } : Jvm.MethodName)) ∈ TT := TT_of 451 (by decide +kernel) rfl
theorem tw_452 : (Jvm.Cond.instanceMethod ({ cls := "WhoseThread$Loom", name := "isWhole", desc := "(I)Z" } : Jvm.MethodName)) ∈ TT := TT_of 452 (by decide +kernel) rfl
theorem tw_453 : (Jvm.Cond.selects "WhoseThread$Loom" ({ cls := "WhoseThread$Loom", name := "isWhole", desc := "(I)Z" } : Jvm.MethodName) ({ cls := "WhoseThread$Loom", name := "isWhole", desc := "(I)Z" } : Jvm.MethodName)) ∈ TT := TT_of 453 (by decide +kernel) rfl
theorem tw_454 : (Jvm.Cond.code ({ cls := "WhoseThread$Loom", name := "isWhole", desc := "(I)Z" } : Jvm.MethodName) prog_3_method_4_code (2 : Nat) (Option.some Jvm.ClassFile.FieldType.boolean)) ∈ TT := TT_of 454 (by decide +kernel) rfl
theorem tw_455 : (Jvm.Cond.methodLink "WhoseThread" (129 : Nat) ({ cls := "WhoseThread$Telling", name := "yearsOn", desc := "(II)I" } : Jvm.MethodName)) ∈ TT := TT_of 455 (by decide +kernel) rfl
theorem tw_456 : (Jvm.Cond.instanceMethod ({ cls := "WhoseThread$Telling", name := "yearsOn", desc := "(II)I" } : Jvm.MethodName)) ∈ TT := TT_of 456 (by decide +kernel) rfl
theorem tw_457 : (Jvm.Cond.selects "WhoseThread$Telling" ({ cls := "WhoseThread$Telling", name := "yearsOn", desc := "(II)I" } : Jvm.MethodName) ({ cls := "WhoseThread$Telling", name := "yearsOn", desc := "(II)I" } : Jvm.MethodName)) ∈ TT := TT_of 457 (by decide +kernel) rfl
theorem tw_458 : (Jvm.Cond.code ({ cls := "WhoseThread$Telling", name := "yearsOn", desc := "(II)I" } : Jvm.MethodName) prog_6_method_11_code (4 : Nat) (Option.some Jvm.ClassFile.FieldType.int)) ∈ TT := TT_of 458 (by decide +kernel) rfl
theorem tw_459 : (Jvm.Cond.methodLink "WhoseThread$Telling" (53 : Nat) ({ cls := "WhoseThread$Telling", name := "isEndless", desc := "(I)Z" } : Jvm.MethodName)) ∈ TT := TT_of 459 (by decide +kernel) rfl
theorem tw_460 : (Jvm.Cond.instanceMethod ({ cls := "WhoseThread$Telling", name := "isEndless", desc := "(I)Z" } : Jvm.MethodName)) ∈ TT := TT_of 460 (by decide +kernel) rfl
theorem tw_461 : (Jvm.Cond.selects "WhoseThread$Telling" ({ cls := "WhoseThread$Telling", name := "isEndless", desc := "(I)Z" } : Jvm.MethodName) ({ cls := "WhoseThread$Telling", name := "isEndless", desc := "(I)Z" } : Jvm.MethodName)) ∈ TT := TT_of 461 (by decide +kernel) rfl
theorem tw_462 : (Jvm.Cond.code ({ cls := "WhoseThread$Telling", name := "isEndless", desc := "(I)Z" } : Jvm.MethodName) prog_6_method_10_code (2 : Nat) (Option.some Jvm.ClassFile.FieldType.boolean)) ∈ TT := TT_of 462 (by decide +kernel) rfl
theorem tw_466 : (Jvm.Cond.methodLink "WhoseThreadLaw" (40 : Nat) ({ cls := "WhoseThread", name := "order", desc := "(II)I" } : Jvm.MethodName)) ∈ TT := TT_of 466 (by decide +kernel) rfl
theorem tw_467 : (Jvm.Cond.instanceMethod ({ cls := "WhoseThread", name := "order", desc := "(II)I" } : Jvm.MethodName)) ∈ TT := TT_of 467 (by decide +kernel) rfl
theorem tw_468 : (Jvm.Cond.selects "WhoseThread" ({ cls := "WhoseThread", name := "order", desc := "(II)I" } : Jvm.MethodName) ({ cls := "WhoseThread", name := "order", desc := "(II)I" } : Jvm.MethodName)) ∈ TT := TT_of 468 (by decide +kernel) rfl
theorem tw_469 : (Jvm.Cond.code ({ cls := "WhoseThread", name := "order", desc := "(II)I" } : Jvm.MethodName) prog_1_method_8_code (3 : Nat) (Option.some Jvm.ClassFile.FieldType.int)) ∈ TT := TT_of 469 (by decide +kernel) rfl
theorem tw_470 : (Jvm.Cond.methodLink "WhoseThreadLaw" (44 : Nat) ({ cls := "WhoseThread", name := "top", desc := "(I)I" } : Jvm.MethodName)) ∈ TT := TT_of 470 (by decide +kernel) rfl
theorem tw_471 : (Jvm.Cond.instanceMethod ({ cls := "WhoseThread", name := "top", desc := "(I)I" } : Jvm.MethodName)) ∈ TT := TT_of 471 (by decide +kernel) rfl
theorem tw_472 : (Jvm.Cond.selects "WhoseThread" ({ cls := "WhoseThread", name := "top", desc := "(I)I" } : Jvm.MethodName) ({ cls := "WhoseThread", name := "top", desc := "(I)I" } : Jvm.MethodName)) ∈ TT := TT_of 472 (by decide +kernel) rfl
theorem tw_473 : (Jvm.Cond.code ({ cls := "WhoseThread", name := "top", desc := "(I)I" } : Jvm.MethodName) prog_1_method_9_code (2 : Nat) (Option.some Jvm.ClassFile.FieldType.int)) ∈ TT := TT_of 473 (by decide +kernel) rfl
theorem tw_474 : (Jvm.Cond.methodLink "WhoseThread" (145 : Nat) ({ cls := "WhoseThread$Loom", name := "topOf", desc := "(II)I" } : Jvm.MethodName)) ∈ TT := TT_of 474 (by decide +kernel) rfl
theorem tw_475 : (Jvm.Cond.instanceMethod ({ cls := "WhoseThread$Loom", name := "topOf", desc := "(II)I" } : Jvm.MethodName)) ∈ TT := TT_of 475 (by decide +kernel) rfl
theorem tw_476 : (Jvm.Cond.selects "WhoseThread$Loom" ({ cls := "WhoseThread$Loom", name := "topOf", desc := "(II)I" } : Jvm.MethodName) ({ cls := "WhoseThread$Loom", name := "topOf", desc := "(II)I" } : Jvm.MethodName)) ∈ TT := TT_of 476 (by decide +kernel) rfl
theorem tw_477 : (Jvm.Cond.code ({ cls := "WhoseThread$Loom", name := "topOf", desc := "(II)I" } : Jvm.MethodName) prog_3_method_6_code (6 : Nat) (Option.some Jvm.ClassFile.FieldType.int)) ∈ TT := TT_of 477 (by decide +kernel) rfl
theorem tw_478 : (Jvm.Cond.methodLink "WhoseThread$Loom" (60 : Nat) ({ cls := "java/lang/Integer", name := "numberOfTrailingZeros", desc := "(I)I" } : Jvm.MethodName)) ∈ TT := TT_of 478 (by decide +kernel) rfl
theorem tw_479 : (Jvm.Cond.static ({ cls := "java/lang/Integer", name := "numberOfTrailingZeros", desc := "(I)I" } : Jvm.MethodName)) ∈ TT := TT_of 479 (by decide +kernel) rfl
theorem tw_480 : (Jvm.Cond.code ({ cls := "java/lang/Integer", name := "numberOfTrailingZeros", desc := "(I)I" } : Jvm.MethodName) prog_10_method_48_code (2 : Nat) (Option.some Jvm.ClassFile.FieldType.int)) ∈ TT := TT_of 480 (by decide +kernel) rfl
theorem tw_481 : (Jvm.Cond.constant "java/lang/Integer" (264 : Nat) (65536 : Int32)) ∈ TT := TT_of 481 (by decide +kernel) rfl
theorem tw_482 : (Jvm.Cond.methodLink "WhoseThreadLaw" (48 : Nat) ({ cls := "WhoseThread", name := "cut", desc := "(I)I" } : Jvm.MethodName)) ∈ TT := TT_of 482 (by decide +kernel) rfl
theorem tw_483 : (Jvm.Cond.instanceMethod ({ cls := "WhoseThread", name := "cut", desc := "(I)I" } : Jvm.MethodName)) ∈ TT := TT_of 483 (by decide +kernel) rfl
theorem tw_484 : (Jvm.Cond.selects "WhoseThread" ({ cls := "WhoseThread", name := "cut", desc := "(I)I" } : Jvm.MethodName) ({ cls := "WhoseThread", name := "cut", desc := "(I)I" } : Jvm.MethodName)) ∈ TT := TT_of 484 (by decide +kernel) rfl
theorem tw_485 : (Jvm.Cond.code ({ cls := "WhoseThread", name := "cut", desc := "(I)I" } : Jvm.MethodName) prog_1_method_10_code (2 : Nat) (Option.some Jvm.ClassFile.FieldType.int)) ∈ TT := TT_of 485 (by decide +kernel) rfl
theorem tw_486 : (Jvm.Cond.methodLink "WhoseThread" (148 : Nat) ({ cls := "WhoseThread$Past", name := "remember", desc := "(LWhoseThread$Loom;)V" } : Jvm.MethodName)) ∈ TT := TT_of 486 (by decide +kernel) rfl
theorem tw_487 : (Jvm.Cond.instanceMethod ({ cls := "WhoseThread$Past", name := "remember", desc := "(LWhoseThread$Loom;)V" } : Jvm.MethodName)) ∈ TT := TT_of 487 (by decide +kernel) rfl
theorem tw_488 : (Jvm.Cond.selects "WhoseThread$Past" ({ cls := "WhoseThread$Past", name := "remember", desc := "(LWhoseThread$Loom;)V" } : Jvm.MethodName) ({ cls := "WhoseThread$Past", name := "remember", desc := "(LWhoseThread$Loom;)V" } : Jvm.MethodName)) ∈ TT := TT_of 488 (by decide +kernel) rfl
theorem tw_489 : (Jvm.Cond.code ({ cls := "WhoseThread$Past", name := "remember", desc := "(LWhoseThread$Loom;)V" } : Jvm.MethodName) prog_4_method_2_code (2 : Nat) (Option.none : Option Jvm.ClassFile.FieldType)) ∈ TT := TT_of 489 (by decide +kernel) rfl
theorem tw_490 : (Jvm.Cond.methodLink "WhoseThread$Past" (24 : Nat) ({ cls := "WhoseThread$Loom", name := "copyFrom", desc := "(LWhoseThread$Loom;)V" } : Jvm.MethodName)) ∈ TT := TT_of 490 (by decide +kernel) rfl
theorem tw_491 : (Jvm.Cond.instanceMethod ({ cls := "WhoseThread$Loom", name := "copyFrom", desc := "(LWhoseThread$Loom;)V" } : Jvm.MethodName)) ∈ TT := TT_of 491 (by decide +kernel) rfl
theorem tw_492 : (Jvm.Cond.selects "WhoseThread$Loom" ({ cls := "WhoseThread$Loom", name := "copyFrom", desc := "(LWhoseThread$Loom;)V" } : Jvm.MethodName) ({ cls := "WhoseThread$Loom", name := "copyFrom", desc := "(LWhoseThread$Loom;)V" } : Jvm.MethodName)) ∈ TT := TT_of 492 (by decide +kernel) rfl
theorem tw_493 : (Jvm.Cond.code ({ cls := "WhoseThread$Loom", name := "copyFrom", desc := "(LWhoseThread$Loom;)V" } : Jvm.MethodName) prog_3_method_3_code (2 : Nat) (Option.none : Option Jvm.ClassFile.FieldType)) ∈ TT := TT_of 493 (by decide +kernel) rfl
theorem tw_498 : (Jvm.Cond.methodLink "WhoseThread" (152 : Nat) ({ cls := "WhoseThread$Loom", name := "cutAt", desc := "(I)I" } : Jvm.MethodName)) ∈ TT := TT_of 498 (by decide +kernel) rfl
theorem tw_499 : (Jvm.Cond.instanceMethod ({ cls := "WhoseThread$Loom", name := "cutAt", desc := "(I)I" } : Jvm.MethodName)) ∈ TT := TT_of 499 (by decide +kernel) rfl
theorem tw_500 : (Jvm.Cond.selects "WhoseThread$Loom" ({ cls := "WhoseThread$Loom", name := "cutAt", desc := "(I)I" } : Jvm.MethodName) ({ cls := "WhoseThread$Loom", name := "cutAt", desc := "(I)I" } : Jvm.MethodName)) ∈ TT := TT_of 500 (by decide +kernel) rfl
theorem tw_501 : (Jvm.Cond.code ({ cls := "WhoseThread$Loom", name := "cutAt", desc := "(I)I" } : Jvm.MethodName) prog_3_method_8_code (4 : Nat) (Option.some Jvm.ClassFile.FieldType.int)) ∈ TT := TT_of 501 (by decide +kernel) rfl
theorem tw_502 : (Jvm.Cond.methodLink "WhoseThread$Loom" (81 : Nat) ({ cls := "WhoseThread$Loom", name := "fallOf", desc := "(II)I" } : Jvm.MethodName)) ∈ TT := TT_of 502 (by decide +kernel) rfl
theorem tw_503 : (Jvm.Cond.instanceMethod ({ cls := "WhoseThread$Loom", name := "fallOf", desc := "(II)I" } : Jvm.MethodName)) ∈ TT := TT_of 503 (by decide +kernel) rfl
theorem tw_504 : (Jvm.Cond.selects "WhoseThread$Loom" ({ cls := "WhoseThread$Loom", name := "fallOf", desc := "(II)I" } : Jvm.MethodName) ({ cls := "WhoseThread$Loom", name := "fallOf", desc := "(II)I" } : Jvm.MethodName)) ∈ TT := TT_of 504 (by decide +kernel) rfl
theorem tw_505 : (Jvm.Cond.code ({ cls := "WhoseThread$Loom", name := "fallOf", desc := "(II)I" } : Jvm.MethodName) prog_3_method_7_code (4 : Nat) (Option.some Jvm.ClassFile.FieldType.int)) ∈ TT := TT_of 505 (by decide +kernel) rfl
theorem tw_506 : (Jvm.Cond.methodLink "WhoseThread$Loom" (66 : Nat) ({ cls := "WhoseThread$Loom", name := "topOf", desc := "(II)I" } : Jvm.MethodName)) ∈ TT := TT_of 506 (by decide +kernel) rfl
theorem tw_507 : (Jvm.Cond.methodLink "WhoseThread$Loom" (70 : Nat) ({ cls := "WhoseThread$Telling", name := "isEndless", desc := "(I)Z" } : Jvm.MethodName)) ∈ TT := TT_of 507 (by decide +kernel) rfl
theorem tw_510 : (Jvm.Cond.methodLink "WhoseThread$Loom" (84 : Nat) ({ cls := "WhoseThread$Telling", name := "lossOf", desc := "(II)I" } : Jvm.MethodName)) ∈ TT := TT_of 510 (by decide +kernel) rfl
theorem tw_511 : (Jvm.Cond.instanceMethod ({ cls := "WhoseThread$Telling", name := "lossOf", desc := "(II)I" } : Jvm.MethodName)) ∈ TT := TT_of 511 (by decide +kernel) rfl
theorem tw_512 : (Jvm.Cond.selects "WhoseThread$Telling" ({ cls := "WhoseThread$Telling", name := "lossOf", desc := "(II)I" } : Jvm.MethodName) ({ cls := "WhoseThread$Telling", name := "lossOf", desc := "(II)I" } : Jvm.MethodName)) ∈ TT := TT_of 512 (by decide +kernel) rfl
theorem tw_513 : (Jvm.Cond.code ({ cls := "WhoseThread$Telling", name := "lossOf", desc := "(II)I" } : Jvm.MethodName) prog_6_method_12_code (5 : Nat) (Option.some Jvm.ClassFile.FieldType.int)) ∈ TT := TT_of 513 (by decide +kernel) rfl
theorem tw_515 : (Jvm.Cond.methodLink "WhoseThread$Telling" (67 : Nat) ({ cls := "WhoseThread$Telling", name := "yearsOn", desc := "(II)I" } : Jvm.MethodName)) ∈ TT := TT_of 515 (by decide +kernel) rfl
theorem tw_516 : (Jvm.Cond.methodLink "WhoseThread" (155 : Nat) ({ cls := "java/lang/Integer", name := "bitCount", desc := "(I)I" } : Jvm.MethodName)) ∈ TT := TT_of 516 (by decide +kernel) rfl
theorem tw_517 : (Jvm.Cond.static ({ cls := "java/lang/Integer", name := "bitCount", desc := "(I)I" } : Jvm.MethodName)) ∈ TT := TT_of 517 (by decide +kernel) rfl
theorem tw_518 : (Jvm.Cond.code ({ cls := "java/lang/Integer", name := "bitCount", desc := "(I)I" } : Jvm.MethodName) prog_10_method_49_code (1 : Nat) (Option.some Jvm.ClassFile.FieldType.int)) ∈ TT := TT_of 518 (by decide +kernel) rfl
theorem tw_519 : (Jvm.Cond.constant "java/lang/Integer" (265 : Nat) (1431655765 : Int32)) ∈ TT := TT_of 519 (by decide +kernel) rfl
theorem tw_520 : (Jvm.Cond.constant "java/lang/Integer" (266 : Nat) (858993459 : Int32)) ∈ TT := TT_of 520 (by decide +kernel) rfl
theorem tw_521 : (Jvm.Cond.constant "java/lang/Integer" (267 : Nat) (252645135 : Int32)) ∈ TT := TT_of 521 (by decide +kernel) rfl
theorem tw_522 : (Jvm.Cond.methodLink "WhoseThreadLaw" (52 : Nat) ({ cls := "WhoseThread", name := "put", desc := "(II)I" } : Jvm.MethodName)) ∈ TT := TT_of 522 (by decide +kernel) rfl
theorem tw_523 : (Jvm.Cond.instanceMethod ({ cls := "WhoseThread", name := "put", desc := "(II)I" } : Jvm.MethodName)) ∈ TT := TT_of 523 (by decide +kernel) rfl
theorem tw_524 : (Jvm.Cond.selects "WhoseThread" ({ cls := "WhoseThread", name := "put", desc := "(II)I" } : Jvm.MethodName) ({ cls := "WhoseThread", name := "put", desc := "(II)I" } : Jvm.MethodName)) ∈ TT := TT_of 524 (by decide +kernel) rfl
theorem tw_525 : (Jvm.Cond.code ({ cls := "WhoseThread", name := "put", desc := "(II)I" } : Jvm.MethodName) prog_1_method_11_code (3 : Nat) (Option.some Jvm.ClassFile.FieldType.int)) ∈ TT := TT_of 525 (by decide +kernel) rfl
theorem tw_526 : (Jvm.Cond.methodLink "WhoseThread" (160 : Nat) ({ cls := "WhoseThread", name := "knownPair", desc := "(II)Z" } : Jvm.MethodName)) ∈ TT := TT_of 526 (by decide +kernel) rfl
theorem tw_528 : (Jvm.Cond.instanceMethod ({ cls := "WhoseThread", name := "knownPair", desc := "(II)Z" } : Jvm.MethodName)) ∈ TT := TT_of 528 (by decide +kernel) rfl
theorem tw_529 : (Jvm.Cond.code ({ cls := "WhoseThread", name := "knownPair", desc := "(II)Z" } : Jvm.MethodName) prog_1_method_32_code (3 : Nat) (Option.some Jvm.ClassFile.FieldType.boolean)) ∈ TT := TT_of 529 (by decide +kernel) rfl
theorem tw_530 : (Jvm.Cond.methodLink "WhoseThread" (166 : Nat) ({ cls := "WhoseThread", name := "makesRing", desc := "([III)Z" } : Jvm.MethodName)) ∈ TT := TT_of 530 (by decide +kernel) rfl
theorem tw_531 : (Jvm.Cond.methodLink "WhoseThreadLaw" (56 : Nat) ({ cls := "WhoseThread", name := "lift", desc := "(I)I" } : Jvm.MethodName)) ∈ TT := TT_of 531 (by decide +kernel) rfl
theorem tw_532 : (Jvm.Cond.instanceMethod ({ cls := "WhoseThread", name := "lift", desc := "(I)I" } : Jvm.MethodName)) ∈ TT := TT_of 532 (by decide +kernel) rfl
theorem tw_533 : (Jvm.Cond.selects "WhoseThread" ({ cls := "WhoseThread", name := "lift", desc := "(I)I" } : Jvm.MethodName) ({ cls := "WhoseThread", name := "lift", desc := "(I)I" } : Jvm.MethodName)) ∈ TT := TT_of 533 (by decide +kernel) rfl
theorem tw_534 : (Jvm.Cond.code ({ cls := "WhoseThread", name := "lift", desc := "(I)I" } : Jvm.MethodName) prog_1_method_12_code (3 : Nat) (Option.some Jvm.ClassFile.FieldType.int)) ∈ TT := TT_of 534 (by decide +kernel) rfl
theorem tw_535 : (Jvm.Cond.methodLink "WhoseThread" (173 : Nat) ({ cls := "WhoseThread$Loom", name := "liesOver", desc := "(I)I" } : Jvm.MethodName)) ∈ TT := TT_of 535 (by decide +kernel) rfl
theorem tw_536 : (Jvm.Cond.instanceMethod ({ cls := "WhoseThread$Loom", name := "liesOver", desc := "(I)I" } : Jvm.MethodName)) ∈ TT := TT_of 536 (by decide +kernel) rfl
theorem tw_537 : (Jvm.Cond.selects "WhoseThread$Loom" ({ cls := "WhoseThread$Loom", name := "liesOver", desc := "(I)I" } : Jvm.MethodName) ({ cls := "WhoseThread$Loom", name := "liesOver", desc := "(I)I" } : Jvm.MethodName)) ∈ TT := TT_of 537 (by decide +kernel) rfl
theorem tw_538 : (Jvm.Cond.code ({ cls := "WhoseThread$Loom", name := "liesOver", desc := "(I)I" } : Jvm.MethodName) prog_3_method_11_code (4 : Nat) (Option.some Jvm.ClassFile.FieldType.int)) ∈ TT := TT_of 538 (by decide +kernel) rfl
theorem tw_539 : (Jvm.Cond.methodLink "WhoseThread" (176 : Nat) ({ cls := "WhoseThread$Loom", name := "takeOff", desc := "(I)V" } : Jvm.MethodName)) ∈ TT := TT_of 539 (by decide +kernel) rfl
theorem tw_540 : (Jvm.Cond.instanceMethod ({ cls := "WhoseThread$Loom", name := "takeOff", desc := "(I)V" } : Jvm.MethodName)) ∈ TT := TT_of 540 (by decide +kernel) rfl
theorem tw_541 : (Jvm.Cond.selects "WhoseThread$Loom" ({ cls := "WhoseThread$Loom", name := "takeOff", desc := "(I)V" } : Jvm.MethodName) ({ cls := "WhoseThread$Loom", name := "takeOff", desc := "(I)V" } : Jvm.MethodName)) ∈ TT := TT_of 541 (by decide +kernel) rfl
theorem tw_542 : (Jvm.Cond.code ({ cls := "WhoseThread$Loom", name := "takeOff", desc := "(I)V" } : Jvm.MethodName) prog_3_method_12_code (3 : Nat) (Option.none : Option Jvm.ClassFile.FieldType)) ∈ TT := TT_of 542 (by decide +kernel) rfl
theorem tw_543 : (Jvm.Cond.methodLink "WhoseThreadLaw" (60 : Nat) ({ cls := "WhoseThread", name := "knot", desc := "(III)I" } : Jvm.MethodName)) ∈ TT := TT_of 543 (by decide +kernel) rfl
theorem tw_544 : (Jvm.Cond.instanceMethod ({ cls := "WhoseThread", name := "knot", desc := "(III)I" } : Jvm.MethodName)) ∈ TT := TT_of 544 (by decide +kernel) rfl
theorem tw_545 : (Jvm.Cond.selects "WhoseThread" ({ cls := "WhoseThread", name := "knot", desc := "(III)I" } : Jvm.MethodName) ({ cls := "WhoseThread", name := "knot", desc := "(III)I" } : Jvm.MethodName)) ∈ TT := TT_of 545 (by decide +kernel) rfl
theorem tw_546 : (Jvm.Cond.code ({ cls := "WhoseThread", name := "knot", desc := "(III)I" } : Jvm.MethodName) prog_1_method_13_code (5 : Nat) (Option.some Jvm.ClassFile.FieldType.int)) ∈ TT := TT_of 546 (by decide +kernel) rfl
theorem tw_547 : (Jvm.Cond.methodLink "WhoseThreadLaw" (65 : Nat) ({ cls := "WhoseThread", name := "dye", desc := "(II)I" } : Jvm.MethodName)) ∈ TT := TT_of 547 (by decide +kernel) rfl
theorem tw_548 : (Jvm.Cond.instanceMethod ({ cls := "WhoseThread", name := "dye", desc := "(II)I" } : Jvm.MethodName)) ∈ TT := TT_of 548 (by decide +kernel) rfl
theorem tw_549 : (Jvm.Cond.selects "WhoseThread" ({ cls := "WhoseThread", name := "dye", desc := "(II)I" } : Jvm.MethodName) ({ cls := "WhoseThread", name := "dye", desc := "(II)I" } : Jvm.MethodName)) ∈ TT := TT_of 549 (by decide +kernel) rfl
theorem tw_550 : (Jvm.Cond.code ({ cls := "WhoseThread", name := "dye", desc := "(II)I" } : Jvm.MethodName) prog_1_method_14_code (4 : Nat) (Option.some Jvm.ClassFile.FieldType.int)) ∈ TT := TT_of 550 (by decide +kernel) rfl
theorem tw_551 : (Jvm.Cond.methodLink "WhoseThreadLaw" (69 : Nat) ({ cls := "WhoseThread", name := "go", desc := "(I)I" } : Jvm.MethodName)) ∈ TT := TT_of 551 (by decide +kernel) rfl
theorem tw_552 : (Jvm.Cond.instanceMethod ({ cls := "WhoseThread", name := "go", desc := "(I)I" } : Jvm.MethodName)) ∈ TT := TT_of 552 (by decide +kernel) rfl
theorem tw_553 : (Jvm.Cond.selects "WhoseThread" ({ cls := "WhoseThread", name := "go", desc := "(I)I" } : Jvm.MethodName) ({ cls := "WhoseThread", name := "go", desc := "(I)I" } : Jvm.MethodName)) ∈ TT := TT_of 553 (by decide +kernel) rfl
theorem tw_554 : (Jvm.Cond.code ({ cls := "WhoseThread", name := "go", desc := "(I)I" } : Jvm.MethodName) prog_1_method_15_code (3 : Nat) (Option.some Jvm.ClassFile.FieldType.int)) ∈ TT := TT_of 554 (by decide +kernel) rfl
theorem tw_555 : (Jvm.Cond.methodLink "WhoseThread" (182 : Nat) ({ cls := "WhoseThread$Loom", name := "endDays", desc := "(I)V" } : Jvm.MethodName)) ∈ TT := TT_of 555 (by decide +kernel) rfl
theorem tw_556 : (Jvm.Cond.instanceMethod ({ cls := "WhoseThread$Loom", name := "endDays", desc := "(I)V" } : Jvm.MethodName)) ∈ TT := TT_of 556 (by decide +kernel) rfl
theorem tw_557 : (Jvm.Cond.selects "WhoseThread$Loom" ({ cls := "WhoseThread$Loom", name := "endDays", desc := "(I)V" } : Jvm.MethodName) ({ cls := "WhoseThread$Loom", name := "endDays", desc := "(I)V" } : Jvm.MethodName)) ∈ TT := TT_of 557 (by decide +kernel) rfl
theorem tw_558 : (Jvm.Cond.code ({ cls := "WhoseThread$Loom", name := "endDays", desc := "(I)V" } : Jvm.MethodName) prog_3_method_9_code (3 : Nat) (Option.none : Option Jvm.ClassFile.FieldType)) ∈ TT := TT_of 558 (by decide +kernel) rfl
theorem tw_559 : (Jvm.Cond.methodLink "WhoseThread$Loom" (87 : Nat) ({ cls := "WhoseThread$Loom", name := "endDay", desc := "()V" } : Jvm.MethodName)) ∈ TT := TT_of 559 (by decide +kernel) rfl
theorem tw_561 : (Jvm.Cond.instanceMethod ({ cls := "WhoseThread$Loom", name := "endDay", desc := "()V" } : Jvm.MethodName)) ∈ TT := TT_of 561 (by decide +kernel) rfl
theorem tw_562 : (Jvm.Cond.code ({ cls := "WhoseThread$Loom", name := "endDay", desc := "()V" } : Jvm.MethodName) prog_3_method_10_code (2 : Nat) (Option.none : Option Jvm.ClassFile.FieldType)) ∈ TT := TT_of 562 (by decide +kernel) rfl
theorem tw_563 : (Jvm.Cond.methodLink "WhoseThread$Loom" (99 : Nat) ({ cls := "WhoseThread$Loom", name := "cutAt", desc := "(I)I" } : Jvm.MethodName)) ∈ TT := TT_of 563 (by decide +kernel) rfl
theorem tw_564 : (Jvm.Cond.methodLink "WhoseThread$Loom" (102 : Nat) ({ cls := "WhoseThread$Telling", name := "lasting", desc := "(II)I" } : Jvm.MethodName)) ∈ TT := TT_of 564 (by decide +kernel) rfl
theorem tw_565 : (Jvm.Cond.instanceMethod ({ cls := "WhoseThread$Telling", name := "lasting", desc := "(II)I" } : Jvm.MethodName)) ∈ TT := TT_of 565 (by decide +kernel) rfl
theorem tw_566 : (Jvm.Cond.selects "WhoseThread$Telling" ({ cls := "WhoseThread$Telling", name := "lasting", desc := "(II)I" } : Jvm.MethodName) ({ cls := "WhoseThread$Telling", name := "lasting", desc := "(II)I" } : Jvm.MethodName)) ∈ TT := TT_of 566 (by decide +kernel) rfl
theorem tw_567 : (Jvm.Cond.code ({ cls := "WhoseThread$Telling", name := "lasting", desc := "(II)I" } : Jvm.MethodName) prog_6_method_13_code (5 : Nat) (Option.some Jvm.ClassFile.FieldType.int)) ∈ TT := TT_of 567 (by decide +kernel) rfl
theorem tw_568 : (Jvm.Cond.methodLink "WhoseThreadLaw" (73 : Nat) ({ cls := "WhoseThread", name := "undo", desc := "()I" } : Jvm.MethodName)) ∈ TT := TT_of 568 (by decide +kernel) rfl
theorem tw_569 : (Jvm.Cond.instanceMethod ({ cls := "WhoseThread", name := "undo", desc := "()I" } : Jvm.MethodName)) ∈ TT := TT_of 569 (by decide +kernel) rfl
theorem tw_570 : (Jvm.Cond.selects "WhoseThread" ({ cls := "WhoseThread", name := "undo", desc := "()I" } : Jvm.MethodName) ({ cls := "WhoseThread", name := "undo", desc := "()I" } : Jvm.MethodName)) ∈ TT := TT_of 570 (by decide +kernel) rfl
theorem tw_571 : (Jvm.Cond.code ({ cls := "WhoseThread", name := "undo", desc := "()I" } : Jvm.MethodName) prog_1_method_16_code (1 : Nat) (Option.some Jvm.ClassFile.FieldType.int)) ∈ TT := TT_of 571 (by decide +kernel) rfl
theorem tw_572 : (Jvm.Cond.methodLink "WhoseThread" (185 : Nat) ({ cls := "WhoseThread$Past", name := "bringBack", desc := "(LWhoseThread$Loom;)V" } : Jvm.MethodName)) ∈ TT := TT_of 572 (by decide +kernel) rfl
theorem tw_573 : (Jvm.Cond.instanceMethod ({ cls := "WhoseThread$Past", name := "bringBack", desc := "(LWhoseThread$Loom;)V" } : Jvm.MethodName)) ∈ TT := TT_of 573 (by decide +kernel) rfl
theorem tw_574 : (Jvm.Cond.selects "WhoseThread$Past" ({ cls := "WhoseThread$Past", name := "bringBack", desc := "(LWhoseThread$Loom;)V" } : Jvm.MethodName) ({ cls := "WhoseThread$Past", name := "bringBack", desc := "(LWhoseThread$Loom;)V" } : Jvm.MethodName)) ∈ TT := TT_of 574 (by decide +kernel) rfl
theorem tw_575 : (Jvm.Cond.code ({ cls := "WhoseThread$Past", name := "bringBack", desc := "(LWhoseThread$Loom;)V" } : Jvm.MethodName) prog_4_method_3_code (2 : Nat) (Option.none : Option Jvm.ClassFile.FieldType)) ∈ TT := TT_of 575 (by decide +kernel) rfl
theorem tw_576 : (Jvm.Cond.methodLink "WhoseThreadLaw" (77 : Nat) ({ cls := "WhoseThread", name := "keep", desc := "(I)I" } : Jvm.MethodName)) ∈ TT := TT_of 576 (by decide +kernel) rfl
theorem tw_577 : (Jvm.Cond.instanceMethod ({ cls := "WhoseThread", name := "keep", desc := "(I)I" } : Jvm.MethodName)) ∈ TT := TT_of 577 (by decide +kernel) rfl
theorem tw_578 : (Jvm.Cond.selects "WhoseThread" ({ cls := "WhoseThread", name := "keep", desc := "(I)I" } : Jvm.MethodName) ({ cls := "WhoseThread", name := "keep", desc := "(I)I" } : Jvm.MethodName)) ∈ TT := TT_of 578 (by decide +kernel) rfl
theorem tw_579 : (Jvm.Cond.code ({ cls := "WhoseThread", name := "keep", desc := "(I)I" } : Jvm.MethodName) prog_1_method_17_code (2 : Nat) (Option.some Jvm.ClassFile.FieldType.int)) ∈ TT := TT_of 579 (by decide +kernel) rfl
theorem tw_580 : (Jvm.Cond.methodLink "WhoseThread" (188 : Nat) ({ cls := "WhoseThread$Loom", name := "copyFrom", desc := "(LWhoseThread$Loom;)V" } : Jvm.MethodName)) ∈ TT := TT_of 580 (by decide +kernel) rfl
theorem tw_581 : (Jvm.Cond.methodLink "WhoseThreadLaw" (81 : Nat) ({ cls := "WhoseThread", name := "back", desc := "(I)I" } : Jvm.MethodName)) ∈ TT := TT_of 581 (by decide +kernel) rfl
theorem tw_582 : (Jvm.Cond.instanceMethod ({ cls := "WhoseThread", name := "back", desc := "(I)I" } : Jvm.MethodName)) ∈ TT := TT_of 582 (by decide +kernel) rfl
theorem tw_583 : (Jvm.Cond.selects "WhoseThread" ({ cls := "WhoseThread", name := "back", desc := "(I)I" } : Jvm.MethodName) ({ cls := "WhoseThread", name := "back", desc := "(I)I" } : Jvm.MethodName)) ∈ TT := TT_of 583 (by decide +kernel) rfl
theorem tw_584 : (Jvm.Cond.code ({ cls := "WhoseThread", name := "back", desc := "(I)I" } : Jvm.MethodName) prog_1_method_18_code (2 : Nat) (Option.some Jvm.ClassFile.FieldType.int)) ∈ TT := TT_of 584 (by decide +kernel) rfl
theorem tw_585 : (Jvm.Cond.methodLink "WhoseThreadLaw" (85 : Nat) ({ cls := "WhoseThread", name := "takes", desc := "(I)I" } : Jvm.MethodName)) ∈ TT := TT_of 585 (by decide +kernel) rfl
theorem tw_586 : (Jvm.Cond.instanceMethod ({ cls := "WhoseThread", name := "takes", desc := "(I)I" } : Jvm.MethodName)) ∈ TT := TT_of 586 (by decide +kernel) rfl
theorem tw_587 : (Jvm.Cond.selects "WhoseThread" ({ cls := "WhoseThread", name := "takes", desc := "(I)I" } : Jvm.MethodName) ({ cls := "WhoseThread", name := "takes", desc := "(I)I" } : Jvm.MethodName)) ∈ TT := TT_of 587 (by decide +kernel) rfl
theorem tw_588 : (Jvm.Cond.code ({ cls := "WhoseThread", name := "takes", desc := "(I)I" } : Jvm.MethodName) prog_1_method_19_code (2 : Nat) (Option.some Jvm.ClassFile.FieldType.int)) ∈ TT := TT_of 588 (by decide +kernel) rfl
theorem tw_589 : (Jvm.Cond.methodLink "WhoseThread" (190 : Nat) ({ cls := "WhoseThread$Loom", name := "fallOf", desc := "(II)I" } : Jvm.MethodName)) ∈ TT := TT_of 589 (by decide +kernel) rfl
theorem tw_590 : (Jvm.Cond.methodLink "WhoseThreadLaw" (89 : Nat) ({ cls := "WhoseThread", name := "loss", desc := "(I)I" } : Jvm.MethodName)) ∈ TT := TT_of 590 (by decide +kernel) rfl
theorem tw_591 : (Jvm.Cond.instanceMethod ({ cls := "WhoseThread", name := "loss", desc := "(I)I" } : Jvm.MethodName)) ∈ TT := TT_of 591 (by decide +kernel) rfl
theorem tw_592 : (Jvm.Cond.selects "WhoseThread" ({ cls := "WhoseThread", name := "loss", desc := "(I)I" } : Jvm.MethodName) ({ cls := "WhoseThread", name := "loss", desc := "(I)I" } : Jvm.MethodName)) ∈ TT := TT_of 592 (by decide +kernel) rfl
theorem tw_593 : (Jvm.Cond.code ({ cls := "WhoseThread", name := "loss", desc := "(I)I" } : Jvm.MethodName) prog_1_method_20_code (2 : Nat) (Option.some Jvm.ClassFile.FieldType.int)) ∈ TT := TT_of 593 (by decide +kernel) rfl
theorem tw_594 : (Jvm.Cond.methodLink "WhoseThread" (193 : Nat) ({ cls := "WhoseThread", name := "lossAt", desc := "(I)I" } : Jvm.MethodName)) ∈ TT := TT_of 594 (by decide +kernel) rfl
theorem tw_596 : (Jvm.Cond.instanceMethod ({ cls := "WhoseThread", name := "lossAt", desc := "(I)I" } : Jvm.MethodName)) ∈ TT := TT_of 596 (by decide +kernel) rfl
theorem tw_597 : (Jvm.Cond.code ({ cls := "WhoseThread", name := "lossAt", desc := "(I)I" } : Jvm.MethodName) prog_1_method_33_code (2 : Nat) (Option.some Jvm.ClassFile.FieldType.int)) ∈ TT := TT_of 597 (by decide +kernel) rfl
theorem tw_598 : (Jvm.Cond.methodLink "WhoseThread" (233 : Nat) ({ cls := "WhoseThread$Telling", name := "lossOf", desc := "(II)I" } : Jvm.MethodName)) ∈ TT := TT_of 598 (by decide +kernel) rfl
theorem tw_599 : (Jvm.Cond.methodLink "WhoseThreadLaw" (93 : Nat) ({ cls := "WhoseThread", name := "lifts", desc := "(II)I" } : Jvm.MethodName)) ∈ TT := TT_of 599 (by decide +kernel) rfl
theorem tw_600 : (Jvm.Cond.instanceMethod ({ cls := "WhoseThread", name := "lifts", desc := "(II)I" } : Jvm.MethodName)) ∈ TT := TT_of 600 (by decide +kernel) rfl
theorem tw_601 : (Jvm.Cond.selects "WhoseThread" ({ cls := "WhoseThread", name := "lifts", desc := "(II)I" } : Jvm.MethodName) ({ cls := "WhoseThread", name := "lifts", desc := "(II)I" } : Jvm.MethodName)) ∈ TT := TT_of 601 (by decide +kernel) rfl
theorem tw_602 : (Jvm.Cond.code ({ cls := "WhoseThread", name := "lifts", desc := "(II)I" } : Jvm.MethodName) prog_1_method_21_code (4 : Nat) (Option.some Jvm.ClassFile.FieldType.int)) ∈ TT := TT_of 602 (by decide +kernel) rfl
theorem tw_603 : (Jvm.Cond.methodLink "WhoseThreadLaw" (97 : Nat) ({ cls := "WhoseThread", name := "doom", desc := "(I)I" } : Jvm.MethodName)) ∈ TT := TT_of 603 (by decide +kernel) rfl
theorem tw_604 : (Jvm.Cond.instanceMethod ({ cls := "WhoseThread", name := "doom", desc := "(I)I" } : Jvm.MethodName)) ∈ TT := TT_of 604 (by decide +kernel) rfl
theorem tw_605 : (Jvm.Cond.selects "WhoseThread" ({ cls := "WhoseThread", name := "doom", desc := "(I)I" } : Jvm.MethodName) ({ cls := "WhoseThread", name := "doom", desc := "(I)I" } : Jvm.MethodName)) ∈ TT := TT_of 605 (by decide +kernel) rfl
theorem tw_606 : (Jvm.Cond.code ({ cls := "WhoseThread", name := "doom", desc := "(I)I" } : Jvm.MethodName) prog_1_method_22_code (2 : Nat) (Option.some Jvm.ClassFile.FieldType.int)) ∈ TT := TT_of 606 (by decide +kernel) rfl
theorem tw_607 : (Jvm.Cond.methodLink "WhoseThreadLaw" (101 : Nat) ({ cls := "WhoseThread", name := "swapped", desc := "(I)I" } : Jvm.MethodName)) ∈ TT := TT_of 607 (by decide +kernel) rfl
theorem tw_608 : (Jvm.Cond.instanceMethod ({ cls := "WhoseThread", name := "swapped", desc := "(I)I" } : Jvm.MethodName)) ∈ TT := TT_of 608 (by decide +kernel) rfl
theorem tw_609 : (Jvm.Cond.selects "WhoseThread" ({ cls := "WhoseThread", name := "swapped", desc := "(I)I" } : Jvm.MethodName) ({ cls := "WhoseThread", name := "swapped", desc := "(I)I" } : Jvm.MethodName)) ∈ TT := TT_of 609 (by decide +kernel) rfl
theorem tw_610 : (Jvm.Cond.code ({ cls := "WhoseThread", name := "swapped", desc := "(I)I" } : Jvm.MethodName) prog_1_method_23_code (2 : Nat) (Option.some Jvm.ClassFile.FieldType.int)) ∈ TT := TT_of 610 (by decide +kernel) rfl
theorem tw_611 : (Jvm.Cond.methodLink "WhoseThread" (199 : Nat) ({ cls := "WhoseThread$Dealing", name := "deal", desc := "()V" } : Jvm.MethodName)) ∈ TT := TT_of 611 (by decide +kernel) rfl
theorem tw_612 : (Jvm.Cond.instanceMethod ({ cls := "WhoseThread$Dealing", name := "deal", desc := "()V" } : Jvm.MethodName)) ∈ TT := TT_of 612 (by decide +kernel) rfl
theorem tw_613 : (Jvm.Cond.selects "WhoseThread$Dealing" ({ cls := "WhoseThread$Dealing", name := "deal", desc := "()V" } : Jvm.MethodName) ({ cls := "WhoseThread$Dealing", name := "deal", desc := "()V" } : Jvm.MethodName)) ∈ TT := TT_of 613 (by decide +kernel) rfl
theorem tw_614 : (Jvm.Cond.code ({ cls := "WhoseThread$Dealing", name := "deal", desc := "()V" } : Jvm.MethodName) prog_2_method_2_code (3 : Nat) (Option.none : Option Jvm.ClassFile.FieldType)) ∈ TT := TT_of 614 (by decide +kernel) rfl
theorem tw_615 : (Jvm.Cond.methodLink "WhoseThread$Dealing" (46 : Nat) ({ cls := "WhoseThread$Dealing", name := "addDay", desc := "(I)V" } : Jvm.MethodName)) ∈ TT := TT_of 615 (by decide +kernel) rfl
theorem tw_617 : (Jvm.Cond.instanceMethod ({ cls := "WhoseThread$Dealing", name := "addDay", desc := "(I)V" } : Jvm.MethodName)) ∈ TT := TT_of 617 (by decide +kernel) rfl
theorem tw_618 : (Jvm.Cond.code ({ cls := "WhoseThread$Dealing", name := "addDay", desc := "(I)V" } : Jvm.MethodName) prog_2_method_3_code (3 : Nat) (Option.none : Option Jvm.ClassFile.FieldType)) ∈ TT := TT_of 618 (by decide +kernel) rfl
theorem tw_620 : (Jvm.Cond.methodLink "WhoseThread$Dealing" (60 : Nat) ({ cls := "WhoseThread$Dealing", name := "dealFrom", desc := "(IIIII)V" } : Jvm.MethodName)) ∈ TT := TT_of 620 (by decide +kernel) rfl
theorem tw_622 : (Jvm.Cond.instanceMethod ({ cls := "WhoseThread$Dealing", name := "dealFrom", desc := "(IIIII)V" } : Jvm.MethodName)) ∈ TT := TT_of 622 (by decide +kernel) rfl
theorem tw_623 : (Jvm.Cond.code ({ cls := "WhoseThread$Dealing", name := "dealFrom", desc := "(IIIII)V" } : Jvm.MethodName) prog_2_method_4_code (10 : Nat) (Option.none : Option Jvm.ClassFile.FieldType)) ∈ TT := TT_of 623 (by decide +kernel) rfl
theorem tw_624 : (Jvm.Cond.methodLink "WhoseThread$Dealing" (64 : Nat) ({ cls := "WhoseThread$Dealing", name := "take", desc := "(I)V" } : Jvm.MethodName)) ∈ TT := TT_of 624 (by decide +kernel) rfl
theorem tw_626 : (Jvm.Cond.instanceMethod ({ cls := "WhoseThread$Dealing", name := "take", desc := "(I)V" } : Jvm.MethodName)) ∈ TT := TT_of 626 (by decide +kernel) rfl
theorem tw_627 : (Jvm.Cond.code ({ cls := "WhoseThread$Dealing", name := "take", desc := "(I)V" } : Jvm.MethodName) prog_2_method_6_code (2 : Nat) (Option.none : Option Jvm.ClassFile.FieldType)) ∈ TT := TT_of 627 (by decide +kernel) rfl
theorem tw_628 : (Jvm.Cond.methodLink "WhoseThread$Dealing" (87 : Nat) ({ cls := "WhoseThread$Dealing", name := "isAhead", desc := "()Z" } : Jvm.MethodName)) ∈ TT := TT_of 628 (by decide +kernel) rfl
theorem tw_630 : (Jvm.Cond.instanceMethod ({ cls := "WhoseThread$Dealing", name := "isAhead", desc := "()Z" } : Jvm.MethodName)) ∈ TT := TT_of 630 (by decide +kernel) rfl
theorem tw_631 : (Jvm.Cond.code ({ cls := "WhoseThread$Dealing", name := "isAhead", desc := "()Z" } : Jvm.MethodName) prog_2_method_7_code (2 : Nat) (Option.some Jvm.ClassFile.FieldType.boolean)) ∈ TT := TT_of 631 (by decide +kernel) rfl
theorem tw_633 : (Jvm.Cond.methodLink "WhoseThread$Dealing" (67 : Nat) ({ cls := "WhoseThread$Telling", name := "lasting", desc := "(II)I" } : Jvm.MethodName)) ∈ TT := TT_of 633 (by decide +kernel) rfl
theorem tw_635 : (Jvm.Cond.methodLink "WhoseThread$Dealing" (75 : Nat) ({ cls := "WhoseThread$Dealing", name := "dealTo", desc := "(IIIII)V" } : Jvm.MethodName)) ∈ TT := TT_of 635 (by decide +kernel) rfl
theorem tw_637 : (Jvm.Cond.instanceMethod ({ cls := "WhoseThread$Dealing", name := "dealTo", desc := "(IIIII)V" } : Jvm.MethodName)) ∈ TT := TT_of 637 (by decide +kernel) rfl
theorem tw_638 : (Jvm.Cond.code ({ cls := "WhoseThread$Dealing", name := "dealTo", desc := "(IIIII)V" } : Jvm.MethodName) prog_2_method_5_code (8 : Nat) (Option.none : Option Jvm.ClassFile.FieldType)) ∈ TT := TT_of 638 (by decide +kernel) rfl
theorem tw_639 : (Jvm.Cond.methodLink "WhoseThread$Dealing" (81 : Nat) ({ cls := "WhoseThread$Loom", name := "fallOf", desc := "(II)I" } : Jvm.MethodName)) ∈ TT := TT_of 639 (by decide +kernel) rfl
theorem tw_640 : (Jvm.Cond.methodLink "WhoseThread$Dealing" (84 : Nat) ({ cls := "WhoseThread$Telling", name := "lossOf", desc := "(II)I" } : Jvm.MethodName)) ∈ TT := TT_of 640 (by decide +kernel) rfl
theorem tw_641 : (Jvm.Cond.methodLink "WhoseThreadLaw" (105 : Nat) ({ cls := "WhoseThread", name := "tails", desc := "(I)I" } : Jvm.MethodName)) ∈ TT := TT_of 641 (by decide +kernel) rfl
theorem tw_642 : (Jvm.Cond.instanceMethod ({ cls := "WhoseThread", name := "tails", desc := "(I)I" } : Jvm.MethodName)) ∈ TT := TT_of 642 (by decide +kernel) rfl
theorem tw_643 : (Jvm.Cond.selects "WhoseThread" ({ cls := "WhoseThread", name := "tails", desc := "(I)I" } : Jvm.MethodName) ({ cls := "WhoseThread", name := "tails", desc := "(I)I" } : Jvm.MethodName)) ∈ TT := TT_of 643 (by decide +kernel) rfl
theorem tw_644 : (Jvm.Cond.code ({ cls := "WhoseThread", name := "tails", desc := "(I)I" } : Jvm.MethodName) prog_1_method_24_code (2 : Nat) (Option.some Jvm.ClassFile.FieldType.int)) ∈ TT := TT_of 644 (by decide +kernel) rfl
theorem tw_645 : (Jvm.Cond.methodLink "WhoseThread" (208 : Nat) ({ cls := "WhoseThread$Tailing", name := "give", desc := "()V" } : Jvm.MethodName)) ∈ TT := TT_of 645 (by decide +kernel) rfl
theorem tw_646 : (Jvm.Cond.instanceMethod ({ cls := "WhoseThread$Tailing", name := "give", desc := "()V" } : Jvm.MethodName)) ∈ TT := TT_of 646 (by decide +kernel) rfl
theorem tw_647 : (Jvm.Cond.selects "WhoseThread$Tailing" ({ cls := "WhoseThread$Tailing", name := "give", desc := "()V" } : Jvm.MethodName) ({ cls := "WhoseThread$Tailing", name := "give", desc := "()V" } : Jvm.MethodName)) ∈ TT := TT_of 647 (by decide +kernel) rfl
theorem tw_648 : (Jvm.Cond.code ({ cls := "WhoseThread$Tailing", name := "give", desc := "()V" } : Jvm.MethodName) prog_5_method_2_code (1 : Nat) (Option.none : Option Jvm.ClassFile.FieldType)) ∈ TT := TT_of 648 (by decide +kernel) rfl
theorem tw_649 : (Jvm.Cond.methodLink "WhoseThread$Tailing" (35 : Nat) ({ cls := "WhoseThread$Tailing", name := "giveFrom", desc := "(III)V" } : Jvm.MethodName)) ∈ TT := TT_of 649 (by decide +kernel) rfl
theorem tw_651 : (Jvm.Cond.instanceMethod ({ cls := "WhoseThread$Tailing", name := "giveFrom", desc := "(III)V" } : Jvm.MethodName)) ∈ TT := TT_of 651 (by decide +kernel) rfl
theorem tw_652 : (Jvm.Cond.code ({ cls := "WhoseThread$Tailing", name := "giveFrom", desc := "(III)V" } : Jvm.MethodName) prog_5_method_3_code (5 : Nat) (Option.none : Option Jvm.ClassFile.FieldType)) ∈ TT := TT_of 652 (by decide +kernel) rfl
theorem tw_653 : (Jvm.Cond.methodLink "WhoseThread$Tailing" (44 : Nat) ({ cls := "WhoseThread$Tailing", name := "take", desc := "(I)V" } : Jvm.MethodName)) ∈ TT := TT_of 653 (by decide +kernel) rfl
theorem tw_655 : (Jvm.Cond.instanceMethod ({ cls := "WhoseThread$Tailing", name := "take", desc := "(I)V" } : Jvm.MethodName)) ∈ TT := TT_of 655 (by decide +kernel) rfl
theorem tw_656 : (Jvm.Cond.code ({ cls := "WhoseThread$Tailing", name := "take", desc := "(I)V" } : Jvm.MethodName) prog_5_method_6_code (2 : Nat) (Option.none : Option Jvm.ClassFile.FieldType)) ∈ TT := TT_of 656 (by decide +kernel) rfl
theorem tw_659 : (Jvm.Cond.methodLink "WhoseThread$Tailing" (55 : Nat) ({ cls := "WhoseThread$Telling", name := "isEndless", desc := "(I)Z" } : Jvm.MethodName)) ∈ TT := TT_of 659 (by decide +kernel) rfl
theorem tw_660 : (Jvm.Cond.methodLink "WhoseThread$Tailing" (59 : Nat) ({ cls := "WhoseThread$Tailing", name := "fits", desc := "(II)Z" } : Jvm.MethodName)) ∈ TT := TT_of 660 (by decide +kernel) rfl
theorem tw_662 : (Jvm.Cond.instanceMethod ({ cls := "WhoseThread$Tailing", name := "fits", desc := "(II)Z" } : Jvm.MethodName)) ∈ TT := TT_of 662 (by decide +kernel) rfl
theorem tw_663 : (Jvm.Cond.code ({ cls := "WhoseThread$Tailing", name := "fits", desc := "(II)Z" } : Jvm.MethodName) prog_5_method_5_code (3 : Nat) (Option.some Jvm.ClassFile.FieldType.boolean)) ∈ TT := TT_of 663 (by decide +kernel) rfl
theorem tw_664 : (Jvm.Cond.methodLink "WhoseThread$Tailing" (62 : Nat) ({ cls := "WhoseThread$Tailing", name := "giveTo", desc := "(IIII)V" } : Jvm.MethodName)) ∈ TT := TT_of 664 (by decide +kernel) rfl
theorem tw_666 : (Jvm.Cond.instanceMethod ({ cls := "WhoseThread$Tailing", name := "giveTo", desc := "(IIII)V" } : Jvm.MethodName)) ∈ TT := TT_of 666 (by decide +kernel) rfl
theorem tw_667 : (Jvm.Cond.code ({ cls := "WhoseThread$Tailing", name := "giveTo", desc := "(IIII)V" } : Jvm.MethodName) prog_5_method_4_code (6 : Nat) (Option.none : Option Jvm.ClassFile.FieldType)) ∈ TT := TT_of 667 (by decide +kernel) rfl
theorem tw_669 : (Jvm.Cond.methodLink "WhoseThreadLaw" (109 : Nat) ({ cls := "WhoseThread", name := "given", desc := "(III)I" } : Jvm.MethodName)) ∈ TT := TT_of 669 (by decide +kernel) rfl
theorem tw_670 : (Jvm.Cond.instanceMethod ({ cls := "WhoseThread", name := "given", desc := "(III)I" } : Jvm.MethodName)) ∈ TT := TT_of 670 (by decide +kernel) rfl
theorem tw_671 : (Jvm.Cond.selects "WhoseThread" ({ cls := "WhoseThread", name := "given", desc := "(III)I" } : Jvm.MethodName) ({ cls := "WhoseThread", name := "given", desc := "(III)I" } : Jvm.MethodName)) ∈ TT := TT_of 671 (by decide +kernel) rfl
theorem tw_672 : (Jvm.Cond.code ({ cls := "WhoseThread", name := "given", desc := "(III)I" } : Jvm.MethodName) prog_1_method_25_code (9 : Nat) (Option.some Jvm.ClassFile.FieldType.int)) ∈ TT := TT_of 672 (by decide +kernel) rfl
theorem tw_673 : (Jvm.Cond.methodLink "WhoseThread" (218 : Nat) ({ cls := "WhoseThread$Loom", name := "canGive", desc := "(II)I" } : Jvm.MethodName)) ∈ TT := TT_of 673 (by decide +kernel) rfl
theorem tw_674 : (Jvm.Cond.instanceMethod ({ cls := "WhoseThread$Loom", name := "canGive", desc := "(II)I" } : Jvm.MethodName)) ∈ TT := TT_of 674 (by decide +kernel) rfl
theorem tw_675 : (Jvm.Cond.selects "WhoseThread$Loom" ({ cls := "WhoseThread$Loom", name := "canGive", desc := "(II)I" } : Jvm.MethodName) ({ cls := "WhoseThread$Loom", name := "canGive", desc := "(II)I" } : Jvm.MethodName)) ∈ TT := TT_of 675 (by decide +kernel) rfl
theorem tw_676 : (Jvm.Cond.code ({ cls := "WhoseThread$Loom", name := "canGive", desc := "(II)I" } : Jvm.MethodName) prog_3_method_13_code (4 : Nat) (Option.some Jvm.ClassFile.FieldType.int)) ∈ TT := TT_of 676 (by decide +kernel) rfl
theorem tw_677 : (Jvm.Cond.methodLink "WhoseThread$Loom" (105 : Nat) ({ cls := "WhoseThread$Loom", name := "isWhole", desc := "(I)Z" } : Jvm.MethodName)) ∈ TT := TT_of 677 (by decide +kernel) rfl
theorem tw_678 : (Jvm.Cond.methodLink "WhoseThread$Loom" (111 : Nat) ({ cls := "WhoseThread$Telling", name := "yearsOn", desc := "(II)I" } : Jvm.MethodName)) ∈ TT := TT_of 678 (by decide +kernel) rfl
theorem tw_680 : (Jvm.Cond.methodLink "WhoseThreadLaw" (113 : Nat) ({ cls := "WhoseThread", name := "cat", desc := "(II)I" } : Jvm.MethodName)) ∈ TT := TT_of 680 (by decide +kernel) rfl
theorem tw_681 : (Jvm.Cond.instanceMethod ({ cls := "WhoseThread", name := "cat", desc := "(II)I" } : Jvm.MethodName)) ∈ TT := TT_of 681 (by decide +kernel) rfl
theorem tw_682 : (Jvm.Cond.selects "WhoseThread" ({ cls := "WhoseThread", name := "cat", desc := "(II)I" } : Jvm.MethodName) ({ cls := "WhoseThread", name := "cat", desc := "(II)I" } : Jvm.MethodName)) ∈ TT := TT_of 682 (by decide +kernel) rfl
theorem tw_683 : (Jvm.Cond.code ({ cls := "WhoseThread", name := "cat", desc := "(II)I" } : Jvm.MethodName) prog_1_method_26_code (5 : Nat) (Option.some Jvm.ClassFile.FieldType.int)) ∈ TT := TT_of 683 (by decide +kernel) rfl
theorem tw_684 : (Jvm.Cond.methodLink "WhoseThread" (221 : Nat) ({ cls := "WhoseThread", name := "lowest", desc := "(III)I" } : Jvm.MethodName)) ∈ TT := TT_of 684 (by decide +kernel) rfl
theorem tw_685 : (Jvm.Cond.static ({ cls := "WhoseThread", name := "lowest", desc := "(III)I" } : Jvm.MethodName)) ∈ TT := TT_of 685 (by decide +kernel) rfl
theorem tw_686 : (Jvm.Cond.code ({ cls := "WhoseThread", name := "lowest", desc := "(III)I" } : Jvm.MethodName) prog_1_method_37_code (4 : Nat) (Option.some Jvm.ClassFile.FieldType.int)) ∈ TT := TT_of 686 (by decide +kernel) rfl
theorem tw_687 : (Jvm.Cond.methodLink "WhoseThreadLaw" (117 : Nat) ({ cls := "WhoseThread", name := "mean", desc := "(I)I" } : Jvm.MethodName)) ∈ TT := TT_of 687 (by decide +kernel) rfl
theorem tw_688 : (Jvm.Cond.instanceMethod ({ cls := "WhoseThread", name := "mean", desc := "(I)I" } : Jvm.MethodName)) ∈ TT := TT_of 688 (by decide +kernel) rfl
theorem tw_689 : (Jvm.Cond.selects "WhoseThread" ({ cls := "WhoseThread", name := "mean", desc := "(I)I" } : Jvm.MethodName) ({ cls := "WhoseThread", name := "mean", desc := "(I)I" } : Jvm.MethodName)) ∈ TT := TT_of 689 (by decide +kernel) rfl
theorem tw_690 : (Jvm.Cond.code ({ cls := "WhoseThread", name := "mean", desc := "(I)I" } : Jvm.MethodName) prog_1_method_27_code (4 : Nat) (Option.some Jvm.ClassFile.FieldType.int)) ∈ TT := TT_of 690 (by decide +kernel) rfl
theorem tw_691 : (Jvm.Cond.methodLink "WhoseThreadLaw" (121 : Nat) ({ cls := "WhoseThread", name := "whose", desc := "(I)I" } : Jvm.MethodName)) ∈ TT := TT_of 691 (by decide +kernel) rfl
theorem tw_692 : (Jvm.Cond.instanceMethod ({ cls := "WhoseThread", name := "whose", desc := "(I)I" } : Jvm.MethodName)) ∈ TT := TT_of 692 (by decide +kernel) rfl
theorem tw_693 : (Jvm.Cond.selects "WhoseThread" ({ cls := "WhoseThread", name := "whose", desc := "(I)I" } : Jvm.MethodName) ({ cls := "WhoseThread", name := "whose", desc := "(I)I" } : Jvm.MethodName)) ∈ TT := TT_of 693 (by decide +kernel) rfl
theorem tw_694 : (Jvm.Cond.code ({ cls := "WhoseThread", name := "whose", desc := "(I)I" } : Jvm.MethodName) prog_1_method_28_code (4 : Nat) (Option.some Jvm.ClassFile.FieldType.int)) ∈ TT := TT_of 694 (by decide +kernel) rfl
theorem tw_695 : (Jvm.Cond.methodLink "WhoseThread" (225 : Nat) ({ cls := "WhoseThread$Telling", name := "all", desc := "()I" } : Jvm.MethodName)) ∈ TT := TT_of 695 (by decide +kernel) rfl
theorem tw_696 : (Jvm.Cond.methodLink "WhoseThreadLaw" (125 : Nat) ({ cls := "WhoseThread", name := "fourth", desc := "(I)I" } : Jvm.MethodName)) ∈ TT := TT_of 696 (by decide +kernel) rfl
theorem tw_697 : (Jvm.Cond.instanceMethod ({ cls := "WhoseThread", name := "fourth", desc := "(I)I" } : Jvm.MethodName)) ∈ TT := TT_of 697 (by decide +kernel) rfl
theorem tw_698 : (Jvm.Cond.selects "WhoseThread" ({ cls := "WhoseThread", name := "fourth", desc := "(I)I" } : Jvm.MethodName) ({ cls := "WhoseThread", name := "fourth", desc := "(I)I" } : Jvm.MethodName)) ∈ TT := TT_of 698 (by decide +kernel) rfl
theorem tw_699 : (Jvm.Cond.code ({ cls := "WhoseThread", name := "fourth", desc := "(I)I" } : Jvm.MethodName) prog_1_method_29_code (5 : Nat) (Option.some Jvm.ClassFile.FieldType.int)) ∈ TT := TT_of 699 (by decide +kernel) rfl
theorem tw_700 : (Jvm.Cond.methodLink "WhoseThreadLaw" (129 : Nat) ({ cls := "WhoseThread", name := "count", desc := "(I)I" } : Jvm.MethodName)) ∈ TT := TT_of 700 (by decide +kernel) rfl
theorem tw_701 : (Jvm.Cond.instanceMethod ({ cls := "WhoseThread", name := "count", desc := "(I)I" } : Jvm.MethodName)) ∈ TT := TT_of 701 (by decide +kernel) rfl
theorem tw_702 : (Jvm.Cond.selects "WhoseThread" ({ cls := "WhoseThread", name := "count", desc := "(I)I" } : Jvm.MethodName) ({ cls := "WhoseThread", name := "count", desc := "(I)I" } : Jvm.MethodName)) ∈ TT := TT_of 702 (by decide +kernel) rfl
theorem tw_703 : (Jvm.Cond.code ({ cls := "WhoseThread", name := "count", desc := "(I)I" } : Jvm.MethodName) prog_1_method_30_code (2 : Nat) (Option.some Jvm.ClassFile.FieldType.int)) ∈ TT := TT_of 703 (by decide +kernel) rfl
theorem tw_704 : (Jvm.Cond.methodLink "WhoseThread" (229 : Nat) ({ cls := "WhoseThread", name := "bitsIn", desc := "([I)I" } : Jvm.MethodName)) ∈ TT := TT_of 704 (by decide +kernel) rfl
theorem tw_705 : (Jvm.Cond.static ({ cls := "WhoseThread", name := "bitsIn", desc := "([I)I" } : Jvm.MethodName)) ∈ TT := TT_of 705 (by decide +kernel) rfl
theorem tw_706 : (Jvm.Cond.code ({ cls := "WhoseThread", name := "bitsIn", desc := "([I)I" } : Jvm.MethodName) prog_1_method_36_code (6 : Nat) (Option.some Jvm.ClassFile.FieldType.int)) ∈ TT := TT_of 706 (by decide +kernel) rfl
theorem tw_707 : (Jvm.Cond.classLink "WhoseThreadLaw" (10 : Nat) "WhoseThreadModel") ∈ TT := TT_of 707 (by decide +kernel) rfl
theorem tw_708 : (Jvm.Cond.instantiable "WhoseThreadModel" (33 : Nat)) ∈ TT := TT_of 708 (by decide +kernel) rfl
theorem tw_709 : (Jvm.Cond.methodLink "WhoseThreadLaw" (12 : Nat) ({ cls := "WhoseThreadModel", name := "<init>", desc := "()V" } : Jvm.MethodName)) ∈ TT := TT_of 709 (by decide +kernel) rfl
theorem tw_710 : (Jvm.Cond.instanceMethod ({ cls := "WhoseThreadModel", name := "<init>", desc := "()V" } : Jvm.MethodName)) ∈ TT := TT_of 710 (by decide +kernel) rfl
theorem tw_711 : (Jvm.Cond.code ({ cls := "WhoseThreadModel", name := "<init>", desc := "()V" } : Jvm.MethodName) prog_9_method_1_code (1 : Nat) (Option.none : Option Jvm.ClassFile.FieldType)) ∈ TT := TT_of 711 (by decide +kernel) rfl
theorem tw_713 : (Jvm.Cond.fieldLink "WhoseThreadModel" (7 : Nat) "WhoseThreadModel" "kinds" "[I") ∈ TT := TT_of 713 (by decide +kernel) rfl
theorem tw_714 : (Jvm.Cond.fieldLink "WhoseThreadModel" (13 : Nat) "WhoseThreadModel" "lengths" "[I") ∈ TT := TT_of 714 (by decide +kernel) rfl
theorem tw_715 : (Jvm.Cond.fieldLink "WhoseThreadModel" (74 : Nat) "WhoseThreadModel" "threads" "I") ∈ TT := TT_of 715 (by decide +kernel) rfl
theorem tw_716 : (Jvm.Cond.fieldLink "WhoseThreadModel" (16 : Nat) "WhoseThreadModel" "whom" "[I") ∈ TT := TT_of 716 (by decide +kernel) rfl
theorem tw_717 : (Jvm.Cond.fieldLink "WhoseThreadModel" (19 : Nat) "WhoseThreadModel" "when" "[I") ∈ TT := TT_of 717 (by decide +kernel) rfl
theorem tw_718 : (Jvm.Cond.fieldLink "WhoseThreadModel" (156 : Nat) "WhoseThreadModel" "orders" "I") ∈ TT := TT_of 718 (by decide +kernel) rfl
theorem tw_719 : (Jvm.Cond.fieldLink "WhoseThreadModel" (22 : Nat) "WhoseThreadModel" "toldAs" "[I") ∈ TT := TT_of 719 (by decide +kernel) rfl
theorem tw_720 : (Jvm.Cond.fieldLink "WhoseThreadModel" (25 : Nat) "WhoseThreadModel" "st" "[I") ∈ TT := TT_of 720 (by decide +kernel) rfl
theorem tw_721 : (Jvm.Cond.fieldLink "WhoseThreadModel" (28 : Nat) "WhoseThreadModel" "text" "[I") ∈ TT := TT_of 721 (by decide +kernel) rfl
theorem tw_722 : (Jvm.Cond.fieldLink "WhoseThreadModel" (84 : Nat) "WhoseThreadModel" "letters" "I") ∈ TT := TT_of 722 (by decide +kernel) rfl
theorem tw_723 : (Jvm.Cond.fieldLink "WhoseThreadModel" (87 : Nat) "WhoseThreadModel" "place" "I") ∈ TT := TT_of 723 (by decide +kernel) rfl
theorem tw_724 : (Jvm.Cond.fieldLink "WhoseThreadModel" (100 : Nat) "WhoseThreadModel" "token" "I") ∈ TT := TT_of 724 (by decide +kernel) rfl
theorem tw_725 : (Jvm.Cond.fieldLink "WhoseThreadModel" (97 : Nat) "WhoseThreadModel" "value" "I") ∈ TT := TT_of 725 (by decide +kernel) rfl
theorem tw_726 : (Jvm.Cond.fieldLink "WhoseThreadModel" (94 : Nat) "WhoseThreadModel" "begins" "I") ∈ TT := TT_of 726 (by decide +kernel) rfl
theorem tw_727 : (Jvm.Cond.fieldLink "WhoseThreadModel" (128 : Nat) "WhoseThreadModel" "readThreads" "I") ∈ TT := TT_of 727 (by decide +kernel) rfl
theorem tw_728 : (Jvm.Cond.fieldLink "WhoseThreadModel" (31 : Nat) "WhoseThreadModel" "readTold" "[I") ∈ TT := TT_of 728 (by decide +kernel) rfl
theorem tw_729 : (Jvm.Cond.fieldLink "WhoseThreadModel" (34 : Nat) "WhoseThreadModel" "readOvers" "[I") ∈ TT := TT_of 729 (by decide +kernel) rfl
theorem tw_730 : (Jvm.Cond.fieldLink "WhoseThreadModel" (37 : Nat) "WhoseThreadModel" "readKnots" "[I") ∈ TT := TT_of 730 (by decide +kernel) rfl
theorem tw_731 : (Jvm.Cond.fieldLink "WhoseThreadModel" (135 : Nat) "WhoseThreadModel" "readOrders" "I") ∈ TT := TT_of 731 (by decide +kernel) rfl
theorem tw_732 : (Jvm.Cond.fieldLink "WhoseThreadModel" (40 : Nat) "WhoseThreadModel" "readWhom" "[I") ∈ TT := TT_of 732 (by decide +kernel) rfl
theorem tw_733 : (Jvm.Cond.fieldLink "WhoseThreadModel" (43 : Nat) "WhoseThreadModel" "readWhen" "[I") ∈ TT := TT_of 733 (by decide +kernel) rfl
theorem tw_734 : (Jvm.Cond.fieldLink "WhoseThreadModel" (153 : Nat) "WhoseThreadModel" "clauses" "I") ∈ TT := TT_of 734 (by decide +kernel) rfl
theorem tw_735 : (Jvm.Cond.fieldLink "WhoseThreadModel" (46 : Nat) "WhoseThreadModel" "ahead" "[I") ∈ TT := TT_of 735 (by decide +kernel) rfl
theorem tw_736 : (Jvm.Cond.fieldLink "WhoseThreadModel" (166 : Nat) "WhoseThreadModel" "undoMany" "I") ∈ TT := TT_of 736 (by decide +kernel) rfl
theorem tw_737 : (Jvm.Cond.fieldLink "WhoseThreadModel" (49 : Nat) "WhoseThreadModel" "overNow" "[I") ∈ TT := TT_of 737 (by decide +kernel) rfl
theorem tw_738 : (Jvm.Cond.fieldLink "WhoseThreadModel" (52 : Nat) "WhoseThreadModel" "dueOn" "[I") ∈ TT := TT_of 738 (by decide +kernel) rfl
theorem tw_739 : (Jvm.Cond.fieldLink "WhoseThreadModel" (55 : Nat) "WhoseThreadModel" "isKept" "[Z") ∈ TT := TT_of 739 (by decide +kernel) rfl
theorem tw_740 : (Jvm.Cond.fieldLink "WhoseThreadModel" (59 : Nat) "WhoseThreadModel" "kept" "[I") ∈ TT := TT_of 740 (by decide +kernel) rfl
theorem tw_741 : (Jvm.Cond.fieldLink "WhoseThreadModel" (62 : Nat) "WhoseThreadModel" "aside" "[I") ∈ TT := TT_of 741 (by decide +kernel) rfl
theorem tw_742 : (Jvm.Cond.fieldLink "WhoseThreadModel" (217 : Nat) "WhoseThreadModel" "doomed" "I") ∈ TT := TT_of 742 (by decide +kernel) rfl
theorem tw_743 : (Jvm.Cond.fieldLink "WhoseThreadModel" (65 : Nat) "WhoseThreadModel" "open" "[I") ∈ TT := TT_of 743 (by decide +kernel) rfl
theorem tw_744 : (Jvm.Cond.fieldLink "WhoseThreadModel" (68 : Nat) "WhoseThreadModel" "bestDays" "[I") ∈ TT := TT_of 744 (by decide +kernel) rfl
theorem tw_745 : (Jvm.Cond.fieldLink "WhoseThreadModel" (71 : Nat) "WhoseThreadModel" "mosts" "[I") ∈ TT := TT_of 745 (by decide +kernel) rfl
theorem tw_746 : (Jvm.Cond.laysFinal "WhoseThreadModel" "WhoseThreadModel" "kinds" "[I") ∈ TT := TT_of 746 (by decide +kernel) rfl
theorem tw_748 : (Jvm.Cond.laysFinal "WhoseThreadModel" "WhoseThreadModel" "lengths" "[I") ∈ TT := TT_of 748 (by decide +kernel) rfl
theorem tw_750 : (Jvm.Cond.lays "WhoseThreadModel" "WhoseThreadModel" "threads" "I") ∈ TT := TT_of 750 (by decide +kernel) rfl
theorem tw_752 : (Jvm.Cond.laysFinal "WhoseThreadModel" "WhoseThreadModel" "whom" "[I") ∈ TT := TT_of 752 (by decide +kernel) rfl
theorem tw_754 : (Jvm.Cond.laysFinal "WhoseThreadModel" "WhoseThreadModel" "when" "[I") ∈ TT := TT_of 754 (by decide +kernel) rfl
theorem tw_756 : (Jvm.Cond.lays "WhoseThreadModel" "WhoseThreadModel" "orders" "I") ∈ TT := TT_of 756 (by decide +kernel) rfl
theorem tw_758 : (Jvm.Cond.laysFinal "WhoseThreadModel" "WhoseThreadModel" "toldAs" "[I") ∈ TT := TT_of 758 (by decide +kernel) rfl
theorem tw_760 : (Jvm.Cond.laysFinal "WhoseThreadModel" "WhoseThreadModel" "st" "[I") ∈ TT := TT_of 760 (by decide +kernel) rfl
theorem tw_762 : (Jvm.Cond.laysFinal "WhoseThreadModel" "WhoseThreadModel" "text" "[I") ∈ TT := TT_of 762 (by decide +kernel) rfl
theorem tw_764 : (Jvm.Cond.lays "WhoseThreadModel" "WhoseThreadModel" "letters" "I") ∈ TT := TT_of 764 (by decide +kernel) rfl
theorem tw_766 : (Jvm.Cond.lays "WhoseThreadModel" "WhoseThreadModel" "place" "I") ∈ TT := TT_of 766 (by decide +kernel) rfl
theorem tw_768 : (Jvm.Cond.lays "WhoseThreadModel" "WhoseThreadModel" "token" "I") ∈ TT := TT_of 768 (by decide +kernel) rfl
theorem tw_770 : (Jvm.Cond.lays "WhoseThreadModel" "WhoseThreadModel" "value" "I") ∈ TT := TT_of 770 (by decide +kernel) rfl
theorem tw_772 : (Jvm.Cond.lays "WhoseThreadModel" "WhoseThreadModel" "begins" "I") ∈ TT := TT_of 772 (by decide +kernel) rfl
theorem tw_774 : (Jvm.Cond.lays "WhoseThreadModel" "WhoseThreadModel" "readThreads" "I") ∈ TT := TT_of 774 (by decide +kernel) rfl
theorem tw_776 : (Jvm.Cond.laysFinal "WhoseThreadModel" "WhoseThreadModel" "readTold" "[I") ∈ TT := TT_of 776 (by decide +kernel) rfl
theorem tw_778 : (Jvm.Cond.laysFinal "WhoseThreadModel" "WhoseThreadModel" "readOvers" "[I") ∈ TT := TT_of 778 (by decide +kernel) rfl
theorem tw_780 : (Jvm.Cond.laysFinal "WhoseThreadModel" "WhoseThreadModel" "readKnots" "[I") ∈ TT := TT_of 780 (by decide +kernel) rfl
theorem tw_782 : (Jvm.Cond.lays "WhoseThreadModel" "WhoseThreadModel" "readOrders" "I") ∈ TT := TT_of 782 (by decide +kernel) rfl
theorem tw_784 : (Jvm.Cond.laysFinal "WhoseThreadModel" "WhoseThreadModel" "readWhom" "[I") ∈ TT := TT_of 784 (by decide +kernel) rfl
theorem tw_786 : (Jvm.Cond.laysFinal "WhoseThreadModel" "WhoseThreadModel" "readWhen" "[I") ∈ TT := TT_of 786 (by decide +kernel) rfl
theorem tw_788 : (Jvm.Cond.lays "WhoseThreadModel" "WhoseThreadModel" "clauses" "I") ∈ TT := TT_of 788 (by decide +kernel) rfl
theorem tw_790 : (Jvm.Cond.laysFinal "WhoseThreadModel" "WhoseThreadModel" "ahead" "[I") ∈ TT := TT_of 790 (by decide +kernel) rfl
theorem tw_792 : (Jvm.Cond.lays "WhoseThreadModel" "WhoseThreadModel" "undoMany" "I") ∈ TT := TT_of 792 (by decide +kernel) rfl
theorem tw_794 : (Jvm.Cond.laysFinal "WhoseThreadModel" "WhoseThreadModel" "overNow" "[I") ∈ TT := TT_of 794 (by decide +kernel) rfl
theorem tw_796 : (Jvm.Cond.laysFinal "WhoseThreadModel" "WhoseThreadModel" "dueOn" "[I") ∈ TT := TT_of 796 (by decide +kernel) rfl
theorem tw_798 : (Jvm.Cond.laysFinal "WhoseThreadModel" "WhoseThreadModel" "isKept" "[Z") ∈ TT := TT_of 798 (by decide +kernel) rfl
theorem tw_800 : (Jvm.Cond.laysFinal "WhoseThreadModel" "WhoseThreadModel" "kept" "[I") ∈ TT := TT_of 800 (by decide +kernel) rfl
theorem tw_802 : (Jvm.Cond.laysFinal "WhoseThreadModel" "WhoseThreadModel" "aside" "[I") ∈ TT := TT_of 802 (by decide +kernel) rfl
theorem tw_804 : (Jvm.Cond.lays "WhoseThreadModel" "WhoseThreadModel" "doomed" "I") ∈ TT := TT_of 804 (by decide +kernel) rfl
theorem tw_806 : (Jvm.Cond.laysFinal "WhoseThreadModel" "WhoseThreadModel" "open" "[I") ∈ TT := TT_of 806 (by decide +kernel) rfl
theorem tw_808 : (Jvm.Cond.laysFinal "WhoseThreadModel" "WhoseThreadModel" "bestDays" "[I") ∈ TT := TT_of 808 (by decide +kernel) rfl
theorem tw_810 : (Jvm.Cond.laysFinal "WhoseThreadModel" "WhoseThreadModel" "mosts" "[I") ∈ TT := TT_of 810 (by decide +kernel) rfl
theorem tw_813 : (Jvm.Cond.arrayClass Jvm.ClassFile.FieldType.boolean) ∈ TT := TT_of 813 (by decide +kernel) rfl
theorem tw_814 : (Jvm.Cond.methodLink "WhoseThreadLaw" (17 : Nat) ({ cls := "WhoseThreadModel", name := "write", desc := "(I)I" } : Jvm.MethodName)) ∈ TT := TT_of 814 (by decide +kernel) rfl
theorem tw_815 : (Jvm.Cond.instanceMethod ({ cls := "WhoseThreadModel", name := "write", desc := "(I)I" } : Jvm.MethodName)) ∈ TT := TT_of 815 (by decide +kernel) rfl
theorem tw_816 : (Jvm.Cond.selects "WhoseThreadModel" ({ cls := "WhoseThreadModel", name := "write", desc := "(I)I" } : Jvm.MethodName) ({ cls := "WhoseThreadModel", name := "write", desc := "(I)I" } : Jvm.MethodName)) ∈ TT := TT_of 816 (by decide +kernel) rfl
theorem tw_817 : (Jvm.Cond.code ({ cls := "WhoseThreadModel", name := "write", desc := "(I)I" } : Jvm.MethodName) prog_9_method_6_code (2 : Nat) (Option.some Jvm.ClassFile.FieldType.int)) ∈ TT := TT_of 817 (by decide +kernel) rfl
theorem tw_818 : (Jvm.Cond.constantLong "WhoseThreadModel" (82 : Nat) (255 : Int64)) ∈ TT := TT_of 818 (by decide +kernel) rfl
theorem tw_819 : (Jvm.Cond.methodLink "WhoseThreadModel" (78 : Nat) ({ cls := "WhoseThreadModel", name := "in", desc := "(JJJ)Z" } : Jvm.MethodName)) ∈ TT := TT_of 819 (by decide +kernel) rfl
theorem tw_820 : (Jvm.Cond.static ({ cls := "WhoseThreadModel", name := "in", desc := "(JJJ)Z" } : Jvm.MethodName)) ∈ TT := TT_of 820 (by decide +kernel) rfl
theorem tw_821 : (Jvm.Cond.code ({ cls := "WhoseThreadModel", name := "in", desc := "(JJJ)Z" } : Jvm.MethodName) prog_9_method_2_code (6 : Nat) (Option.some Jvm.ClassFile.FieldType.boolean)) ∈ TT := TT_of 821 (by decide +kernel) rfl
theorem tw_822 : (Jvm.Cond.methodLink "WhoseThreadLaw" (22 : Nat) ({ cls := "WhoseThreadModel", name := "erase", desc := "()I" } : Jvm.MethodName)) ∈ TT := TT_of 822 (by decide +kernel) rfl
theorem tw_823 : (Jvm.Cond.instanceMethod ({ cls := "WhoseThreadModel", name := "erase", desc := "()I" } : Jvm.MethodName)) ∈ TT := TT_of 823 (by decide +kernel) rfl
theorem tw_824 : (Jvm.Cond.selects "WhoseThreadModel" ({ cls := "WhoseThreadModel", name := "erase", desc := "()I" } : Jvm.MethodName) ({ cls := "WhoseThreadModel", name := "erase", desc := "()I" } : Jvm.MethodName)) ∈ TT := TT_of 824 (by decide +kernel) rfl
theorem tw_825 : (Jvm.Cond.code ({ cls := "WhoseThreadModel", name := "erase", desc := "()I" } : Jvm.MethodName) prog_9_method_7_code (2 : Nat) (Option.some Jvm.ClassFile.FieldType.int)) ∈ TT := TT_of 825 (by decide +kernel) rfl
theorem tw_826 : (Jvm.Cond.methodLink "WhoseThreadLaw" (26 : Nat) ({ cls := "WhoseThreadModel", name := "fault", desc := "()I" } : Jvm.MethodName)) ∈ TT := TT_of 826 (by decide +kernel) rfl
theorem tw_827 : (Jvm.Cond.instanceMethod ({ cls := "WhoseThreadModel", name := "fault", desc := "()I" } : Jvm.MethodName)) ∈ TT := TT_of 827 (by decide +kernel) rfl
theorem tw_828 : (Jvm.Cond.selects "WhoseThreadModel" ({ cls := "WhoseThreadModel", name := "fault", desc := "()I" } : Jvm.MethodName) ({ cls := "WhoseThreadModel", name := "fault", desc := "()I" } : Jvm.MethodName)) ∈ TT := TT_of 828 (by decide +kernel) rfl
theorem tw_829 : (Jvm.Cond.code ({ cls := "WhoseThreadModel", name := "fault", desc := "()I" } : Jvm.MethodName) prog_9_method_19_code (1 : Nat) (Option.some Jvm.ClassFile.FieldType.int)) ∈ TT := TT_of 829 (by decide +kernel) rfl
theorem tw_830 : (Jvm.Cond.methodLink "WhoseThreadModel" (163 : Nat) ({ cls := "WhoseThreadModel", name := "readText", desc := "()Z" } : Jvm.MethodName)) ∈ TT := TT_of 830 (by decide +kernel) rfl
theorem tw_832 : (Jvm.Cond.instanceMethod ({ cls := "WhoseThreadModel", name := "readText", desc := "()Z" } : Jvm.MethodName)) ∈ TT := TT_of 832 (by decide +kernel) rfl
theorem tw_833 : (Jvm.Cond.code ({ cls := "WhoseThreadModel", name := "readText", desc := "()Z" } : Jvm.MethodName) prog_9_method_18_code (2 : Nat) (Option.some Jvm.ClassFile.FieldType.boolean)) ∈ TT := TT_of 833 (by decide +kernel) rfl
theorem tw_834 : (Jvm.Cond.methodLink "WhoseThreadModel" (121 : Nat) ({ cls := "WhoseThreadModel", name := "nextToken", desc := "()V" } : Jvm.MethodName)) ∈ TT := TT_of 834 (by decide +kernel) rfl
theorem tw_836 : (Jvm.Cond.instanceMethod ({ cls := "WhoseThreadModel", name := "nextToken", desc := "()V" } : Jvm.MethodName)) ∈ TT := TT_of 836 (by decide +kernel) rfl
theorem tw_837 : (Jvm.Cond.code ({ cls := "WhoseThreadModel", name := "nextToken", desc := "()V" } : Jvm.MethodName) prog_9_method_9_code (1 : Nat) (Option.none : Option Jvm.ClassFile.FieldType)) ∈ TT := TT_of 837 (by decide +kernel) rfl
theorem tw_838 : (Jvm.Cond.methodLink "WhoseThreadModel" (90 : Nat) ({ cls := "WhoseThreadModel", name := "letterAt", desc := "(I)I" } : Jvm.MethodName)) ∈ TT := TT_of 838 (by decide +kernel) rfl
theorem tw_840 : (Jvm.Cond.instanceMethod ({ cls := "WhoseThreadModel", name := "letterAt", desc := "(I)I" } : Jvm.MethodName)) ∈ TT := TT_of 840 (by decide +kernel) rfl
theorem tw_841 : (Jvm.Cond.code ({ cls := "WhoseThreadModel", name := "letterAt", desc := "(I)I" } : Jvm.MethodName) prog_9_method_8_code (2 : Nat) (Option.some Jvm.ClassFile.FieldType.int)) ∈ TT := TT_of 841 (by decide +kernel) rfl
theorem tw_842 : (Jvm.Cond.constantLong "WhoseThreadModel" (103 : Nat) (97 : Int64)) ∈ TT := TT_of 842 (by decide +kernel) rfl
theorem tw_843 : (Jvm.Cond.constantLong "WhoseThreadModel" (105 : Nat) (122 : Int64)) ∈ TT := TT_of 843 (by decide +kernel) rfl
theorem tw_844 : (Jvm.Cond.constantLong "WhoseThreadModel" (107 : Nat) (48 : Int64)) ∈ TT := TT_of 844 (by decide +kernel) rfl
theorem tw_845 : (Jvm.Cond.constantLong "WhoseThreadModel" (109 : Nat) (57 : Int64)) ∈ TT := TT_of 845 (by decide +kernel) rfl
theorem tw_846 : (Jvm.Cond.methodLink "WhoseThreadModel" (159 : Nat) ({ cls := "WhoseThreadModel", name := "readClause", desc := "()Z" } : Jvm.MethodName)) ∈ TT := TT_of 846 (by decide +kernel) rfl
theorem tw_848 : (Jvm.Cond.instanceMethod ({ cls := "WhoseThreadModel", name := "readClause", desc := "()Z" } : Jvm.MethodName)) ∈ TT := TT_of 848 (by decide +kernel) rfl
theorem tw_849 : (Jvm.Cond.code ({ cls := "WhoseThreadModel", name := "readClause", desc := "()Z" } : Jvm.MethodName) prog_9_method_17_code (3 : Nat) (Option.some Jvm.ClassFile.FieldType.boolean)) ∈ TT := TT_of 849 (by decide +kernel) rfl
theorem tw_850 : (Jvm.Cond.methodLink "WhoseThreadModel" (142 : Nat) ({ cls := "WhoseThreadModel", name := "verb", desc := "()I" } : Jvm.MethodName)) ∈ TT := TT_of 850 (by decide +kernel) rfl
theorem tw_852 : (Jvm.Cond.instanceMethod ({ cls := "WhoseThreadModel", name := "verb", desc := "()I" } : Jvm.MethodName)) ∈ TT := TT_of 852 (by decide +kernel) rfl
theorem tw_853 : (Jvm.Cond.code ({ cls := "WhoseThreadModel", name := "verb", desc := "()I" } : Jvm.MethodName) prog_9_method_12_code (3 : Nat) (Option.some Jvm.ClassFile.FieldType.int)) ∈ TT := TT_of 853 (by decide +kernel) rfl
theorem tw_854 : (Jvm.Cond.methodLink "WhoseThreadModel" (113 : Nat) ({ cls := "WhoseThreadModel", name := "wordOf", desc := "()J" } : Jvm.MethodName)) ∈ TT := TT_of 854 (by decide +kernel) rfl
theorem tw_856 : (Jvm.Cond.instanceMethod ({ cls := "WhoseThreadModel", name := "wordOf", desc := "()J" } : Jvm.MethodName)) ∈ TT := TT_of 856 (by decide +kernel) rfl
theorem tw_857 : (Jvm.Cond.code ({ cls := "WhoseThreadModel", name := "wordOf", desc := "()J" } : Jvm.MethodName) prog_9_method_10_code (4 : Nat) (Option.some Jvm.ClassFile.FieldType.long)) ∈ TT := TT_of 857 (by decide +kernel) rfl
theorem tw_858 : (Jvm.Cond.constantLong "WhoseThreadModel" (111 : Nat) (27 : Int64)) ∈ TT := TT_of 858 (by decide +kernel) rfl
theorem tw_859 : (Jvm.Cond.methodLink "WhoseThreadModel" (117 : Nat) ({ cls := "WhoseThreadModel", name := "spelt", desc := "(IIIIIII)J" } : Jvm.MethodName)) ∈ TT := TT_of 859 (by decide +kernel) rfl
theorem tw_860 : (Jvm.Cond.static ({ cls := "WhoseThreadModel", name := "spelt", desc := "(IIIIIII)J" } : Jvm.MethodName)) ∈ TT := TT_of 860 (by decide +kernel) rfl
theorem tw_861 : (Jvm.Cond.code ({ cls := "WhoseThreadModel", name := "spelt", desc := "(IIIIIII)J" } : Jvm.MethodName) prog_9_method_11_code (9 : Nat) (Option.some Jvm.ClassFile.FieldType.long)) ∈ TT := TT_of 861 (by decide +kernel) rfl
theorem tw_862 : (Jvm.Cond.methodLink "WhoseThreadModel" (146 : Nat) ({ cls := "WhoseThreadModel", name := "readThread", desc := "(I)Z" } : Jvm.MethodName)) ∈ TT := TT_of 862 (by decide +kernel) rfl
theorem tw_864 : (Jvm.Cond.instanceMethod ({ cls := "WhoseThreadModel", name := "readThread", desc := "(I)Z" } : Jvm.MethodName)) ∈ TT := TT_of 864 (by decide +kernel) rfl
theorem tw_865 : (Jvm.Cond.code ({ cls := "WhoseThreadModel", name := "readThread", desc := "(I)Z" } : Jvm.MethodName) prog_9_method_15_code (4 : Nat) (Option.some Jvm.ClassFile.FieldType.boolean)) ∈ TT := TT_of 865 (by decide +kernel) rfl
theorem tw_866 : (Jvm.Cond.methodLink "WhoseThreadModel" (131 : Nat) ({ cls := "WhoseThreadModel", name := "number", desc := "(II)I" } : Jvm.MethodName)) ∈ TT := TT_of 866 (by decide +kernel) rfl
theorem tw_868 : (Jvm.Cond.instanceMethod ({ cls := "WhoseThreadModel", name := "number", desc := "(II)I" } : Jvm.MethodName)) ∈ TT := TT_of 868 (by decide +kernel) rfl
theorem tw_869 : (Jvm.Cond.code ({ cls := "WhoseThreadModel", name := "number", desc := "(II)I" } : Jvm.MethodName) prog_9_method_13_code (3 : Nat) (Option.some Jvm.ClassFile.FieldType.int)) ∈ TT := TT_of 869 (by decide +kernel) rfl
theorem tw_870 : (Jvm.Cond.methodLink "WhoseThreadModel" (150 : Nat) ({ cls := "WhoseThreadModel", name := "readTwo", desc := "(I)Z" } : Jvm.MethodName)) ∈ TT := TT_of 870 (by decide +kernel) rfl
theorem tw_872 : (Jvm.Cond.instanceMethod ({ cls := "WhoseThreadModel", name := "readTwo", desc := "(I)Z" } : Jvm.MethodName)) ∈ TT := TT_of 872 (by decide +kernel) rfl
theorem tw_873 : (Jvm.Cond.code ({ cls := "WhoseThreadModel", name := "readTwo", desc := "(I)Z" } : Jvm.MethodName) prog_9_method_16_code (4 : Nat) (Option.some Jvm.ClassFile.FieldType.boolean)) ∈ TT := TT_of 873 (by decide +kernel) rfl
theorem tw_874 : (Jvm.Cond.methodLink "WhoseThreadModel" (138 : Nat) ({ cls := "WhoseThreadModel", name := "isAbove", desc := "([III)Z" } : Jvm.MethodName)) ∈ TT := TT_of 874 (by decide +kernel) rfl
theorem tw_875 : (Jvm.Cond.static ({ cls := "WhoseThreadModel", name := "isAbove", desc := "([III)Z" } : Jvm.MethodName)) ∈ TT := TT_of 875 (by decide +kernel) rfl
theorem tw_876 : (Jvm.Cond.code ({ cls := "WhoseThreadModel", name := "isAbove", desc := "([III)Z" } : Jvm.MethodName) prog_9_method_14_code (6 : Nat) (Option.some Jvm.ClassFile.FieldType.boolean)) ∈ TT := TT_of 876 (by decide +kernel) rfl
theorem tw_877 : (Jvm.Cond.methodLink "WhoseThreadModel" (124 : Nat) ({ cls := "WhoseThreadModel", name := "has", desc := "(II)Z" } : Jvm.MethodName)) ∈ TT := TT_of 877 (by decide +kernel) rfl
theorem tw_878 : (Jvm.Cond.static ({ cls := "WhoseThreadModel", name := "has", desc := "(II)Z" } : Jvm.MethodName)) ∈ TT := TT_of 878 (by decide +kernel) rfl
theorem tw_879 : (Jvm.Cond.code ({ cls := "WhoseThreadModel", name := "has", desc := "(II)Z" } : Jvm.MethodName) prog_9_method_3_code (2 : Nat) (Option.some Jvm.ClassFile.FieldType.boolean)) ∈ TT := TT_of 879 (by decide +kernel) rfl
theorem tw_880 : (Jvm.Cond.methodLink "WhoseThreadLaw" (30 : Nat) ({ cls := "WhoseThreadModel", name := "loom", desc := "()I" } : Jvm.MethodName)) ∈ TT := TT_of 880 (by decide +kernel) rfl
theorem tw_881 : (Jvm.Cond.instanceMethod ({ cls := "WhoseThreadModel", name := "loom", desc := "()I" } : Jvm.MethodName)) ∈ TT := TT_of 881 (by decide +kernel) rfl
theorem tw_882 : (Jvm.Cond.selects "WhoseThreadModel" ({ cls := "WhoseThreadModel", name := "loom", desc := "()I" } : Jvm.MethodName) ({ cls := "WhoseThreadModel", name := "loom", desc := "()I" } : Jvm.MethodName)) ∈ TT := TT_of 882 (by decide +kernel) rfl
theorem tw_883 : (Jvm.Cond.code ({ cls := "WhoseThreadModel", name := "loom", desc := "()I" } : Jvm.MethodName) prog_9_method_20_code (2 : Nat) (Option.some Jvm.ClassFile.FieldType.int)) ∈ TT := TT_of 883 (by decide +kernel) rfl
theorem tw_884 : (Jvm.Cond.methodLink "WhoseThreadLaw" (35 : Nat) ({ cls := "WhoseThreadModel", name := "thread", desc := "(II)I" } : Jvm.MethodName)) ∈ TT := TT_of 884 (by decide +kernel) rfl
theorem tw_885 : (Jvm.Cond.instanceMethod ({ cls := "WhoseThreadModel", name := "thread", desc := "(II)I" } : Jvm.MethodName)) ∈ TT := TT_of 885 (by decide +kernel) rfl
theorem tw_886 : (Jvm.Cond.selects "WhoseThreadModel" ({ cls := "WhoseThreadModel", name := "thread", desc := "(II)I" } : Jvm.MethodName) ({ cls := "WhoseThreadModel", name := "thread", desc := "(II)I" } : Jvm.MethodName)) ∈ TT := TT_of 886 (by decide +kernel) rfl
theorem tw_887 : (Jvm.Cond.code ({ cls := "WhoseThreadModel", name := "thread", desc := "(II)I" } : Jvm.MethodName) prog_9_method_24_code (3 : Nat) (Option.some Jvm.ClassFile.FieldType.int)) ∈ TT := TT_of 887 (by decide +kernel) rfl
theorem tw_888 : (Jvm.Cond.methodLink "WhoseThreadModel" (172 : Nat) ({ cls := "WhoseThreadModel", name := "isThread", desc := "(I)Z" } : Jvm.MethodName)) ∈ TT := TT_of 888 (by decide +kernel) rfl
theorem tw_890 : (Jvm.Cond.instanceMethod ({ cls := "WhoseThreadModel", name := "isThread", desc := "(I)Z" } : Jvm.MethodName)) ∈ TT := TT_of 890 (by decide +kernel) rfl
theorem tw_891 : (Jvm.Cond.code ({ cls := "WhoseThreadModel", name := "isThread", desc := "(I)Z" } : Jvm.MethodName) prog_9_method_5_code (2 : Nat) (Option.some Jvm.ClassFile.FieldType.boolean)) ∈ TT := TT_of 891 (by decide +kernel) rfl
theorem tw_892 : (Jvm.Cond.methodLink "WhoseThreadLaw" (39 : Nat) ({ cls := "WhoseThreadModel", name := "as", desc := "(II)I" } : Jvm.MethodName)) ∈ TT := TT_of 892 (by decide +kernel) rfl
theorem tw_893 : (Jvm.Cond.instanceMethod ({ cls := "WhoseThreadModel", name := "as", desc := "(II)I" } : Jvm.MethodName)) ∈ TT := TT_of 893 (by decide +kernel) rfl
theorem tw_894 : (Jvm.Cond.selects "WhoseThreadModel" ({ cls := "WhoseThreadModel", name := "as", desc := "(II)I" } : Jvm.MethodName) ({ cls := "WhoseThreadModel", name := "as", desc := "(II)I" } : Jvm.MethodName)) ∈ TT := TT_of 894 (by decide +kernel) rfl
theorem tw_895 : (Jvm.Cond.code ({ cls := "WhoseThreadModel", name := "as", desc := "(II)I" } : Jvm.MethodName) prog_9_method_25_code (5 : Nat) (Option.some Jvm.ClassFile.FieldType.int)) ∈ TT := TT_of 895 (by decide +kernel) rfl
theorem tw_896 : (Jvm.Cond.constantLong "WhoseThreadModel" (175 : Nat) (4 : Int64)) ∈ TT := TT_of 896 (by decide +kernel) rfl
theorem tw_897 : (Jvm.Cond.methodLink "WhoseThreadModel" (177 : Nat) ({ cls := "WhoseThreadModel", name := "yearsOf", desc := "(I)I" } : Jvm.MethodName)) ∈ TT := TT_of 897 (by decide +kernel) rfl
theorem tw_899 : (Jvm.Cond.instanceMethod ({ cls := "WhoseThreadModel", name := "yearsOf", desc := "(I)I" } : Jvm.MethodName)) ∈ TT := TT_of 899 (by decide +kernel) rfl
theorem tw_900 : (Jvm.Cond.code ({ cls := "WhoseThreadModel", name := "yearsOf", desc := "(I)I" } : Jvm.MethodName) prog_9_method_23_code (3 : Nat) (Option.some Jvm.ClassFile.FieldType.int)) ∈ TT := TT_of 900 (by decide +kernel) rfl
theorem tw_901 : (Jvm.Cond.methodLink "WhoseThreadModel" (169 : Nat) ({ cls := "WhoseThreadModel", name := "isWhole", desc := "(I)Z" } : Jvm.MethodName)) ∈ TT := TT_of 901 (by decide +kernel) rfl
theorem tw_903 : (Jvm.Cond.instanceMethod ({ cls := "WhoseThreadModel", name := "isWhole", desc := "(I)Z" } : Jvm.MethodName)) ∈ TT := TT_of 903 (by decide +kernel) rfl
theorem tw_904 : (Jvm.Cond.code ({ cls := "WhoseThreadModel", name := "isWhole", desc := "(I)Z" } : Jvm.MethodName) prog_9_method_21_code (2 : Nat) (Option.some Jvm.ClassFile.FieldType.boolean)) ∈ TT := TT_of 904 (by decide +kernel) rfl
theorem tw_905 : (Jvm.Cond.methodLink "WhoseThreadLaw" (43 : Nat) ({ cls := "WhoseThreadModel", name := "order", desc := "(II)I" } : Jvm.MethodName)) ∈ TT := TT_of 905 (by decide +kernel) rfl
theorem tw_906 : (Jvm.Cond.instanceMethod ({ cls := "WhoseThreadModel", name := "order", desc := "(II)I" } : Jvm.MethodName)) ∈ TT := TT_of 906 (by decide +kernel) rfl
theorem tw_907 : (Jvm.Cond.selects "WhoseThreadModel" ({ cls := "WhoseThreadModel", name := "order", desc := "(II)I" } : Jvm.MethodName) ({ cls := "WhoseThreadModel", name := "order", desc := "(II)I" } : Jvm.MethodName)) ∈ TT := TT_of 907 (by decide +kernel) rfl
theorem tw_908 : (Jvm.Cond.code ({ cls := "WhoseThreadModel", name := "order", desc := "(II)I" } : Jvm.MethodName) prog_9_method_26_code (3 : Nat) (Option.some Jvm.ClassFile.FieldType.int)) ∈ TT := TT_of 908 (by decide +kernel) rfl
theorem tw_909 : (Jvm.Cond.methodLink "WhoseThreadLaw" (47 : Nat) ({ cls := "WhoseThreadModel", name := "top", desc := "(I)I" } : Jvm.MethodName)) ∈ TT := TT_of 909 (by decide +kernel) rfl
theorem tw_910 : (Jvm.Cond.instanceMethod ({ cls := "WhoseThreadModel", name := "top", desc := "(I)I" } : Jvm.MethodName)) ∈ TT := TT_of 910 (by decide +kernel) rfl
theorem tw_911 : (Jvm.Cond.selects "WhoseThreadModel" ({ cls := "WhoseThreadModel", name := "top", desc := "(I)I" } : Jvm.MethodName) ({ cls := "WhoseThreadModel", name := "top", desc := "(I)I" } : Jvm.MethodName)) ∈ TT := TT_of 911 (by decide +kernel) rfl
theorem tw_912 : (Jvm.Cond.code ({ cls := "WhoseThreadModel", name := "top", desc := "(I)I" } : Jvm.MethodName) prog_9_method_28_code (2 : Nat) (Option.some Jvm.ClassFile.FieldType.int)) ∈ TT := TT_of 912 (by decide +kernel) rfl
theorem tw_913 : (Jvm.Cond.methodLink "WhoseThreadModel" (183 : Nat) ({ cls := "WhoseThreadModel", name := "topOf", desc := "(I)I" } : Jvm.MethodName)) ∈ TT := TT_of 913 (by decide +kernel) rfl
theorem tw_915 : (Jvm.Cond.instanceMethod ({ cls := "WhoseThreadModel", name := "topOf", desc := "(I)I" } : Jvm.MethodName)) ∈ TT := TT_of 915 (by decide +kernel) rfl
theorem tw_916 : (Jvm.Cond.code ({ cls := "WhoseThreadModel", name := "topOf", desc := "(I)I" } : Jvm.MethodName) prog_9_method_27_code (4 : Nat) (Option.some Jvm.ClassFile.FieldType.int)) ∈ TT := TT_of 916 (by decide +kernel) rfl
theorem tw_917 : (Jvm.Cond.methodLink "WhoseThreadModel" (180 : Nat) ({ cls := "WhoseThreadModel", name := "wholes", desc := "()I" } : Jvm.MethodName)) ∈ TT := TT_of 917 (by decide +kernel) rfl
theorem tw_919 : (Jvm.Cond.instanceMethod ({ cls := "WhoseThreadModel", name := "wholes", desc := "()I" } : Jvm.MethodName)) ∈ TT := TT_of 919 (by decide +kernel) rfl
theorem tw_920 : (Jvm.Cond.code ({ cls := "WhoseThreadModel", name := "wholes", desc := "()I" } : Jvm.MethodName) prog_9_method_22_code (3 : Nat) (Option.some Jvm.ClassFile.FieldType.int)) ∈ TT := TT_of 920 (by decide +kernel) rfl
theorem tw_921 : (Jvm.Cond.methodLink "WhoseThreadLaw" (51 : Nat) ({ cls := "WhoseThreadModel", name := "cut", desc := "(I)I" } : Jvm.MethodName)) ∈ TT := TT_of 921 (by decide +kernel) rfl
theorem tw_922 : (Jvm.Cond.instanceMethod ({ cls := "WhoseThreadModel", name := "cut", desc := "(I)I" } : Jvm.MethodName)) ∈ TT := TT_of 922 (by decide +kernel) rfl
theorem tw_923 : (Jvm.Cond.selects "WhoseThreadModel" ({ cls := "WhoseThreadModel", name := "cut", desc := "(I)I" } : Jvm.MethodName) ({ cls := "WhoseThreadModel", name := "cut", desc := "(I)I" } : Jvm.MethodName)) ∈ TT := TT_of 923 (by decide +kernel) rfl
theorem tw_924 : (Jvm.Cond.code ({ cls := "WhoseThreadModel", name := "cut", desc := "(I)I" } : Jvm.MethodName) prog_9_method_33_code (2 : Nat) (Option.some Jvm.ClassFile.FieldType.int)) ∈ TT := TT_of 924 (by decide +kernel) rfl
theorem tw_925 : (Jvm.Cond.methodLink "WhoseThreadModel" (192 : Nat) ({ cls := "WhoseThreadModel", name := "note", desc := "()V" } : Jvm.MethodName)) ∈ TT := TT_of 925 (by decide +kernel) rfl
theorem tw_927 : (Jvm.Cond.instanceMethod ({ cls := "WhoseThreadModel", name := "note", desc := "()V" } : Jvm.MethodName)) ∈ TT := TT_of 927 (by decide +kernel) rfl
theorem tw_928 : (Jvm.Cond.code ({ cls := "WhoseThreadModel", name := "note", desc := "()V" } : Jvm.MethodName) prog_9_method_32_code (2 : Nat) (Option.none : Option Jvm.ClassFile.FieldType)) ∈ TT := TT_of 928 (by decide +kernel) rfl
theorem tw_929 : (Jvm.Cond.methodLink "WhoseThreadModel" (195 : Nat) ({ cls := "WhoseThreadModel", name := "cutNow", desc := "(I)I" } : Jvm.MethodName)) ∈ TT := TT_of 929 (by decide +kernel) rfl
theorem tw_931 : (Jvm.Cond.instanceMethod ({ cls := "WhoseThreadModel", name := "cutNow", desc := "(I)I" } : Jvm.MethodName)) ∈ TT := TT_of 931 (by decide +kernel) rfl
theorem tw_932 : (Jvm.Cond.code ({ cls := "WhoseThreadModel", name := "cutNow", desc := "(I)I" } : Jvm.MethodName) prog_9_method_31_code (4 : Nat) (Option.some Jvm.ClassFile.FieldType.int)) ∈ TT := TT_of 932 (by decide +kernel) rfl
theorem tw_933 : (Jvm.Cond.methodLink "WhoseThreadModel" (186 : Nat) ({ cls := "WhoseThreadModel", name := "fallsOn", desc := "(I)I" } : Jvm.MethodName)) ∈ TT := TT_of 933 (by decide +kernel) rfl
theorem tw_935 : (Jvm.Cond.instanceMethod ({ cls := "WhoseThreadModel", name := "fallsOn", desc := "(I)I" } : Jvm.MethodName)) ∈ TT := TT_of 935 (by decide +kernel) rfl
theorem tw_936 : (Jvm.Cond.code ({ cls := "WhoseThreadModel", name := "fallsOn", desc := "(I)I" } : Jvm.MethodName) prog_9_method_29_code (5 : Nat) (Option.some Jvm.ClassFile.FieldType.int)) ∈ TT := TT_of 936 (by decide +kernel) rfl
theorem tw_937 : (Jvm.Cond.methodLink "WhoseThreadModel" (189 : Nat) ({ cls := "WhoseThreadModel", name := "lossOf", desc := "(I)I" } : Jvm.MethodName)) ∈ TT := TT_of 937 (by decide +kernel) rfl
theorem tw_939 : (Jvm.Cond.instanceMethod ({ cls := "WhoseThreadModel", name := "lossOf", desc := "(I)I" } : Jvm.MethodName)) ∈ TT := TT_of 939 (by decide +kernel) rfl
theorem tw_940 : (Jvm.Cond.code ({ cls := "WhoseThreadModel", name := "lossOf", desc := "(I)I" } : Jvm.MethodName) prog_9_method_30_code (4 : Nat) (Option.some Jvm.ClassFile.FieldType.int)) ∈ TT := TT_of 940 (by decide +kernel) rfl
theorem tw_941 : (Jvm.Cond.methodLink "WhoseThreadModel" (198 : Nat) ({ cls := "WhoseThreadModel", name := "ones", desc := "(I)I" } : Jvm.MethodName)) ∈ TT := TT_of 941 (by decide +kernel) rfl
theorem tw_942 : (Jvm.Cond.static ({ cls := "WhoseThreadModel", name := "ones", desc := "(I)I" } : Jvm.MethodName)) ∈ TT := TT_of 942 (by decide +kernel) rfl
theorem tw_943 : (Jvm.Cond.code ({ cls := "WhoseThreadModel", name := "ones", desc := "(I)I" } : Jvm.MethodName) prog_9_method_4_code (3 : Nat) (Option.some Jvm.ClassFile.FieldType.int)) ∈ TT := TT_of 943 (by decide +kernel) rfl
theorem tw_944 : (Jvm.Cond.methodLink "WhoseThreadLaw" (55 : Nat) ({ cls := "WhoseThreadModel", name := "put", desc := "(II)I" } : Jvm.MethodName)) ∈ TT := TT_of 944 (by decide +kernel) rfl
theorem tw_945 : (Jvm.Cond.instanceMethod ({ cls := "WhoseThreadModel", name := "put", desc := "(II)I" } : Jvm.MethodName)) ∈ TT := TT_of 945 (by decide +kernel) rfl
theorem tw_946 : (Jvm.Cond.selects "WhoseThreadModel" ({ cls := "WhoseThreadModel", name := "put", desc := "(II)I" } : Jvm.MethodName) ({ cls := "WhoseThreadModel", name := "put", desc := "(II)I" } : Jvm.MethodName)) ∈ TT := TT_of 946 (by decide +kernel) rfl
theorem tw_947 : (Jvm.Cond.code ({ cls := "WhoseThreadModel", name := "put", desc := "(II)I" } : Jvm.MethodName) prog_9_method_35_code (4 : Nat) (Option.some Jvm.ClassFile.FieldType.int)) ∈ TT := TT_of 947 (by decide +kernel) rfl
theorem tw_948 : (Jvm.Cond.methodLink "WhoseThreadModel" (201 : Nat) ({ cls := "WhoseThreadModel", name := "areTwo", desc := "(II)Z" } : Jvm.MethodName)) ∈ TT := TT_of 948 (by decide +kernel) rfl
theorem tw_950 : (Jvm.Cond.instanceMethod ({ cls := "WhoseThreadModel", name := "areTwo", desc := "(II)Z" } : Jvm.MethodName)) ∈ TT := TT_of 950 (by decide +kernel) rfl
theorem tw_951 : (Jvm.Cond.code ({ cls := "WhoseThreadModel", name := "areTwo", desc := "(II)Z" } : Jvm.MethodName) prog_9_method_34_code (3 : Nat) (Option.some Jvm.ClassFile.FieldType.boolean)) ∈ TT := TT_of 951 (by decide +kernel) rfl
theorem tw_952 : (Jvm.Cond.methodLink "WhoseThreadLaw" (59 : Nat) ({ cls := "WhoseThreadModel", name := "lift", desc := "(I)I" } : Jvm.MethodName)) ∈ TT := TT_of 952 (by decide +kernel) rfl
theorem tw_953 : (Jvm.Cond.instanceMethod ({ cls := "WhoseThreadModel", name := "lift", desc := "(I)I" } : Jvm.MethodName)) ∈ TT := TT_of 953 (by decide +kernel) rfl
theorem tw_954 : (Jvm.Cond.selects "WhoseThreadModel" ({ cls := "WhoseThreadModel", name := "lift", desc := "(I)I" } : Jvm.MethodName) ({ cls := "WhoseThreadModel", name := "lift", desc := "(I)I" } : Jvm.MethodName)) ∈ TT := TT_of 954 (by decide +kernel) rfl
theorem tw_955 : (Jvm.Cond.code ({ cls := "WhoseThreadModel", name := "lift", desc := "(I)I" } : Jvm.MethodName) prog_9_method_37_code (4 : Nat) (Option.some Jvm.ClassFile.FieldType.int)) ∈ TT := TT_of 955 (by decide +kernel) rfl
theorem tw_956 : (Jvm.Cond.methodLink "WhoseThreadModel" (204 : Nat) ({ cls := "WhoseThreadModel", name := "liesOver", desc := "(I)I" } : Jvm.MethodName)) ∈ TT := TT_of 956 (by decide +kernel) rfl
theorem tw_958 : (Jvm.Cond.instanceMethod ({ cls := "WhoseThreadModel", name := "liesOver", desc := "(I)I" } : Jvm.MethodName)) ∈ TT := TT_of 958 (by decide +kernel) rfl
theorem tw_959 : (Jvm.Cond.code ({ cls := "WhoseThreadModel", name := "liesOver", desc := "(I)I" } : Jvm.MethodName) prog_9_method_36_code (4 : Nat) (Option.some Jvm.ClassFile.FieldType.int)) ∈ TT := TT_of 959 (by decide +kernel) rfl
theorem tw_960 : (Jvm.Cond.methodLink "WhoseThreadLaw" (64 : Nat) ({ cls := "WhoseThreadModel", name := "knot", desc := "(III)I" } : Jvm.MethodName)) ∈ TT := TT_of 960 (by decide +kernel) rfl
theorem tw_961 : (Jvm.Cond.instanceMethod ({ cls := "WhoseThreadModel", name := "knot", desc := "(III)I" } : Jvm.MethodName)) ∈ TT := TT_of 961 (by decide +kernel) rfl
theorem tw_962 : (Jvm.Cond.selects "WhoseThreadModel" ({ cls := "WhoseThreadModel", name := "knot", desc := "(III)I" } : Jvm.MethodName) ({ cls := "WhoseThreadModel", name := "knot", desc := "(III)I" } : Jvm.MethodName)) ∈ TT := TT_of 962 (by decide +kernel) rfl
theorem tw_963 : (Jvm.Cond.code ({ cls := "WhoseThreadModel", name := "knot", desc := "(III)I" } : Jvm.MethodName) prog_9_method_38_code (5 : Nat) (Option.some Jvm.ClassFile.FieldType.int)) ∈ TT := TT_of 963 (by decide +kernel) rfl
theorem tw_964 : (Jvm.Cond.methodLink "WhoseThreadLaw" (68 : Nat) ({ cls := "WhoseThreadModel", name := "dye", desc := "(II)I" } : Jvm.MethodName)) ∈ TT := TT_of 964 (by decide +kernel) rfl
theorem tw_965 : (Jvm.Cond.instanceMethod ({ cls := "WhoseThreadModel", name := "dye", desc := "(II)I" } : Jvm.MethodName)) ∈ TT := TT_of 965 (by decide +kernel) rfl
theorem tw_966 : (Jvm.Cond.selects "WhoseThreadModel" ({ cls := "WhoseThreadModel", name := "dye", desc := "(II)I" } : Jvm.MethodName) ({ cls := "WhoseThreadModel", name := "dye", desc := "(II)I" } : Jvm.MethodName)) ∈ TT := TT_of 966 (by decide +kernel) rfl
theorem tw_967 : (Jvm.Cond.code ({ cls := "WhoseThreadModel", name := "dye", desc := "(II)I" } : Jvm.MethodName) prog_9_method_39_code (4 : Nat) (Option.some Jvm.ClassFile.FieldType.int)) ∈ TT := TT_of 967 (by decide +kernel) rfl
theorem tw_968 : (Jvm.Cond.constantLong "WhoseThreadModel" (207 : Nat) (3 : Int64)) ∈ TT := TT_of 968 (by decide +kernel) rfl
theorem tw_969 : (Jvm.Cond.methodLink "WhoseThreadLaw" (72 : Nat) ({ cls := "WhoseThreadModel", name := "go", desc := "(I)I" } : Jvm.MethodName)) ∈ TT := TT_of 969 (by decide +kernel) rfl
theorem tw_970 : (Jvm.Cond.instanceMethod ({ cls := "WhoseThreadModel", name := "go", desc := "(I)I" } : Jvm.MethodName)) ∈ TT := TT_of 970 (by decide +kernel) rfl
theorem tw_971 : (Jvm.Cond.selects "WhoseThreadModel" ({ cls := "WhoseThreadModel", name := "go", desc := "(I)I" } : Jvm.MethodName) ({ cls := "WhoseThreadModel", name := "go", desc := "(I)I" } : Jvm.MethodName)) ∈ TT := TT_of 971 (by decide +kernel) rfl
theorem tw_972 : (Jvm.Cond.code ({ cls := "WhoseThreadModel", name := "go", desc := "(I)I" } : Jvm.MethodName) prog_9_method_42_code (4 : Nat) (Option.some Jvm.ClassFile.FieldType.int)) ∈ TT := TT_of 972 (by decide +kernel) rfl
theorem tw_973 : (Jvm.Cond.constantLong "WhoseThreadModel" (209 : Nat) (99 : Int64)) ∈ TT := TT_of 973 (by decide +kernel) rfl
theorem tw_974 : (Jvm.Cond.methodLink "WhoseThreadModel" (211 : Nat) ({ cls := "WhoseThreadModel", name := "asTold", desc := "()V" } : Jvm.MethodName)) ∈ TT := TT_of 974 (by decide +kernel) rfl
theorem tw_976 : (Jvm.Cond.instanceMethod ({ cls := "WhoseThreadModel", name := "asTold", desc := "()V" } : Jvm.MethodName)) ∈ TT := TT_of 976 (by decide +kernel) rfl
theorem tw_977 : (Jvm.Cond.code ({ cls := "WhoseThreadModel", name := "asTold", desc := "()V" } : Jvm.MethodName) prog_9_method_41_code (2 : Nat) (Option.none : Option Jvm.ClassFile.FieldType)) ∈ TT := TT_of 977 (by decide +kernel) rfl
theorem tw_978 : (Jvm.Cond.methodLink "WhoseThreadModel" (214 : Nat) ({ cls := "WhoseThreadModel", name := "oneDay", desc := "()I" } : Jvm.MethodName)) ∈ TT := TT_of 978 (by decide +kernel) rfl
theorem tw_980 : (Jvm.Cond.instanceMethod ({ cls := "WhoseThreadModel", name := "oneDay", desc := "()I" } : Jvm.MethodName)) ∈ TT := TT_of 980 (by decide +kernel) rfl
theorem tw_981 : (Jvm.Cond.code ({ cls := "WhoseThreadModel", name := "oneDay", desc := "()I" } : Jvm.MethodName) prog_9_method_40_code (4 : Nat) (Option.some Jvm.ClassFile.FieldType.int)) ∈ TT := TT_of 981 (by decide +kernel) rfl
theorem tw_982 : (Jvm.Cond.methodLink "WhoseThreadLaw" (76 : Nat) ({ cls := "WhoseThreadModel", name := "undo", desc := "()I" } : Jvm.MethodName)) ∈ TT := TT_of 982 (by decide +kernel) rfl
theorem tw_983 : (Jvm.Cond.instanceMethod ({ cls := "WhoseThreadModel", name := "undo", desc := "()I" } : Jvm.MethodName)) ∈ TT := TT_of 983 (by decide +kernel) rfl
theorem tw_984 : (Jvm.Cond.selects "WhoseThreadModel" ({ cls := "WhoseThreadModel", name := "undo", desc := "()I" } : Jvm.MethodName) ({ cls := "WhoseThreadModel", name := "undo", desc := "()I" } : Jvm.MethodName)) ∈ TT := TT_of 984 (by decide +kernel) rfl
theorem tw_985 : (Jvm.Cond.code ({ cls := "WhoseThreadModel", name := "undo", desc := "()I" } : Jvm.MethodName) prog_9_method_43_code (2 : Nat) (Option.some Jvm.ClassFile.FieldType.int)) ∈ TT := TT_of 985 (by decide +kernel) rfl
theorem tw_986 : (Jvm.Cond.methodLink "WhoseThreadLaw" (80 : Nat) ({ cls := "WhoseThreadModel", name := "keep", desc := "(I)I" } : Jvm.MethodName)) ∈ TT := TT_of 986 (by decide +kernel) rfl
theorem tw_987 : (Jvm.Cond.instanceMethod ({ cls := "WhoseThreadModel", name := "keep", desc := "(I)I" } : Jvm.MethodName)) ∈ TT := TT_of 987 (by decide +kernel) rfl
theorem tw_988 : (Jvm.Cond.selects "WhoseThreadModel" ({ cls := "WhoseThreadModel", name := "keep", desc := "(I)I" } : Jvm.MethodName) ({ cls := "WhoseThreadModel", name := "keep", desc := "(I)I" } : Jvm.MethodName)) ∈ TT := TT_of 988 (by decide +kernel) rfl
theorem tw_989 : (Jvm.Cond.code ({ cls := "WhoseThreadModel", name := "keep", desc := "(I)I" } : Jvm.MethodName) prog_9_method_44_code (3 : Nat) (Option.some Jvm.ClassFile.FieldType.int)) ∈ TT := TT_of 989 (by decide +kernel) rfl
theorem tw_990 : (Jvm.Cond.methodLink "WhoseThreadLaw" (84 : Nat) ({ cls := "WhoseThreadModel", name := "back", desc := "(I)I" } : Jvm.MethodName)) ∈ TT := TT_of 990 (by decide +kernel) rfl
theorem tw_991 : (Jvm.Cond.instanceMethod ({ cls := "WhoseThreadModel", name := "back", desc := "(I)I" } : Jvm.MethodName)) ∈ TT := TT_of 991 (by decide +kernel) rfl
theorem tw_992 : (Jvm.Cond.selects "WhoseThreadModel" ({ cls := "WhoseThreadModel", name := "back", desc := "(I)I" } : Jvm.MethodName) ({ cls := "WhoseThreadModel", name := "back", desc := "(I)I" } : Jvm.MethodName)) ∈ TT := TT_of 992 (by decide +kernel) rfl
theorem tw_993 : (Jvm.Cond.code ({ cls := "WhoseThreadModel", name := "back", desc := "(I)I" } : Jvm.MethodName) prog_9_method_45_code (3 : Nat) (Option.some Jvm.ClassFile.FieldType.int)) ∈ TT := TT_of 993 (by decide +kernel) rfl
theorem tw_994 : (Jvm.Cond.methodLink "WhoseThreadLaw" (88 : Nat) ({ cls := "WhoseThreadModel", name := "takes", desc := "(I)I" } : Jvm.MethodName)) ∈ TT := TT_of 994 (by decide +kernel) rfl
theorem tw_995 : (Jvm.Cond.instanceMethod ({ cls := "WhoseThreadModel", name := "takes", desc := "(I)I" } : Jvm.MethodName)) ∈ TT := TT_of 995 (by decide +kernel) rfl
theorem tw_996 : (Jvm.Cond.selects "WhoseThreadModel" ({ cls := "WhoseThreadModel", name := "takes", desc := "(I)I" } : Jvm.MethodName) ({ cls := "WhoseThreadModel", name := "takes", desc := "(I)I" } : Jvm.MethodName)) ∈ TT := TT_of 996 (by decide +kernel) rfl
theorem tw_997 : (Jvm.Cond.code ({ cls := "WhoseThreadModel", name := "takes", desc := "(I)I" } : Jvm.MethodName) prog_9_method_46_code (2 : Nat) (Option.some Jvm.ClassFile.FieldType.int)) ∈ TT := TT_of 997 (by decide +kernel) rfl
theorem tw_998 : (Jvm.Cond.methodLink "WhoseThreadLaw" (92 : Nat) ({ cls := "WhoseThreadModel", name := "loss", desc := "(I)I" } : Jvm.MethodName)) ∈ TT := TT_of 998 (by decide +kernel) rfl
theorem tw_999 : (Jvm.Cond.instanceMethod ({ cls := "WhoseThreadModel", name := "loss", desc := "(I)I" } : Jvm.MethodName)) ∈ TT := TT_of 999 (by decide +kernel) rfl
theorem tw_1000 : (Jvm.Cond.selects "WhoseThreadModel" ({ cls := "WhoseThreadModel", name := "loss", desc := "(I)I" } : Jvm.MethodName) ({ cls := "WhoseThreadModel", name := "loss", desc := "(I)I" } : Jvm.MethodName)) ∈ TT := TT_of 1000 (by decide +kernel) rfl
theorem tw_1001 : (Jvm.Cond.code ({ cls := "WhoseThreadModel", name := "loss", desc := "(I)I" } : Jvm.MethodName) prog_9_method_47_code (2 : Nat) (Option.some Jvm.ClassFile.FieldType.int)) ∈ TT := TT_of 1001 (by decide +kernel) rfl
theorem tw_1002 : (Jvm.Cond.methodLink "WhoseThreadLaw" (96 : Nat) ({ cls := "WhoseThreadModel", name := "lifts", desc := "(II)I" } : Jvm.MethodName)) ∈ TT := TT_of 1002 (by decide +kernel) rfl
theorem tw_1003 : (Jvm.Cond.instanceMethod ({ cls := "WhoseThreadModel", name := "lifts", desc := "(II)I" } : Jvm.MethodName)) ∈ TT := TT_of 1003 (by decide +kernel) rfl
theorem tw_1004 : (Jvm.Cond.selects "WhoseThreadModel" ({ cls := "WhoseThreadModel", name := "lifts", desc := "(II)I" } : Jvm.MethodName) ({ cls := "WhoseThreadModel", name := "lifts", desc := "(II)I" } : Jvm.MethodName)) ∈ TT := TT_of 1004 (by decide +kernel) rfl
theorem tw_1005 : (Jvm.Cond.code ({ cls := "WhoseThreadModel", name := "lifts", desc := "(II)I" } : Jvm.MethodName) prog_9_method_48_code (4 : Nat) (Option.some Jvm.ClassFile.FieldType.int)) ∈ TT := TT_of 1005 (by decide +kernel) rfl
theorem tw_1006 : (Jvm.Cond.methodLink "WhoseThreadLaw" (100 : Nat) ({ cls := "WhoseThreadModel", name := "doom", desc := "(I)I" } : Jvm.MethodName)) ∈ TT := TT_of 1006 (by decide +kernel) rfl
theorem tw_1007 : (Jvm.Cond.instanceMethod ({ cls := "WhoseThreadModel", name := "doom", desc := "(I)I" } : Jvm.MethodName)) ∈ TT := TT_of 1007 (by decide +kernel) rfl
theorem tw_1008 : (Jvm.Cond.selects "WhoseThreadModel" ({ cls := "WhoseThreadModel", name := "doom", desc := "(I)I" } : Jvm.MethodName) ({ cls := "WhoseThreadModel", name := "doom", desc := "(I)I" } : Jvm.MethodName)) ∈ TT := TT_of 1008 (by decide +kernel) rfl
theorem tw_1009 : (Jvm.Cond.code ({ cls := "WhoseThreadModel", name := "doom", desc := "(I)I" } : Jvm.MethodName) prog_9_method_50_code (3 : Nat) (Option.some Jvm.ClassFile.FieldType.int)) ∈ TT := TT_of 1009 (by decide +kernel) rfl
theorem tw_1010 : (Jvm.Cond.methodLink "WhoseThreadModel" (220 : Nat) ({ cls := "WhoseThreadModel", name := "doomBy", desc := "()I" } : Jvm.MethodName)) ∈ TT := TT_of 1010 (by decide +kernel) rfl
theorem tw_1012 : (Jvm.Cond.instanceMethod ({ cls := "WhoseThreadModel", name := "doomBy", desc := "()I" } : Jvm.MethodName)) ∈ TT := TT_of 1012 (by decide +kernel) rfl
theorem tw_1013 : (Jvm.Cond.code ({ cls := "WhoseThreadModel", name := "doomBy", desc := "()I" } : Jvm.MethodName) prog_9_method_49_code (3 : Nat) (Option.some Jvm.ClassFile.FieldType.int)) ∈ TT := TT_of 1013 (by decide +kernel) rfl
theorem tw_1014 : (Jvm.Cond.methodLink "WhoseThreadLaw" (104 : Nat) ({ cls := "WhoseThreadModel", name := "swapped", desc := "(I)I" } : Jvm.MethodName)) ∈ TT := TT_of 1014 (by decide +kernel) rfl
theorem tw_1015 : (Jvm.Cond.instanceMethod ({ cls := "WhoseThreadModel", name := "swapped", desc := "(I)I" } : Jvm.MethodName)) ∈ TT := TT_of 1015 (by decide +kernel) rfl
theorem tw_1016 : (Jvm.Cond.selects "WhoseThreadModel" ({ cls := "WhoseThreadModel", name := "swapped", desc := "(I)I" } : Jvm.MethodName) ({ cls := "WhoseThreadModel", name := "swapped", desc := "(I)I" } : Jvm.MethodName)) ∈ TT := TT_of 1016 (by decide +kernel) rfl
theorem tw_1017 : (Jvm.Cond.code ({ cls := "WhoseThreadModel", name := "swapped", desc := "(I)I" } : Jvm.MethodName) prog_9_method_53_code (8 : Nat) (Option.some Jvm.ClassFile.FieldType.int)) ∈ TT := TT_of 1017 (by decide +kernel) rfl
theorem tw_1018 : (Jvm.Cond.constantLong "WhoseThreadModel" (227 : Nat) (-1 : Int64)) ∈ TT := TT_of 1018 (by decide +kernel) rfl
theorem tw_1019 : (Jvm.Cond.methodLink "WhoseThreadModel" (223 : Nat) ({ cls := "WhoseThreadModel", name := "exchange", desc := "(II)V" } : Jvm.MethodName)) ∈ TT := TT_of 1019 (by decide +kernel) rfl
theorem tw_1021 : (Jvm.Cond.instanceMethod ({ cls := "WhoseThreadModel", name := "exchange", desc := "(II)V" } : Jvm.MethodName)) ∈ TT := TT_of 1021 (by decide +kernel) rfl
theorem tw_1022 : (Jvm.Cond.code ({ cls := "WhoseThreadModel", name := "exchange", desc := "(II)V" } : Jvm.MethodName) prog_9_method_52_code (4 : Nat) (Option.none : Option Jvm.ClassFile.FieldType)) ∈ TT := TT_of 1022 (by decide +kernel) rfl
theorem tw_1023 : (Jvm.Cond.methodLink "WhoseThreadModel" (229 : Nat) ({ cls := "WhoseThreadModel", name := "nextRow", desc := "(I)Z" } : Jvm.MethodName)) ∈ TT := TT_of 1023 (by decide +kernel) rfl
theorem tw_1025 : (Jvm.Cond.instanceMethod ({ cls := "WhoseThreadModel", name := "nextRow", desc := "(I)Z" } : Jvm.MethodName)) ∈ TT := TT_of 1025 (by decide +kernel) rfl
theorem tw_1026 : (Jvm.Cond.code ({ cls := "WhoseThreadModel", name := "nextRow", desc := "(I)Z" } : Jvm.MethodName) prog_9_method_51_code (6 : Nat) (Option.some Jvm.ClassFile.FieldType.boolean)) ∈ TT := TT_of 1026 (by decide +kernel) rfl
theorem tw_1027 : (Jvm.Cond.methodLink "WhoseThreadLaw" (108 : Nat) ({ cls := "WhoseThreadModel", name := "tails", desc := "(I)I" } : Jvm.MethodName)) ∈ TT := TT_of 1027 (by decide +kernel) rfl
theorem tw_1028 : (Jvm.Cond.instanceMethod ({ cls := "WhoseThreadModel", name := "tails", desc := "(I)I" } : Jvm.MethodName)) ∈ TT := TT_of 1028 (by decide +kernel) rfl
theorem tw_1029 : (Jvm.Cond.selects "WhoseThreadModel" ({ cls := "WhoseThreadModel", name := "tails", desc := "(I)I" } : Jvm.MethodName) ({ cls := "WhoseThreadModel", name := "tails", desc := "(I)I" } : Jvm.MethodName)) ∈ TT := TT_of 1029 (by decide +kernel) rfl
theorem tw_1030 : (Jvm.Cond.code ({ cls := "WhoseThreadModel", name := "tails", desc := "(I)I" } : Jvm.MethodName) prog_9_method_57_code (8 : Nat) (Option.some Jvm.ClassFile.FieldType.int)) ∈ TT := TT_of 1030 (by decide +kernel) rfl
theorem tw_1031 : (Jvm.Cond.methodLink "WhoseThreadModel" (238 : Nat) ({ cls := "WhoseThreadModel", name := "findMosts", desc := "()V" } : Jvm.MethodName)) ∈ TT := TT_of 1031 (by decide +kernel) rfl
theorem tw_1033 : (Jvm.Cond.instanceMethod ({ cls := "WhoseThreadModel", name := "findMosts", desc := "()V" } : Jvm.MethodName)) ∈ TT := TT_of 1033 (by decide +kernel) rfl
theorem tw_1034 : (Jvm.Cond.code ({ cls := "WhoseThreadModel", name := "findMosts", desc := "()V" } : Jvm.MethodName) prog_9_method_56_code (6 : Nat) (Option.none : Option Jvm.ClassFile.FieldType)) ∈ TT := TT_of 1034 (by decide +kernel) rfl
theorem tw_1035 : (Jvm.Cond.methodLink "WhoseThreadModel" (232 : Nat) ({ cls := "WhoseThreadModel", name := "tailOf", desc := "(I)I" } : Jvm.MethodName)) ∈ TT := TT_of 1035 (by decide +kernel) rfl
theorem tw_1037 : (Jvm.Cond.instanceMethod ({ cls := "WhoseThreadModel", name := "tailOf", desc := "(I)I" } : Jvm.MethodName)) ∈ TT := TT_of 1037 (by decide +kernel) rfl
theorem tw_1038 : (Jvm.Cond.code ({ cls := "WhoseThreadModel", name := "tailOf", desc := "(I)I" } : Jvm.MethodName) prog_9_method_54_code (2 : Nat) (Option.some Jvm.ClassFile.FieldType.int)) ∈ TT := TT_of 1038 (by decide +kernel) rfl
theorem tw_1039 : (Jvm.Cond.methodLink "WhoseThreadModel" (235 : Nat) ({ cls := "WhoseThreadModel", name := "mayHave", desc := "(II)Z" } : Jvm.MethodName)) ∈ TT := TT_of 1039 (by decide +kernel) rfl
theorem tw_1041 : (Jvm.Cond.instanceMethod ({ cls := "WhoseThreadModel", name := "mayHave", desc := "(II)Z" } : Jvm.MethodName)) ∈ TT := TT_of 1041 (by decide +kernel) rfl
theorem tw_1042 : (Jvm.Cond.code ({ cls := "WhoseThreadModel", name := "mayHave", desc := "(II)Z" } : Jvm.MethodName) prog_9_method_55_code (3 : Nat) (Option.some Jvm.ClassFile.FieldType.boolean)) ∈ TT := TT_of 1042 (by decide +kernel) rfl
theorem tw_1043 : (Jvm.Cond.methodLink "WhoseThreadLaw" (112 : Nat) ({ cls := "WhoseThreadModel", name := "given", desc := "(III)I" } : Jvm.MethodName)) ∈ TT := TT_of 1043 (by decide +kernel) rfl
theorem tw_1044 : (Jvm.Cond.instanceMethod ({ cls := "WhoseThreadModel", name := "given", desc := "(III)I" } : Jvm.MethodName)) ∈ TT := TT_of 1044 (by decide +kernel) rfl
theorem tw_1045 : (Jvm.Cond.selects "WhoseThreadModel" ({ cls := "WhoseThreadModel", name := "given", desc := "(III)I" } : Jvm.MethodName) ({ cls := "WhoseThreadModel", name := "given", desc := "(III)I" } : Jvm.MethodName)) ∈ TT := TT_of 1045 (by decide +kernel) rfl
theorem tw_1046 : (Jvm.Cond.code ({ cls := "WhoseThreadModel", name := "given", desc := "(III)I" } : Jvm.MethodName) prog_9_method_59_code (8 : Nat) (Option.some Jvm.ClassFile.FieldType.int)) ∈ TT := TT_of 1046 (by decide +kernel) rfl
theorem tw_1047 : (Jvm.Cond.methodLink "WhoseThreadModel" (241 : Nat) ({ cls := "WhoseThreadModel", name := "canGive", desc := "(II)I" } : Jvm.MethodName)) ∈ TT := TT_of 1047 (by decide +kernel) rfl
theorem tw_1049 : (Jvm.Cond.instanceMethod ({ cls := "WhoseThreadModel", name := "canGive", desc := "(II)I" } : Jvm.MethodName)) ∈ TT := TT_of 1049 (by decide +kernel) rfl
theorem tw_1050 : (Jvm.Cond.code ({ cls := "WhoseThreadModel", name := "canGive", desc := "(II)I" } : Jvm.MethodName) prog_9_method_58_code (4 : Nat) (Option.some Jvm.ClassFile.FieldType.int)) ∈ TT := TT_of 1050 (by decide +kernel) rfl
theorem tw_1051 : (Jvm.Cond.methodLink "WhoseThreadLaw" (116 : Nat) ({ cls := "WhoseThreadModel", name := "cat", desc := "(II)I" } : Jvm.MethodName)) ∈ TT := TT_of 1051 (by decide +kernel) rfl
theorem tw_1052 : (Jvm.Cond.instanceMethod ({ cls := "WhoseThreadModel", name := "cat", desc := "(II)I" } : Jvm.MethodName)) ∈ TT := TT_of 1052 (by decide +kernel) rfl
theorem tw_1053 : (Jvm.Cond.selects "WhoseThreadModel" ({ cls := "WhoseThreadModel", name := "cat", desc := "(II)I" } : Jvm.MethodName) ({ cls := "WhoseThreadModel", name := "cat", desc := "(II)I" } : Jvm.MethodName)) ∈ TT := TT_of 1053 (by decide +kernel) rfl
theorem tw_1054 : (Jvm.Cond.code ({ cls := "WhoseThreadModel", name := "cat", desc := "(II)I" } : Jvm.MethodName) prog_9_method_62_code (5 : Nat) (Option.some Jvm.ClassFile.FieldType.int)) ∈ TT := TT_of 1054 (by decide +kernel) rfl
theorem tw_1055 : (Jvm.Cond.methodLink "WhoseThreadModel" (247 : Nat) ({ cls := "WhoseThreadModel", name := "part", desc := "(III)I" } : Jvm.MethodName)) ∈ TT := TT_of 1055 (by decide +kernel) rfl
theorem tw_1056 : (Jvm.Cond.static ({ cls := "WhoseThreadModel", name := "part", desc := "(III)I" } : Jvm.MethodName)) ∈ TT := TT_of 1056 (by decide +kernel) rfl
theorem tw_1057 : (Jvm.Cond.code ({ cls := "WhoseThreadModel", name := "part", desc := "(III)I" } : Jvm.MethodName) prog_9_method_61_code (4 : Nat) (Option.some Jvm.ClassFile.FieldType.int)) ∈ TT := TT_of 1057 (by decide +kernel) rfl
theorem tw_1058 : (Jvm.Cond.methodLink "WhoseThreadModel" (244 : Nat) ({ cls := "WhoseThreadModel", name := "common", desc := "(II)I" } : Jvm.MethodName)) ∈ TT := TT_of 1058 (by decide +kernel) rfl
theorem tw_1059 : (Jvm.Cond.static ({ cls := "WhoseThreadModel", name := "common", desc := "(II)I" } : Jvm.MethodName)) ∈ TT := TT_of 1059 (by decide +kernel) rfl
theorem tw_1060 : (Jvm.Cond.code ({ cls := "WhoseThreadModel", name := "common", desc := "(II)I" } : Jvm.MethodName) prog_9_method_60_code (5 : Nat) (Option.some Jvm.ClassFile.FieldType.int)) ∈ TT := TT_of 1060 (by decide +kernel) rfl
theorem tw_1061 : (Jvm.Cond.methodLink "WhoseThreadLaw" (120 : Nat) ({ cls := "WhoseThreadModel", name := "mean", desc := "(I)I" } : Jvm.MethodName)) ∈ TT := TT_of 1061 (by decide +kernel) rfl
theorem tw_1062 : (Jvm.Cond.instanceMethod ({ cls := "WhoseThreadModel", name := "mean", desc := "(I)I" } : Jvm.MethodName)) ∈ TT := TT_of 1062 (by decide +kernel) rfl
theorem tw_1063 : (Jvm.Cond.selects "WhoseThreadModel" ({ cls := "WhoseThreadModel", name := "mean", desc := "(I)I" } : Jvm.MethodName) ({ cls := "WhoseThreadModel", name := "mean", desc := "(I)I" } : Jvm.MethodName)) ∈ TT := TT_of 1063 (by decide +kernel) rfl
theorem tw_1064 : (Jvm.Cond.code ({ cls := "WhoseThreadModel", name := "mean", desc := "(I)I" } : Jvm.MethodName) prog_9_method_63_code (4 : Nat) (Option.some Jvm.ClassFile.FieldType.int)) ∈ TT := TT_of 1064 (by decide +kernel) rfl
theorem tw_1065 : (Jvm.Cond.methodLink "WhoseThreadLaw" (124 : Nat) ({ cls := "WhoseThreadModel", name := "whose", desc := "(I)I" } : Jvm.MethodName)) ∈ TT := TT_of 1065 (by decide +kernel) rfl
theorem tw_1066 : (Jvm.Cond.instanceMethod ({ cls := "WhoseThreadModel", name := "whose", desc := "(I)I" } : Jvm.MethodName)) ∈ TT := TT_of 1066 (by decide +kernel) rfl
theorem tw_1067 : (Jvm.Cond.selects "WhoseThreadModel" ({ cls := "WhoseThreadModel", name := "whose", desc := "(I)I" } : Jvm.MethodName) ({ cls := "WhoseThreadModel", name := "whose", desc := "(I)I" } : Jvm.MethodName)) ∈ TT := TT_of 1067 (by decide +kernel) rfl
theorem tw_1068 : (Jvm.Cond.code ({ cls := "WhoseThreadModel", name := "whose", desc := "(I)I" } : Jvm.MethodName) prog_9_method_64_code (4 : Nat) (Option.some Jvm.ClassFile.FieldType.int)) ∈ TT := TT_of 1068 (by decide +kernel) rfl
theorem tw_1069 : (Jvm.Cond.methodLink "WhoseThreadLaw" (128 : Nat) ({ cls := "WhoseThreadModel", name := "fourth", desc := "(I)I" } : Jvm.MethodName)) ∈ TT := TT_of 1069 (by decide +kernel) rfl
theorem tw_1070 : (Jvm.Cond.instanceMethod ({ cls := "WhoseThreadModel", name := "fourth", desc := "(I)I" } : Jvm.MethodName)) ∈ TT := TT_of 1070 (by decide +kernel) rfl
theorem tw_1071 : (Jvm.Cond.selects "WhoseThreadModel" ({ cls := "WhoseThreadModel", name := "fourth", desc := "(I)I" } : Jvm.MethodName) ({ cls := "WhoseThreadModel", name := "fourth", desc := "(I)I" } : Jvm.MethodName)) ∈ TT := TT_of 1071 (by decide +kernel) rfl
theorem tw_1072 : (Jvm.Cond.code ({ cls := "WhoseThreadModel", name := "fourth", desc := "(I)I" } : Jvm.MethodName) prog_9_method_65_code (6 : Nat) (Option.some Jvm.ClassFile.FieldType.int)) ∈ TT := TT_of 1072 (by decide +kernel) rfl
theorem tw_1073 : (Jvm.Cond.methodLink "WhoseThreadLaw" (132 : Nat) ({ cls := "WhoseThreadModel", name := "count", desc := "(I)I" } : Jvm.MethodName)) ∈ TT := TT_of 1073 (by decide +kernel) rfl
theorem tw_1074 : (Jvm.Cond.instanceMethod ({ cls := "WhoseThreadModel", name := "count", desc := "(I)I" } : Jvm.MethodName)) ∈ TT := TT_of 1074 (by decide +kernel) rfl
theorem tw_1075 : (Jvm.Cond.selects "WhoseThreadModel" ({ cls := "WhoseThreadModel", name := "count", desc := "(I)I" } : Jvm.MethodName) ({ cls := "WhoseThreadModel", name := "count", desc := "(I)I" } : Jvm.MethodName)) ∈ TT := TT_of 1075 (by decide +kernel) rfl
theorem tw_1076 : (Jvm.Cond.code ({ cls := "WhoseThreadModel", name := "count", desc := "(I)I" } : Jvm.MethodName) prog_9_method_66_code (5 : Nat) (Option.some Jvm.ClassFile.FieldType.int)) ∈ TT := TT_of 1076 (by decide +kernel) rfl
theorem tw_1077 : (Jvm.Cond.fieldLink "java/lang/String" (9 : Nat) "java/lang/String" "value" "[B") ∈ TT := TT_of 1077 (by decide +kernel) rfl
theorem tw_1078 : (Jvm.Cond.fieldLink "java/lang/String" (15 : Nat) "java/lang/String" "coder" "B") ∈ TT := TT_of 1078 (by decide +kernel) rfl
