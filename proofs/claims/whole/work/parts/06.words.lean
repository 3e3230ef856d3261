theorem zw_0 : (Jvm.Cond.initialized "PierYearsLaw") ∈ zTB := zm _ 53 (by decide +kernel) rfl
theorem zw_1 : (Jvm.Cond.initialized "PierYears") ∈ zTB := zm _ 54 (by decide +kernel) rfl
theorem zw_2 : (Jvm.Cond.initialized "PierYears$Rows") ∈ zTB := zm _ 55 (by decide +kernel) rfl
theorem zw_3 : (Jvm.Cond.initialized "PierYears$Tape") ∈ zTB := zm _ 56 (by decide +kernel) rfl
theorem zw_4 : (Jvm.Cond.initialized "PierYears$Coast") ∈ zTB := zm _ 57 (by decide +kernel) rfl
theorem zw_5 : (Jvm.Cond.initialized "PierYears$Past") ∈ zTB := zm _ 58 (by decide +kernel) rfl
theorem zw_6 : (Jvm.Cond.initialized "PierYears$Asking") ∈ zTB := zm _ 59 (by decide +kernel) rfl
theorem zw_7 : (Jvm.Cond.initialized "PierYears$Pier") ∈ zTB := zm _ 60 (by decide +kernel) rfl
theorem zw_8 : (Jvm.Cond.initialized "PierYears$Irons") ∈ zTB := zm _ 61 (by decide +kernel) rfl
theorem zw_9 : (Jvm.Cond.initialized "PierYears$Cast") ∈ zTB := zm _ 62 (by decide +kernel) rfl
theorem zw_10 : (Jvm.Cond.initialized "PierYears$Rusty") ∈ zTB := zm _ 63 (by decide +kernel) rfl
theorem zw_11 : (Jvm.Cond.initialized "PierYears$Wooden") ∈ zTB := zm _ 64 (by decide +kernel) rfl
theorem zw_12 : (Jvm.Cond.initialized "PierYears$Piled") ∈ zTB := zm _ 65 (by decide +kernel) rfl
theorem zw_13 : (Jvm.Cond.initialized "PierYearsModel") ∈ zTB := zm _ 66 (by decide +kernel) rfl
theorem zw_14 : (Jvm.Cond.initialized "java/lang/System") ∈ zTB := zm _ 67 (by decide +kernel) rfl
theorem zw_15 : (Jvm.Cond.initialized "java/lang/Math") ∈ zTB := zm _ 68 (by decide +kernel) rfl
theorem zw_16 : (Jvm.Cond.classLink "PierYearsLaw" (7 : Nat) "PierYears") ∈ zTB := zm _ 69 (by decide +kernel) rfl
theorem zw_17 : (Jvm.Cond.instantiable "PierYears" (18 : Nat)) ∈ zTB := zm _ 70 (by decide +kernel) rfl
theorem zw_18 : (Jvm.Cond.methodLink "PierYearsLaw" (9 : Nat) ({ cls := "PierYears", name := "<init>", desc := "()V" } : Jvm.MethodName)) ∈ zTB := zm _ 71 (by decide +kernel) rfl
theorem zw_19 : (Jvm.Cond.instanceMethod ({ cls := "PierYears", name := "<init>", desc := "()V" } : Jvm.MethodName)) ∈ zTB := zm _ 72 (by decide +kernel) rfl
theorem zw_20 : (Jvm.Cond.code ({ cls := "PierYears", name := "<init>", desc := "()V" } : Jvm.MethodName) prog_1_method_1_code (1 : Nat) (Option.none : Option Jvm.ClassFile.FieldType)) ∈ zTB := zm _ 73 (by decide +kernel) rfl
theorem zw_21 : (Jvm.Cond.methodLink "PierYears" (3 : Nat) ({ cls := "java/lang/Object", name := "<init>", desc := "()V" } : Jvm.MethodName)) ∈ zTB := zm _ 74 (by decide +kernel) rfl
theorem zw_22 : (Jvm.Cond.instanceMethod ({ cls := "java/lang/Object", name := "<init>", desc := "()V" } : Jvm.MethodName)) ∈ zTB := zm _ 75 (by decide +kernel) rfl
theorem zw_23 : (Jvm.Cond.code ({ cls := "java/lang/Object", name := "<init>", desc := "()V" } : Jvm.MethodName) object_method_1_code (1 : Nat) (Option.none : Option Jvm.ClassFile.FieldType)) ∈ zTB := zm _ 76 (by decide +kernel) rfl
theorem zw_24 : (Jvm.Cond.classLink "PierYears" (9 : Nat) "PierYears$Rows") ∈ zTB := zm _ 77 (by decide +kernel) rfl
theorem zw_25 : (Jvm.Cond.instantiable "PierYears$Rows" (3 : Nat)) ∈ zTB := zm _ 78 (by decide +kernel) rfl
theorem zw_27 : (Jvm.Cond.instanceMethod ({ cls := "PierYears$Rows", name := "<init>", desc := "()V" } : Jvm.MethodName)) ∈ zTB := zm _ 80 (by decide +kernel) rfl
theorem zw_28 : (Jvm.Cond.code ({ cls := "PierYears$Rows", name := "<init>", desc := "()V" } : Jvm.MethodName) prog_9_method_1_code (1 : Nat) (Option.none : Option Jvm.ClassFile.FieldType)) ∈ zTB := zm _ 81 (by decide +kernel) rfl
theorem zw_29 : (Jvm.Cond.methodLink "PierYears$Rows" (1 : Nat) ({ cls := "java/lang/Object", name := "<init>", desc := "()V" } : Jvm.MethodName)) ∈ zTB := zm _ 82 (by decide +kernel) rfl
theorem zw_30 : (Jvm.Cond.fieldLink "PierYears$Rows" (9 : Nat) "PierYears$Rows" "lanes" "[I") ∈ zTB := zm _ 83 (by decide +kernel) rfl
theorem zw_31 : (Jvm.Cond.fieldLink "PierYears$Rows" (13 : Nat) "PierYears$Rows" "sizes" "[I") ∈ zTB := zm _ 84 (by decide +kernel) rfl
theorem zw_32 : (Jvm.Cond.fieldLink "PierYears$Rows" (16 : Nat) "PierYears$Rows" "items" "[I") ∈ zTB := zm _ 85 (by decide +kernel) rfl
theorem zw_33 : (Jvm.Cond.laysFinal "PierYears$Rows" "PierYears$Rows" "lanes" "[I") ∈ zTB := zm _ 86 (by decide +kernel) rfl
theorem zw_35 : (Jvm.Cond.laysFinal "PierYears$Rows" "PierYears$Rows" "sizes" "[I") ∈ zTB := zm _ 88 (by decide +kernel) rfl
theorem zw_37 : (Jvm.Cond.laysFinal "PierYears$Rows" "PierYears$Rows" "items" "[I") ∈ zTB := zm _ 90 (by decide +kernel) rfl
theorem zw_39 : (Jvm.Cond.superclass "PierYears$Rows" "java/lang/Object") ∈ zTB := zm _ 92 (by decide +kernel) rfl
theorem zw_40 : (Jvm.Cond.arrayClass Jvm.ClassFile.FieldType.int) ∈ zTB := zm _ 93 (by decide +kernel) rfl
theorem zw_41 : (Jvm.Cond.classLink "PierYears" (16 : Nat) "PierYears$Tape") ∈ zTB := zm _ 94 (by decide +kernel) rfl
theorem zw_42 : (Jvm.Cond.instantiable "PierYears$Tape" (5 : Nat)) ∈ zTB := zm _ 95 (by decide +kernel) rfl
theorem zw_44 : (Jvm.Cond.instanceMethod ({ cls := "PierYears$Tape", name := "<init>", desc := "()V" } : Jvm.MethodName)) ∈ zTB := zm _ 97 (by decide +kernel) rfl
theorem zw_45 : (Jvm.Cond.code ({ cls := "PierYears$Tape", name := "<init>", desc := "()V" } : Jvm.MethodName) prog_11_method_1_code (1 : Nat) (Option.none : Option Jvm.ClassFile.FieldType)) ∈ zTB := zm _ 98 (by decide +kernel) rfl
theorem zw_46 : (Jvm.Cond.methodLink "PierYears$Tape" (1 : Nat) ({ cls := "java/lang/Object", name := "<init>", desc := "()V" } : Jvm.MethodName)) ∈ zTB := zm _ 99 (by decide +kernel) rfl
theorem zw_47 : (Jvm.Cond.fieldLink "PierYears$Tape" (9 : Nat) "PierYears$Tape" "bytes" "[I") ∈ zTB := zm _ 100 (by decide +kernel) rfl
theorem zw_48 : (Jvm.Cond.fieldLink "PierYears$Tape" (13 : Nat) "PierYears$Tape" "numbers" "[I") ∈ zTB := zm _ 101 (by decide +kernel) rfl
theorem zw_49 : (Jvm.Cond.fieldLink "PierYears$Tape" (16 : Nat) "PierYears$Tape" "length" "I") ∈ zTB := zm _ 102 (by decide +kernel) rfl
theorem zw_50 : (Jvm.Cond.fieldLink "PierYears$Tape" (20 : Nat) "PierYears$Tape" "at" "I") ∈ zTB := zm _ 103 (by decide +kernel) rfl
theorem zw_51 : (Jvm.Cond.fieldLink "PierYears$Tape" (23 : Nat) "PierYears$Tape" "fault" "I") ∈ zTB := zm _ 104 (by decide +kernel) rfl
theorem zw_52 : (Jvm.Cond.laysFinal "PierYears$Tape" "PierYears$Tape" "bytes" "[I") ∈ zTB := zm _ 105 (by decide +kernel) rfl
theorem zw_54 : (Jvm.Cond.laysFinal "PierYears$Tape" "PierYears$Tape" "numbers" "[I") ∈ zTB := zm _ 107 (by decide +kernel) rfl
theorem zw_56 : (Jvm.Cond.lays "PierYears$Tape" "PierYears$Tape" "length" "I") ∈ zTB := zm _ 109 (by decide +kernel) rfl
theorem zw_58 : (Jvm.Cond.lays "PierYears$Tape" "PierYears$Tape" "at" "I") ∈ zTB := zm _ 111 (by decide +kernel) rfl
theorem zw_60 : (Jvm.Cond.lays "PierYears$Tape" "PierYears$Tape" "fault" "I") ∈ zTB := zm _ 113 (by decide +kernel) rfl
theorem zw_62 : (Jvm.Cond.superclass "PierYears$Tape" "java/lang/Object") ∈ zTB := zm _ 115 (by decide +kernel) rfl
theorem zw_63 : (Jvm.Cond.classLink "PierYears" (23 : Nat) "PierYears$Coast") ∈ zTB := zm _ 116 (by decide +kernel) rfl
theorem zw_64 : (Jvm.Cond.instantiable "PierYears$Coast" (13 : Nat)) ∈ zTB := zm _ 117 (by decide +kernel) rfl
theorem zw_66 : (Jvm.Cond.instanceMethod ({ cls := "PierYears$Coast", name := "<init>", desc := "()V" } : Jvm.MethodName)) ∈ zTB := zm _ 119 (by decide +kernel) rfl
theorem zw_67 : (Jvm.Cond.code ({ cls := "PierYears$Coast", name := "<init>", desc := "()V" } : Jvm.MethodName) prog_4_method_1_code (1 : Nat) (Option.none : Option Jvm.ClassFile.FieldType)) ∈ zTB := zm _ 120 (by decide +kernel) rfl
theorem zw_68 : (Jvm.Cond.methodLink "PierYears$Coast" (1 : Nat) ({ cls := "java/lang/Object", name := "<init>", desc := "()V" } : Jvm.MethodName)) ∈ zTB := zm _ 121 (by decide +kernel) rfl
theorem zw_69 : (Jvm.Cond.fieldLink "PierYears$Coast" (9 : Nat) "PierYears$Coast" "kinds" "[I") ∈ zTB := zm _ 122 (by decide +kernel) rfl
theorem zw_70 : (Jvm.Cond.fieldLink "PierYears" (315 : Nat) "PierYears$Coast" "kinds" "[I") ∈ zTB := zm _ 123 (by decide +kernel) rfl
theorem zw_71 : (Jvm.Cond.fieldLink "PierYears$Coast" (13 : Nat) "PierYears$Coast" "froms" "[I") ∈ zTB := zm _ 124 (by decide +kernel) rfl
theorem zw_72 : (Jvm.Cond.fieldLink "PierYears" (218 : Nat) "PierYears$Coast" "froms" "[I") ∈ zTB := zm _ 125 (by decide +kernel) rfl
theorem zw_73 : (Jvm.Cond.fieldLink "PierYears$Coast" (16 : Nat) "PierYears$Coast" "leans" "[I") ∈ zTB := zm _ 126 (by decide +kernel) rfl
theorem zw_74 : (Jvm.Cond.fieldLink "PierYears$Past" (37 : Nat) "PierYears$Coast" "leans" "[I") ∈ zTB := zm _ 127 (by decide +kernel) rfl
theorem zw_75 : (Jvm.Cond.fieldLink "PierYears" (209 : Nat) "PierYears$Coast" "leans" "[I") ∈ zTB := zm _ 128 (by decide +kernel) rfl
theorem zw_76 : (Jvm.Cond.fieldLink "PierYears$Coast" (19 : Nat) "PierYears$Coast" "spans" "[I") ∈ zTB := zm _ 129 (by decide +kernel) rfl
theorem zw_77 : (Jvm.Cond.fieldLink "PierYears$Past" (34 : Nat) "PierYears$Coast" "spans" "[I") ∈ zTB := zm _ 130 (by decide +kernel) rfl
theorem zw_78 : (Jvm.Cond.fieldLink "PierYears" (203 : Nat) "PierYears$Coast" "spans" "[I") ∈ zTB := zm _ 131 (by decide +kernel) rfl
theorem zw_79 : (Jvm.Cond.fieldLink "PierYears$Coast" (22 : Nat) "PierYears$Coast" "stands" "Z") ∈ zTB := zm _ 132 (by decide +kernel) rfl
theorem zw_80 : (Jvm.Cond.fieldLink "PierYears" (176 : Nat) "PierYears$Coast" "stands" "Z") ∈ zTB := zm _ 133 (by decide +kernel) rfl
theorem zw_81 : (Jvm.Cond.fieldLink "PierYears$Coast" (26 : Nat) "PierYears$Coast" "piers" "I") ∈ zTB := zm _ 134 (by decide +kernel) rfl
theorem zw_82 : (Jvm.Cond.fieldLink "PierYears$Past" (31 : Nat) "PierYears$Coast" "piers" "I") ∈ zTB := zm _ 135 (by decide +kernel) rfl
theorem zw_83 : (Jvm.Cond.fieldLink "PierYears" (173 : Nat) "PierYears$Coast" "piers" "I") ∈ zTB := zm _ 136 (by decide +kernel) rfl
theorem zw_84 : (Jvm.Cond.fieldLink "PierYears$Coast" (30 : Nat) "PierYears$Coast" "season" "I") ∈ zTB := zm _ 137 (by decide +kernel) rfl
theorem zw_85 : (Jvm.Cond.fieldLink "PierYears$Past" (22 : Nat) "PierYears$Coast" "season" "I") ∈ zTB := zm _ 138 (by decide +kernel) rfl
theorem zw_86 : (Jvm.Cond.fieldLink "PierYears" (181 : Nat) "PierYears$Coast" "season" "I") ∈ zTB := zm _ 139 (by decide +kernel) rfl
theorem zw_87 : (Jvm.Cond.fieldLink "PierYears$Coast" (33 : Nat) "PierYears$Coast" "purse" "I") ∈ zTB := zm _ 140 (by decide +kernel) rfl
theorem zw_88 : (Jvm.Cond.fieldLink "PierYears$Past" (25 : Nat) "PierYears$Coast" "purse" "I") ∈ zTB := zm _ 141 (by decide +kernel) rfl
theorem zw_89 : (Jvm.Cond.fieldLink "PierYears" (194 : Nat) "PierYears$Coast" "purse" "I") ∈ zTB := zm _ 142 (by decide +kernel) rfl
theorem zw_90 : (Jvm.Cond.fieldLink "PierYears$Coast" (36 : Nat) "PierYears$Coast" "iron" "I") ∈ zTB := zm _ 143 (by decide +kernel) rfl
theorem zw_91 : (Jvm.Cond.fieldLink "PierYears$Past" (28 : Nat) "PierYears$Coast" "iron" "I") ∈ zTB := zm _ 144 (by decide +kernel) rfl
theorem zw_92 : (Jvm.Cond.fieldLink "PierYears" (200 : Nat) "PierYears$Coast" "iron" "I") ∈ zTB := zm _ 145 (by decide +kernel) rfl
theorem zw_93 : (Jvm.Cond.fieldLink "PierYears$Coast" (39 : Nat) "PierYears$Coast" "along" "I") ∈ zTB := zm _ 146 (by decide +kernel) rfl
theorem zw_94 : (Jvm.Cond.fieldLink "PierYears$Coast" (42 : Nat) "PierYears$Coast" "out" "I") ∈ zTB := zm _ 147 (by decide +kernel) rfl
theorem zw_95 : (Jvm.Cond.fieldLink "PierYears$Coast" (45 : Nat) "PierYears$Coast" "round" "I") ∈ zTB := zm _ 148 (by decide +kernel) rfl
theorem zw_96 : (Jvm.Cond.fieldLink "PierYears$Coast" (48 : Nat) "PierYears$Coast" "gale" "I") ∈ zTB := zm _ 149 (by decide +kernel) rfl
theorem zw_97 : (Jvm.Cond.laysFinal "PierYears$Coast" "PierYears$Coast" "kinds" "[I") ∈ zTB := zm _ 150 (by decide +kernel) rfl
theorem zw_99 : (Jvm.Cond.laysFinal "PierYears$Coast" "PierYears$Coast" "froms" "[I") ∈ zTB := zm _ 152 (by decide +kernel) rfl
theorem zw_101 : (Jvm.Cond.laysFinal "PierYears$Coast" "PierYears$Coast" "leans" "[I") ∈ zTB := zm _ 154 (by decide +kernel) rfl
theorem zw_103 : (Jvm.Cond.laysFinal "PierYears$Coast" "PierYears$Coast" "spans" "[I") ∈ zTB := zm _ 156 (by decide +kernel) rfl
theorem zw_105 : (Jvm.Cond.lays "PierYears$Coast" "PierYears$Coast" "stands" "Z") ∈ zTB := zm _ 158 (by decide +kernel) rfl
theorem zw_107 : (Jvm.Cond.lays "PierYears$Coast" "PierYears$Coast" "piers" "I") ∈ zTB := zm _ 160 (by decide +kernel) rfl
theorem zw_109 : (Jvm.Cond.lays "PierYears$Coast" "PierYears$Coast" "season" "I") ∈ zTB := zm _ 162 (by decide +kernel) rfl
theorem zw_111 : (Jvm.Cond.lays "PierYears$Coast" "PierYears$Coast" "purse" "I") ∈ zTB := zm _ 164 (by decide +kernel) rfl
theorem zw_113 : (Jvm.Cond.lays "PierYears$Coast" "PierYears$Coast" "iron" "I") ∈ zTB := zm _ 166 (by decide +kernel) rfl
theorem zw_115 : (Jvm.Cond.lays "PierYears$Coast" "PierYears$Coast" "along" "I") ∈ zTB := zm _ 168 (by decide +kernel) rfl
theorem zw_117 : (Jvm.Cond.lays "PierYears$Coast" "PierYears$Coast" "out" "I") ∈ zTB := zm _ 170 (by decide +kernel) rfl
theorem zw_119 : (Jvm.Cond.lays "PierYears$Coast" "PierYears$Coast" "round" "I") ∈ zTB := zm _ 172 (by decide +kernel) rfl
theorem zw_121 : (Jvm.Cond.lays "PierYears$Coast" "PierYears$Coast" "gale" "I") ∈ zTB := zm _ 174 (by decide +kernel) rfl
theorem zw_123 : (Jvm.Cond.superclass "PierYears$Coast" "java/lang/Object") ∈ zTB := zm _ 176 (by decide +kernel) rfl
theorem zw_124 : (Jvm.Cond.classLink "PierYears" (39 : Nat) "PierYears$Past") ∈ zTB := zm _ 177 (by decide +kernel) rfl
theorem zw_125 : (Jvm.Cond.instantiable "PierYears$Past" (3 : Nat)) ∈ zTB := zm _ 178 (by decide +kernel) rfl
theorem zw_127 : (Jvm.Cond.instanceMethod ({ cls := "PierYears$Past", name := "<init>", desc := "()V" } : Jvm.MethodName)) ∈ zTB := zm _ 180 (by decide +kernel) rfl
theorem zw_128 : (Jvm.Cond.code ({ cls := "PierYears$Past", name := "<init>", desc := "()V" } : Jvm.MethodName) prog_6_method_1_code (1 : Nat) (Option.none : Option Jvm.ClassFile.FieldType)) ∈ zTB := zm _ 181 (by decide +kernel) rfl
theorem zw_129 : (Jvm.Cond.methodLink "PierYears$Past" (5 : Nat) ({ cls := "java/lang/Object", name := "<init>", desc := "()V" } : Jvm.MethodName)) ∈ zTB := zm _ 182 (by decide +kernel) rfl
theorem zw_130 : (Jvm.Cond.fieldLink "PierYears$Past" (11 : Nat) "PierYears$Past" "kept" "[I") ∈ zTB := zm _ 183 (by decide +kernel) rfl
theorem zw_131 : (Jvm.Cond.fieldLink "PierYears$Past" (15 : Nat) "PierYears$Past" "next" "I") ∈ zTB := zm _ 184 (by decide +kernel) rfl
theorem zw_132 : (Jvm.Cond.fieldLink "PierYears$Past" (19 : Nat) "PierYears$Past" "size" "I") ∈ zTB := zm _ 185 (by decide +kernel) rfl
theorem zw_133 : (Jvm.Cond.laysFinal "PierYears$Past" "PierYears$Past" "kept" "[I") ∈ zTB := zm _ 186 (by decide +kernel) rfl
theorem zw_135 : (Jvm.Cond.lays "PierYears$Past" "PierYears$Past" "next" "I") ∈ zTB := zm _ 188 (by decide +kernel) rfl
theorem zw_137 : (Jvm.Cond.lays "PierYears$Past" "PierYears$Past" "size" "I") ∈ zTB := zm _ 190 (by decide +kernel) rfl
theorem zw_139 : (Jvm.Cond.superclass "PierYears$Past" "java/lang/Object") ∈ zTB := zm _ 192 (by decide +kernel) rfl
theorem zw_140 : (Jvm.Cond.classLink "PierYears" (46 : Nat) "PierYears$Asking") ∈ zTB := zm _ 193 (by decide +kernel) rfl
theorem zw_141 : (Jvm.Cond.instantiable "PierYears$Asking" (5 : Nat)) ∈ zTB := zm _ 194 (by decide +kernel) rfl
theorem zw_143 : (Jvm.Cond.instanceMethod ({ cls := "PierYears$Asking", name := "<init>", desc := "()V" } : Jvm.MethodName)) ∈ zTB := zm _ 196 (by decide +kernel) rfl
theorem zw_144 : (Jvm.Cond.code ({ cls := "PierYears$Asking", name := "<init>", desc := "()V" } : Jvm.MethodName) prog_2_method_1_code (1 : Nat) (Option.none : Option Jvm.ClassFile.FieldType)) ∈ zTB := zm _ 197 (by decide +kernel) rfl
theorem zw_145 : (Jvm.Cond.methodLink "PierYears$Asking" (3 : Nat) ({ cls := "java/lang/Object", name := "<init>", desc := "()V" } : Jvm.MethodName)) ∈ zTB := zm _ 198 (by decide +kernel) rfl
theorem zw_146 : (Jvm.Cond.fieldLink "PierYears$Asking" (11 : Nat) "PierYears$Asking" "numbers" "[I") ∈ zTB := zm _ 199 (by decide +kernel) rfl
theorem zw_147 : (Jvm.Cond.fieldLink "PierYears$Asking" (15 : Nat) "PierYears$Asking" "length" "I") ∈ zTB := zm _ 200 (by decide +kernel) rfl
theorem zw_148 : (Jvm.Cond.fieldLink "PierYears$Asking" (19 : Nat) "PierYears$Asking" "number" "I") ∈ zTB := zm _ 201 (by decide +kernel) rfl
theorem zw_149 : (Jvm.Cond.fieldLink "PierYears$Pier" (17 : Nat) "PierYears$Asking" "number" "I") ∈ zTB := zm _ 202 (by decide +kernel) rfl
theorem zw_150 : (Jvm.Cond.fieldLink "PierYears$Asking" (22 : Nat) "PierYears$Asking" "from" "I") ∈ zTB := zm _ 203 (by decide +kernel) rfl
theorem zw_151 : (Jvm.Cond.fieldLink "PierYears$Pier" (13 : Nat) "PierYears$Asking" "from" "I") ∈ zTB := zm _ 204 (by decide +kernel) rfl
theorem zw_152 : (Jvm.Cond.fieldLink "PierYears$Asking" (25 : Nat) "PierYears$Asking" "spans" "I") ∈ zTB := zm _ 205 (by decide +kernel) rfl
theorem zw_153 : (Jvm.Cond.fieldLink "PierYears$Irons" (23 : Nat) "PierYears$Asking" "spans" "I") ∈ zTB := zm _ 206 (by decide +kernel) rfl
theorem zw_154 : (Jvm.Cond.laysFinal "PierYears$Asking" "PierYears$Asking" "numbers" "[I") ∈ zTB := zm _ 207 (by decide +kernel) rfl
theorem zw_156 : (Jvm.Cond.lays "PierYears$Asking" "PierYears$Asking" "length" "I") ∈ zTB := zm _ 209 (by decide +kernel) rfl
theorem zw_158 : (Jvm.Cond.lays "PierYears$Asking" "PierYears$Asking" "number" "I") ∈ zTB := zm _ 211 (by decide +kernel) rfl
theorem zw_160 : (Jvm.Cond.lays "PierYears$Asking" "PierYears$Asking" "from" "I") ∈ zTB := zm _ 213 (by decide +kernel) rfl
theorem zw_162 : (Jvm.Cond.lays "PierYears$Asking" "PierYears$Asking" "spans" "I") ∈ zTB := zm _ 215 (by decide +kernel) rfl
theorem zw_164 : (Jvm.Cond.superclass "PierYears$Asking" "java/lang/Object") ∈ zTB := zm _ 217 (by decide +kernel) rfl
theorem zw_165 : (Jvm.Cond.classLink "PierYears" (53 : Nat) "PierYears$Irons") ∈ zTB := zm _ 218 (by decide +kernel) rfl
theorem zw_166 : (Jvm.Cond.instantiable "PierYears$Irons" (0 : Nat)) ∈ zTB := zm _ 219 (by decide +kernel) rfl
theorem zw_168 : (Jvm.Cond.instanceMethod ({ cls := "PierYears$Irons", name := "<init>", desc := "()V" } : Jvm.MethodName)) ∈ zTB := zm _ 221 (by decide +kernel) rfl
theorem zw_169 : (Jvm.Cond.code ({ cls := "PierYears$Irons", name := "<init>", desc := "()V" } : Jvm.MethodName) prog_5_method_1_code (1 : Nat) (Option.none : Option Jvm.ClassFile.FieldType)) ∈ zTB := zm _ 222 (by decide +kernel) rfl
theorem zw_171 : (Jvm.Cond.instanceMethod ({ cls := "PierYears$Pier", name := "<init>", desc := "()V" } : Jvm.MethodName)) ∈ zTB := zm _ 224 (by decide +kernel) rfl
theorem zw_172 : (Jvm.Cond.code ({ cls := "PierYears$Pier", name := "<init>", desc := "()V" } : Jvm.MethodName) prog_7_method_1_code (1 : Nat) (Option.none : Option Jvm.ClassFile.FieldType)) ∈ zTB := zm _ 225 (by decide +kernel) rfl
theorem zw_173 : (Jvm.Cond.methodLink "PierYears$Pier" (1 : Nat) ({ cls := "java/lang/Object", name := "<init>", desc := "()V" } : Jvm.MethodName)) ∈ zTB := zm _ 226 (by decide +kernel) rfl
theorem zw_174 : (Jvm.Cond.superclass "PierYears$Irons" "PierYears$Pier") ∈ zTB := zm _ 227 (by decide +kernel) rfl
theorem zw_175 : (Jvm.Cond.classLink "PierYears" (60 : Nat) "PierYears$Cast") ∈ zTB := zm _ 228 (by decide +kernel) rfl
theorem zw_176 : (Jvm.Cond.instantiable "PierYears$Cast" (0 : Nat)) ∈ zTB := zm _ 229 (by decide +kernel) rfl
theorem zw_178 : (Jvm.Cond.instanceMethod ({ cls := "PierYears$Cast", name := "<init>", desc := "()V" } : Jvm.MethodName)) ∈ zTB := zm _ 231 (by decide +kernel) rfl
theorem zw_179 : (Jvm.Cond.code ({ cls := "PierYears$Cast", name := "<init>", desc := "()V" } : Jvm.MethodName) prog_3_method_1_code (1 : Nat) (Option.none : Option Jvm.ClassFile.FieldType)) ∈ zTB := zm _ 232 (by decide +kernel) rfl
theorem zw_181 : (Jvm.Cond.superclass "PierYears$Cast" "PierYears$Irons") ∈ zTB := zm _ 234 (by decide +kernel) rfl
theorem zw_182 : (Jvm.Cond.classLink "PierYears" (67 : Nat) "PierYears$Rusty") ∈ zTB := zm _ 235 (by decide +kernel) rfl
theorem zw_183 : (Jvm.Cond.instantiable "PierYears$Rusty" (0 : Nat)) ∈ zTB := zm _ 236 (by decide +kernel) rfl
theorem zw_185 : (Jvm.Cond.instanceMethod ({ cls := "PierYears$Rusty", name := "<init>", desc := "()V" } : Jvm.MethodName)) ∈ zTB := zm _ 238 (by decide +kernel) rfl
theorem zw_186 : (Jvm.Cond.code ({ cls := "PierYears$Rusty", name := "<init>", desc := "()V" } : Jvm.MethodName) prog_10_method_1_code (1 : Nat) (Option.none : Option Jvm.ClassFile.FieldType)) ∈ zTB := zm _ 239 (by decide +kernel) rfl
theorem zw_188 : (Jvm.Cond.superclass "PierYears$Rusty" "PierYears$Irons") ∈ zTB := zm _ 241 (by decide +kernel) rfl
theorem zw_189 : (Jvm.Cond.classLink "PierYears" (74 : Nat) "PierYears$Wooden") ∈ zTB := zm _ 242 (by decide +kernel) rfl
theorem zw_190 : (Jvm.Cond.instantiable "PierYears$Wooden" (0 : Nat)) ∈ zTB := zm _ 243 (by decide +kernel) rfl
theorem zw_192 : (Jvm.Cond.instanceMethod ({ cls := "PierYears$Wooden", name := "<init>", desc := "()V" } : Jvm.MethodName)) ∈ zTB := zm _ 245 (by decide +kernel) rfl
theorem zw_193 : (Jvm.Cond.code ({ cls := "PierYears$Wooden", name := "<init>", desc := "()V" } : Jvm.MethodName) prog_12_method_1_code (1 : Nat) (Option.none : Option Jvm.ClassFile.FieldType)) ∈ zTB := zm _ 246 (by decide +kernel) rfl
theorem zw_195 : (Jvm.Cond.superclass "PierYears$Wooden" "PierYears$Pier") ∈ zTB := zm _ 248 (by decide +kernel) rfl
theorem zw_196 : (Jvm.Cond.classLink "PierYears" (81 : Nat) "PierYears$Piled") ∈ zTB := zm _ 249 (by decide +kernel) rfl
theorem zw_197 : (Jvm.Cond.instantiable "PierYears$Piled" (0 : Nat)) ∈ zTB := zm _ 250 (by decide +kernel) rfl
theorem zw_199 : (Jvm.Cond.instanceMethod ({ cls := "PierYears$Piled", name := "<init>", desc := "()V" } : Jvm.MethodName)) ∈ zTB := zm _ 252 (by decide +kernel) rfl
theorem zw_200 : (Jvm.Cond.code ({ cls := "PierYears$Piled", name := "<init>", desc := "()V" } : Jvm.MethodName) prog_8_method_1_code (1 : Nat) (Option.none : Option Jvm.ClassFile.FieldType)) ∈ zTB := zm _ 253 (by decide +kernel) rfl
theorem zw_202 : (Jvm.Cond.superclass "PierYears$Piled" "PierYears$Wooden") ∈ zTB := zm _ 255 (by decide +kernel) rfl
theorem zw_203 : (Jvm.Cond.fieldLink "PierYears" (12 : Nat) "PierYears" "rows" "LPierYears$Rows;") ∈ zTB := zm _ 256 (by decide +kernel) rfl
theorem zw_204 : (Jvm.Cond.fieldLink "PierYears" (19 : Nat) "PierYears" "tape" "LPierYears$Tape;") ∈ zTB := zm _ 257 (by decide +kernel) rfl
theorem zw_205 : (Jvm.Cond.fieldLink "PierYears" (26 : Nat) "PierYears" "now" "LPierYears$Coast;") ∈ zTB := zm _ 258 (by decide +kernel) rfl
theorem zw_206 : (Jvm.Cond.fieldLink "PierYears" (30 : Nat) "PierYears" "foretold" "LPierYears$Coast;") ∈ zTB := zm _ 259 (by decide +kernel) rfl
theorem zw_207 : (Jvm.Cond.fieldLink "PierYears" (33 : Nat) "PierYears" "firstImage" "LPierYears$Coast;") ∈ zTB := zm _ 260 (by decide +kernel) rfl
theorem zw_208 : (Jvm.Cond.fieldLink "PierYears" (36 : Nat) "PierYears" "secondImage" "LPierYears$Coast;") ∈ zTB := zm _ 261 (by decide +kernel) rfl
theorem zw_209 : (Jvm.Cond.fieldLink "PierYears" (42 : Nat) "PierYears" "past" "LPierYears$Past;") ∈ zTB := zm _ 262 (by decide +kernel) rfl
theorem zw_210 : (Jvm.Cond.fieldLink "PierYears" (49 : Nat) "PierYears" "asking" "LPierYears$Asking;") ∈ zTB := zm _ 263 (by decide +kernel) rfl
theorem zw_211 : (Jvm.Cond.fieldLink "PierYears" (56 : Nat) "PierYears" "irons" "LPierYears$Irons;") ∈ zTB := zm _ 264 (by decide +kernel) rfl
theorem zw_212 : (Jvm.Cond.fieldLink "PierYears" (63 : Nat) "PierYears" "cast" "LPierYears$Cast;") ∈ zTB := zm _ 265 (by decide +kernel) rfl
theorem zw_213 : (Jvm.Cond.fieldLink "PierYears" (70 : Nat) "PierYears" "rusty" "LPierYears$Rusty;") ∈ zTB := zm _ 266 (by decide +kernel) rfl
theorem zw_214 : (Jvm.Cond.fieldLink "PierYears" (77 : Nat) "PierYears" "wooden" "LPierYears$Wooden;") ∈ zTB := zm _ 267 (by decide +kernel) rfl
theorem zw_215 : (Jvm.Cond.fieldLink "PierYears" (84 : Nat) "PierYears" "piled" "LPierYears$Piled;") ∈ zTB := zm _ 268 (by decide +kernel) rfl
theorem zw_216 : (Jvm.Cond.fieldLink "PierYears" (88 : Nat) "PierYears" "gains" "[I") ∈ zTB := zm _ 269 (by decide +kernel) rfl
theorem zw_217 : (Jvm.Cond.fieldLink "PierYears" (92 : Nat) "PierYears" "bests" "[I") ∈ zTB := zm _ 270 (by decide +kernel) rfl
theorem zw_218 : (Jvm.Cond.fieldLink "PierYears" (95 : Nat) "PierYears" "shares" "[I") ∈ zTB := zm _ 271 (by decide +kernel) rfl
theorem zw_219 : (Jvm.Cond.fieldLink "PierYears" (98 : Nat) "PierYears" "latestFault" "I") ∈ zTB := zm _ 272 (by decide +kernel) rfl
theorem zw_220 : (Jvm.Cond.fieldLink "PierYears" (102 : Nat) "PierYears" "latestFinding" "I") ∈ zTB := zm _ 273 (by decide +kernel) rfl
theorem zw_221 : (Jvm.Cond.laysFinal "PierYears" "PierYears" "rows" "LPierYears$Rows;") ∈ zTB := zm _ 274 (by decide +kernel) rfl
theorem zw_223 : (Jvm.Cond.laysFinal "PierYears" "PierYears" "tape" "LPierYears$Tape;") ∈ zTB := zm _ 276 (by decide +kernel) rfl
theorem zw_225 : (Jvm.Cond.laysFinal "PierYears" "PierYears" "now" "LPierYears$Coast;") ∈ zTB := zm _ 278 (by decide +kernel) rfl
theorem zw_227 : (Jvm.Cond.laysFinal "PierYears" "PierYears" "foretold" "LPierYears$Coast;") ∈ zTB := zm _ 280 (by decide +kernel) rfl
theorem zw_229 : (Jvm.Cond.laysFinal "PierYears" "PierYears" "firstImage" "LPierYears$Coast;") ∈ zTB := zm _ 282 (by decide +kernel) rfl
theorem zw_231 : (Jvm.Cond.laysFinal "PierYears" "PierYears" "secondImage" "LPierYears$Coast;") ∈ zTB := zm _ 284 (by decide +kernel) rfl
theorem zw_233 : (Jvm.Cond.laysFinal "PierYears" "PierYears" "past" "LPierYears$Past;") ∈ zTB := zm _ 286 (by decide +kernel) rfl
theorem zw_235 : (Jvm.Cond.laysFinal "PierYears" "PierYears" "asking" "LPierYears$Asking;") ∈ zTB := zm _ 288 (by decide +kernel) rfl
theorem zw_237 : (Jvm.Cond.laysFinal "PierYears" "PierYears" "irons" "LPierYears$Irons;") ∈ zTB := zm _ 290 (by decide +kernel) rfl
theorem zw_239 : (Jvm.Cond.laysFinal "PierYears" "PierYears" "cast" "LPierYears$Cast;") ∈ zTB := zm _ 292 (by decide +kernel) rfl
theorem zw_241 : (Jvm.Cond.laysFinal "PierYears" "PierYears" "rusty" "LPierYears$Rusty;") ∈ zTB := zm _ 294 (by decide +kernel) rfl
theorem zw_243 : (Jvm.Cond.laysFinal "PierYears" "PierYears" "wooden" "LPierYears$Wooden;") ∈ zTB := zm _ 296 (by decide +kernel) rfl
theorem zw_245 : (Jvm.Cond.laysFinal "PierYears" "PierYears" "piled" "LPierYears$Piled;") ∈ zTB := zm _ 298 (by decide +kernel) rfl
theorem zw_247 : (Jvm.Cond.laysFinal "PierYears" "PierYears" "gains" "[I") ∈ zTB := zm _ 300 (by decide +kernel) rfl
theorem zw_249 : (Jvm.Cond.laysFinal "PierYears" "PierYears" "bests" "[I") ∈ zTB := zm _ 302 (by decide +kernel) rfl
theorem zw_251 : (Jvm.Cond.laysFinal "PierYears" "PierYears" "shares" "[I") ∈ zTB := zm _ 304 (by decide +kernel) rfl
theorem zw_253 : (Jvm.Cond.lays "PierYears" "PierYears" "latestFault" "I") ∈ zTB := zm _ 306 (by decide +kernel) rfl
theorem zw_255 : (Jvm.Cond.lays "PierYears" "PierYears" "latestFinding" "I") ∈ zTB := zm _ 308 (by decide +kernel) rfl
theorem zw_257 : (Jvm.Cond.superclass "PierYears" "java/lang/Object") ∈ zTB := zm _ 310 (by decide +kernel) rfl
theorem zw_258 : (Jvm.Cond.methodLink "PierYearsLaw" (13 : Nat) ({ cls := "PierYears", name := "row", desc := "(III)I" } : Jvm.MethodName)) ∈ zTB := zm _ 311 (by decide +kernel) rfl
theorem zw_259 : (Jvm.Cond.instanceMethod ({ cls := "PierYears", name := "row", desc := "(III)I" } : Jvm.MethodName)) ∈ zTB := zm _ 312 (by decide +kernel) rfl
theorem zw_260 : (Jvm.Cond.selects "PierYears" ({ cls := "PierYears", name := "row", desc := "(III)I" } : Jvm.MethodName) ({ cls := "PierYears", name := "row", desc := "(III)I" } : Jvm.MethodName)) ∈ zTB := zm _ 313 (by decide +kernel) rfl
theorem zw_261 : (Jvm.Cond.code ({ cls := "PierYears", name := "row", desc := "(III)I" } : Jvm.MethodName) prog_1_method_2_code (4 : Nat) (Option.some Jvm.ClassFile.FieldType.int)) ∈ zTB := zm _ 314 (by decide +kernel) rfl
theorem zw_262 : (Jvm.Cond.methodLink "PierYears" (105 : Nat) ({ cls := "PierYears", name := "isRow", desc := "(I)Z" } : Jvm.MethodName)) ∈ zTB := zm _ 315 (by decide +kernel) rfl
theorem zw_263 : (Jvm.Cond.static ({ cls := "PierYears", name := "isRow", desc := "(I)Z" } : Jvm.MethodName)) ∈ zTB := zm _ 316 (by decide +kernel) rfl
theorem zw_264 : (Jvm.Cond.code ({ cls := "PierYears", name := "isRow", desc := "(I)Z" } : Jvm.MethodName) prog_1_method_35_code (1 : Nat) (Option.some Jvm.ClassFile.FieldType.boolean)) ∈ zTB := zm _ 317 (by decide +kernel) rfl
theorem zw_265 : (Jvm.Cond.methodLink "PierYears" (109 : Nat) ({ cls := "PierYears", name := "isWithin", desc := "(III)Z" } : Jvm.MethodName)) ∈ zTB := zm _ 318 (by decide +kernel) rfl
theorem zw_266 : (Jvm.Cond.static ({ cls := "PierYears", name := "isWithin", desc := "(III)Z" } : Jvm.MethodName)) ∈ zTB := zm _ 319 (by decide +kernel) rfl
theorem zw_267 : (Jvm.Cond.code ({ cls := "PierYears", name := "isWithin", desc := "(III)Z" } : Jvm.MethodName) prog_1_method_34_code (3 : Nat) (Option.some Jvm.ClassFile.FieldType.boolean)) ∈ zTB := zm _ 320 (by decide +kernel) rfl
theorem zw_268 : (Jvm.Cond.constant "PierYears" (113 : Nat) (-1000001 : Int32)) ∈ zTB := zm _ 321 (by decide +kernel) rfl
theorem zw_269 : (Jvm.Cond.methodLink "PierYears" (114 : Nat) ({ cls := "PierYears", name := "found", desc := "(I)I" } : Jvm.MethodName)) ∈ zTB := zm _ 322 (by decide +kernel) rfl
theorem zw_271 : (Jvm.Cond.instanceMethod ({ cls := "PierYears", name := "found", desc := "(I)I" } : Jvm.MethodName)) ∈ zTB := zm _ 324 (by decide +kernel) rfl
theorem zw_272 : (Jvm.Cond.code ({ cls := "PierYears", name := "found", desc := "(I)I" } : Jvm.MethodName) prog_1_method_39_code (2 : Nat) (Option.some Jvm.ClassFile.FieldType.int)) ∈ zTB := zm _ 325 (by decide +kernel) rfl
theorem zw_273 : (Jvm.Cond.constant "PierYears" (346 : Nat) (-1000010 : Int32)) ∈ zTB := zm _ 326 (by decide +kernel) rfl
theorem zw_274 : (Jvm.Cond.methodLink "PierYears" (118 : Nat) ({ cls := "PierYears$Rows", name := "make", desc := "(III)V" } : Jvm.MethodName)) ∈ zTB := zm _ 327 (by decide +kernel) rfl
theorem zw_275 : (Jvm.Cond.instanceMethod ({ cls := "PierYears$Rows", name := "make", desc := "(III)V" } : Jvm.MethodName)) ∈ zTB := zm _ 328 (by decide +kernel) rfl
theorem zw_276 : (Jvm.Cond.selects "PierYears$Rows" ({ cls := "PierYears$Rows", name := "make", desc := "(III)V" } : Jvm.MethodName) ({ cls := "PierYears$Rows", name := "make", desc := "(III)V" } : Jvm.MethodName)) ∈ zTB := zm _ 329 (by decide +kernel) rfl
theorem zw_277 : (Jvm.Cond.code ({ cls := "PierYears$Rows", name := "make", desc := "(III)V" } : Jvm.MethodName) prog_9_method_5_code (5 : Nat) (Option.none : Option Jvm.ClassFile.FieldType)) ∈ zTB := zm _ 330 (by decide +kernel) rfl
theorem zw_278 : (Jvm.Cond.methodLink "PierYears" (122 : Nat) ({ cls := "PierYears", name := "fine", desc := "(I)I" } : Jvm.MethodName)) ∈ zTB := zm _ 331 (by decide +kernel) rfl
theorem zw_280 : (Jvm.Cond.instanceMethod ({ cls := "PierYears", name := "fine", desc := "(I)I" } : Jvm.MethodName)) ∈ zTB := zm _ 333 (by decide +kernel) rfl
theorem zw_281 : (Jvm.Cond.code ({ cls := "PierYears", name := "fine", desc := "(I)I" } : Jvm.MethodName) prog_1_method_40_code (2 : Nat) (Option.some Jvm.ClassFile.FieldType.int)) ∈ zTB := zm _ 334 (by decide +kernel) rfl
theorem zw_282 : (Jvm.Cond.methodLink "PierYearsLaw" (18 : Nat) ({ cls := "PierYears", name := "set", desc := "(III)I" } : Jvm.MethodName)) ∈ zTB := zm _ 335 (by decide +kernel) rfl
theorem zw_283 : (Jvm.Cond.instanceMethod ({ cls := "PierYears", name := "set", desc := "(III)I" } : Jvm.MethodName)) ∈ zTB := zm _ 336 (by decide +kernel) rfl
theorem zw_284 : (Jvm.Cond.selects "PierYears" ({ cls := "PierYears", name := "set", desc := "(III)I" } : Jvm.MethodName) ({ cls := "PierYears", name := "set", desc := "(III)I" } : Jvm.MethodName)) ∈ zTB := zm _ 337 (by decide +kernel) rfl
theorem zw_285 : (Jvm.Cond.code ({ cls := "PierYears", name := "set", desc := "(III)I" } : Jvm.MethodName) prog_1_method_3_code (4 : Nat) (Option.some Jvm.ClassFile.FieldType.int)) ∈ zTB := zm _ 338 (by decide +kernel) rfl
theorem zw_286 : (Jvm.Cond.methodLink "PierYears" (125 : Nat) ({ cls := "PierYears$Rows", name := "isMissing", desc := "(I)Z" } : Jvm.MethodName)) ∈ zTB := zm _ 339 (by decide +kernel) rfl
theorem zw_287 : (Jvm.Cond.instanceMethod ({ cls := "PierYears$Rows", name := "isMissing", desc := "(I)Z" } : Jvm.MethodName)) ∈ zTB := zm _ 340 (by decide +kernel) rfl
theorem zw_288 : (Jvm.Cond.selects "PierYears$Rows" ({ cls := "PierYears$Rows", name := "isMissing", desc := "(I)Z" } : Jvm.MethodName) ({ cls := "PierYears$Rows", name := "isMissing", desc := "(I)Z" } : Jvm.MethodName)) ∈ zTB := zm _ 341 (by decide +kernel) rfl
theorem zw_289 : (Jvm.Cond.code ({ cls := "PierYears$Rows", name := "isMissing", desc := "(I)Z" } : Jvm.MethodName) prog_9_method_2_code (2 : Nat) (Option.some Jvm.ClassFile.FieldType.boolean)) ∈ zTB := zm _ 342 (by decide +kernel) rfl
theorem zw_290 : (Jvm.Cond.methodLink "PierYears" (128 : Nat) ({ cls := "PierYears$Rows", name := "holds", desc := "(III)Z" } : Jvm.MethodName)) ∈ zTB := zm _ 343 (by decide +kernel) rfl
theorem zw_291 : (Jvm.Cond.instanceMethod ({ cls := "PierYears$Rows", name := "holds", desc := "(III)Z" } : Jvm.MethodName)) ∈ zTB := zm _ 344 (by decide +kernel) rfl
theorem zw_292 : (Jvm.Cond.selects "PierYears$Rows" ({ cls := "PierYears$Rows", name := "holds", desc := "(III)Z" } : Jvm.MethodName) ({ cls := "PierYears$Rows", name := "holds", desc := "(III)Z" } : Jvm.MethodName)) ∈ zTB := zm _ 345 (by decide +kernel) rfl
theorem zw_293 : (Jvm.Cond.code ({ cls := "PierYears$Rows", name := "holds", desc := "(III)Z" } : Jvm.MethodName) prog_9_method_4_code (4 : Nat) (Option.some Jvm.ClassFile.FieldType.boolean)) ∈ zTB := zm _ 346 (by decide +kernel) rfl
theorem zw_294 : (Jvm.Cond.methodLink "PierYears" (131 : Nat) ({ cls := "PierYears$Rows", name := "put", desc := "(III)I" } : Jvm.MethodName)) ∈ zTB := zm _ 347 (by decide +kernel) rfl
theorem zw_295 : (Jvm.Cond.instanceMethod ({ cls := "PierYears$Rows", name := "put", desc := "(III)I" } : Jvm.MethodName)) ∈ zTB := zm _ 348 (by decide +kernel) rfl
theorem zw_296 : (Jvm.Cond.selects "PierYears$Rows" ({ cls := "PierYears$Rows", name := "put", desc := "(III)I" } : Jvm.MethodName) ({ cls := "PierYears$Rows", name := "put", desc := "(III)I" } : Jvm.MethodName)) ∈ zTB := zm _ 349 (by decide +kernel) rfl
theorem zw_297 : (Jvm.Cond.code ({ cls := "PierYears$Rows", name := "put", desc := "(III)I" } : Jvm.MethodName) prog_9_method_6_code (5 : Nat) (Option.some Jvm.ClassFile.FieldType.int)) ∈ zTB := zm _ 350 (by decide +kernel) rfl
theorem zw_298 : (Jvm.Cond.methodLink "PierYearsLaw" (22 : Nat) ({ cls := "PierYears", name := "copy", desc := "(IIIII)I" } : Jvm.MethodName)) ∈ zTB := zm _ 351 (by decide +kernel) rfl
theorem zw_299 : (Jvm.Cond.instanceMethod ({ cls := "PierYears", name := "copy", desc := "(IIIII)I" } : Jvm.MethodName)) ∈ zTB := zm _ 352 (by decide +kernel) rfl
theorem zw_300 : (Jvm.Cond.selects "PierYears" ({ cls := "PierYears", name := "copy", desc := "(IIIII)I" } : Jvm.MethodName) ({ cls := "PierYears", name := "copy", desc := "(IIIII)I" } : Jvm.MethodName)) ∈ zTB := zm _ 353 (by decide +kernel) rfl
theorem zw_301 : (Jvm.Cond.code ({ cls := "PierYears", name := "copy", desc := "(IIIII)I" } : Jvm.MethodName) prog_1_method_4_code (6 : Nat) (Option.some Jvm.ClassFile.FieldType.int)) ∈ zTB := zm _ 354 (by decide +kernel) rfl
theorem zw_302 : (Jvm.Cond.methodLink "PierYears" (135 : Nat) ({ cls := "PierYears$Rows", name := "areAlike", desc := "(II)Z" } : Jvm.MethodName)) ∈ zTB := zm _ 355 (by decide +kernel) rfl
theorem zw_303 : (Jvm.Cond.instanceMethod ({ cls := "PierYears$Rows", name := "areAlike", desc := "(II)Z" } : Jvm.MethodName)) ∈ zTB := zm _ 356 (by decide +kernel) rfl
theorem zw_304 : (Jvm.Cond.selects "PierYears$Rows" ({ cls := "PierYears$Rows", name := "areAlike", desc := "(II)Z" } : Jvm.MethodName) ({ cls := "PierYears$Rows", name := "areAlike", desc := "(II)Z" } : Jvm.MethodName)) ∈ zTB := zm _ 357 (by decide +kernel) rfl
theorem zw_305 : (Jvm.Cond.code ({ cls := "PierYears$Rows", name := "areAlike", desc := "(II)Z" } : Jvm.MethodName) prog_9_method_3_code (3 : Nat) (Option.some Jvm.ClassFile.FieldType.boolean)) ∈ zTB := zm _ 358 (by decide +kernel) rfl
theorem zw_306 : (Jvm.Cond.methodLink "PierYears" (139 : Nat) ({ cls := "PierYears$Rows", name := "move", desc := "(IIIII)V" } : Jvm.MethodName)) ∈ zTB := zm _ 359 (by decide +kernel) rfl
theorem zw_307 : (Jvm.Cond.instanceMethod ({ cls := "PierYears$Rows", name := "move", desc := "(IIIII)V" } : Jvm.MethodName)) ∈ zTB := zm _ 360 (by decide +kernel) rfl
theorem zw_308 : (Jvm.Cond.selects "PierYears$Rows" ({ cls := "PierYears$Rows", name := "move", desc := "(IIIII)V" } : Jvm.MethodName) ({ cls := "PierYears$Rows", name := "move", desc := "(IIIII)V" } : Jvm.MethodName)) ∈ zTB := zm _ 361 (by decide +kernel) rfl
theorem zw_309 : (Jvm.Cond.code ({ cls := "PierYears$Rows", name := "move", desc := "(IIIII)V" } : Jvm.MethodName) prog_9_method_8_code (6 : Nat) (Option.none : Option Jvm.ClassFile.FieldType)) ∈ zTB := zm _ 362 (by decide +kernel) rfl
theorem zw_310 : (Jvm.Cond.methodLink "PierYears$Rows" (19 : Nat) ({ cls := "java/lang/System", name := "arraycopy", desc := "(Ljava/lang/Object;ILjava/lang/Object;II)V" } : Jvm.MethodName)) ∈ zTB := zm _ 363 (by decide +kernel) rfl
theorem zw_311 : (Jvm.Cond.static ({ cls := "java/lang/System", name := "arraycopy", desc := "(Ljava/lang/Object;ILjava/lang/Object;II)V" } : Jvm.MethodName)) ∈ zTB := zm _ 364 (by decide +kernel) rfl
theorem zw_312 : (Jvm.Cond.native ({ cls := "java/lang/System", name := "arraycopy", desc := "(Ljava/lang/Object;ILjava/lang/Object;II)V" } : Jvm.MethodName)) ∈ zTB := zm _ 365 (by decide +kernel) rfl
theorem zw_313 : (Jvm.Cond.methodLink "PierYearsLaw" (27 : Nat) ({ cls := "PierYears", name := "drop", desc := "(I)I" } : Jvm.MethodName)) ∈ zTB := zm _ 366 (by decide +kernel) rfl
theorem zw_314 : (Jvm.Cond.instanceMethod ({ cls := "PierYears", name := "drop", desc := "(I)I" } : Jvm.MethodName)) ∈ zTB := zm _ 367 (by decide +kernel) rfl
theorem zw_315 : (Jvm.Cond.selects "PierYears" ({ cls := "PierYears", name := "drop", desc := "(I)I" } : Jvm.MethodName) ({ cls := "PierYears", name := "drop", desc := "(I)I" } : Jvm.MethodName)) ∈ zTB := zm _ 368 (by decide +kernel) rfl
theorem zw_316 : (Jvm.Cond.code ({ cls := "PierYears", name := "drop", desc := "(I)I" } : Jvm.MethodName) prog_1_method_5_code (2 : Nat) (Option.some Jvm.ClassFile.FieldType.int)) ∈ zTB := zm _ 369 (by decide +kernel) rfl
theorem zw_317 : (Jvm.Cond.methodLink "PierYears" (143 : Nat) ({ cls := "PierYears$Rows", name := "remove", desc := "(I)I" } : Jvm.MethodName)) ∈ zTB := zm _ 370 (by decide +kernel) rfl
theorem zw_318 : (Jvm.Cond.instanceMethod ({ cls := "PierYears$Rows", name := "remove", desc := "(I)I" } : Jvm.MethodName)) ∈ zTB := zm _ 371 (by decide +kernel) rfl
theorem zw_319 : (Jvm.Cond.selects "PierYears$Rows" ({ cls := "PierYears$Rows", name := "remove", desc := "(I)I" } : Jvm.MethodName) ({ cls := "PierYears$Rows", name := "remove", desc := "(I)I" } : Jvm.MethodName)) ∈ zTB := zm _ 372 (by decide +kernel) rfl
theorem zw_320 : (Jvm.Cond.code ({ cls := "PierYears$Rows", name := "remove", desc := "(I)I" } : Jvm.MethodName) prog_9_method_9_code (2 : Nat) (Option.some Jvm.ClassFile.FieldType.int)) ∈ zTB := zm _ 373 (by decide +kernel) rfl
theorem zw_321 : (Jvm.Cond.methodLink "PierYearsLaw" (32 : Nat) ({ cls := "PierYears", name := "feed", desc := "(I)I" } : Jvm.MethodName)) ∈ zTB := zm _ 374 (by decide +kernel) rfl
theorem zw_322 : (Jvm.Cond.instanceMethod ({ cls := "PierYears", name := "feed", desc := "(I)I" } : Jvm.MethodName)) ∈ zTB := zm _ 375 (by decide +kernel) rfl
theorem zw_323 : (Jvm.Cond.selects "PierYears" ({ cls := "PierYears", name := "feed", desc := "(I)I" } : Jvm.MethodName) ({ cls := "PierYears", name := "feed", desc := "(I)I" } : Jvm.MethodName)) ∈ zTB := zm _ 376 (by decide +kernel) rfl
theorem zw_324 : (Jvm.Cond.code ({ cls := "PierYears", name := "feed", desc := "(I)I" } : Jvm.MethodName) prog_1_method_6_code (2 : Nat) (Option.some Jvm.ClassFile.FieldType.int)) ∈ zTB := zm _ 377 (by decide +kernel) rfl
theorem zw_325 : (Jvm.Cond.methodLink "PierYears" (146 : Nat) ({ cls := "PierYears$Tape", name := "isFull", desc := "()Z" } : Jvm.MethodName)) ∈ zTB := zm _ 378 (by decide +kernel) rfl
theorem zw_326 : (Jvm.Cond.instanceMethod ({ cls := "PierYears$Tape", name := "isFull", desc := "()Z" } : Jvm.MethodName)) ∈ zTB := zm _ 379 (by decide +kernel) rfl
theorem zw_327 : (Jvm.Cond.selects "PierYears$Tape" ({ cls := "PierYears$Tape", name := "isFull", desc := "()Z" } : Jvm.MethodName) ({ cls := "PierYears$Tape", name := "isFull", desc := "()Z" } : Jvm.MethodName)) ∈ zTB := zm _ 380 (by decide +kernel) rfl
theorem zw_328 : (Jvm.Cond.code ({ cls := "PierYears$Tape", name := "isFull", desc := "()Z" } : Jvm.MethodName) prog_11_method_2_code (1 : Nat) (Option.some Jvm.ClassFile.FieldType.boolean)) ∈ zTB := zm _ 381 (by decide +kernel) rfl
theorem zw_329 : (Jvm.Cond.constant "PierYears" (150 : Nat) (-1000003 : Int32)) ∈ zTB := zm _ 382 (by decide +kernel) rfl
theorem zw_330 : (Jvm.Cond.methodLink "PierYears" (151 : Nat) ({ cls := "PierYears$Tape", name := "add", desc := "(I)I" } : Jvm.MethodName)) ∈ zTB := zm _ 383 (by decide +kernel) rfl
theorem zw_331 : (Jvm.Cond.instanceMethod ({ cls := "PierYears$Tape", name := "add", desc := "(I)I" } : Jvm.MethodName)) ∈ zTB := zm _ 384 (by decide +kernel) rfl
theorem zw_332 : (Jvm.Cond.selects "PierYears$Tape" ({ cls := "PierYears$Tape", name := "add", desc := "(I)I" } : Jvm.MethodName) ({ cls := "PierYears$Tape", name := "add", desc := "(I)I" } : Jvm.MethodName)) ∈ zTB := zm _ 385 (by decide +kernel) rfl
theorem zw_333 : (Jvm.Cond.code ({ cls := "PierYears$Tape", name := "add", desc := "(I)I" } : Jvm.MethodName) prog_11_method_3_code (2 : Nat) (Option.some Jvm.ClassFile.FieldType.int)) ∈ zTB := zm _ 386 (by decide +kernel) rfl
theorem zw_334 : (Jvm.Cond.methodLink "PierYearsLaw" (36 : Nat) ({ cls := "PierYears", name := "coast", desc := "()I" } : Jvm.MethodName)) ∈ zTB := zm _ 387 (by decide +kernel) rfl
theorem zw_335 : (Jvm.Cond.instanceMethod ({ cls := "PierYears", name := "coast", desc := "()I" } : Jvm.MethodName)) ∈ zTB := zm _ 388 (by decide +kernel) rfl
theorem zw_336 : (Jvm.Cond.selects "PierYears" ({ cls := "PierYears", name := "coast", desc := "()I" } : Jvm.MethodName) ({ cls := "PierYears", name := "coast", desc := "()I" } : Jvm.MethodName)) ∈ zTB := zm _ 389 (by decide +kernel) rfl
theorem zw_337 : (Jvm.Cond.code ({ cls := "PierYears", name := "coast", desc := "()I" } : Jvm.MethodName) prog_1_method_7_code (2 : Nat) (Option.some Jvm.ClassFile.FieldType.int)) ∈ zTB := zm _ 390 (by decide +kernel) rfl
theorem zw_338 : (Jvm.Cond.methodLink "PierYears" (154 : Nat) ({ cls := "PierYears$Tape", name := "readInto", desc := "(LPierYears$Coast;)Z" } : Jvm.MethodName)) ∈ zTB := zm _ 391 (by decide +kernel) rfl
theorem zw_339 : (Jvm.Cond.instanceMethod ({ cls := "PierYears$Tape", name := "readInto", desc := "(LPierYears$Coast;)Z" } : Jvm.MethodName)) ∈ zTB := zm _ 392 (by decide +kernel) rfl
theorem zw_340 : (Jvm.Cond.selects "PierYears$Tape" ({ cls := "PierYears$Tape", name := "readInto", desc := "(LPierYears$Coast;)Z" } : Jvm.MethodName) ({ cls := "PierYears$Tape", name := "readInto", desc := "(LPierYears$Coast;)Z" } : Jvm.MethodName)) ∈ zTB := zm _ 393 (by decide +kernel) rfl
theorem zw_341 : (Jvm.Cond.code ({ cls := "PierYears$Tape", name := "readInto", desc := "(LPierYears$Coast;)Z" } : Jvm.MethodName) prog_11_method_7_code (3 : Nat) (Option.some Jvm.ClassFile.FieldType.boolean)) ∈ zTB := zm _ 394 (by decide +kernel) rfl
theorem zw_342 : (Jvm.Cond.methodLink "PierYears$Tape" (26 : Nat) ({ cls := "PierYears$Tape", name := "readLaw", desc := "(LPierYears$Coast;)Z" } : Jvm.MethodName)) ∈ zTB := zm _ 395 (by decide +kernel) rfl
theorem zw_344 : (Jvm.Cond.instanceMethod ({ cls := "PierYears$Tape", name := "readLaw", desc := "(LPierYears$Coast;)Z" } : Jvm.MethodName)) ∈ zTB := zm _ 397 (by decide +kernel) rfl
theorem zw_345 : (Jvm.Cond.code ({ cls := "PierYears$Tape", name := "readLaw", desc := "(LPierYears$Coast;)Z" } : Jvm.MethodName) prog_11_method_8_code (2 : Nat) (Option.some Jvm.ClassFile.FieldType.boolean)) ∈ zTB := zm _ 398 (by decide +kernel) rfl
theorem zw_346 : (Jvm.Cond.methodLink "PierYears$Tape" (33 : Nat) ({ cls := "PierYears$Tape", name := "readSign", desc := "(I)Z" } : Jvm.MethodName)) ∈ zTB := zm _ 399 (by decide +kernel) rfl
theorem zw_348 : (Jvm.Cond.instanceMethod ({ cls := "PierYears$Tape", name := "readSign", desc := "(I)Z" } : Jvm.MethodName)) ∈ zTB := zm _ 401 (by decide +kernel) rfl
theorem zw_349 : (Jvm.Cond.code ({ cls := "PierYears$Tape", name := "readSign", desc := "(I)Z" } : Jvm.MethodName) prog_11_method_12_code (2 : Nat) (Option.some Jvm.ClassFile.FieldType.boolean)) ∈ zTB := zm _ 402 (by decide +kernel) rfl
theorem zw_350 : (Jvm.Cond.methodLink "PierYears$Tape" (53 : Nat) ({ cls := "PierYears$Tape", name := "byteHere", desc := "()I" } : Jvm.MethodName)) ∈ zTB := zm _ 403 (by decide +kernel) rfl
theorem zw_352 : (Jvm.Cond.instanceMethod ({ cls := "PierYears$Tape", name := "byteHere", desc := "()I" } : Jvm.MethodName)) ∈ zTB := zm _ 405 (by decide +kernel) rfl
theorem zw_353 : (Jvm.Cond.code ({ cls := "PierYears$Tape", name := "byteHere", desc := "()I" } : Jvm.MethodName) prog_11_method_14_code (1 : Nat) (Option.some Jvm.ClassFile.FieldType.int)) ∈ zTB := zm _ 406 (by decide +kernel) rfl
theorem zw_354 : (Jvm.Cond.methodLink "PierYears$Tape" (61 : Nat) ({ cls := "PierYears$Tape", name := "fail", desc := "(I)Z" } : Jvm.MethodName)) ∈ zTB := zm _ 407 (by decide +kernel) rfl
theorem zw_356 : (Jvm.Cond.instanceMethod ({ cls := "PierYears$Tape", name := "fail", desc := "(I)Z" } : Jvm.MethodName)) ∈ zTB := zm _ 409 (by decide +kernel) rfl
theorem zw_357 : (Jvm.Cond.code ({ cls := "PierYears$Tape", name := "fail", desc := "(I)Z" } : Jvm.MethodName) prog_11_method_13_code (2 : Nat) (Option.some Jvm.ClassFile.FieldType.boolean)) ∈ zTB := zm _ 410 (by decide +kernel) rfl
theorem zw_358 : (Jvm.Cond.fieldLink "PierYears$Tape" (37 : Nat) "PierYears$Tape" "LEAST_OF_LAW" "[I") ∈ zTB := zm _ 411 (by decide +kernel) rfl
theorem zw_360 : (Jvm.Cond.fieldLink "PierYears$Tape" (40 : Nat) "PierYears$Tape" "MOST_OF_LAW" "[I") ∈ zTB := zm _ 413 (by decide +kernel) rfl
theorem zw_362 : (Jvm.Cond.methodLink "PierYears$Tape" (43 : Nat) ({ cls := "PierYears$Tape", name := "readNumbers", desc := "([I[I)Z" } : Jvm.MethodName)) ∈ zTB := zm _ 415 (by decide +kernel) rfl
theorem zw_364 : (Jvm.Cond.instanceMethod ({ cls := "PierYears$Tape", name := "readNumbers", desc := "([I[I)Z" } : Jvm.MethodName)) ∈ zTB := zm _ 417 (by decide +kernel) rfl
theorem zw_365 : (Jvm.Cond.code ({ cls := "PierYears$Tape", name := "readNumbers", desc := "([I[I)Z" } : Jvm.MethodName) prog_11_method_10_code (5 : Nat) (Option.some Jvm.ClassFile.FieldType.boolean)) ∈ zTB := zm _ 418 (by decide +kernel) rfl
theorem zw_366 : (Jvm.Cond.methodLink "PierYears$Tape" (74 : Nat) ({ cls := "PierYears$Tape", name := "readNumber", desc := "(III)Z" } : Jvm.MethodName)) ∈ zTB := zm _ 419 (by decide +kernel) rfl
theorem zw_368 : (Jvm.Cond.instanceMethod ({ cls := "PierYears$Tape", name := "readNumber", desc := "(III)Z" } : Jvm.MethodName)) ∈ zTB := zm _ 421 (by decide +kernel) rfl
theorem zw_369 : (Jvm.Cond.code ({ cls := "PierYears$Tape", name := "readNumber", desc := "(III)Z" } : Jvm.MethodName) prog_11_method_11_code (7 : Nat) (Option.some Jvm.ClassFile.FieldType.boolean)) ∈ zTB := zm _ 422 (by decide +kernel) rfl
theorem zw_370 : (Jvm.Cond.methodLink "PierYears$Tape" (78 : Nat) ({ cls := "PierYears$Tape", name := "isFigure", desc := "(I)Z" } : Jvm.MethodName)) ∈ zTB := zm _ 423 (by decide +kernel) rfl
theorem zw_371 : (Jvm.Cond.static ({ cls := "PierYears$Tape", name := "isFigure", desc := "(I)Z" } : Jvm.MethodName)) ∈ zTB := zm _ 424 (by decide +kernel) rfl
theorem zw_372 : (Jvm.Cond.code ({ cls := "PierYears$Tape", name := "isFigure", desc := "(I)Z" } : Jvm.MethodName) prog_11_method_15_code (1 : Nat) (Option.some Jvm.ClassFile.FieldType.boolean)) ∈ zTB := zm _ 425 (by decide +kernel) rfl
theorem zw_373 : (Jvm.Cond.methodLink "PierYears$Tape" (47 : Nat) ({ cls := "PierYears$Coast", name := "begin", desc := "(IIIII)V" } : Jvm.MethodName)) ∈ zTB := zm _ 426 (by decide +kernel) rfl
theorem zw_374 : (Jvm.Cond.instanceMethod ({ cls := "PierYears$Coast", name := "begin", desc := "(IIIII)V" } : Jvm.MethodName)) ∈ zTB := zm _ 427 (by decide +kernel) rfl
theorem zw_375 : (Jvm.Cond.selects "PierYears$Coast" ({ cls := "PierYears$Coast", name := "begin", desc := "(IIIII)V" } : Jvm.MethodName) ({ cls := "PierYears$Coast", name := "begin", desc := "(IIIII)V" } : Jvm.MethodName)) ∈ zTB := zm _ 428 (by decide +kernel) rfl
theorem zw_376 : (Jvm.Cond.code ({ cls := "PierYears$Coast", name := "begin", desc := "(IIIII)V" } : Jvm.MethodName) prog_4_method_2_code (6 : Nat) (Option.none : Option Jvm.ClassFile.FieldType)) ∈ zTB := zm _ 429 (by decide +kernel) rfl
theorem zw_377 : (Jvm.Cond.methodLink "PierYears$Tape" (30 : Nat) ({ cls := "PierYears$Tape", name := "readPiers", desc := "(LPierYears$Coast;)Z" } : Jvm.MethodName)) ∈ zTB := zm _ 430 (by decide +kernel) rfl
theorem zw_379 : (Jvm.Cond.instanceMethod ({ cls := "PierYears$Tape", name := "readPiers", desc := "(LPierYears$Coast;)Z" } : Jvm.MethodName)) ∈ zTB := zm _ 432 (by decide +kernel) rfl
theorem zw_380 : (Jvm.Cond.code ({ cls := "PierYears$Tape", name := "readPiers", desc := "(LPierYears$Coast;)Z" } : Jvm.MethodName) prog_11_method_9_code (4 : Nat) (Option.some Jvm.ClassFile.FieldType.boolean)) ∈ zTB := zm _ 433 (by decide +kernel) rfl
theorem zw_381 : (Jvm.Cond.methodLink "PierYears$Tape" (57 : Nat) ({ cls := "PierYears$Tape", name := "kindOfLetter", desc := "(I)I" } : Jvm.MethodName)) ∈ zTB := zm _ 434 (by decide +kernel) rfl
theorem zw_382 : (Jvm.Cond.static ({ cls := "PierYears$Tape", name := "kindOfLetter", desc := "(I)I" } : Jvm.MethodName)) ∈ zTB := zm _ 435 (by decide +kernel) rfl
theorem zw_383 : (Jvm.Cond.code ({ cls := "PierYears$Tape", name := "kindOfLetter", desc := "(I)I" } : Jvm.MethodName) prog_11_method_16_code (1 : Nat) (Option.some Jvm.ClassFile.FieldType.int)) ∈ zTB := zm _ 436 (by decide +kernel) rfl
theorem zw_384 : (Jvm.Cond.fieldLink "PierYears$Tape" (64 : Nat) "PierYears$Tape" "LEAST_OF_PIER" "[I") ∈ zTB := zm _ 437 (by decide +kernel) rfl
theorem zw_386 : (Jvm.Cond.fieldLink "PierYears$Tape" (67 : Nat) "PierYears$Tape" "MOST_OF_PIER" "[I") ∈ zTB := zm _ 439 (by decide +kernel) rfl
theorem zw_388 : (Jvm.Cond.methodLink "PierYears$Tape" (70 : Nat) ({ cls := "PierYears$Coast", name := "addPier", desc := "(IIII)V" } : Jvm.MethodName)) ∈ zTB := zm _ 441 (by decide +kernel) rfl
theorem zw_389 : (Jvm.Cond.instanceMethod ({ cls := "PierYears$Coast", name := "addPier", desc := "(IIII)V" } : Jvm.MethodName)) ∈ zTB := zm _ 442 (by decide +kernel) rfl
theorem zw_390 : (Jvm.Cond.selects "PierYears$Coast" ({ cls := "PierYears$Coast", name := "addPier", desc := "(IIII)V" } : Jvm.MethodName) ({ cls := "PierYears$Coast", name := "addPier", desc := "(IIII)V" } : Jvm.MethodName)) ∈ zTB := zm _ 443 (by decide +kernel) rfl
theorem zw_391 : (Jvm.Cond.code ({ cls := "PierYears$Coast", name := "addPier", desc := "(IIII)V" } : Jvm.MethodName) prog_4_method_3_code (5 : Nat) (Option.none : Option Jvm.ClassFile.FieldType)) ∈ zTB := zm _ 444 (by decide +kernel) rfl
theorem zw_392 : (Jvm.Cond.methodLink "PierYears" (158 : Nat) ({ cls := "PierYears$Tape", name := "faultNumber", desc := "()I" } : Jvm.MethodName)) ∈ zTB := zm _ 445 (by decide +kernel) rfl
theorem zw_393 : (Jvm.Cond.instanceMethod ({ cls := "PierYears$Tape", name := "faultNumber", desc := "()I" } : Jvm.MethodName)) ∈ zTB := zm _ 446 (by decide +kernel) rfl
theorem zw_394 : (Jvm.Cond.selects "PierYears$Tape" ({ cls := "PierYears$Tape", name := "faultNumber", desc := "()I" } : Jvm.MethodName) ({ cls := "PierYears$Tape", name := "faultNumber", desc := "()I" } : Jvm.MethodName)) ∈ zTB := zm _ 447 (by decide +kernel) rfl
theorem zw_395 : (Jvm.Cond.code ({ cls := "PierYears$Tape", name := "faultNumber", desc := "()I" } : Jvm.MethodName) prog_11_method_5_code (1 : Nat) (Option.some Jvm.ClassFile.FieldType.int)) ∈ zTB := zm _ 448 (by decide +kernel) rfl
theorem zw_396 : (Jvm.Cond.constant "PierYears" (162 : Nat) (-1000100 : Int32)) ∈ zTB := zm _ 449 (by decide +kernel) rfl
theorem zw_397 : (Jvm.Cond.methodLink "PierYears" (163 : Nat) ({ cls := "PierYears$Tape", name := "faultPlace", desc := "()I" } : Jvm.MethodName)) ∈ zTB := zm _ 450 (by decide +kernel) rfl
theorem zw_398 : (Jvm.Cond.instanceMethod ({ cls := "PierYears$Tape", name := "faultPlace", desc := "()I" } : Jvm.MethodName)) ∈ zTB := zm _ 451 (by decide +kernel) rfl
theorem zw_399 : (Jvm.Cond.selects "PierYears$Tape" ({ cls := "PierYears$Tape", name := "faultPlace", desc := "()I" } : Jvm.MethodName) ({ cls := "PierYears$Tape", name := "faultPlace", desc := "()I" } : Jvm.MethodName)) ∈ zTB := zm _ 452 (by decide +kernel) rfl
theorem zw_400 : (Jvm.Cond.code ({ cls := "PierYears$Tape", name := "faultPlace", desc := "()I" } : Jvm.MethodName) prog_11_method_6_code (1 : Nat) (Option.some Jvm.ClassFile.FieldType.int)) ∈ zTB := zm _ 453 (by decide +kernel) rfl
theorem zw_401 : (Jvm.Cond.methodLink "PierYears" (166 : Nat) ({ cls := "PierYears$Coast", name := "become", desc := "(LPierYears$Coast;)V" } : Jvm.MethodName)) ∈ zTB := zm _ 454 (by decide +kernel) rfl
theorem zw_402 : (Jvm.Cond.instanceMethod ({ cls := "PierYears$Coast", name := "become", desc := "(LPierYears$Coast;)V" } : Jvm.MethodName)) ∈ zTB := zm _ 455 (by decide +kernel) rfl
theorem zw_403 : (Jvm.Cond.selects "PierYears$Coast" ({ cls := "PierYears$Coast", name := "become", desc := "(LPierYears$Coast;)V" } : Jvm.MethodName) ({ cls := "PierYears$Coast", name := "become", desc := "(LPierYears$Coast;)V" } : Jvm.MethodName)) ∈ zTB := zm _ 456 (by decide +kernel) rfl
theorem zw_404 : (Jvm.Cond.code ({ cls := "PierYears$Coast", name := "become", desc := "(LPierYears$Coast;)V" } : Jvm.MethodName) prog_4_method_4_code (3 : Nat) (Option.none : Option Jvm.ClassFile.FieldType)) ∈ zTB := zm _ 457 (by decide +kernel) rfl
theorem zw_405 : (Jvm.Cond.methodLink "PierYears" (170 : Nat) ({ cls := "PierYears$Past", name := "forgetAll", desc := "()V" } : Jvm.MethodName)) ∈ zTB := zm _ 458 (by decide +kernel) rfl
theorem zw_406 : (Jvm.Cond.instanceMethod ({ cls := "PierYears$Past", name := "forgetAll", desc := "()V" } : Jvm.MethodName)) ∈ zTB := zm _ 459 (by decide +kernel) rfl
theorem zw_407 : (Jvm.Cond.selects "PierYears$Past" ({ cls := "PierYears$Past", name := "forgetAll", desc := "()V" } : Jvm.MethodName) ({ cls := "PierYears$Past", name := "forgetAll", desc := "()V" } : Jvm.MethodName)) ∈ zTB := zm _ 460 (by decide +kernel) rfl
theorem zw_408 : (Jvm.Cond.code ({ cls := "PierYears$Past", name := "forgetAll", desc := "()V" } : Jvm.MethodName) prog_6_method_3_code (1 : Nat) (Option.none : Option Jvm.ClassFile.FieldType)) ∈ zTB := zm _ 461 (by decide +kernel) rfl
theorem zw_409 : (Jvm.Cond.methodLink "PierYearsLaw" (41 : Nat) ({ cls := "PierYears", name := "fault", desc := "()I" } : Jvm.MethodName)) ∈ zTB := zm _ 462 (by decide +kernel) rfl
theorem zw_410 : (Jvm.Cond.instanceMethod ({ cls := "PierYears", name := "fault", desc := "()I" } : Jvm.MethodName)) ∈ zTB := zm _ 463 (by decide +kernel) rfl
theorem zw_411 : (Jvm.Cond.selects "PierYears" ({ cls := "PierYears", name := "fault", desc := "()I" } : Jvm.MethodName) ({ cls := "PierYears", name := "fault", desc := "()I" } : Jvm.MethodName)) ∈ zTB := zm _ 464 (by decide +kernel) rfl
theorem zw_412 : (Jvm.Cond.code ({ cls := "PierYears", name := "fault", desc := "()I" } : Jvm.MethodName) prog_1_method_8_code (1 : Nat) (Option.some Jvm.ClassFile.FieldType.int)) ∈ zTB := zm _ 465 (by decide +kernel) rfl
theorem zw_413 : (Jvm.Cond.methodLink "PierYearsLaw" (45 : Nat) ({ cls := "PierYears", name := "seasons", desc := "(I)I" } : Jvm.MethodName)) ∈ zTB := zm _ 466 (by decide +kernel) rfl
theorem zw_414 : (Jvm.Cond.instanceMethod ({ cls := "PierYears", name := "seasons", desc := "(I)I" } : Jvm.MethodName)) ∈ zTB := zm _ 467 (by decide +kernel) rfl
theorem zw_415 : (Jvm.Cond.selects "PierYears" ({ cls := "PierYears", name := "seasons", desc := "(I)I" } : Jvm.MethodName) ({ cls := "PierYears", name := "seasons", desc := "(I)I" } : Jvm.MethodName)) ∈ zTB := zm _ 468 (by decide +kernel) rfl
theorem zw_416 : (Jvm.Cond.code ({ cls := "PierYears", name := "seasons", desc := "(I)I" } : Jvm.MethodName) prog_1_method_9_code (3 : Nat) (Option.some Jvm.ClassFile.FieldType.int)) ∈ zTB := zm _ 469 (by decide +kernel) rfl
theorem zw_417 : (Jvm.Cond.constant "PierYears" (180 : Nat) (-1000002 : Int32)) ∈ zTB := zm _ 470 (by decide +kernel) rfl
theorem zw_418 : (Jvm.Cond.methodLink "PierYears" (184 : Nat) ({ cls := "PierYears$Past", name := "keep", desc := "(LPierYears$Coast;)V" } : Jvm.MethodName)) ∈ zTB := zm _ 471 (by decide +kernel) rfl
theorem zw_419 : (Jvm.Cond.instanceMethod ({ cls := "PierYears$Past", name := "keep", desc := "(LPierYears$Coast;)V" } : Jvm.MethodName)) ∈ zTB := zm _ 472 (by decide +kernel) rfl
theorem zw_420 : (Jvm.Cond.selects "PierYears$Past" ({ cls := "PierYears$Past", name := "keep", desc := "(LPierYears$Coast;)V" } : Jvm.MethodName) ({ cls := "PierYears$Past", name := "keep", desc := "(LPierYears$Coast;)V" } : Jvm.MethodName)) ∈ zTB := zm _ 473 (by decide +kernel) rfl
theorem zw_421 : (Jvm.Cond.code ({ cls := "PierYears$Past", name := "keep", desc := "(LPierYears$Coast;)V" } : Jvm.MethodName) prog_6_method_4_code (4 : Nat) (Option.none : Option Jvm.ClassFile.FieldType)) ∈ zTB := zm _ 474 (by decide +kernel) rfl
theorem zw_422 : (Jvm.Cond.methodLink "PierYears$Past" (40 : Nat) ({ cls := "java/lang/Math", name := "min", desc := "(II)I" } : Jvm.MethodName)) ∈ zTB := zm _ 475 (by decide +kernel) rfl
theorem zw_423 : (Jvm.Cond.static ({ cls := "java/lang/Math", name := "min", desc := "(II)I" } : Jvm.MethodName)) ∈ zTB := zm _ 476 (by decide +kernel) rfl
theorem zw_424 : (Jvm.Cond.code ({ cls := "java/lang/Math", name := "min", desc := "(II)I" } : Jvm.MethodName) prog_15_method_69_code (2 : Nat) (Option.some Jvm.ClassFile.FieldType.int)) ∈ zTB := zm _ 477 (by decide +kernel) rfl
theorem zw_425 : (Jvm.Cond.methodLink "PierYears" (187 : Nat) ({ cls := "PierYears$Coast", name := "storm", desc := "()I" } : Jvm.MethodName)) ∈ zTB := zm _ 478 (by decide +kernel) rfl
theorem zw_426 : (Jvm.Cond.instanceMethod ({ cls := "PierYears$Coast", name := "storm", desc := "()I" } : Jvm.MethodName)) ∈ zTB := zm _ 479 (by decide +kernel) rfl
theorem zw_427 : (Jvm.Cond.selects "PierYears$Coast" ({ cls := "PierYears$Coast", name := "storm", desc := "()I" } : Jvm.MethodName) ({ cls := "PierYears$Coast", name := "storm", desc := "()I" } : Jvm.MethodName)) ∈ zTB := zm _ 480 (by decide +kernel) rfl
theorem zw_428 : (Jvm.Cond.code ({ cls := "PierYears$Coast", name := "storm", desc := "()I" } : Jvm.MethodName) prog_4_method_11_code (1 : Nat) (Option.some Jvm.ClassFile.FieldType.int)) ∈ zTB := zm _ 481 (by decide +kernel) rfl
theorem zw_429 : (Jvm.Cond.methodLink "PierYears$Coast" (66 : Nat) ({ cls := "PierYears$Coast", name := "stormOf", desc := "(I)I" } : Jvm.MethodName)) ∈ zTB := zm _ 482 (by decide +kernel) rfl
theorem zw_431 : (Jvm.Cond.instanceMethod ({ cls := "PierYears$Coast", name := "stormOf", desc := "(I)I" } : Jvm.MethodName)) ∈ zTB := zm _ 484 (by decide +kernel) rfl
theorem zw_432 : (Jvm.Cond.code ({ cls := "PierYears$Coast", name := "stormOf", desc := "(I)I" } : Jvm.MethodName) prog_4_method_12_code (2 : Nat) (Option.some Jvm.ClassFile.FieldType.int)) ∈ zTB := zm _ 485 (by decide +kernel) rfl
theorem zw_433 : (Jvm.Cond.methodLink "PierYears" (190 : Nat) ({ cls := "PierYears$Coast", name := "pass", desc := "(I)V" } : Jvm.MethodName)) ∈ zTB := zm _ 486 (by decide +kernel) rfl
theorem zw_434 : (Jvm.Cond.instanceMethod ({ cls := "PierYears$Coast", name := "pass", desc := "(I)V" } : Jvm.MethodName)) ∈ zTB := zm _ 487 (by decide +kernel) rfl
theorem zw_435 : (Jvm.Cond.selects "PierYears$Coast" ({ cls := "PierYears$Coast", name := "pass", desc := "(I)V" } : Jvm.MethodName) ({ cls := "PierYears$Coast", name := "pass", desc := "(I)V" } : Jvm.MethodName)) ∈ zTB := zm _ 488 (by decide +kernel) rfl
theorem zw_436 : (Jvm.Cond.code ({ cls := "PierYears$Coast", name := "pass", desc := "(I)V" } : Jvm.MethodName) prog_4_method_15_code (3 : Nat) (Option.none : Option Jvm.ClassFile.FieldType)) ∈ zTB := zm _ 489 (by decide +kernel) rfl
theorem zw_437 : (Jvm.Cond.methodLink "PierYears$Coast" (77 : Nat) ({ cls := "PierYears$Coast", name := "takeTogether", desc := "()I" } : Jvm.MethodName)) ∈ zTB := zm _ 490 (by decide +kernel) rfl
theorem zw_438 : (Jvm.Cond.instanceMethod ({ cls := "PierYears$Coast", name := "takeTogether", desc := "()I" } : Jvm.MethodName)) ∈ zTB := zm _ 491 (by decide +kernel) rfl
theorem zw_439 : (Jvm.Cond.selects "PierYears$Coast" ({ cls := "PierYears$Coast", name := "takeTogether", desc := "()I" } : Jvm.MethodName) ({ cls := "PierYears$Coast", name := "takeTogether", desc := "()I" } : Jvm.MethodName)) ∈ zTB := zm _ 492 (by decide +kernel) rfl
theorem zw_440 : (Jvm.Cond.code ({ cls := "PierYears$Coast", name := "takeTogether", desc := "()I" } : Jvm.MethodName) prog_4_method_10_code (3 : Nat) (Option.some Jvm.ClassFile.FieldType.int)) ∈ zTB := zm _ 493 (by decide +kernel) rfl
theorem zw_441 : (Jvm.Cond.methodLink "PierYears$Coast" (63 : Nat) ({ cls := "PierYears$Coast", name := "takeOf", desc := "(I)I" } : Jvm.MethodName)) ∈ zTB := zm _ 494 (by decide +kernel) rfl
theorem zw_442 : (Jvm.Cond.instanceMethod ({ cls := "PierYears$Coast", name := "takeOf", desc := "(I)I" } : Jvm.MethodName)) ∈ zTB := zm _ 495 (by decide +kernel) rfl
theorem zw_443 : (Jvm.Cond.selects "PierYears$Coast" ({ cls := "PierYears$Coast", name := "takeOf", desc := "(I)I" } : Jvm.MethodName) ({ cls := "PierYears$Coast", name := "takeOf", desc := "(I)I" } : Jvm.MethodName)) ∈ zTB := zm _ 496 (by decide +kernel) rfl
theorem zw_444 : (Jvm.Cond.code ({ cls := "PierYears$Coast", name := "takeOf", desc := "(I)I" } : Jvm.MethodName) prog_4_method_9_code (2 : Nat) (Option.some Jvm.ClassFile.FieldType.int)) ∈ zTB := zm _ 497 (by decide +kernel) rfl
theorem zw_445 : (Jvm.Cond.methodLink "PierYears$Coast" (55 : Nat) ({ cls := "PierYears$Coast", name := "endOf", desc := "(I)I" } : Jvm.MethodName)) ∈ zTB := zm _ 498 (by decide +kernel) rfl
theorem zw_446 : (Jvm.Cond.instanceMethod ({ cls := "PierYears$Coast", name := "endOf", desc := "(I)I" } : Jvm.MethodName)) ∈ zTB := zm _ 499 (by decide +kernel) rfl
theorem zw_447 : (Jvm.Cond.selects "PierYears$Coast" ({ cls := "PierYears$Coast", name := "endOf", desc := "(I)I" } : Jvm.MethodName) ({ cls := "PierYears$Coast", name := "endOf", desc := "(I)I" } : Jvm.MethodName)) ∈ zTB := zm _ 500 (by decide +kernel) rfl
theorem zw_448 : (Jvm.Cond.code ({ cls := "PierYears$Coast", name := "endOf", desc := "(I)I" } : Jvm.MethodName) prog_4_method_7_code (2 : Nat) (Option.some Jvm.ClassFile.FieldType.int)) ∈ zTB := zm _ 501 (by decide +kernel) rfl
theorem zw_449 : (Jvm.Cond.methodLink "PierYears$Coast" (51 : Nat) ({ cls := "PierYears$Coast", name := "placeFrom", desc := "(III)I" } : Jvm.MethodName)) ∈ zTB := zm _ 502 (by decide +kernel) rfl
theorem zw_450 : (Jvm.Cond.static ({ cls := "PierYears$Coast", name := "placeFrom", desc := "(III)I" } : Jvm.MethodName)) ∈ zTB := zm _ 503 (by decide +kernel) rfl
theorem zw_451 : (Jvm.Cond.code ({ cls := "PierYears$Coast", name := "placeFrom", desc := "(III)I" } : Jvm.MethodName) prog_4_method_6_code (3 : Nat) (Option.some Jvm.ClassFile.FieldType.int)) ∈ zTB := zm _ 504 (by decide +kernel) rfl
theorem zw_452 : (Jvm.Cond.methodLink "PierYears$Coast" (59 : Nat) ({ cls := "PierYears$Coast", name := "takeAt", desc := "(II)I" } : Jvm.MethodName)) ∈ zTB := zm _ 505 (by decide +kernel) rfl
theorem zw_453 : (Jvm.Cond.instanceMethod ({ cls := "PierYears$Coast", name := "takeAt", desc := "(II)I" } : Jvm.MethodName)) ∈ zTB := zm _ 506 (by decide +kernel) rfl
theorem zw_454 : (Jvm.Cond.selects "PierYears$Coast" ({ cls := "PierYears$Coast", name := "takeAt", desc := "(II)I" } : Jvm.MethodName) ({ cls := "PierYears$Coast", name := "takeAt", desc := "(II)I" } : Jvm.MethodName)) ∈ zTB := zm _ 507 (by decide +kernel) rfl
theorem zw_455 : (Jvm.Cond.code ({ cls := "PierYears$Coast", name := "takeAt", desc := "(II)I" } : Jvm.MethodName) prog_4_method_8_code (3 : Nat) (Option.some Jvm.ClassFile.FieldType.int)) ∈ zTB := zm _ 508 (by decide +kernel) rfl
theorem zw_456 : (Jvm.Cond.methodLink "PierYears$Coast" (72 : Nat) ({ cls := "java/lang/Math", name := "min", desc := "(II)I" } : Jvm.MethodName)) ∈ zTB := zm _ 509 (by decide +kernel) rfl
theorem zw_457 : (Jvm.Cond.methodLink "PierYears$Coast" (81 : Nat) ({ cls := "PierYears$Coast", name := "lossOf", desc := "(II)I" } : Jvm.MethodName)) ∈ zTB := zm _ 510 (by decide +kernel) rfl
theorem zw_458 : (Jvm.Cond.instanceMethod ({ cls := "PierYears$Coast", name := "lossOf", desc := "(II)I" } : Jvm.MethodName)) ∈ zTB := zm _ 511 (by decide +kernel) rfl
theorem zw_459 : (Jvm.Cond.selects "PierYears$Coast" ({ cls := "PierYears$Coast", name := "lossOf", desc := "(II)I" } : Jvm.MethodName) ({ cls := "PierYears$Coast", name := "lossOf", desc := "(II)I" } : Jvm.MethodName)) ∈ zTB := zm _ 512 (by decide +kernel) rfl
theorem zw_460 : (Jvm.Cond.code ({ cls := "PierYears$Coast", name := "lossOf", desc := "(II)I" } : Jvm.MethodName) prog_4_method_14_code (3 : Nat) (Option.some Jvm.ClassFile.FieldType.int)) ∈ zTB := zm _ 513 (by decide +kernel) rfl
theorem zw_461 : (Jvm.Cond.methodLink "PierYears$Coast" (69 : Nat) ({ cls := "PierYears$Coast", name := "lossOfKind", desc := "(III)I" } : Jvm.MethodName)) ∈ zTB := zm _ 514 (by decide +kernel) rfl
theorem zw_462 : (Jvm.Cond.static ({ cls := "PierYears$Coast", name := "lossOfKind", desc := "(III)I" } : Jvm.MethodName)) ∈ zTB := zm _ 515 (by decide +kernel) rfl
theorem zw_463 : (Jvm.Cond.code ({ cls := "PierYears$Coast", name := "lossOfKind", desc := "(III)I" } : Jvm.MethodName) prog_4_method_13_code (3 : Nat) (Option.some Jvm.ClassFile.FieldType.int)) ∈ zTB := zm _ 516 (by decide +kernel) rfl
theorem zw_464 : (Jvm.Cond.methodLink "PierYearsLaw" (49 : Nat) ({ cls := "PierYears", name := "build", desc := "(I)I" } : Jvm.MethodName)) ∈ zTB := zm _ 517 (by decide +kernel) rfl
theorem zw_465 : (Jvm.Cond.instanceMethod ({ cls := "PierYears", name := "build", desc := "(I)I" } : Jvm.MethodName)) ∈ zTB := zm _ 518 (by decide +kernel) rfl
theorem zw_466 : (Jvm.Cond.selects "PierYears" ({ cls := "PierYears", name := "build", desc := "(I)I" } : Jvm.MethodName) ({ cls := "PierYears", name := "build", desc := "(I)I" } : Jvm.MethodName)) ∈ zTB := zm _ 519 (by decide +kernel) rfl
theorem zw_467 : (Jvm.Cond.code ({ cls := "PierYears", name := "build", desc := "(I)I" } : Jvm.MethodName) prog_1_method_10_code (2 : Nat) (Option.some Jvm.ClassFile.FieldType.int)) ∈ zTB := zm _ 520 (by decide +kernel) rfl
theorem zw_468 : (Jvm.Cond.methodLink "PierYears" (197 : Nat) ({ cls := "PierYears", name := "isPier", desc := "(I)Z" } : Jvm.MethodName)) ∈ zTB := zm _ 521 (by decide +kernel) rfl
theorem zw_470 : (Jvm.Cond.instanceMethod ({ cls := "PierYears", name := "isPier", desc := "(I)Z" } : Jvm.MethodName)) ∈ zTB := zm _ 523 (by decide +kernel) rfl
theorem zw_471 : (Jvm.Cond.code ({ cls := "PierYears", name := "isPier", desc := "(I)Z" } : Jvm.MethodName) prog_1_method_38_code (2 : Nat) (Option.some Jvm.ClassFile.FieldType.boolean)) ∈ zTB := zm _ 524 (by decide +kernel) rfl
theorem zw_472 : (Jvm.Cond.methodLink "PierYears" (206 : Nat) ({ cls := "PierYears$Coast", name := "buildSpan", desc := "(I)V" } : Jvm.MethodName)) ∈ zTB := zm _ 525 (by decide +kernel) rfl
theorem zw_473 : (Jvm.Cond.instanceMethod ({ cls := "PierYears$Coast", name := "buildSpan", desc := "(I)V" } : Jvm.MethodName)) ∈ zTB := zm _ 526 (by decide +kernel) rfl
theorem zw_474 : (Jvm.Cond.selects "PierYears$Coast" ({ cls := "PierYears$Coast", name := "buildSpan", desc := "(I)V" } : Jvm.MethodName) ({ cls := "PierYears$Coast", name := "buildSpan", desc := "(I)V" } : Jvm.MethodName)) ∈ zTB := zm _ 527 (by decide +kernel) rfl
theorem zw_475 : (Jvm.Cond.code ({ cls := "PierYears$Coast", name := "buildSpan", desc := "(I)V" } : Jvm.MethodName) prog_4_method_18_code (2 : Nat) (Option.none : Option Jvm.ClassFile.FieldType)) ∈ zTB := zm _ 528 (by decide +kernel) rfl
theorem zw_476 : (Jvm.Cond.methodLink "PierYearsLaw" (53 : Nat) ({ cls := "PierYears", name := "turn", desc := "(II)I" } : Jvm.MethodName)) ∈ zTB := zm _ 529 (by decide +kernel) rfl
theorem zw_477 : (Jvm.Cond.instanceMethod ({ cls := "PierYears", name := "turn", desc := "(II)I" } : Jvm.MethodName)) ∈ zTB := zm _ 530 (by decide +kernel) rfl
theorem zw_478 : (Jvm.Cond.selects "PierYears" ({ cls := "PierYears", name := "turn", desc := "(II)I" } : Jvm.MethodName) ({ cls := "PierYears", name := "turn", desc := "(II)I" } : Jvm.MethodName)) ∈ zTB := zm _ 531 (by decide +kernel) rfl
theorem zw_479 : (Jvm.Cond.code ({ cls := "PierYears", name := "turn", desc := "(II)I" } : Jvm.MethodName) prog_1_method_11_code (4 : Nat) (Option.some Jvm.ClassFile.FieldType.int)) ∈ zTB := zm _ 532 (by decide +kernel) rfl
theorem zw_480 : (Jvm.Cond.methodLink "PierYearsLaw" (58 : Nat) ({ cls := "PierYears", name := "buy", desc := "(I)I" } : Jvm.MethodName)) ∈ zTB := zm _ 533 (by decide +kernel) rfl
theorem zw_481 : (Jvm.Cond.instanceMethod ({ cls := "PierYears", name := "buy", desc := "(I)I" } : Jvm.MethodName)) ∈ zTB := zm _ 534 (by decide +kernel) rfl
theorem zw_482 : (Jvm.Cond.selects "PierYears" ({ cls := "PierYears", name := "buy", desc := "(I)I" } : Jvm.MethodName) ({ cls := "PierYears", name := "buy", desc := "(I)I" } : Jvm.MethodName)) ∈ zTB := zm _ 535 (by decide +kernel) rfl
theorem zw_483 : (Jvm.Cond.code ({ cls := "PierYears", name := "buy", desc := "(I)I" } : Jvm.MethodName) prog_1_method_12_code (2 : Nat) (Option.some Jvm.ClassFile.FieldType.int)) ∈ zTB := zm _ 536 (by decide +kernel) rfl
theorem zw_484 : (Jvm.Cond.methodLink "PierYearsLaw" (62 : Nat) ({ cls := "PierYears", name := "undo", desc := "()I" } : Jvm.MethodName)) ∈ zTB := zm _ 537 (by decide +kernel) rfl
theorem zw_485 : (Jvm.Cond.instanceMethod ({ cls := "PierYears", name := "undo", desc := "()I" } : Jvm.MethodName)) ∈ zTB := zm _ 538 (by decide +kernel) rfl
theorem zw_486 : (Jvm.Cond.selects "PierYears" ({ cls := "PierYears", name := "undo", desc := "()I" } : Jvm.MethodName) ({ cls := "PierYears", name := "undo", desc := "()I" } : Jvm.MethodName)) ∈ zTB := zm _ 539 (by decide +kernel) rfl
theorem zw_487 : (Jvm.Cond.code ({ cls := "PierYears", name := "undo", desc := "()I" } : Jvm.MethodName) prog_1_method_13_code (1 : Nat) (Option.some Jvm.ClassFile.FieldType.int)) ∈ zTB := zm _ 540 (by decide +kernel) rfl
theorem zw_488 : (Jvm.Cond.methodLink "PierYears" (212 : Nat) ({ cls := "PierYears$Past", name := "size", desc := "()I" } : Jvm.MethodName)) ∈ zTB := zm _ 541 (by decide +kernel) rfl
theorem zw_489 : (Jvm.Cond.instanceMethod ({ cls := "PierYears$Past", name := "size", desc := "()I" } : Jvm.MethodName)) ∈ zTB := zm _ 542 (by decide +kernel) rfl
theorem zw_490 : (Jvm.Cond.selects "PierYears$Past" ({ cls := "PierYears$Past", name := "size", desc := "()I" } : Jvm.MethodName) ({ cls := "PierYears$Past", name := "size", desc := "()I" } : Jvm.MethodName)) ∈ zTB := zm _ 543 (by decide +kernel) rfl
theorem zw_491 : (Jvm.Cond.code ({ cls := "PierYears$Past", name := "size", desc := "()I" } : Jvm.MethodName) prog_6_method_2_code (1 : Nat) (Option.some Jvm.ClassFile.FieldType.int)) ∈ zTB := zm _ 544 (by decide +kernel) rfl
theorem zw_492 : (Jvm.Cond.methodLink "PierYears" (215 : Nat) ({ cls := "PierYears$Past", name := "bringBack", desc := "(LPierYears$Coast;)V" } : Jvm.MethodName)) ∈ zTB := zm _ 545 (by decide +kernel) rfl
theorem zw_493 : (Jvm.Cond.instanceMethod ({ cls := "PierYears$Past", name := "bringBack", desc := "(LPierYears$Coast;)V" } : Jvm.MethodName)) ∈ zTB := zm _ 546 (by decide +kernel) rfl
theorem zw_494 : (Jvm.Cond.selects "PierYears$Past" ({ cls := "PierYears$Past", name := "bringBack", desc := "(LPierYears$Coast;)V" } : Jvm.MethodName) ({ cls := "PierYears$Past", name := "bringBack", desc := "(LPierYears$Coast;)V" } : Jvm.MethodName)) ∈ zTB := zm _ 547 (by decide +kernel) rfl
theorem zw_495 : (Jvm.Cond.code ({ cls := "PierYears$Past", name := "bringBack", desc := "(LPierYears$Coast;)V" } : Jvm.MethodName) prog_6_method_5_code (4 : Nat) (Option.none : Option Jvm.ClassFile.FieldType)) ∈ zTB := zm _ 548 (by decide +kernel) rfl
theorem zw_496 : (Jvm.Cond.methodLink "PierYearsLaw" (66 : Nat) ({ cls := "PierYears", name := "pier", desc := "(II)I" } : Jvm.MethodName)) ∈ zTB := zm _ 549 (by decide +kernel) rfl
theorem zw_497 : (Jvm.Cond.instanceMethod ({ cls := "PierYears", name := "pier", desc := "(II)I" } : Jvm.MethodName)) ∈ zTB := zm _ 550 (by decide +kernel) rfl
theorem zw_498 : (Jvm.Cond.selects "PierYears" ({ cls := "PierYears", name := "pier", desc := "(II)I" } : Jvm.MethodName) ({ cls := "PierYears", name := "pier", desc := "(II)I" } : Jvm.MethodName)) ∈ zTB := zm _ 551 (by decide +kernel) rfl
theorem zw_499 : (Jvm.Cond.code ({ cls := "PierYears", name := "pier", desc := "(II)I" } : Jvm.MethodName) prog_1_method_14_code (3 : Nat) (Option.some Jvm.ClassFile.FieldType.int)) ∈ zTB := zm _ 552 (by decide +kernel) rfl
theorem zw_500 : (Jvm.Cond.methodLink "PierYears" (221 : Nat) ({ cls := "PierYears$Coast", name := "endOf", desc := "(I)I" } : Jvm.MethodName)) ∈ zTB := zm _ 553 (by decide +kernel) rfl
theorem zw_501 : (Jvm.Cond.methodLink "PierYears" (224 : Nat) ({ cls := "PierYears$Coast", name := "takeOf", desc := "(I)I" } : Jvm.MethodName)) ∈ zTB := zm _ 554 (by decide +kernel) rfl
theorem zw_502 : (Jvm.Cond.methodLink "PierYears" (227 : Nat) ({ cls := "PierYears$Coast", name := "lossOf", desc := "(II)I" } : Jvm.MethodName)) ∈ zTB := zm _ 555 (by decide +kernel) rfl
theorem zw_503 : (Jvm.Cond.methodLink "PierYearsLaw" (70 : Nat) ({ cls := "PierYears", name := "ahead", desc := "(III)I" } : Jvm.MethodName)) ∈ zTB := zm _ 556 (by decide +kernel) rfl
theorem zw_504 : (Jvm.Cond.instanceMethod ({ cls := "PierYears", name := "ahead", desc := "(III)I" } : Jvm.MethodName)) ∈ zTB := zm _ 557 (by decide +kernel) rfl
theorem zw_505 : (Jvm.Cond.selects "PierYears" ({ cls := "PierYears", name := "ahead", desc := "(III)I" } : Jvm.MethodName) ({ cls := "PierYears", name := "ahead", desc := "(III)I" } : Jvm.MethodName)) ∈ zTB := zm _ 558 (by decide +kernel) rfl
theorem zw_506 : (Jvm.Cond.code ({ cls := "PierYears", name := "ahead", desc := "(III)I" } : Jvm.MethodName) prog_1_method_15_code (4 : Nat) (Option.some Jvm.ClassFile.FieldType.int)) ∈ zTB := zm _ 559 (by decide +kernel) rfl
theorem zw_507 : (Jvm.Cond.methodLink "PierYears" (231 : Nat) ({ cls := "PierYears", name := "isAhead", desc := "(I)Z" } : Jvm.MethodName)) ∈ zTB := zm _ 560 (by decide +kernel) rfl
theorem zw_508 : (Jvm.Cond.static ({ cls := "PierYears", name := "isAhead", desc := "(I)Z" } : Jvm.MethodName)) ∈ zTB := zm _ 561 (by decide +kernel) rfl
theorem zw_509 : (Jvm.Cond.code ({ cls := "PierYears", name := "isAhead", desc := "(I)Z" } : Jvm.MethodName) prog_1_method_37_code (1 : Nat) (Option.some Jvm.ClassFile.FieldType.boolean)) ∈ zTB := zm _ 562 (by decide +kernel) rfl
theorem zw_510 : (Jvm.Cond.methodLink "PierYears" (234 : Nat) ({ cls := "PierYears", name := "foretell", desc := "(I)V" } : Jvm.MethodName)) ∈ zTB := zm _ 563 (by decide +kernel) rfl
theorem zw_512 : (Jvm.Cond.instanceMethod ({ cls := "PierYears", name := "foretell", desc := "(I)V" } : Jvm.MethodName)) ∈ zTB := zm _ 565 (by decide +kernel) rfl
theorem zw_513 : (Jvm.Cond.code ({ cls := "PierYears", name := "foretell", desc := "(I)V" } : Jvm.MethodName) prog_1_method_42_code (2 : Nat) (Option.none : Option Jvm.ClassFile.FieldType)) ∈ zTB := zm _ 566 (by decide +kernel) rfl
theorem zw_514 : (Jvm.Cond.methodLink "PierYears" (347 : Nat) ({ cls := "PierYears$Coast", name := "passAll", desc := "(I)V" } : Jvm.MethodName)) ∈ zTB := zm _ 567 (by decide +kernel) rfl
theorem zw_515 : (Jvm.Cond.instanceMethod ({ cls := "PierYears$Coast", name := "passAll", desc := "(I)V" } : Jvm.MethodName)) ∈ zTB := zm _ 568 (by decide +kernel) rfl
theorem zw_516 : (Jvm.Cond.selects "PierYears$Coast" ({ cls := "PierYears$Coast", name := "passAll", desc := "(I)V" } : Jvm.MethodName) ({ cls := "PierYears$Coast", name := "passAll", desc := "(I)V" } : Jvm.MethodName)) ∈ zTB := zm _ 569 (by decide +kernel) rfl
theorem zw_517 : (Jvm.Cond.code ({ cls := "PierYears$Coast", name := "passAll", desc := "(I)V" } : Jvm.MethodName) prog_4_method_16_code (3 : Nat) (Option.none : Option Jvm.ClassFile.FieldType)) ∈ zTB := zm _ 570 (by decide +kernel) rfl
theorem zw_518 : (Jvm.Cond.methodLink "PierYears$Coast" (84 : Nat) ({ cls := "PierYears$Coast", name := "storm", desc := "()I" } : Jvm.MethodName)) ∈ zTB := zm _ 571 (by decide +kernel) rfl
theorem zw_519 : (Jvm.Cond.methodLink "PierYears$Coast" (87 : Nat) ({ cls := "PierYears$Coast", name := "pass", desc := "(I)V" } : Jvm.MethodName)) ∈ zTB := zm _ 572 (by decide +kernel) rfl
theorem zw_520 : (Jvm.Cond.methodLink "PierYearsLaw" (74 : Nat) ({ cls := "PierYears", name := "purse", desc := "(I)I" } : Jvm.MethodName)) ∈ zTB := zm _ 573 (by decide +kernel) rfl
theorem zw_521 : (Jvm.Cond.instanceMethod ({ cls := "PierYears", name := "purse", desc := "(I)I" } : Jvm.MethodName)) ∈ zTB := zm _ 574 (by decide +kernel) rfl
theorem zw_522 : (Jvm.Cond.selects "PierYears" ({ cls := "PierYears", name := "purse", desc := "(I)I" } : Jvm.MethodName) ({ cls := "PierYears", name := "purse", desc := "(I)I" } : Jvm.MethodName)) ∈ zTB := zm _ 575 (by decide +kernel) rfl
theorem zw_523 : (Jvm.Cond.code ({ cls := "PierYears", name := "purse", desc := "(I)I" } : Jvm.MethodName) prog_1_method_16_code (2 : Nat) (Option.some Jvm.ClassFile.FieldType.int)) ∈ zTB := zm _ 576 (by decide +kernel) rfl
theorem zw_524 : (Jvm.Cond.methodLink "PierYearsLaw" (78 : Nat) ({ cls := "PierYears", name := "gone", desc := "(I)I" } : Jvm.MethodName)) ∈ zTB := zm _ 577 (by decide +kernel) rfl
theorem zw_525 : (Jvm.Cond.instanceMethod ({ cls := "PierYears", name := "gone", desc := "(I)I" } : Jvm.MethodName)) ∈ zTB := zm _ 578 (by decide +kernel) rfl
theorem zw_526 : (Jvm.Cond.selects "PierYears" ({ cls := "PierYears", name := "gone", desc := "(I)I" } : Jvm.MethodName) ({ cls := "PierYears", name := "gone", desc := "(I)I" } : Jvm.MethodName)) ∈ zTB := zm _ 579 (by decide +kernel) rfl
theorem zw_527 : (Jvm.Cond.code ({ cls := "PierYears", name := "gone", desc := "(I)I" } : Jvm.MethodName) prog_1_method_17_code (3 : Nat) (Option.some Jvm.ClassFile.FieldType.int)) ∈ zTB := zm _ 580 (by decide +kernel) rfl
theorem zw_528 : (Jvm.Cond.constant "PierYears" (237 : Nat) (-1000000 : Int32)) ∈ zTB := zm _ 581 (by decide +kernel) rfl
theorem zw_529 : (Jvm.Cond.methodLink "PierYearsLaw" (82 : Nat) ({ cls := "PierYears", name := "aim", desc := "(IIII)I" } : Jvm.MethodName)) ∈ zTB := zm _ 582 (by decide +kernel) rfl
theorem zw_530 : (Jvm.Cond.instanceMethod ({ cls := "PierYears", name := "aim", desc := "(IIII)I" } : Jvm.MethodName)) ∈ zTB := zm _ 583 (by decide +kernel) rfl
theorem zw_531 : (Jvm.Cond.selects "PierYears" ({ cls := "PierYears", name := "aim", desc := "(IIII)I" } : Jvm.MethodName) ({ cls := "PierYears", name := "aim", desc := "(IIII)I" } : Jvm.MethodName)) ∈ zTB := zm _ 584 (by decide +kernel) rfl
theorem zw_532 : (Jvm.Cond.code ({ cls := "PierYears", name := "aim", desc := "(IIII)I" } : Jvm.MethodName) prog_1_method_18_code (8 : Nat) (Option.some Jvm.ClassFile.FieldType.int)) ∈ zTB := zm _ 585 (by decide +kernel) rfl
theorem zw_533 : (Jvm.Cond.methodLink "PierYears" (238 : Nat) ({ cls := "PierYears", name := "isPlace", desc := "(I)Z" } : Jvm.MethodName)) ∈ zTB := zm _ 586 (by decide +kernel) rfl
theorem zw_534 : (Jvm.Cond.static ({ cls := "PierYears", name := "isPlace", desc := "(I)Z" } : Jvm.MethodName)) ∈ zTB := zm _ 587 (by decide +kernel) rfl
theorem zw_535 : (Jvm.Cond.code ({ cls := "PierYears", name := "isPlace", desc := "(I)Z" } : Jvm.MethodName) prog_1_method_36_code (1 : Nat) (Option.some Jvm.ClassFile.FieldType.boolean)) ∈ zTB := zm _ 588 (by decide +kernel) rfl
theorem zw_536 : (Jvm.Cond.methodLink "PierYears" (241 : Nat) ({ cls := "PierYears$Coast", name := "placeFrom", desc := "(III)I" } : Jvm.MethodName)) ∈ zTB := zm _ 589 (by decide +kernel) rfl
theorem zw_537 : (Jvm.Cond.methodLink "PierYearsLaw" (87 : Nat) ({ cls := "PierYears", name := "take", desc := "(II)I" } : Jvm.MethodName)) ∈ zTB := zm _ 590 (by decide +kernel) rfl
theorem zw_538 : (Jvm.Cond.instanceMethod ({ cls := "PierYears", name := "take", desc := "(II)I" } : Jvm.MethodName)) ∈ zTB := zm _ 591 (by decide +kernel) rfl
theorem zw_539 : (Jvm.Cond.selects "PierYears" ({ cls := "PierYears", name := "take", desc := "(II)I" } : Jvm.MethodName) ({ cls := "PierYears", name := "take", desc := "(II)I" } : Jvm.MethodName)) ∈ zTB := zm _ 592 (by decide +kernel) rfl
theorem zw_540 : (Jvm.Cond.code ({ cls := "PierYears", name := "take", desc := "(II)I" } : Jvm.MethodName) prog_1_method_19_code (3 : Nat) (Option.some Jvm.ClassFile.FieldType.int)) ∈ zTB := zm _ 593 (by decide +kernel) rfl
theorem zw_541 : (Jvm.Cond.methodLink "PierYears" (244 : Nat) ({ cls := "PierYears$Coast", name := "takeAt", desc := "(II)I" } : Jvm.MethodName)) ∈ zTB := zm _ 594 (by decide +kernel) rfl
theorem zw_542 : (Jvm.Cond.methodLink "PierYearsLaw" (91 : Nat) ({ cls := "PierYears", name := "give", desc := "(II)I" } : Jvm.MethodName)) ∈ zTB := zm _ 595 (by decide +kernel) rfl
theorem zw_543 : (Jvm.Cond.instanceMethod ({ cls := "PierYears", name := "give", desc := "(II)I" } : Jvm.MethodName)) ∈ zTB := zm _ 596 (by decide +kernel) rfl
theorem zw_544 : (Jvm.Cond.selects "PierYears" ({ cls := "PierYears", name := "give", desc := "(II)I" } : Jvm.MethodName) ({ cls := "PierYears", name := "give", desc := "(II)I" } : Jvm.MethodName)) ∈ zTB := zm _ 597 (by decide +kernel) rfl
theorem zw_545 : (Jvm.Cond.code ({ cls := "PierYears", name := "give", desc := "(II)I" } : Jvm.MethodName) prog_1_method_20_code (6 : Nat) (Option.some Jvm.ClassFile.FieldType.int)) ∈ zTB := zm _ 598 (by decide +kernel) rfl
theorem zw_546 : (Jvm.Cond.methodLink "PierYears" (247 : Nat) ({ cls := "java/lang/Math", name := "min", desc := "(II)I" } : Jvm.MethodName)) ∈ zTB := zm _ 599 (by decide +kernel) rfl
theorem zw_547 : (Jvm.Cond.methodLink "PierYears" (252 : Nat) ({ cls := "PierYears", name := "weighGains", desc := "(II)V" } : Jvm.MethodName)) ∈ zTB := zm _ 600 (by decide +kernel) rfl
theorem zw_549 : (Jvm.Cond.instanceMethod ({ cls := "PierYears", name := "weighGains", desc := "(II)V" } : Jvm.MethodName)) ∈ zTB := zm _ 602 (by decide +kernel) rfl
theorem zw_550 : (Jvm.Cond.code ({ cls := "PierYears", name := "weighGains", desc := "(II)V" } : Jvm.MethodName) prog_1_method_46_code (7 : Nat) (Option.none : Option Jvm.ClassFile.FieldType)) ∈ zTB := zm _ 603 (by decide +kernel) rfl
theorem zw_551 : (Jvm.Cond.methodLink "PierYears" (356 : Nat) ({ cls := "PierYears$Coast", name := "takenAhead", desc := "(III)I" } : Jvm.MethodName)) ∈ zTB := zm _ 604 (by decide +kernel) rfl
theorem zw_552 : (Jvm.Cond.instanceMethod ({ cls := "PierYears$Coast", name := "takenAhead", desc := "(III)I" } : Jvm.MethodName)) ∈ zTB := zm _ 605 (by decide +kernel) rfl
theorem zw_553 : (Jvm.Cond.selects "PierYears$Coast" ({ cls := "PierYears$Coast", name := "takenAhead", desc := "(III)I" } : Jvm.MethodName) ({ cls := "PierYears$Coast", name := "takenAhead", desc := "(III)I" } : Jvm.MethodName)) ∈ zTB := zm _ 606 (by decide +kernel) rfl
theorem zw_554 : (Jvm.Cond.code ({ cls := "PierYears$Coast", name := "takenAhead", desc := "(III)I" } : Jvm.MethodName) prog_4_method_17_code (7 : Nat) (Option.some Jvm.ClassFile.FieldType.int)) ∈ zTB := zm _ 607 (by decide +kernel) rfl
theorem zw_555 : (Jvm.Cond.methodLink "PierYears$Coast" (91 : Nat) ({ cls := "java/lang/Math", name := "max", desc := "(II)I" } : Jvm.MethodName)) ∈ zTB := zm _ 608 (by decide +kernel) rfl
theorem zw_556 : (Jvm.Cond.static ({ cls := "java/lang/Math", name := "max", desc := "(II)I" } : Jvm.MethodName)) ∈ zTB := zm _ 609 (by decide +kernel) rfl
theorem zw_557 : (Jvm.Cond.code ({ cls := "java/lang/Math", name := "max", desc := "(II)I" } : Jvm.MethodName) prog_15_method_65_code (2 : Nat) (Option.some Jvm.ClassFile.FieldType.int)) ∈ zTB := zm _ 610 (by decide +kernel) rfl
theorem zw_558 : (Jvm.Cond.methodLink "PierYears" (256 : Nat) ({ cls := "PierYears", name := "weighBests", desc := "(I)V" } : Jvm.MethodName)) ∈ zTB := zm _ 611 (by decide +kernel) rfl
theorem zw_560 : (Jvm.Cond.instanceMethod ({ cls := "PierYears", name := "weighBests", desc := "(I)V" } : Jvm.MethodName)) ∈ zTB := zm _ 613 (by decide +kernel) rfl
theorem zw_561 : (Jvm.Cond.code ({ cls := "PierYears", name := "weighBests", desc := "(I)V" } : Jvm.MethodName) prog_1_method_47_code (6 : Nat) (Option.none : Option Jvm.ClassFile.FieldType)) ∈ zTB := zm _ 614 (by decide +kernel) rfl
theorem zw_562 : (Jvm.Cond.methodLink "PierYears" (359 : Nat) ({ cls := "PierYears", name := "gainBehind", desc := "(III)I" } : Jvm.MethodName)) ∈ zTB := zm _ 615 (by decide +kernel) rfl
theorem zw_564 : (Jvm.Cond.instanceMethod ({ cls := "PierYears", name := "gainBehind", desc := "(III)I" } : Jvm.MethodName)) ∈ zTB := zm _ 617 (by decide +kernel) rfl
theorem zw_565 : (Jvm.Cond.code ({ cls := "PierYears", name := "gainBehind", desc := "(III)I" } : Jvm.MethodName) prog_1_method_48_code (6 : Nat) (Option.some Jvm.ClassFile.FieldType.int)) ∈ zTB := zm _ 618 (by decide +kernel) rfl
theorem zw_566 : (Jvm.Cond.methodLink "PierYears" (362 : Nat) ({ cls := "java/lang/Math", name := "max", desc := "(II)I" } : Jvm.MethodName)) ∈ zTB := zm _ 619 (by decide +kernel) rfl
theorem zw_567 : (Jvm.Cond.methodLink "PierYears" (259 : Nat) ({ cls := "PierYears", name := "fewestOfBest", desc := "(I)I" } : Jvm.MethodName)) ∈ zTB := zm _ 620 (by decide +kernel) rfl
theorem zw_569 : (Jvm.Cond.instanceMethod ({ cls := "PierYears", name := "fewestOfBest", desc := "(I)I" } : Jvm.MethodName)) ∈ zTB := zm _ 622 (by decide +kernel) rfl
theorem zw_570 : (Jvm.Cond.code ({ cls := "PierYears", name := "fewestOfBest", desc := "(I)I" } : Jvm.MethodName) prog_1_method_49_code (4 : Nat) (Option.some Jvm.ClassFile.FieldType.int)) ∈ zTB := zm _ 623 (by decide +kernel) rfl
theorem zw_571 : (Jvm.Cond.methodLink "PierYears" (262 : Nat) ({ cls := "PierYears", name := "purseWith", desc := "(I)I" } : Jvm.MethodName)) ∈ zTB := zm _ 624 (by decide +kernel) rfl
theorem zw_573 : (Jvm.Cond.instanceMethod ({ cls := "PierYears", name := "purseWith", desc := "(I)I" } : Jvm.MethodName)) ∈ zTB := zm _ 626 (by decide +kernel) rfl
theorem zw_574 : (Jvm.Cond.code ({ cls := "PierYears", name := "purseWith", desc := "(I)I" } : Jvm.MethodName) prog_1_method_45_code (2 : Nat) (Option.some Jvm.ClassFile.FieldType.int)) ∈ zTB := zm _ 627 (by decide +kernel) rfl
theorem zw_575 : (Jvm.Cond.methodLink "PierYears" (265 : Nat) ({ cls := "PierYears", name := "shareOut", desc := "(II)V" } : Jvm.MethodName)) ∈ zTB := zm _ 628 (by decide +kernel) rfl
theorem zw_577 : (Jvm.Cond.instanceMethod ({ cls := "PierYears", name := "shareOut", desc := "(II)V" } : Jvm.MethodName)) ∈ zTB := zm _ 630 (by decide +kernel) rfl
theorem zw_578 : (Jvm.Cond.code ({ cls := "PierYears", name := "shareOut", desc := "(II)V" } : Jvm.MethodName) prog_1_method_50_code (7 : Nat) (Option.none : Option Jvm.ClassFile.FieldType)) ∈ zTB := zm _ 631 (by decide +kernel) rfl
theorem zw_579 : (Jvm.Cond.methodLink "PierYears" (365 : Nat) ({ cls := "PierYears", name := "firstShare", desc := "(IIII)I" } : Jvm.MethodName)) ∈ zTB := zm _ 632 (by decide +kernel) rfl
theorem zw_581 : (Jvm.Cond.instanceMethod ({ cls := "PierYears", name := "firstShare", desc := "(IIII)I" } : Jvm.MethodName)) ∈ zTB := zm _ 634 (by decide +kernel) rfl
theorem zw_582 : (Jvm.Cond.code ({ cls := "PierYears", name := "firstShare", desc := "(IIII)I" } : Jvm.MethodName) prog_1_method_51_code (7 : Nat) (Option.some Jvm.ClassFile.FieldType.int)) ∈ zTB := zm _ 635 (by decide +kernel) rfl
theorem zw_583 : (Jvm.Cond.methodLink "PierYearsLaw" (95 : Nat) ({ cls := "PierYears", name := "turning", desc := "(II)I" } : Jvm.MethodName)) ∈ zTB := zm _ 636 (by decide +kernel) rfl
theorem zw_584 : (Jvm.Cond.instanceMethod ({ cls := "PierYears", name := "turning", desc := "(II)I" } : Jvm.MethodName)) ∈ zTB := zm _ 637 (by decide +kernel) rfl
theorem zw_585 : (Jvm.Cond.selects "PierYears" ({ cls := "PierYears", name := "turning", desc := "(II)I" } : Jvm.MethodName) ({ cls := "PierYears", name := "turning", desc := "(II)I" } : Jvm.MethodName)) ∈ zTB := zm _ 638 (by decide +kernel) rfl
theorem zw_586 : (Jvm.Cond.code ({ cls := "PierYears", name := "turning", desc := "(II)I" } : Jvm.MethodName) prog_1_method_21_code (9 : Nat) (Option.some Jvm.ClassFile.FieldType.int)) ∈ zTB := zm _ 639 (by decide +kernel) rfl
theorem zw_587 : (Jvm.Cond.methodLink "PierYears" (268 : Nat) ({ cls := "PierYears", name := "purseTurned", desc := "(III)I" } : Jvm.MethodName)) ∈ zTB := zm _ 640 (by decide +kernel) rfl
theorem zw_589 : (Jvm.Cond.instanceMethod ({ cls := "PierYears", name := "purseTurned", desc := "(III)I" } : Jvm.MethodName)) ∈ zTB := zm _ 642 (by decide +kernel) rfl
theorem zw_590 : (Jvm.Cond.code ({ cls := "PierYears", name := "purseTurned", desc := "(III)I" } : Jvm.MethodName) prog_1_method_43_code (4 : Nat) (Option.some Jvm.ClassFile.FieldType.int)) ∈ zTB := zm _ 643 (by decide +kernel) rfl
theorem zw_591 : (Jvm.Cond.methodLink "PierYearsLaw" (99 : Nat) ({ cls := "PierYears", name := "cross", desc := "(I)I" } : Jvm.MethodName)) ∈ zTB := zm _ 644 (by decide +kernel) rfl
theorem zw_592 : (Jvm.Cond.instanceMethod ({ cls := "PierYears", name := "cross", desc := "(I)I" } : Jvm.MethodName)) ∈ zTB := zm _ 645 (by decide +kernel) rfl
theorem zw_593 : (Jvm.Cond.selects "PierYears" ({ cls := "PierYears", name := "cross", desc := "(I)I" } : Jvm.MethodName) ({ cls := "PierYears", name := "cross", desc := "(I)I" } : Jvm.MethodName)) ∈ zTB := zm _ 646 (by decide +kernel) rfl
theorem zw_594 : (Jvm.Cond.code ({ cls := "PierYears", name := "cross", desc := "(I)I" } : Jvm.MethodName) prog_1_method_22_code (8 : Nat) (Option.some Jvm.ClassFile.FieldType.int)) ∈ zTB := zm _ 647 (by decide +kernel) rfl
theorem zw_595 : (Jvm.Cond.methodLink "PierYears" (271 : Nat) ({ cls := "PierYears$Coast", name := "crossing", desc := "(II)I" } : Jvm.MethodName)) ∈ zTB := zm _ 648 (by decide +kernel) rfl
theorem zw_596 : (Jvm.Cond.instanceMethod ({ cls := "PierYears$Coast", name := "crossing", desc := "(II)I" } : Jvm.MethodName)) ∈ zTB := zm _ 649 (by decide +kernel) rfl
theorem zw_597 : (Jvm.Cond.selects "PierYears$Coast" ({ cls := "PierYears$Coast", name := "crossing", desc := "(II)I" } : Jvm.MethodName) ({ cls := "PierYears$Coast", name := "crossing", desc := "(II)I" } : Jvm.MethodName)) ∈ zTB := zm _ 650 (by decide +kernel) rfl
theorem zw_598 : (Jvm.Cond.code ({ cls := "PierYears$Coast", name := "crossing", desc := "(II)I" } : Jvm.MethodName) prog_4_method_20_code (5 : Nat) (Option.some Jvm.ClassFile.FieldType.int)) ∈ zTB := zm _ 651 (by decide +kernel) rfl
theorem zw_599 : (Jvm.Cond.methodLink "PierYearsLaw" (103 : Nat) ({ cls := "PierYears", name := "fits", desc := "(IIIII)I" } : Jvm.MethodName)) ∈ zTB := zm _ 652 (by decide +kernel) rfl
theorem zw_600 : (Jvm.Cond.instanceMethod ({ cls := "PierYears", name := "fits", desc := "(IIIII)I" } : Jvm.MethodName)) ∈ zTB := zm _ 653 (by decide +kernel) rfl
theorem zw_601 : (Jvm.Cond.selects "PierYears" ({ cls := "PierYears", name := "fits", desc := "(IIIII)I" } : Jvm.MethodName) ({ cls := "PierYears", name := "fits", desc := "(IIIII)I" } : Jvm.MethodName)) ∈ zTB := zm _ 654 (by decide +kernel) rfl
theorem zw_602 : (Jvm.Cond.code ({ cls := "PierYears", name := "fits", desc := "(IIIII)I" } : Jvm.MethodName) prog_1_method_23_code (8 : Nat) (Option.some Jvm.ClassFile.FieldType.int)) ∈ zTB := zm _ 655 (by decide +kernel) rfl
theorem zw_603 : (Jvm.Cond.fieldLink "PierYears" (274 : Nat) "PierYears" "LEAST_FIT" "[I") ∈ zTB := zm _ 656 (by decide +kernel) rfl
theorem zw_605 : (Jvm.Cond.fieldLink "PierYears" (277 : Nat) "PierYears" "MOST_FIT" "[I") ∈ zTB := zm _ 658 (by decide +kernel) rfl
theorem zw_607 : (Jvm.Cond.methodLink "PierYears" (280 : Nat) ({ cls := "PierYears$Coast", name := "change", desc := "(III)V" } : Jvm.MethodName)) ∈ zTB := zm _ 660 (by decide +kernel) rfl
theorem zw_608 : (Jvm.Cond.instanceMethod ({ cls := "PierYears$Coast", name := "change", desc := "(III)V" } : Jvm.MethodName)) ∈ zTB := zm _ 661 (by decide +kernel) rfl
theorem zw_609 : (Jvm.Cond.selects "PierYears$Coast" ({ cls := "PierYears$Coast", name := "change", desc := "(III)V" } : Jvm.MethodName) ({ cls := "PierYears$Coast", name := "change", desc := "(III)V" } : Jvm.MethodName)) ∈ zTB := zm _ 662 (by decide +kernel) rfl
theorem zw_610 : (Jvm.Cond.code ({ cls := "PierYears$Coast", name := "change", desc := "(III)V" } : Jvm.MethodName) prog_4_method_5_code (4 : Nat) (Option.none : Option Jvm.ClassFile.FieldType)) ∈ zTB := zm _ 663 (by decide +kernel) rfl
theorem zw_611 : (Jvm.Cond.methodLink "PierYears" (283 : Nat) ({ cls := "PierYears", name := "isTaken", desc := "(III)Z" } : Jvm.MethodName)) ∈ zTB := zm _ 664 (by decide +kernel) rfl
theorem zw_613 : (Jvm.Cond.instanceMethod ({ cls := "PierYears", name := "isTaken", desc := "(III)Z" } : Jvm.MethodName)) ∈ zTB := zm _ 666 (by decide +kernel) rfl
theorem zw_614 : (Jvm.Cond.code ({ cls := "PierYears", name := "isTaken", desc := "(III)Z" } : Jvm.MethodName) prog_1_method_44_code (5 : Nat) (Option.some Jvm.ClassFile.FieldType.boolean)) ∈ zTB := zm _ 667 (by decide +kernel) rfl
theorem zw_615 : (Jvm.Cond.methodLink "PierYears" (350 : Nat) ({ cls := "PierYears$Coast", name := "takeTogether", desc := "()I" } : Jvm.MethodName)) ∈ zTB := zm _ 668 (by decide +kernel) rfl
theorem zw_616 : (Jvm.Cond.methodLink "PierYears" (353 : Nat) ({ cls := "PierYears$Rows", name := "item", desc := "(II)I" } : Jvm.MethodName)) ∈ zTB := zm _ 669 (by decide +kernel) rfl
theorem zw_617 : (Jvm.Cond.instanceMethod ({ cls := "PierYears$Rows", name := "item", desc := "(II)I" } : Jvm.MethodName)) ∈ zTB := zm _ 670 (by decide +kernel) rfl
theorem zw_618 : (Jvm.Cond.selects "PierYears$Rows" ({ cls := "PierYears$Rows", name := "item", desc := "(II)I" } : Jvm.MethodName) ({ cls := "PierYears$Rows", name := "item", desc := "(II)I" } : Jvm.MethodName)) ∈ zTB := zm _ 671 (by decide +kernel) rfl
theorem zw_619 : (Jvm.Cond.code ({ cls := "PierYears$Rows", name := "item", desc := "(II)I" } : Jvm.MethodName) prog_9_method_7_code (3 : Nat) (Option.some Jvm.ClassFile.FieldType.int)) ∈ zTB := zm _ 672 (by decide +kernel) rfl
theorem zw_620 : (Jvm.Cond.methodLink "PierYearsLaw" (107 : Nat) ({ cls := "PierYears", name := "fire", desc := "(III)I" } : Jvm.MethodName)) ∈ zTB := zm _ 673 (by decide +kernel) rfl
theorem zw_621 : (Jvm.Cond.instanceMethod ({ cls := "PierYears", name := "fire", desc := "(III)I" } : Jvm.MethodName)) ∈ zTB := zm _ 674 (by decide +kernel) rfl
theorem zw_622 : (Jvm.Cond.selects "PierYears" ({ cls := "PierYears", name := "fire", desc := "(III)I" } : Jvm.MethodName) ({ cls := "PierYears", name := "fire", desc := "(III)I" } : Jvm.MethodName)) ∈ zTB := zm _ 675 (by decide +kernel) rfl
theorem zw_623 : (Jvm.Cond.code ({ cls := "PierYears", name := "fire", desc := "(III)I" } : Jvm.MethodName) prog_1_method_24_code (8 : Nat) (Option.some Jvm.ClassFile.FieldType.int)) ∈ zTB := zm _ 676 (by decide +kernel) rfl
theorem zw_624 : (Jvm.Cond.methodLink "PierYears" (286 : Nat) ({ cls := "PierYears", name := "takenBy", desc := "(I)I" } : Jvm.MethodName)) ∈ zTB := zm _ 677 (by decide +kernel) rfl
theorem zw_626 : (Jvm.Cond.instanceMethod ({ cls := "PierYears", name := "takenBy", desc := "(I)I" } : Jvm.MethodName)) ∈ zTB := zm _ 679 (by decide +kernel) rfl
theorem zw_627 : (Jvm.Cond.code ({ cls := "PierYears", name := "takenBy", desc := "(I)I" } : Jvm.MethodName) prog_1_method_52_code (4 : Nat) (Option.some Jvm.ClassFile.FieldType.int)) ∈ zTB := zm _ 680 (by decide +kernel) rfl
theorem zw_628 : (Jvm.Cond.methodLink "PierYears" (289 : Nat) ({ cls := "PierYears", name := "chanceOf", desc := "(II)I" } : Jvm.MethodName)) ∈ zTB := zm _ 681 (by decide +kernel) rfl
theorem zw_630 : (Jvm.Cond.instanceMethod ({ cls := "PierYears", name := "chanceOf", desc := "(II)I" } : Jvm.MethodName)) ∈ zTB := zm _ 683 (by decide +kernel) rfl
theorem zw_631 : (Jvm.Cond.code ({ cls := "PierYears", name := "chanceOf", desc := "(II)I" } : Jvm.MethodName) prog_1_method_53_code (5 : Nat) (Option.some Jvm.ClassFile.FieldType.int)) ∈ zTB := zm _ 684 (by decide +kernel) rfl
theorem zw_632 : (Jvm.Cond.methodLink "PierYears" (292 : Nat) ({ cls := "PierYears", name := "commonDivisor", desc := "(II)I" } : Jvm.MethodName)) ∈ zTB := zm _ 685 (by decide +kernel) rfl
theorem zw_633 : (Jvm.Cond.static ({ cls := "PierYears", name := "commonDivisor", desc := "(II)I" } : Jvm.MethodName)) ∈ zTB := zm _ 686 (by decide +kernel) rfl
theorem zw_634 : (Jvm.Cond.code ({ cls := "PierYears", name := "commonDivisor", desc := "(II)I" } : Jvm.MethodName) prog_1_method_54_code (6 : Nat) (Option.some Jvm.ClassFile.FieldType.int)) ∈ zTB := zm _ 687 (by decide +kernel) rfl
theorem zw_635 : (Jvm.Cond.methodLink "PierYearsLaw" (111 : Nat) ({ cls := "PierYears", name := "drawn", desc := "(III)I" } : Jvm.MethodName)) ∈ zTB := zm _ 688 (by decide +kernel) rfl
theorem zw_636 : (Jvm.Cond.instanceMethod ({ cls := "PierYears", name := "drawn", desc := "(III)I" } : Jvm.MethodName)) ∈ zTB := zm _ 689 (by decide +kernel) rfl
theorem zw_637 : (Jvm.Cond.selects "PierYears" ({ cls := "PierYears", name := "drawn", desc := "(III)I" } : Jvm.MethodName) ({ cls := "PierYears", name := "drawn", desc := "(III)I" } : Jvm.MethodName)) ∈ zTB := zm _ 690 (by decide +kernel) rfl
theorem zw_638 : (Jvm.Cond.code ({ cls := "PierYears", name := "drawn", desc := "(III)I" } : Jvm.MethodName) prog_1_method_25_code (7 : Nat) (Option.some Jvm.ClassFile.FieldType.int)) ∈ zTB := zm _ 691 (by decide +kernel) rfl
theorem zw_639 : (Jvm.Cond.constant "PierYears" (295 : Nat) (999999 : Int32)) ∈ zTB := zm _ 692 (by decide +kernel) rfl
theorem zw_640 : (Jvm.Cond.constantLong "PierYears" (296 : Nat) (16807 : Int64)) ∈ zTB := zm _ 693 (by decide +kernel) rfl
theorem zw_641 : (Jvm.Cond.constantLong "PierYears" (298 : Nat) (2147483647 : Int64)) ∈ zTB := zm _ 694 (by decide +kernel) rfl
theorem zw_642 : (Jvm.Cond.constantLong "PierYears" (300 : Nat) (2 : Int64)) ∈ zTB := zm _ 695 (by decide +kernel) rfl
theorem zw_643 : (Jvm.Cond.methodLink "PierYears" (302 : Nat) ({ cls := "PierYears", name := "buildDrawn", desc := "(J)V" } : Jvm.MethodName)) ∈ zTB := zm _ 696 (by decide +kernel) rfl
theorem zw_645 : (Jvm.Cond.instanceMethod ({ cls := "PierYears", name := "buildDrawn", desc := "(J)V" } : Jvm.MethodName)) ∈ zTB := zm _ 698 (by decide +kernel) rfl
theorem zw_646 : (Jvm.Cond.code ({ cls := "PierYears", name := "buildDrawn", desc := "(J)V" } : Jvm.MethodName) prog_1_method_55_code (4 : Nat) (Option.none : Option Jvm.ClassFile.FieldType)) ∈ zTB := zm _ 699 (by decide +kernel) rfl
theorem zw_647 : (Jvm.Cond.constantLong "PierYears" (306 : Nat) (5 : Int64)) ∈ zTB := zm _ 700 (by decide +kernel) rfl
theorem zw_648 : (Jvm.Cond.methodLink "PierYears" (308 : Nat) ({ cls := "PierYears$Coast", name := "allSpans", desc := "()I" } : Jvm.MethodName)) ∈ zTB := zm _ 701 (by decide +kernel) rfl
theorem zw_649 : (Jvm.Cond.instanceMethod ({ cls := "PierYears$Coast", name := "allSpans", desc := "()I" } : Jvm.MethodName)) ∈ zTB := zm _ 702 (by decide +kernel) rfl
theorem zw_650 : (Jvm.Cond.selects "PierYears$Coast" ({ cls := "PierYears$Coast", name := "allSpans", desc := "()I" } : Jvm.MethodName) ({ cls := "PierYears$Coast", name := "allSpans", desc := "()I" } : Jvm.MethodName)) ∈ zTB := zm _ 703 (by decide +kernel) rfl
theorem zw_651 : (Jvm.Cond.code ({ cls := "PierYears$Coast", name := "allSpans", desc := "()I" } : Jvm.MethodName) prog_4_method_19_code (3 : Nat) (Option.some Jvm.ClassFile.FieldType.int)) ∈ zTB := zm _ 704 (by decide +kernel) rfl
theorem zw_652 : (Jvm.Cond.methodLink "PierYearsLaw" (115 : Nat) ({ cls := "PierYears", name := "image", desc := "(I)I" } : Jvm.MethodName)) ∈ zTB := zm _ 705 (by decide +kernel) rfl
theorem zw_653 : (Jvm.Cond.instanceMethod ({ cls := "PierYears", name := "image", desc := "(I)I" } : Jvm.MethodName)) ∈ zTB := zm _ 706 (by decide +kernel) rfl
theorem zw_654 : (Jvm.Cond.selects "PierYears" ({ cls := "PierYears", name := "image", desc := "(I)I" } : Jvm.MethodName) ({ cls := "PierYears", name := "image", desc := "(I)I" } : Jvm.MethodName)) ∈ zTB := zm _ 707 (by decide +kernel) rfl
theorem zw_655 : (Jvm.Cond.code ({ cls := "PierYears", name := "image", desc := "(I)I" } : Jvm.MethodName) prog_1_method_26_code (2 : Nat) (Option.some Jvm.ClassFile.FieldType.int)) ∈ zTB := zm _ 708 (by decide +kernel) rfl
theorem zw_656 : (Jvm.Cond.methodLink "PierYears" (311 : Nat) ({ cls := "PierYears", name := "imageOf", desc := "(I)LPierYears$Coast;" } : Jvm.MethodName)) ∈ zTB := zm _ 709 (by decide +kernel) rfl
theorem zw_658 : (Jvm.Cond.instanceMethod ({ cls := "PierYears", name := "imageOf", desc := "(I)LPierYears$Coast;" } : Jvm.MethodName)) ∈ zTB := zm _ 711 (by decide +kernel) rfl
theorem zw_659 : (Jvm.Cond.code ({ cls := "PierYears", name := "imageOf", desc := "(I)LPierYears$Coast;" } : Jvm.MethodName) prog_1_method_41_code (2 : Nat) (Option.some (Jvm.ClassFile.FieldType.object "PierYears$Coast"))) ∈ zTB := zm _ 712 (by decide +kernel) rfl
theorem zw_660 : (Jvm.Cond.methodLink "PierYearsLaw" (119 : Nat) ({ cls := "PierYears", name := "restore", desc := "(I)I" } : Jvm.MethodName)) ∈ zTB := zm _ 713 (by decide +kernel) rfl
theorem zw_661 : (Jvm.Cond.instanceMethod ({ cls := "PierYears", name := "restore", desc := "(I)I" } : Jvm.MethodName)) ∈ zTB := zm _ 714 (by decide +kernel) rfl
theorem zw_662 : (Jvm.Cond.selects "PierYears" ({ cls := "PierYears", name := "restore", desc := "(I)I" } : Jvm.MethodName) ({ cls := "PierYears", name := "restore", desc := "(I)I" } : Jvm.MethodName)) ∈ zTB := zm _ 715 (by decide +kernel) rfl
theorem zw_663 : (Jvm.Cond.code ({ cls := "PierYears", name := "restore", desc := "(I)I" } : Jvm.MethodName) prog_1_method_27_code (3 : Nat) (Option.some Jvm.ClassFile.FieldType.int)) ∈ zTB := zm _ 716 (by decide +kernel) rfl
theorem zw_664 : (Jvm.Cond.methodLink "PierYearsLaw" (123 : Nat) ({ cls := "PierYears", name := "kind", desc := "(I)I" } : Jvm.MethodName)) ∈ zTB := zm _ 717 (by decide +kernel) rfl
theorem zw_665 : (Jvm.Cond.instanceMethod ({ cls := "PierYears", name := "kind", desc := "(I)I" } : Jvm.MethodName)) ∈ zTB := zm _ 718 (by decide +kernel) rfl
theorem zw_666 : (Jvm.Cond.selects "PierYears" ({ cls := "PierYears", name := "kind", desc := "(I)I" } : Jvm.MethodName) ({ cls := "PierYears", name := "kind", desc := "(I)I" } : Jvm.MethodName)) ∈ zTB := zm _ 719 (by decide +kernel) rfl
theorem zw_667 : (Jvm.Cond.code ({ cls := "PierYears", name := "kind", desc := "(I)I" } : Jvm.MethodName) prog_1_method_28_code (2 : Nat) (Option.some Jvm.ClassFile.FieldType.int)) ∈ zTB := zm _ 720 (by decide +kernel) rfl
theorem zw_668 : (Jvm.Cond.methodLink "PierYearsLaw" (127 : Nat) ({ cls := "PierYears", name := "as", desc := "(II)I" } : Jvm.MethodName)) ∈ zTB := zm _ 721 (by decide +kernel) rfl
theorem zw_669 : (Jvm.Cond.instanceMethod ({ cls := "PierYears", name := "as", desc := "(II)I" } : Jvm.MethodName)) ∈ zTB := zm _ 722 (by decide +kernel) rfl
theorem zw_670 : (Jvm.Cond.selects "PierYears" ({ cls := "PierYears", name := "as", desc := "(II)I" } : Jvm.MethodName) ({ cls := "PierYears", name := "as", desc := "(II)I" } : Jvm.MethodName)) ∈ zTB := zm _ 723 (by decide +kernel) rfl
theorem zw_671 : (Jvm.Cond.code ({ cls := "PierYears", name := "as", desc := "(II)I" } : Jvm.MethodName) prog_1_method_29_code (3 : Nat) (Option.some Jvm.ClassFile.FieldType.int)) ∈ zTB := zm _ 724 (by decide +kernel) rfl
theorem zw_672 : (Jvm.Cond.methodLink "PierYears" (318 : Nat) ({ cls := "PierYears", name := "bodyOf", desc := "(I)LPierYears$Pier;" } : Jvm.MethodName)) ∈ zTB := zm _ 725 (by decide +kernel) rfl
theorem zw_674 : (Jvm.Cond.instanceMethod ({ cls := "PierYears", name := "bodyOf", desc := "(I)LPierYears$Pier;" } : Jvm.MethodName)) ∈ zTB := zm _ 727 (by decide +kernel) rfl
theorem zw_675 : (Jvm.Cond.code ({ cls := "PierYears", name := "bodyOf", desc := "(I)LPierYears$Pier;" } : Jvm.MethodName) prog_1_method_56_code (2 : Nat) (Option.some (Jvm.ClassFile.FieldType.object "PierYears$Pier"))) ∈ zTB := zm _ 728 (by decide +kernel) rfl
theorem zw_676 : (Jvm.Cond.methodLink "PierYears" (322 : Nat) ({ cls := "PierYears", name := "isOfKind", desc := "(LPierYears$Pier;I)Z" } : Jvm.MethodName)) ∈ zTB := zm _ 729 (by decide +kernel) rfl
theorem zw_677 : (Jvm.Cond.static ({ cls := "PierYears", name := "isOfKind", desc := "(LPierYears$Pier;I)Z" } : Jvm.MethodName)) ∈ zTB := zm _ 730 (by decide +kernel) rfl
theorem zw_678 : (Jvm.Cond.code ({ cls := "PierYears", name := "isOfKind", desc := "(LPierYears$Pier;I)Z" } : Jvm.MethodName) prog_1_method_57_code (2 : Nat) (Option.some Jvm.ClassFile.FieldType.boolean)) ∈ zTB := zm _ 731 (by decide +kernel) rfl
theorem zw_679 : (Jvm.Cond.classLink "PierYears" (330 : Nat) "PierYears$Pier") ∈ zTB := zm _ 732 (by decide +kernel) rfl
theorem zw_680 : (Jvm.Cond.methodLink "PierYearsLaw" (131 : Nat) ({ cls := "PierYears", name := "ask", desc := "(II)I" } : Jvm.MethodName)) ∈ zTB := zm _ 733 (by decide +kernel) rfl
theorem zw_681 : (Jvm.Cond.instanceMethod ({ cls := "PierYears", name := "ask", desc := "(II)I" } : Jvm.MethodName)) ∈ zTB := zm _ 734 (by decide +kernel) rfl
theorem zw_682 : (Jvm.Cond.selects "PierYears" ({ cls := "PierYears", name := "ask", desc := "(II)I" } : Jvm.MethodName) ({ cls := "PierYears", name := "ask", desc := "(II)I" } : Jvm.MethodName)) ∈ zTB := zm _ 735 (by decide +kernel) rfl
theorem zw_683 : (Jvm.Cond.code ({ cls := "PierYears", name := "ask", desc := "(II)I" } : Jvm.MethodName) prog_1_method_30_code (4 : Nat) (Option.some Jvm.ClassFile.FieldType.int)) ∈ zTB := zm _ 736 (by decide +kernel) rfl
theorem zw_684 : (Jvm.Cond.methodLink "PierYears" (326 : Nat) ({ cls := "PierYears$Asking", name := "begin", desc := "(III)V" } : Jvm.MethodName)) ∈ zTB := zm _ 737 (by decide +kernel) rfl
theorem zw_685 : (Jvm.Cond.instanceMethod ({ cls := "PierYears$Asking", name := "begin", desc := "(III)V" } : Jvm.MethodName)) ∈ zTB := zm _ 738 (by decide +kernel) rfl
theorem zw_686 : (Jvm.Cond.selects "PierYears$Asking" ({ cls := "PierYears$Asking", name := "begin", desc := "(III)V" } : Jvm.MethodName) ({ cls := "PierYears$Asking", name := "begin", desc := "(III)V" } : Jvm.MethodName)) ∈ zTB := zm _ 739 (by decide +kernel) rfl
theorem zw_687 : (Jvm.Cond.code ({ cls := "PierYears$Asking", name := "begin", desc := "(III)V" } : Jvm.MethodName) prog_2_method_2_code (4 : Nat) (Option.none : Option Jvm.ClassFile.FieldType)) ∈ zTB := zm _ 740 (by decide +kernel) rfl
theorem zw_688 : (Jvm.Cond.methodLink "PierYears" (329 : Nat) ({ cls := "PierYears$Pier", name := "size", desc := "(LPierYears$Asking;)I" } : Jvm.MethodName)) ∈ zTB := zm _ 741 (by decide +kernel) rfl
theorem zw_689 : (Jvm.Cond.instanceMethod ({ cls := "PierYears$Pier", name := "size", desc := "(LPierYears$Asking;)I" } : Jvm.MethodName)) ∈ zTB := zm _ 742 (by decide +kernel) rfl
theorem zw_690 : (Jvm.Cond.sameMethod "PierYears$Pier" "PierYears$Pier" "size" "(LPierYears$Asking;)I") ∈ zTB := zm _ 743 (by decide +kernel) rfl
theorem zw_691 : (Jvm.Cond.selects "PierYears$Cast" ({ cls := "PierYears$Pier", name := "size", desc := "(LPierYears$Asking;)I" } : Jvm.MethodName) ({ cls := "PierYears$Cast", name := "size", desc := "(LPierYears$Asking;)I" } : Jvm.MethodName)) ∈ zTB := zm _ 744 (by decide +kernel) rfl
theorem zw_692 : (Jvm.Cond.instanceMethod ({ cls := "PierYears$Cast", name := "size", desc := "(LPierYears$Asking;)I" } : Jvm.MethodName)) ∈ zTB := zm _ 745 (by decide +kernel) rfl
theorem zw_693 : (Jvm.Cond.code ({ cls := "PierYears$Cast", name := "size", desc := "(LPierYears$Asking;)I" } : Jvm.MethodName) prog_3_method_2_code (2 : Nat) (Option.some Jvm.ClassFile.FieldType.int)) ∈ zTB := zm _ 746 (by decide +kernel) rfl
theorem zw_694 : (Jvm.Cond.methodLink "PierYears$Cast" (7 : Nat) ({ cls := "PierYears$Asking", name := "leave", desc := "(I)V" } : Jvm.MethodName)) ∈ zTB := zm _ 747 (by decide +kernel) rfl
theorem zw_695 : (Jvm.Cond.instanceMethod ({ cls := "PierYears$Asking", name := "leave", desc := "(I)V" } : Jvm.MethodName)) ∈ zTB := zm _ 748 (by decide +kernel) rfl
theorem zw_696 : (Jvm.Cond.selects "PierYears$Asking" ({ cls := "PierYears$Asking", name := "leave", desc := "(I)V" } : Jvm.MethodName) ({ cls := "PierYears$Asking", name := "leave", desc := "(I)V" } : Jvm.MethodName)) ∈ zTB := zm _ 749 (by decide +kernel) rfl
theorem zw_697 : (Jvm.Cond.code ({ cls := "PierYears$Asking", name := "leave", desc := "(I)V" } : Jvm.MethodName) prog_2_method_3_code (2 : Nat) (Option.none : Option Jvm.ClassFile.FieldType)) ∈ zTB := zm _ 750 (by decide +kernel) rfl
theorem zw_698 : (Jvm.Cond.methodLink "PierYears$Cast" (13 : Nat) ({ cls := "PierYears$Irons", name := "size", desc := "(LPierYears$Asking;)I" } : Jvm.MethodName)) ∈ zTB := zm _ 751 (by decide +kernel) rfl
theorem zw_699 : (Jvm.Cond.instanceMethod ({ cls := "PierYears$Irons", name := "size", desc := "(LPierYears$Asking;)I" } : Jvm.MethodName)) ∈ zTB := zm _ 752 (by decide +kernel) rfl
theorem zw_700 : (Jvm.Cond.code ({ cls := "PierYears$Irons", name := "size", desc := "(LPierYears$Asking;)I" } : Jvm.MethodName) prog_5_method_2_code (3 : Nat) (Option.some Jvm.ClassFile.FieldType.int)) ∈ zTB := zm _ 753 (by decide +kernel) rfl
theorem zw_701 : (Jvm.Cond.methodLink "PierYears$Irons" (7 : Nat) ({ cls := "PierYears$Asking", name := "leave", desc := "(I)V" } : Jvm.MethodName)) ∈ zTB := zm _ 754 (by decide +kernel) rfl
theorem zw_702 : (Jvm.Cond.methodLink "PierYears$Irons" (13 : Nat) ({ cls := "PierYears$Pier", name := "size", desc := "(LPierYears$Asking;)I" } : Jvm.MethodName)) ∈ zTB := zm _ 755 (by decide +kernel) rfl
theorem zw_703 : (Jvm.Cond.methodLink "PierYears$Irons" (17 : Nat) ({ cls := "PierYears$Irons", name := "mark", desc := "(LPierYears$Asking;)I" } : Jvm.MethodName)) ∈ zTB := zm _ 756 (by decide +kernel) rfl
theorem zw_704 : (Jvm.Cond.instanceMethod ({ cls := "PierYears$Irons", name := "mark", desc := "(LPierYears$Asking;)I" } : Jvm.MethodName)) ∈ zTB := zm _ 757 (by decide +kernel) rfl
theorem zw_705 : (Jvm.Cond.selects "PierYears$Irons" ({ cls := "PierYears$Irons", name := "mark", desc := "(LPierYears$Asking;)I" } : Jvm.MethodName) ({ cls := "PierYears$Irons", name := "mark", desc := "(LPierYears$Asking;)I" } : Jvm.MethodName)) ∈ zTB := zm _ 758 (by decide +kernel) rfl
theorem zw_706 : (Jvm.Cond.sameMethod "PierYears$Irons" "PierYears$Irons" "mark" "(LPierYears$Asking;)I") ∈ zTB := zm _ 759 (by decide +kernel) rfl
theorem zw_707 : (Jvm.Cond.selects "PierYears$Cast" ({ cls := "PierYears$Irons", name := "mark", desc := "(LPierYears$Asking;)I" } : Jvm.MethodName) ({ cls := "PierYears$Cast", name := "mark", desc := "(LPierYears$Asking;)I" } : Jvm.MethodName)) ∈ zTB := zm _ 760 (by decide +kernel) rfl
theorem zw_708 : (Jvm.Cond.instanceMethod ({ cls := "PierYears$Cast", name := "mark", desc := "(LPierYears$Asking;)I" } : Jvm.MethodName)) ∈ zTB := zm _ 761 (by decide +kernel) rfl
theorem zw_709 : (Jvm.Cond.code ({ cls := "PierYears$Cast", name := "mark", desc := "(LPierYears$Asking;)I" } : Jvm.MethodName) prog_3_method_3_code (2 : Nat) (Option.some Jvm.ClassFile.FieldType.int)) ∈ zTB := zm _ 762 (by decide +kernel) rfl
theorem zw_710 : (Jvm.Cond.methodLink "PierYears$Cast" (17 : Nat) ({ cls := "PierYears$Irons", name := "mark", desc := "(LPierYears$Asking;)I" } : Jvm.MethodName)) ∈ zTB := zm _ 763 (by decide +kernel) rfl
theorem zw_711 : (Jvm.Cond.selects "PierYears$Rusty" ({ cls := "PierYears$Irons", name := "mark", desc := "(LPierYears$Asking;)I" } : Jvm.MethodName) ({ cls := "PierYears$Rusty", name := "mark", desc := "(LPierYears$Asking;)I" } : Jvm.MethodName)) ∈ zTB := zm _ 764 (by decide +kernel) rfl
theorem zw_712 : (Jvm.Cond.instanceMethod ({ cls := "PierYears$Rusty", name := "mark", desc := "(LPierYears$Asking;)I" } : Jvm.MethodName)) ∈ zTB := zm _ 765 (by decide +kernel) rfl
theorem zw_713 : (Jvm.Cond.code ({ cls := "PierYears$Rusty", name := "mark", desc := "(LPierYears$Asking;)I" } : Jvm.MethodName) prog_10_method_2_code (2 : Nat) (Option.some Jvm.ClassFile.FieldType.int)) ∈ zTB := zm _ 766 (by decide +kernel) rfl
theorem zw_714 : (Jvm.Cond.methodLink "PierYears$Rusty" (7 : Nat) ({ cls := "PierYears$Asking", name := "leave", desc := "(I)V" } : Jvm.MethodName)) ∈ zTB := zm _ 767 (by decide +kernel) rfl
theorem zw_715 : (Jvm.Cond.methodLink "PierYears$Rusty" (13 : Nat) ({ cls := "PierYears$Irons", name := "mark", desc := "(LPierYears$Asking;)I" } : Jvm.MethodName)) ∈ zTB := zm _ 768 (by decide +kernel) rfl
theorem zw_716 : (Jvm.Cond.code ({ cls := "PierYears$Irons", name := "mark", desc := "(LPierYears$Asking;)I" } : Jvm.MethodName) prog_5_method_3_code (2 : Nat) (Option.some Jvm.ClassFile.FieldType.int)) ∈ zTB := zm _ 769 (by decide +kernel) rfl
theorem zw_717 : (Jvm.Cond.methodLink "PierYears$Irons" (22 : Nat) ({ cls := "PierYears$Pier", name := "mark", desc := "(LPierYears$Asking;)I" } : Jvm.MethodName)) ∈ zTB := zm _ 770 (by decide +kernel) rfl
theorem zw_718 : (Jvm.Cond.instanceMethod ({ cls := "PierYears$Pier", name := "mark", desc := "(LPierYears$Asking;)I" } : Jvm.MethodName)) ∈ zTB := zm _ 771 (by decide +kernel) rfl
theorem zw_719 : (Jvm.Cond.code ({ cls := "PierYears$Pier", name := "mark", desc := "(LPierYears$Asking;)I" } : Jvm.MethodName) prog_7_method_3_code (2 : Nat) (Option.some Jvm.ClassFile.FieldType.int)) ∈ zTB := zm _ 772 (by decide +kernel) rfl
theorem zw_720 : (Jvm.Cond.methodLink "PierYears$Pier" (7 : Nat) ({ cls := "PierYears$Asking", name := "leave", desc := "(I)V" } : Jvm.MethodName)) ∈ zTB := zm _ 773 (by decide +kernel) rfl
theorem zw_721 : (Jvm.Cond.selects "PierYears$Irons" ({ cls := "PierYears$Pier", name := "size", desc := "(LPierYears$Asking;)I" } : Jvm.MethodName) ({ cls := "PierYears$Irons", name := "size", desc := "(LPierYears$Asking;)I" } : Jvm.MethodName)) ∈ zTB := zm _ 774 (by decide +kernel) rfl
theorem zw_722 : (Jvm.Cond.selects "PierYears$Piled" ({ cls := "PierYears$Pier", name := "size", desc := "(LPierYears$Asking;)I" } : Jvm.MethodName) ({ cls := "PierYears$Piled", name := "size", desc := "(LPierYears$Asking;)I" } : Jvm.MethodName)) ∈ zTB := zm _ 775 (by decide +kernel) rfl
theorem zw_723 : (Jvm.Cond.instanceMethod ({ cls := "PierYears$Piled", name := "size", desc := "(LPierYears$Asking;)I" } : Jvm.MethodName)) ∈ zTB := zm _ 776 (by decide +kernel) rfl
theorem zw_724 : (Jvm.Cond.code ({ cls := "PierYears$Piled", name := "size", desc := "(LPierYears$Asking;)I" } : Jvm.MethodName) prog_8_method_2_code (2 : Nat) (Option.some Jvm.ClassFile.FieldType.int)) ∈ zTB := zm _ 777 (by decide +kernel) rfl
theorem zw_725 : (Jvm.Cond.methodLink "PierYears$Piled" (7 : Nat) ({ cls := "PierYears$Asking", name := "leave", desc := "(I)V" } : Jvm.MethodName)) ∈ zTB := zm _ 778 (by decide +kernel) rfl
theorem zw_726 : (Jvm.Cond.methodLink "PierYears$Piled" (13 : Nat) ({ cls := "PierYears$Wooden", name := "size", desc := "(LPierYears$Asking;)I" } : Jvm.MethodName)) ∈ zTB := zm _ 779 (by decide +kernel) rfl
theorem zw_727 : (Jvm.Cond.instanceMethod ({ cls := "PierYears$Wooden", name := "size", desc := "(LPierYears$Asking;)I" } : Jvm.MethodName)) ∈ zTB := zm _ 780 (by decide +kernel) rfl
theorem zw_728 : (Jvm.Cond.code ({ cls := "PierYears$Wooden", name := "size", desc := "(LPierYears$Asking;)I" } : Jvm.MethodName) prog_12_method_2_code (2 : Nat) (Option.some Jvm.ClassFile.FieldType.int)) ∈ zTB := zm _ 781 (by decide +kernel) rfl
theorem zw_729 : (Jvm.Cond.methodLink "PierYears$Wooden" (7 : Nat) ({ cls := "PierYears$Asking", name := "leave", desc := "(I)V" } : Jvm.MethodName)) ∈ zTB := zm _ 782 (by decide +kernel) rfl
theorem zw_730 : (Jvm.Cond.methodLink "PierYears$Wooden" (13 : Nat) ({ cls := "PierYears$Pier", name := "size", desc := "(LPierYears$Asking;)I" } : Jvm.MethodName)) ∈ zTB := zm _ 783 (by decide +kernel) rfl
theorem zw_731 : (Jvm.Cond.selects "PierYears$Rusty" ({ cls := "PierYears$Pier", name := "size", desc := "(LPierYears$Asking;)I" } : Jvm.MethodName) ({ cls := "PierYears$Irons", name := "size", desc := "(LPierYears$Asking;)I" } : Jvm.MethodName)) ∈ zTB := zm _ 784 (by decide +kernel) rfl
theorem zw_732 : (Jvm.Cond.selects "PierYears$Wooden" ({ cls := "PierYears$Pier", name := "size", desc := "(LPierYears$Asking;)I" } : Jvm.MethodName) ({ cls := "PierYears$Wooden", name := "size", desc := "(LPierYears$Asking;)I" } : Jvm.MethodName)) ∈ zTB := zm _ 785 (by decide +kernel) rfl
theorem zw_733 : (Jvm.Cond.code ({ cls := "PierYears$Pier", name := "size", desc := "(LPierYears$Asking;)I" } : Jvm.MethodName) prog_7_method_2_code (2 : Nat) (Option.some Jvm.ClassFile.FieldType.int)) ∈ zTB := zm _ 786 (by decide +kernel) rfl
theorem zw_734 : (Jvm.Cond.methodLink "PierYears" (334 : Nat) ({ cls := "PierYears$Pier", name := "mark", desc := "(LPierYears$Asking;)I" } : Jvm.MethodName)) ∈ zTB := zm _ 787 (by decide +kernel) rfl
theorem zw_735 : (Jvm.Cond.instanceMethod ({ cls := "PierYears$Wooden", name := "mark", desc := "(LPierYears$Asking;)I" } : Jvm.MethodName)) ∈ zTB := zm _ 788 (by decide +kernel) rfl
theorem zw_736 : (Jvm.Cond.code ({ cls := "PierYears$Wooden", name := "mark", desc := "(LPierYears$Asking;)I" } : Jvm.MethodName) prog_12_method_3_code (3 : Nat) (Option.some Jvm.ClassFile.FieldType.int)) ∈ zTB := zm _ 789 (by decide +kernel) rfl
theorem zw_737 : (Jvm.Cond.methodLink "PierYears$Wooden" (17 : Nat) ({ cls := "PierYears$Pier", name := "mark", desc := "(LPierYears$Asking;)I" } : Jvm.MethodName)) ∈ zTB := zm _ 790 (by decide +kernel) rfl
theorem zw_738 : (Jvm.Cond.methodLink "PierYears$Wooden" (20 : Nat) ({ cls := "PierYears$Wooden", name := "size", desc := "(LPierYears$Asking;)I" } : Jvm.MethodName)) ∈ zTB := zm _ 791 (by decide +kernel) rfl
theorem zw_739 : (Jvm.Cond.methodLink "PierYearsLaw" (135 : Nat) ({ cls := "PierYears", name := "trace", desc := "(I)I" } : Jvm.MethodName)) ∈ zTB := zm _ 792 (by decide +kernel) rfl
theorem zw_740 : (Jvm.Cond.instanceMethod ({ cls := "PierYears", name := "trace", desc := "(I)I" } : Jvm.MethodName)) ∈ zTB := zm _ 793 (by decide +kernel) rfl
theorem zw_741 : (Jvm.Cond.selects "PierYears" ({ cls := "PierYears", name := "trace", desc := "(I)I" } : Jvm.MethodName) ({ cls := "PierYears", name := "trace", desc := "(I)I" } : Jvm.MethodName)) ∈ zTB := zm _ 794 (by decide +kernel) rfl
theorem zw_742 : (Jvm.Cond.code ({ cls := "PierYears", name := "trace", desc := "(I)I" } : Jvm.MethodName) prog_1_method_31_code (2 : Nat) (Option.some Jvm.ClassFile.FieldType.int)) ∈ zTB := zm _ 795 (by decide +kernel) rfl
theorem zw_743 : (Jvm.Cond.methodLink "PierYears" (337 : Nat) ({ cls := "PierYears$Asking", name := "left", desc := "(I)I" } : Jvm.MethodName)) ∈ zTB := zm _ 796 (by decide +kernel) rfl
theorem zw_744 : (Jvm.Cond.instanceMethod ({ cls := "PierYears$Asking", name := "left", desc := "(I)I" } : Jvm.MethodName)) ∈ zTB := zm _ 797 (by decide +kernel) rfl
theorem zw_745 : (Jvm.Cond.selects "PierYears$Asking" ({ cls := "PierYears$Asking", name := "left", desc := "(I)I" } : Jvm.MethodName) ({ cls := "PierYears$Asking", name := "left", desc := "(I)I" } : Jvm.MethodName)) ∈ zTB := zm _ 798 (by decide +kernel) rfl
theorem zw_746 : (Jvm.Cond.code ({ cls := "PierYears$Asking", name := "left", desc := "(I)I" } : Jvm.MethodName) prog_2_method_4_code (2 : Nat) (Option.some Jvm.ClassFile.FieldType.int)) ∈ zTB := zm _ 799 (by decide +kernel) rfl
theorem zw_747 : (Jvm.Cond.constant "PierYears$Asking" (28 : Nat) (-1000000 : Int32)) ∈ zTB := zm _ 800 (by decide +kernel) rfl
theorem zw_748 : (Jvm.Cond.methodLink "PierYearsLaw" (139 : Nat) ({ cls := "PierYears", name := "count", desc := "(I)I" } : Jvm.MethodName)) ∈ zTB := zm _ 801 (by decide +kernel) rfl
theorem zw_749 : (Jvm.Cond.instanceMethod ({ cls := "PierYears", name := "count", desc := "(I)I" } : Jvm.MethodName)) ∈ zTB := zm _ 802 (by decide +kernel) rfl
theorem zw_750 : (Jvm.Cond.selects "PierYears" ({ cls := "PierYears", name := "count", desc := "(I)I" } : Jvm.MethodName) ({ cls := "PierYears", name := "count", desc := "(I)I" } : Jvm.MethodName)) ∈ zTB := zm _ 803 (by decide +kernel) rfl
theorem zw_751 : (Jvm.Cond.code ({ cls := "PierYears", name := "count", desc := "(I)I" } : Jvm.MethodName) prog_1_method_32_code (2 : Nat) (Option.some Jvm.ClassFile.FieldType.int)) ∈ zTB := zm _ 804 (by decide +kernel) rfl
theorem zw_752 : (Jvm.Cond.methodLink "PierYears" (340 : Nat) ({ cls := "PierYears$Rows", name := "present", desc := "()I" } : Jvm.MethodName)) ∈ zTB := zm _ 805 (by decide +kernel) rfl
theorem zw_753 : (Jvm.Cond.instanceMethod ({ cls := "PierYears$Rows", name := "present", desc := "()I" } : Jvm.MethodName)) ∈ zTB := zm _ 806 (by decide +kernel) rfl
theorem zw_754 : (Jvm.Cond.selects "PierYears$Rows" ({ cls := "PierYears$Rows", name := "present", desc := "()I" } : Jvm.MethodName) ({ cls := "PierYears$Rows", name := "present", desc := "()I" } : Jvm.MethodName)) ∈ zTB := zm _ 807 (by decide +kernel) rfl
theorem zw_755 : (Jvm.Cond.code ({ cls := "PierYears$Rows", name := "present", desc := "()I" } : Jvm.MethodName) prog_9_method_10_code (3 : Nat) (Option.some Jvm.ClassFile.FieldType.int)) ∈ zTB := zm _ 808 (by decide +kernel) rfl
theorem zw_756 : (Jvm.Cond.methodLink "PierYears" (343 : Nat) ({ cls := "PierYears$Tape", name := "length", desc := "()I" } : Jvm.MethodName)) ∈ zTB := zm _ 809 (by decide +kernel) rfl
theorem zw_757 : (Jvm.Cond.instanceMethod ({ cls := "PierYears$Tape", name := "length", desc := "()I" } : Jvm.MethodName)) ∈ zTB := zm _ 810 (by decide +kernel) rfl
theorem zw_758 : (Jvm.Cond.selects "PierYears$Tape" ({ cls := "PierYears$Tape", name := "length", desc := "()I" } : Jvm.MethodName) ({ cls := "PierYears$Tape", name := "length", desc := "()I" } : Jvm.MethodName)) ∈ zTB := zm _ 811 (by decide +kernel) rfl
theorem zw_759 : (Jvm.Cond.code ({ cls := "PierYears$Tape", name := "length", desc := "()I" } : Jvm.MethodName) prog_11_method_4_code (1 : Nat) (Option.some Jvm.ClassFile.FieldType.int)) ∈ zTB := zm _ 812 (by decide +kernel) rfl
theorem zw_760 : (Jvm.Cond.methodLink "PierYearsLaw" (143 : Nat) ({ cls := "PierYears", name := "status", desc := "()I" } : Jvm.MethodName)) ∈ zTB := zm _ 813 (by decide +kernel) rfl
theorem zw_761 : (Jvm.Cond.instanceMethod ({ cls := "PierYears", name := "status", desc := "()I" } : Jvm.MethodName)) ∈ zTB := zm _ 814 (by decide +kernel) rfl
theorem zw_762 : (Jvm.Cond.selects "PierYears" ({ cls := "PierYears", name := "status", desc := "()I" } : Jvm.MethodName) ({ cls := "PierYears", name := "status", desc := "()I" } : Jvm.MethodName)) ∈ zTB := zm _ 815 (by decide +kernel) rfl
theorem zw_763 : (Jvm.Cond.code ({ cls := "PierYears", name := "status", desc := "()I" } : Jvm.MethodName) prog_1_method_33_code (1 : Nat) (Option.some Jvm.ClassFile.FieldType.int)) ∈ zTB := zm _ 816 (by decide +kernel) rfl
theorem zw_764 : (Jvm.Cond.classLink "PierYearsLaw" (10 : Nat) "PierYearsModel") ∈ zTB := zm _ 817 (by decide +kernel) rfl
theorem zw_765 : (Jvm.Cond.instantiable "PierYearsModel" (26 : Nat)) ∈ zTB := zm _ 818 (by decide +kernel) rfl
theorem zw_766 : (Jvm.Cond.methodLink "PierYearsLaw" (12 : Nat) ({ cls := "PierYearsModel", name := "<init>", desc := "()V" } : Jvm.MethodName)) ∈ zTB := zm _ 819 (by decide +kernel) rfl
theorem zw_767 : (Jvm.Cond.instanceMethod ({ cls := "PierYearsModel", name := "<init>", desc := "()V" } : Jvm.MethodName)) ∈ zTB := zm _ 820 (by decide +kernel) rfl
theorem zw_768 : (Jvm.Cond.code ({ cls := "PierYearsModel", name := "<init>", desc := "()V" } : Jvm.MethodName) prog_14_method_1_code (2 : Nat) (Option.none : Option Jvm.ClassFile.FieldType)) ∈ zTB := zm _ 821 (by decide +kernel) rfl
theorem zw_769 : (Jvm.Cond.methodLink "PierYearsModel" (1 : Nat) ({ cls := "java/lang/Object", name := "<init>", desc := "()V" } : Jvm.MethodName)) ∈ zTB := zm _ 822 (by decide +kernel) rfl
theorem zw_770 : (Jvm.Cond.fieldLink "PierYearsModel" (7 : Nat) "PierYearsModel" "lane" "[I") ∈ zTB := zm _ 823 (by decide +kernel) rfl
theorem zw_771 : (Jvm.Cond.fieldLink "PierYearsModel" (13 : Nat) "PierYearsModel" "size" "[I") ∈ zTB := zm _ 824 (by decide +kernel) rfl
theorem zw_772 : (Jvm.Cond.fieldLink "PierYearsModel" (16 : Nat) "PierYearsModel" "items" "[I") ∈ zTB := zm _ 825 (by decide +kernel) rfl
theorem zw_773 : (Jvm.Cond.fieldLink "PierYearsModel" (57 : Nat) "PierYearsModel" "status" "I") ∈ zTB := zm _ 826 (by decide +kernel) rfl
theorem zw_774 : (Jvm.Cond.fieldLink "PierYearsModel" (77 : Nat) "PierYearsModel" "letters" "I") ∈ zTB := zm _ 827 (by decide +kernel) rfl
theorem zw_775 : (Jvm.Cond.fieldLink "PierYearsModel" (19 : Nat) "PierYearsModel" "tape" "[I") ∈ zTB := zm _ 828 (by decide +kernel) rfl
theorem zw_776 : (Jvm.Cond.fieldLink "PierYearsModel" (81 : Nat) "PierYearsModel" "position" "I") ∈ zTB := zm _ 829 (by decide +kernel) rfl
theorem zw_777 : (Jvm.Cond.fieldLink "PierYearsModel" (84 : Nat) "PierYearsModel" "tokenAt" "I") ∈ zTB := zm _ 830 (by decide +kernel) rfl
theorem zw_778 : (Jvm.Cond.fieldLink "PierYearsModel" (90 : Nat) "PierYearsModel" "token" "I") ∈ zTB := zm _ 831 (by decide +kernel) rfl
theorem zw_779 : (Jvm.Cond.fieldLink "PierYearsModel" (87 : Nat) "PierYearsModel" "number" "I") ∈ zTB := zm _ 832 (by decide +kernel) rfl
theorem zw_780 : (Jvm.Cond.fieldLink "PierYearsModel" (93 : Nat) "PierYearsModel" "faultIs" "I") ∈ zTB := zm _ 833 (by decide +kernel) rfl
theorem zw_781 : (Jvm.Cond.fieldLink "PierYearsModel" (125 : Nat) "PierYearsModel" "faultNow" "I") ∈ zTB := zm _ 834 (by decide +kernel) rfl
theorem zw_782 : (Jvm.Cond.fieldLink "PierYearsModel" (22 : Nat) "PierYearsModel" "now" "[I") ∈ zTB := zm _ 835 (by decide +kernel) rfl
theorem zw_783 : (Jvm.Cond.fieldLink "PierYearsModel" (25 : Nat) "PierYearsModel" "read" "[I") ∈ zTB := zm _ 836 (by decide +kernel) rfl
theorem zw_784 : (Jvm.Cond.fieldLink "PierYearsModel" (28 : Nat) "PierYearsModel" "tried" "[I") ∈ zTB := zm _ 837 (by decide +kernel) rfl
theorem zw_785 : (Jvm.Cond.fieldLink "PierYearsModel" (31 : Nat) "PierYearsModel" "image" "[I") ∈ zTB := zm _ 838 (by decide +kernel) rfl
theorem zw_786 : (Jvm.Cond.fieldLink "PierYearsModel" (34 : Nat) "PierYearsModel" "isKept" "[Z") ∈ zTB := zm _ 839 (by decide +kernel) rfl
theorem zw_787 : (Jvm.Cond.fieldLink "PierYearsModel" (38 : Nat) "PierYearsModel" "actOf" "[I") ∈ zTB := zm _ 840 (by decide +kernel) rfl
theorem zw_788 : (Jvm.Cond.fieldLink "PierYearsModel" (133 : Nat) "PierYearsModel" "acts" "I") ∈ zTB := zm _ 841 (by decide +kernel) rfl
theorem zw_789 : (Jvm.Cond.fieldLink "PierYearsModel" (41 : Nat) "PierYearsModel" "trace" "[I") ∈ zTB := zm _ 842 (by decide +kernel) rfl
theorem zw_790 : (Jvm.Cond.fieldLink "PierYearsModel" (220 : Nat) "PierYearsModel" "traceMany" "I") ∈ zTB := zm _ 843 (by decide +kernel) rfl
theorem zw_791 : (Jvm.Cond.fieldLink "PierYearsModel" (44 : Nat) "PierYearsModel" "told" "[I") ∈ zTB := zm _ 844 (by decide +kernel) rfl
theorem zw_792 : (Jvm.Cond.fieldLink "PierYearsModel" (47 : Nat) "PierYearsModel" "given" "[I") ∈ zTB := zm _ 845 (by decide +kernel) rfl
theorem zw_793 : (Jvm.Cond.fieldLink "PierYearsModel" (50 : Nat) "PierYearsModel" "bestGiven" "[I") ∈ zTB := zm _ 846 (by decide +kernel) rfl
theorem zw_794 : (Jvm.Cond.fieldLink "PierYearsModel" (179 : Nat) "PierYearsModel" "bestMuch" "I") ∈ zTB := zm _ 847 (by decide +kernel) rfl
theorem zw_795 : (Jvm.Cond.fieldLink "PierYearsModel" (182 : Nat) "PierYearsModel" "bestMany" "I") ∈ zTB := zm _ 848 (by decide +kernel) rfl
theorem zw_796 : (Jvm.Cond.laysFinal "PierYearsModel" "PierYearsModel" "lane" "[I") ∈ zTB := zm _ 849 (by decide +kernel) rfl
theorem zw_798 : (Jvm.Cond.laysFinal "PierYearsModel" "PierYearsModel" "size" "[I") ∈ zTB := zm _ 851 (by decide +kernel) rfl
theorem zw_800 : (Jvm.Cond.laysFinal "PierYearsModel" "PierYearsModel" "items" "[I") ∈ zTB := zm _ 853 (by decide +kernel) rfl
theorem zw_802 : (Jvm.Cond.lays "PierYearsModel" "PierYearsModel" "status" "I") ∈ zTB := zm _ 855 (by decide +kernel) rfl
theorem zw_804 : (Jvm.Cond.lays "PierYearsModel" "PierYearsModel" "letters" "I") ∈ zTB := zm _ 857 (by decide +kernel) rfl
theorem zw_806 : (Jvm.Cond.laysFinal "PierYearsModel" "PierYearsModel" "tape" "[I") ∈ zTB := zm _ 859 (by decide +kernel) rfl
theorem zw_808 : (Jvm.Cond.lays "PierYearsModel" "PierYearsModel" "position" "I") ∈ zTB := zm _ 861 (by decide +kernel) rfl
theorem zw_810 : (Jvm.Cond.lays "PierYearsModel" "PierYearsModel" "tokenAt" "I") ∈ zTB := zm _ 863 (by decide +kernel) rfl
theorem zw_812 : (Jvm.Cond.lays "PierYearsModel" "PierYearsModel" "token" "I") ∈ zTB := zm _ 865 (by decide +kernel) rfl
theorem zw_814 : (Jvm.Cond.lays "PierYearsModel" "PierYearsModel" "number" "I") ∈ zTB := zm _ 867 (by decide +kernel) rfl
theorem zw_816 : (Jvm.Cond.lays "PierYearsModel" "PierYearsModel" "faultIs" "I") ∈ zTB := zm _ 869 (by decide +kernel) rfl
theorem zw_818 : (Jvm.Cond.lays "PierYearsModel" "PierYearsModel" "faultNow" "I") ∈ zTB := zm _ 871 (by decide +kernel) rfl
theorem zw_820 : (Jvm.Cond.laysFinal "PierYearsModel" "PierYearsModel" "now" "[I") ∈ zTB := zm _ 873 (by decide +kernel) rfl
theorem zw_822 : (Jvm.Cond.laysFinal "PierYearsModel" "PierYearsModel" "read" "[I") ∈ zTB := zm _ 875 (by decide +kernel) rfl
theorem zw_824 : (Jvm.Cond.laysFinal "PierYearsModel" "PierYearsModel" "tried" "[I") ∈ zTB := zm _ 877 (by decide +kernel) rfl
theorem zw_826 : (Jvm.Cond.laysFinal "PierYearsModel" "PierYearsModel" "image" "[I") ∈ zTB := zm _ 879 (by decide +kernel) rfl
theorem zw_828 : (Jvm.Cond.laysFinal "PierYearsModel" "PierYearsModel" "isKept" "[Z") ∈ zTB := zm _ 881 (by decide +kernel) rfl
theorem zw_830 : (Jvm.Cond.laysFinal "PierYearsModel" "PierYearsModel" "actOf" "[I") ∈ zTB := zm _ 883 (by decide +kernel) rfl
theorem zw_832 : (Jvm.Cond.lays "PierYearsModel" "PierYearsModel" "acts" "I") ∈ zTB := zm _ 885 (by decide +kernel) rfl
theorem zw_834 : (Jvm.Cond.laysFinal "PierYearsModel" "PierYearsModel" "trace" "[I") ∈ zTB := zm _ 887 (by decide +kernel) rfl
theorem zw_836 : (Jvm.Cond.lays "PierYearsModel" "PierYearsModel" "traceMany" "I") ∈ zTB := zm _ 889 (by decide +kernel) rfl
theorem zw_838 : (Jvm.Cond.laysFinal "PierYearsModel" "PierYearsModel" "told" "[I") ∈ zTB := zm _ 891 (by decide +kernel) rfl
theorem zw_840 : (Jvm.Cond.laysFinal "PierYearsModel" "PierYearsModel" "given" "[I") ∈ zTB := zm _ 893 (by decide +kernel) rfl
theorem zw_842 : (Jvm.Cond.laysFinal "PierYearsModel" "PierYearsModel" "bestGiven" "[I") ∈ zTB := zm _ 895 (by decide +kernel) rfl
theorem zw_844 : (Jvm.Cond.lays "PierYearsModel" "PierYearsModel" "bestMuch" "I") ∈ zTB := zm _ 897 (by decide +kernel) rfl
theorem zw_846 : (Jvm.Cond.lays "PierYearsModel" "PierYearsModel" "bestMany" "I") ∈ zTB := zm _ 899 (by decide +kernel) rfl
theorem zw_848 : (Jvm.Cond.superclass "PierYearsModel" "java/lang/Object") ∈ zTB := zm _ 901 (by decide +kernel) rfl
theorem zw_849 : (Jvm.Cond.arrayClass Jvm.ClassFile.FieldType.boolean) ∈ zTB := zm _ 902 (by decide +kernel) rfl
theorem zw_850 : (Jvm.Cond.methodLink "PierYearsLaw" (17 : Nat) ({ cls := "PierYearsModel", name := "row", desc := "(III)I" } : Jvm.MethodName)) ∈ zTB := zm _ 903 (by decide +kernel) rfl
theorem zw_851 : (Jvm.Cond.instanceMethod ({ cls := "PierYearsModel", name := "row", desc := "(III)I" } : Jvm.MethodName)) ∈ zTB := zm _ 904 (by decide +kernel) rfl
theorem zw_852 : (Jvm.Cond.selects "PierYearsModel" ({ cls := "PierYearsModel", name := "row", desc := "(III)I" } : Jvm.MethodName) ({ cls := "PierYearsModel", name := "row", desc := "(III)I" } : Jvm.MethodName)) ∈ zTB := zm _ 905 (by decide +kernel) rfl
theorem zw_853 : (Jvm.Cond.code ({ cls := "PierYearsModel", name := "row", desc := "(III)I" } : Jvm.MethodName) prog_14_method_10_code (5 : Nat) (Option.some Jvm.ClassFile.FieldType.int)) ∈ zTB := zm _ 906 (by decide +kernel) rfl
theorem zw_854 : (Jvm.Cond.methodLink "PierYearsModel" (62 : Nat) ({ cls := "PierYearsModel", name := "isRow", desc := "(I)Z" } : Jvm.MethodName)) ∈ zTB := zm _ 907 (by decide +kernel) rfl
theorem zw_855 : (Jvm.Cond.static ({ cls := "PierYearsModel", name := "isRow", desc := "(I)Z" } : Jvm.MethodName)) ∈ zTB := zm _ 908 (by decide +kernel) rfl
theorem zw_856 : (Jvm.Cond.code ({ cls := "PierYearsModel", name := "isRow", desc := "(I)Z" } : Jvm.MethodName) prog_14_method_9_code (1 : Nat) (Option.some Jvm.ClassFile.FieldType.boolean)) ∈ zTB := zm _ 909 (by decide +kernel) rfl
theorem zw_857 : (Jvm.Cond.methodLink "PierYearsModel" (53 : Nat) ({ cls := "PierYearsModel", name := "in", desc := "(III)Z" } : Jvm.MethodName)) ∈ zTB := zm _ 910 (by decide +kernel) rfl
theorem zw_858 : (Jvm.Cond.static ({ cls := "PierYearsModel", name := "in", desc := "(III)Z" } : Jvm.MethodName)) ∈ zTB := zm _ 911 (by decide +kernel) rfl
theorem zw_859 : (Jvm.Cond.code ({ cls := "PierYearsModel", name := "in", desc := "(III)Z" } : Jvm.MethodName) prog_14_method_2_code (3 : Nat) (Option.some Jvm.ClassFile.FieldType.boolean)) ∈ zTB := zm _ 912 (by decide +kernel) rfl
theorem zw_860 : (Jvm.Cond.constant "PierYearsModel" (66 : Nat) (-1000001 : Int32)) ∈ zTB := zm _ 913 (by decide +kernel) rfl
theorem zw_861 : (Jvm.Cond.methodLink "PierYearsModel" (67 : Nat) ({ cls := "PierYearsModel", name := "finds", desc := "(I)I" } : Jvm.MethodName)) ∈ zTB := zm _ 914 (by decide +kernel) rfl
theorem zw_863 : (Jvm.Cond.instanceMethod ({ cls := "PierYearsModel", name := "finds", desc := "(I)I" } : Jvm.MethodName)) ∈ zTB := zm _ 916 (by decide +kernel) rfl
theorem zw_864 : (Jvm.Cond.code ({ cls := "PierYearsModel", name := "finds", desc := "(I)I" } : Jvm.MethodName) prog_14_method_7_code (2 : Nat) (Option.some Jvm.ClassFile.FieldType.int)) ∈ zTB := zm _ 917 (by decide +kernel) rfl
theorem zw_865 : (Jvm.Cond.constant "PierYearsModel" (61 : Nat) (-1000010 : Int32)) ∈ zTB := zm _ 918 (by decide +kernel) rfl
theorem zw_866 : (Jvm.Cond.methodLink "PierYearsModel" (71 : Nat) ({ cls := "PierYearsModel", name := "done", desc := "(I)I" } : Jvm.MethodName)) ∈ zTB := zm _ 919 (by decide +kernel) rfl
theorem zw_868 : (Jvm.Cond.instanceMethod ({ cls := "PierYearsModel", name := "done", desc := "(I)I" } : Jvm.MethodName)) ∈ zTB := zm _ 921 (by decide +kernel) rfl
theorem zw_869 : (Jvm.Cond.code ({ cls := "PierYearsModel", name := "done", desc := "(I)I" } : Jvm.MethodName) prog_14_method_8_code (2 : Nat) (Option.some Jvm.ClassFile.FieldType.int)) ∈ zTB := zm _ 922 (by decide +kernel) rfl
theorem zw_870 : (Jvm.Cond.methodLink "PierYearsLaw" (21 : Nat) ({ cls := "PierYearsModel", name := "set", desc := "(III)I" } : Jvm.MethodName)) ∈ zTB := zm _ 923 (by decide +kernel) rfl
theorem zw_871 : (Jvm.Cond.instanceMethod ({ cls := "PierYearsModel", name := "set", desc := "(III)I" } : Jvm.MethodName)) ∈ zTB := zm _ 924 (by decide +kernel) rfl
theorem zw_872 : (Jvm.Cond.selects "PierYearsModel" ({ cls := "PierYearsModel", name := "set", desc := "(III)I" } : Jvm.MethodName) ({ cls := "PierYearsModel", name := "set", desc := "(III)I" } : Jvm.MethodName)) ∈ zTB := zm _ 925 (by decide +kernel) rfl
theorem zw_873 : (Jvm.Cond.code ({ cls := "PierYearsModel", name := "set", desc := "(III)I" } : Jvm.MethodName) prog_14_method_11_code (4 : Nat) (Option.some Jvm.ClassFile.FieldType.int)) ∈ zTB := zm _ 926 (by decide +kernel) rfl
theorem zw_874 : (Jvm.Cond.methodLink "PierYearsLaw" (26 : Nat) ({ cls := "PierYearsModel", name := "copy", desc := "(IIIII)I" } : Jvm.MethodName)) ∈ zTB := zm _ 927 (by decide +kernel) rfl
theorem zw_875 : (Jvm.Cond.instanceMethod ({ cls := "PierYearsModel", name := "copy", desc := "(IIIII)I" } : Jvm.MethodName)) ∈ zTB := zm _ 928 (by decide +kernel) rfl
theorem zw_876 : (Jvm.Cond.selects "PierYearsModel" ({ cls := "PierYearsModel", name := "copy", desc := "(IIIII)I" } : Jvm.MethodName) ({ cls := "PierYearsModel", name := "copy", desc := "(IIIII)I" } : Jvm.MethodName)) ∈ zTB := zm _ 929 (by decide +kernel) rfl
theorem zw_877 : (Jvm.Cond.code ({ cls := "PierYearsModel", name := "copy", desc := "(IIIII)I" } : Jvm.MethodName) prog_14_method_13_code (9 : Nat) (Option.some Jvm.ClassFile.FieldType.int)) ∈ zTB := zm _ 930 (by decide +kernel) rfl
theorem zw_878 : (Jvm.Cond.methodLink "PierYearsModel" (74 : Nat) ({ cls := "PierYearsModel", name := "isPart", desc := "(III)Z" } : Jvm.MethodName)) ∈ zTB := zm _ 931 (by decide +kernel) rfl
theorem zw_879 : (Jvm.Cond.static ({ cls := "PierYearsModel", name := "isPart", desc := "(III)Z" } : Jvm.MethodName)) ∈ zTB := zm _ 932 (by decide +kernel) rfl
theorem zw_880 : (Jvm.Cond.code ({ cls := "PierYearsModel", name := "isPart", desc := "(III)Z" } : Jvm.MethodName) prog_14_method_12_code (3 : Nat) (Option.some Jvm.ClassFile.FieldType.boolean)) ∈ zTB := zm _ 933 (by decide +kernel) rfl
theorem zw_881 : (Jvm.Cond.methodLink "PierYearsLaw" (31 : Nat) ({ cls := "PierYearsModel", name := "drop", desc := "(I)I" } : Jvm.MethodName)) ∈ zTB := zm _ 934 (by decide +kernel) rfl
theorem zw_882 : (Jvm.Cond.instanceMethod ({ cls := "PierYearsModel", name := "drop", desc := "(I)I" } : Jvm.MethodName)) ∈ zTB := zm _ 935 (by decide +kernel) rfl
theorem zw_883 : (Jvm.Cond.selects "PierYearsModel" ({ cls := "PierYearsModel", name := "drop", desc := "(I)I" } : Jvm.MethodName) ({ cls := "PierYearsModel", name := "drop", desc := "(I)I" } : Jvm.MethodName)) ∈ zTB := zm _ 936 (by decide +kernel) rfl
theorem zw_884 : (Jvm.Cond.code ({ cls := "PierYearsModel", name := "drop", desc := "(I)I" } : Jvm.MethodName) prog_14_method_14_code (2 : Nat) (Option.some Jvm.ClassFile.FieldType.int)) ∈ zTB := zm _ 937 (by decide +kernel) rfl
theorem zw_885 : (Jvm.Cond.methodLink "PierYearsLaw" (35 : Nat) ({ cls := "PierYearsModel", name := "feed", desc := "(I)I" } : Jvm.MethodName)) ∈ zTB := zm _ 938 (by decide +kernel) rfl
theorem zw_886 : (Jvm.Cond.instanceMethod ({ cls := "PierYearsModel", name := "feed", desc := "(I)I" } : Jvm.MethodName)) ∈ zTB := zm _ 939 (by decide +kernel) rfl
theorem zw_887 : (Jvm.Cond.selects "PierYearsModel" ({ cls := "PierYearsModel", name := "feed", desc := "(I)I" } : Jvm.MethodName) ({ cls := "PierYearsModel", name := "feed", desc := "(I)I" } : Jvm.MethodName)) ∈ zTB := zm _ 940 (by decide +kernel) rfl
theorem zw_888 : (Jvm.Cond.code ({ cls := "PierYearsModel", name := "feed", desc := "(I)I" } : Jvm.MethodName) prog_14_method_15_code (2 : Nat) (Option.some Jvm.ClassFile.FieldType.int)) ∈ zTB := zm _ 941 (by decide +kernel) rfl
theorem zw_889 : (Jvm.Cond.constant "PierYearsModel" (80 : Nat) (-1000003 : Int32)) ∈ zTB := zm _ 942 (by decide +kernel) rfl
theorem zw_890 : (Jvm.Cond.methodLink "PierYearsLaw" (40 : Nat) ({ cls := "PierYearsModel", name := "coast", desc := "()I" } : Jvm.MethodName)) ∈ zTB := zm _ 943 (by decide +kernel) rfl
theorem zw_891 : (Jvm.Cond.instanceMethod ({ cls := "PierYearsModel", name := "coast", desc := "()I" } : Jvm.MethodName)) ∈ zTB := zm _ 944 (by decide +kernel) rfl
theorem zw_892 : (Jvm.Cond.selects "PierYearsModel" ({ cls := "PierYearsModel", name := "coast", desc := "()I" } : Jvm.MethodName) ({ cls := "PierYearsModel", name := "coast", desc := "()I" } : Jvm.MethodName)) ∈ zTB := zm _ 945 (by decide +kernel) rfl
theorem zw_893 : (Jvm.Cond.code ({ cls := "PierYearsModel", name := "coast", desc := "()I" } : Jvm.MethodName) prog_14_method_25_code (2 : Nat) (Option.some Jvm.ClassFile.FieldType.int)) ∈ zTB := zm _ 946 (by decide +kernel) rfl
theorem zw_894 : (Jvm.Cond.methodLink "PierYearsModel" (122 : Nat) ({ cls := "PierYearsModel", name := "isRead", desc := "()Z" } : Jvm.MethodName)) ∈ zTB := zm _ 947 (by decide +kernel) rfl
theorem zw_896 : (Jvm.Cond.instanceMethod ({ cls := "PierYearsModel", name := "isRead", desc := "()Z" } : Jvm.MethodName)) ∈ zTB := zm _ 949 (by decide +kernel) rfl
theorem zw_897 : (Jvm.Cond.code ({ cls := "PierYearsModel", name := "isRead", desc := "()Z" } : Jvm.MethodName) prog_14_method_24_code (2 : Nat) (Option.some Jvm.ClassFile.FieldType.boolean)) ∈ zTB := zm _ 950 (by decide +kernel) rfl
theorem zw_898 : (Jvm.Cond.methodLink "PierYearsModel" (115 : Nat) ({ cls := "PierYearsModel", name := "isLaw", desc := "()Z" } : Jvm.MethodName)) ∈ zTB := zm _ 951 (by decide +kernel) rfl
theorem zw_900 : (Jvm.Cond.instanceMethod ({ cls := "PierYearsModel", name := "isLaw", desc := "()Z" } : Jvm.MethodName)) ∈ zTB := zm _ 953 (by decide +kernel) rfl
theorem zw_901 : (Jvm.Cond.code ({ cls := "PierYearsModel", name := "isLaw", desc := "()Z" } : Jvm.MethodName) prog_14_method_22_code (1 : Nat) (Option.some Jvm.ClassFile.FieldType.boolean)) ∈ zTB := zm _ 954 (by decide +kernel) rfl
theorem zw_902 : (Jvm.Cond.methodLink "PierYearsModel" (106 : Nat) ({ cls := "PierYearsModel", name := "isSign", desc := "(I)Z" } : Jvm.MethodName)) ∈ zTB := zm _ 955 (by decide +kernel) rfl
theorem zw_904 : (Jvm.Cond.instanceMethod ({ cls := "PierYearsModel", name := "isSign", desc := "(I)Z" } : Jvm.MethodName)) ∈ zTB := zm _ 957 (by decide +kernel) rfl
theorem zw_905 : (Jvm.Cond.code ({ cls := "PierYearsModel", name := "isSign", desc := "(I)Z" } : Jvm.MethodName) prog_14_method_18_code (2 : Nat) (Option.some Jvm.ClassFile.FieldType.boolean)) ∈ zTB := zm _ 958 (by decide +kernel) rfl
theorem zw_906 : (Jvm.Cond.methodLink "PierYearsModel" (96 : Nat) ({ cls := "PierYearsModel", name := "nextToken", desc := "()V" } : Jvm.MethodName)) ∈ zTB := zm _ 959 (by decide +kernel) rfl
theorem zw_908 : (Jvm.Cond.instanceMethod ({ cls := "PierYearsModel", name := "nextToken", desc := "()V" } : Jvm.MethodName)) ∈ zTB := zm _ 961 (by decide +kernel) rfl
theorem zw_909 : (Jvm.Cond.code ({ cls := "PierYearsModel", name := "nextToken", desc := "()V" } : Jvm.MethodName) prog_14_method_16_code (2 : Nat) (Option.none : Option Jvm.ClassFile.FieldType)) ∈ zTB := zm _ 962 (by decide +kernel) rfl
theorem zw_910 : (Jvm.Cond.methodLink "PierYearsModel" (99 : Nat) ({ cls := "PierYearsModel", name := "fails", desc := "(I)Z" } : Jvm.MethodName)) ∈ zTB := zm _ 963 (by decide +kernel) rfl
theorem zw_912 : (Jvm.Cond.instanceMethod ({ cls := "PierYearsModel", name := "fails", desc := "(I)Z" } : Jvm.MethodName)) ∈ zTB := zm _ 965 (by decide +kernel) rfl
theorem zw_913 : (Jvm.Cond.code ({ cls := "PierYearsModel", name := "fails", desc := "(I)Z" } : Jvm.MethodName) prog_14_method_17_code (2 : Nat) (Option.some Jvm.ClassFile.FieldType.boolean)) ∈ zTB := zm _ 966 (by decide +kernel) rfl
theorem zw_914 : (Jvm.Cond.methodLink "PierYearsModel" (109 : Nat) ({ cls := "PierYearsModel", name := "isPart", desc := "(IIII)Z" } : Jvm.MethodName)) ∈ zTB := zm _ 967 (by decide +kernel) rfl
theorem zw_916 : (Jvm.Cond.instanceMethod ({ cls := "PierYearsModel", name := "isPart", desc := "(IIII)Z" } : Jvm.MethodName)) ∈ zTB := zm _ 969 (by decide +kernel) rfl
theorem zw_917 : (Jvm.Cond.code ({ cls := "PierYearsModel", name := "isPart", desc := "(IIII)Z" } : Jvm.MethodName) prog_14_method_21_code (5 : Nat) (Option.some Jvm.ClassFile.FieldType.boolean)) ∈ zTB := zm _ 970 (by decide +kernel) rfl
theorem zw_918 : (Jvm.Cond.methodLink "PierYearsModel" (102 : Nat) ({ cls := "PierYearsModel", name := "isNumber", desc := "(II)Z" } : Jvm.MethodName)) ∈ zTB := zm _ 971 (by decide +kernel) rfl
theorem zw_920 : (Jvm.Cond.instanceMethod ({ cls := "PierYearsModel", name := "isNumber", desc := "(II)Z" } : Jvm.MethodName)) ∈ zTB := zm _ 973 (by decide +kernel) rfl
theorem zw_921 : (Jvm.Cond.code ({ cls := "PierYearsModel", name := "isNumber", desc := "(II)Z" } : Jvm.MethodName) prog_14_method_19_code (3 : Nat) (Option.some Jvm.ClassFile.FieldType.boolean)) ∈ zTB := zm _ 974 (by decide +kernel) rfl
theorem zw_922 : (Jvm.Cond.methodLink "PierYearsModel" (119 : Nat) ({ cls := "PierYearsModel", name := "isPier", desc := "()Z" } : Jvm.MethodName)) ∈ zTB := zm _ 975 (by decide +kernel) rfl
theorem zw_924 : (Jvm.Cond.instanceMethod ({ cls := "PierYearsModel", name := "isPier", desc := "()Z" } : Jvm.MethodName)) ∈ zTB := zm _ 977 (by decide +kernel) rfl
theorem zw_925 : (Jvm.Cond.code ({ cls := "PierYearsModel", name := "isPier", desc := "()Z" } : Jvm.MethodName) prog_14_method_23_code (3 : Nat) (Option.some Jvm.ClassFile.FieldType.boolean)) ∈ zTB := zm _ 978 (by decide +kernel) rfl
theorem zw_926 : (Jvm.Cond.methodLink "PierYearsModel" (112 : Nat) ({ cls := "PierYearsModel", name := "sortBy", desc := "(I)I" } : Jvm.MethodName)) ∈ zTB := zm _ 979 (by decide +kernel) rfl
theorem zw_927 : (Jvm.Cond.static ({ cls := "PierYearsModel", name := "sortBy", desc := "(I)I" } : Jvm.MethodName)) ∈ zTB := zm _ 980 (by decide +kernel) rfl
theorem zw_928 : (Jvm.Cond.code ({ cls := "PierYearsModel", name := "sortBy", desc := "(I)I" } : Jvm.MethodName) prog_14_method_20_code (1 : Nat) (Option.some Jvm.ClassFile.FieldType.int)) ∈ zTB := zm _ 981 (by decide +kernel) rfl
theorem zw_929 : (Jvm.Cond.constant "PierYearsModel" (128 : Nat) (-1000100 : Int32)) ∈ zTB := zm _ 982 (by decide +kernel) rfl
theorem zw_930 : (Jvm.Cond.methodLink "PierYearsModel" (129 : Nat) ({ cls := "PierYearsModel", name := "lay", desc := "([II[II)V" } : Jvm.MethodName)) ∈ zTB := zm _ 983 (by decide +kernel) rfl
theorem zw_931 : (Jvm.Cond.static ({ cls := "PierYearsModel", name := "lay", desc := "([II[II)V" } : Jvm.MethodName)) ∈ zTB := zm _ 984 (by decide +kernel) rfl
theorem zw_932 : (Jvm.Cond.code ({ cls := "PierYearsModel", name := "lay", desc := "([II[II)V" } : Jvm.MethodName) prog_14_method_4_code (5 : Nat) (Option.none : Option Jvm.ClassFile.FieldType)) ∈ zTB := zm _ 985 (by decide +kernel) rfl
theorem zw_933 : (Jvm.Cond.methodLink "PierYearsLaw" (44 : Nat) ({ cls := "PierYearsModel", name := "fault", desc := "()I" } : Jvm.MethodName)) ∈ zTB := zm _ 986 (by decide +kernel) rfl
theorem zw_934 : (Jvm.Cond.instanceMethod ({ cls := "PierYearsModel", name := "fault", desc := "()I" } : Jvm.MethodName)) ∈ zTB := zm _ 987 (by decide +kernel) rfl
theorem zw_935 : (Jvm.Cond.selects "PierYearsModel" ({ cls := "PierYearsModel", name := "fault", desc := "()I" } : Jvm.MethodName) ({ cls := "PierYearsModel", name := "fault", desc := "()I" } : Jvm.MethodName)) ∈ zTB := zm _ 988 (by decide +kernel) rfl
theorem zw_936 : (Jvm.Cond.code ({ cls := "PierYearsModel", name := "fault", desc := "()I" } : Jvm.MethodName) prog_14_method_26_code (1 : Nat) (Option.some Jvm.ClassFile.FieldType.int)) ∈ zTB := zm _ 989 (by decide +kernel) rfl
theorem zw_937 : (Jvm.Cond.methodLink "PierYearsLaw" (48 : Nat) ({ cls := "PierYearsModel", name := "seasons", desc := "(I)I" } : Jvm.MethodName)) ∈ zTB := zm _ 990 (by decide +kernel) rfl
theorem zw_938 : (Jvm.Cond.instanceMethod ({ cls := "PierYearsModel", name := "seasons", desc := "(I)I" } : Jvm.MethodName)) ∈ zTB := zm _ 991 (by decide +kernel) rfl
theorem zw_939 : (Jvm.Cond.selects "PierYearsModel" ({ cls := "PierYearsModel", name := "seasons", desc := "(I)I" } : Jvm.MethodName) ({ cls := "PierYearsModel", name := "seasons", desc := "(I)I" } : Jvm.MethodName)) ∈ zTB := zm _ 992 (by decide +kernel) rfl
theorem zw_940 : (Jvm.Cond.code ({ cls := "PierYearsModel", name := "seasons", desc := "(I)I" } : Jvm.MethodName) prog_14_method_35_code (3 : Nat) (Option.some Jvm.ClassFile.FieldType.int)) ∈ zTB := zm _ 993 (by decide +kernel) rfl
theorem zw_941 : (Jvm.Cond.methodLink "PierYearsModel" (154 : Nat) ({ cls := "PierYearsModel", name := "isCoast", desc := "()Z" } : Jvm.MethodName)) ∈ zTB := zm _ 994 (by decide +kernel) rfl
theorem zw_943 : (Jvm.Cond.instanceMethod ({ cls := "PierYearsModel", name := "isCoast", desc := "()Z" } : Jvm.MethodName)) ∈ zTB := zm _ 996 (by decide +kernel) rfl
theorem zw_944 : (Jvm.Cond.code ({ cls := "PierYearsModel", name := "isCoast", desc := "()Z" } : Jvm.MethodName) prog_14_method_5_code (1 : Nat) (Option.some Jvm.ClassFile.FieldType.boolean)) ∈ zTB := zm _ 997 (by decide +kernel) rfl
theorem zw_945 : (Jvm.Cond.constant "PierYearsModel" (157 : Nat) (-1000002 : Int32)) ∈ zTB := zm _ 998 (by decide +kernel) rfl
theorem zw_946 : (Jvm.Cond.methodLink "PierYearsModel" (158 : Nat) ({ cls := "PierYearsModel", name := "note", desc := "()V" } : Jvm.MethodName)) ∈ zTB := zm _ 999 (by decide +kernel) rfl
theorem zw_948 : (Jvm.Cond.instanceMethod ({ cls := "PierYearsModel", name := "note", desc := "()V" } : Jvm.MethodName)) ∈ zTB := zm _ 1001 (by decide +kernel) rfl
theorem zw_949 : (Jvm.Cond.code ({ cls := "PierYearsModel", name := "note", desc := "()V" } : Jvm.MethodName) prog_14_method_27_code (2 : Nat) (Option.none : Option Jvm.ClassFile.FieldType)) ∈ zTB := zm _ 1002 (by decide +kernel) rfl
theorem zw_950 : (Jvm.Cond.methodLink "PierYearsModel" (161 : Nat) ({ cls := "PierYearsModel", name := "stormIn", desc := "([I)I" } : Jvm.MethodName)) ∈ zTB := zm _ 1003 (by decide +kernel) rfl
theorem zw_951 : (Jvm.Cond.static ({ cls := "PierYearsModel", name := "stormIn", desc := "([I)I" } : Jvm.MethodName)) ∈ zTB := zm _ 1004 (by decide +kernel) rfl
theorem zw_952 : (Jvm.Cond.code ({ cls := "PierYearsModel", name := "stormIn", desc := "([I)I" } : Jvm.MethodName) prog_14_method_32_code (1 : Nat) (Option.some Jvm.ClassFile.FieldType.int)) ∈ zTB := zm _ 1005 (by decide +kernel) rfl
theorem zw_953 : (Jvm.Cond.methodLink "PierYearsModel" (164 : Nat) ({ cls := "PierYearsModel", name := "goBy", desc := "([II)V" } : Jvm.MethodName)) ∈ zTB := zm _ 1006 (by decide +kernel) rfl
theorem zw_954 : (Jvm.Cond.static ({ cls := "PierYearsModel", name := "goBy", desc := "([II)V" } : Jvm.MethodName)) ∈ zTB := zm _ 1007 (by decide +kernel) rfl
theorem zw_955 : (Jvm.Cond.code ({ cls := "PierYearsModel", name := "goBy", desc := "([II)V" } : Jvm.MethodName) prog_14_method_34_code (4 : Nat) (Option.none : Option Jvm.ClassFile.FieldType)) ∈ zTB := zm _ 1008 (by decide +kernel) rfl
theorem zw_956 : (Jvm.Cond.methodLink "PierYearsModel" (147 : Nat) ({ cls := "PierYearsModel", name := "takenIn", desc := "([I)I" } : Jvm.MethodName)) ∈ zTB := zm _ 1009 (by decide +kernel) rfl
theorem zw_957 : (Jvm.Cond.static ({ cls := "PierYearsModel", name := "takenIn", desc := "([I)I" } : Jvm.MethodName)) ∈ zTB := zm _ 1010 (by decide +kernel) rfl
theorem zw_958 : (Jvm.Cond.code ({ cls := "PierYearsModel", name := "takenIn", desc := "([I)I" } : Jvm.MethodName) prog_14_method_31_code (3 : Nat) (Option.some Jvm.ClassFile.FieldType.int)) ∈ zTB := zm _ 1011 (by decide +kernel) rfl
theorem zw_959 : (Jvm.Cond.methodLink "PierYearsModel" (143 : Nat) ({ cls := "PierYearsModel", name := "takeOf", desc := "([II)I" } : Jvm.MethodName)) ∈ zTB := zm _ 1012 (by decide +kernel) rfl
theorem zw_960 : (Jvm.Cond.static ({ cls := "PierYearsModel", name := "takeOf", desc := "([II)I" } : Jvm.MethodName)) ∈ zTB := zm _ 1013 (by decide +kernel) rfl
theorem zw_961 : (Jvm.Cond.code ({ cls := "PierYearsModel", name := "takeOf", desc := "([II)I" } : Jvm.MethodName) prog_14_method_30_code (2 : Nat) (Option.some Jvm.ClassFile.FieldType.int)) ∈ zTB := zm _ 1014 (by decide +kernel) rfl
theorem zw_962 : (Jvm.Cond.methodLink "PierYearsModel" (136 : Nat) ({ cls := "PierYearsModel", name := "placeBy", desc := "([III)I" } : Jvm.MethodName)) ∈ zTB := zm _ 1015 (by decide +kernel) rfl
theorem zw_963 : (Jvm.Cond.static ({ cls := "PierYearsModel", name := "placeBy", desc := "([III)I" } : Jvm.MethodName)) ∈ zTB := zm _ 1016 (by decide +kernel) rfl
theorem zw_964 : (Jvm.Cond.code ({ cls := "PierYearsModel", name := "placeBy", desc := "([III)I" } : Jvm.MethodName) prog_14_method_28_code (4 : Nat) (Option.some Jvm.ClassFile.FieldType.int)) ∈ zTB := zm _ 1017 (by decide +kernel) rfl
theorem zw_965 : (Jvm.Cond.methodLink "PierYearsModel" (140 : Nat) ({ cls := "PierYearsModel", name := "takeBy", desc := "([III)I" } : Jvm.MethodName)) ∈ zTB := zm _ 1018 (by decide +kernel) rfl
theorem zw_966 : (Jvm.Cond.static ({ cls := "PierYearsModel", name := "takeBy", desc := "([III)I" } : Jvm.MethodName)) ∈ zTB := zm _ 1019 (by decide +kernel) rfl
theorem zw_967 : (Jvm.Cond.code ({ cls := "PierYearsModel", name := "takeBy", desc := "([III)I" } : Jvm.MethodName) prog_14_method_29_code (3 : Nat) (Option.some Jvm.ClassFile.FieldType.int)) ∈ zTB := zm _ 1020 (by decide +kernel) rfl
theorem zw_968 : (Jvm.Cond.methodLink "PierYearsModel" (151 : Nat) ({ cls := "PierYearsModel", name := "lossOf", desc := "([III)I" } : Jvm.MethodName)) ∈ zTB := zm _ 1021 (by decide +kernel) rfl
theorem zw_969 : (Jvm.Cond.static ({ cls := "PierYearsModel", name := "lossOf", desc := "([III)I" } : Jvm.MethodName)) ∈ zTB := zm _ 1022 (by decide +kernel) rfl
theorem zw_970 : (Jvm.Cond.code ({ cls := "PierYearsModel", name := "lossOf", desc := "([III)I" } : Jvm.MethodName) prog_14_method_33_code (5 : Nat) (Option.some Jvm.ClassFile.FieldType.int)) ∈ zTB := zm _ 1023 (by decide +kernel) rfl
theorem zw_971 : (Jvm.Cond.methodLink "PierYearsLaw" (52 : Nat) ({ cls := "PierYearsModel", name := "build", desc := "(I)I" } : Jvm.MethodName)) ∈ zTB := zm _ 1024 (by decide +kernel) rfl
theorem zw_972 : (Jvm.Cond.instanceMethod ({ cls := "PierYearsModel", name := "build", desc := "(I)I" } : Jvm.MethodName)) ∈ zTB := zm _ 1025 (by decide +kernel) rfl
theorem zw_973 : (Jvm.Cond.selects "PierYearsModel" ({ cls := "PierYearsModel", name := "build", desc := "(I)I" } : Jvm.MethodName) ({ cls := "PierYearsModel", name := "build", desc := "(I)I" } : Jvm.MethodName)) ∈ zTB := zm _ 1026 (by decide +kernel) rfl
theorem zw_974 : (Jvm.Cond.code ({ cls := "PierYearsModel", name := "build", desc := "(I)I" } : Jvm.MethodName) prog_14_method_36_code (2 : Nat) (Option.some Jvm.ClassFile.FieldType.int)) ∈ zTB := zm _ 1027 (by decide +kernel) rfl
theorem zw_975 : (Jvm.Cond.methodLink "PierYearsModel" (168 : Nat) ({ cls := "PierYearsModel", name := "isOne", desc := "(I)Z" } : Jvm.MethodName)) ∈ zTB := zm _ 1028 (by decide +kernel) rfl
theorem zw_977 : (Jvm.Cond.instanceMethod ({ cls := "PierYearsModel", name := "isOne", desc := "(I)Z" } : Jvm.MethodName)) ∈ zTB := zm _ 1030 (by decide +kernel) rfl
theorem zw_978 : (Jvm.Cond.code ({ cls := "PierYearsModel", name := "isOne", desc := "(I)Z" } : Jvm.MethodName) prog_14_method_6_code (2 : Nat) (Option.some Jvm.ClassFile.FieldType.boolean)) ∈ zTB := zm _ 1031 (by decide +kernel) rfl
theorem zw_979 : (Jvm.Cond.methodLink "PierYearsLaw" (57 : Nat) ({ cls := "PierYearsModel", name := "turn", desc := "(II)I" } : Jvm.MethodName)) ∈ zTB := zm _ 1032 (by decide +kernel) rfl
theorem zw_980 : (Jvm.Cond.instanceMethod ({ cls := "PierYearsModel", name := "turn", desc := "(II)I" } : Jvm.MethodName)) ∈ zTB := zm _ 1033 (by decide +kernel) rfl
theorem zw_981 : (Jvm.Cond.selects "PierYearsModel" ({ cls := "PierYearsModel", name := "turn", desc := "(II)I" } : Jvm.MethodName) ({ cls := "PierYearsModel", name := "turn", desc := "(II)I" } : Jvm.MethodName)) ∈ zTB := zm _ 1034 (by decide +kernel) rfl
theorem zw_982 : (Jvm.Cond.code ({ cls := "PierYearsModel", name := "turn", desc := "(II)I" } : Jvm.MethodName) prog_14_method_37_code (4 : Nat) (Option.some Jvm.ClassFile.FieldType.int)) ∈ zTB := zm _ 1035 (by decide +kernel) rfl
theorem zw_983 : (Jvm.Cond.methodLink "PierYearsLaw" (61 : Nat) ({ cls := "PierYearsModel", name := "buy", desc := "(I)I" } : Jvm.MethodName)) ∈ zTB := zm _ 1036 (by decide +kernel) rfl
theorem zw_984 : (Jvm.Cond.instanceMethod ({ cls := "PierYearsModel", name := "buy", desc := "(I)I" } : Jvm.MethodName)) ∈ zTB := zm _ 1037 (by decide +kernel) rfl
theorem zw_985 : (Jvm.Cond.selects "PierYearsModel" ({ cls := "PierYearsModel", name := "buy", desc := "(I)I" } : Jvm.MethodName) ({ cls := "PierYearsModel", name := "buy", desc := "(I)I" } : Jvm.MethodName)) ∈ zTB := zm _ 1038 (by decide +kernel) rfl
theorem zw_986 : (Jvm.Cond.code ({ cls := "PierYearsModel", name := "buy", desc := "(I)I" } : Jvm.MethodName) prog_14_method_38_code (2 : Nat) (Option.some Jvm.ClassFile.FieldType.int)) ∈ zTB := zm _ 1039 (by decide +kernel) rfl
theorem zw_987 : (Jvm.Cond.methodLink "PierYearsLaw" (65 : Nat) ({ cls := "PierYearsModel", name := "undo", desc := "()I" } : Jvm.MethodName)) ∈ zTB := zm _ 1040 (by decide +kernel) rfl
theorem zw_988 : (Jvm.Cond.instanceMethod ({ cls := "PierYearsModel", name := "undo", desc := "()I" } : Jvm.MethodName)) ∈ zTB := zm _ 1041 (by decide +kernel) rfl
theorem zw_989 : (Jvm.Cond.selects "PierYearsModel" ({ cls := "PierYearsModel", name := "undo", desc := "()I" } : Jvm.MethodName) ({ cls := "PierYearsModel", name := "undo", desc := "()I" } : Jvm.MethodName)) ∈ zTB := zm _ 1042 (by decide +kernel) rfl
theorem zw_990 : (Jvm.Cond.code ({ cls := "PierYearsModel", name := "undo", desc := "()I" } : Jvm.MethodName) prog_14_method_39_code (1 : Nat) (Option.some Jvm.ClassFile.FieldType.int)) ∈ zTB := zm _ 1043 (by decide +kernel) rfl
theorem zw_991 : (Jvm.Cond.methodLink "PierYearsLaw" (69 : Nat) ({ cls := "PierYearsModel", name := "pier", desc := "(II)I" } : Jvm.MethodName)) ∈ zTB := zm _ 1044 (by decide +kernel) rfl
theorem zw_992 : (Jvm.Cond.instanceMethod ({ cls := "PierYearsModel", name := "pier", desc := "(II)I" } : Jvm.MethodName)) ∈ zTB := zm _ 1045 (by decide +kernel) rfl
theorem zw_993 : (Jvm.Cond.selects "PierYearsModel" ({ cls := "PierYearsModel", name := "pier", desc := "(II)I" } : Jvm.MethodName) ({ cls := "PierYearsModel", name := "pier", desc := "(II)I" } : Jvm.MethodName)) ∈ zTB := zm _ 1046 (by decide +kernel) rfl
theorem zw_994 : (Jvm.Cond.code ({ cls := "PierYearsModel", name := "pier", desc := "(II)I" } : Jvm.MethodName) prog_14_method_40_code (3 : Nat) (Option.some Jvm.ClassFile.FieldType.int)) ∈ zTB := zm _ 1047 (by decide +kernel) rfl
theorem zw_995 : (Jvm.Cond.methodLink "PierYearsLaw" (73 : Nat) ({ cls := "PierYearsModel", name := "ahead", desc := "(III)I" } : Jvm.MethodName)) ∈ zTB := zm _ 1048 (by decide +kernel) rfl
theorem zw_996 : (Jvm.Cond.instanceMethod ({ cls := "PierYearsModel", name := "ahead", desc := "(III)I" } : Jvm.MethodName)) ∈ zTB := zm _ 1049 (by decide +kernel) rfl
theorem zw_997 : (Jvm.Cond.selects "PierYearsModel" ({ cls := "PierYearsModel", name := "ahead", desc := "(III)I" } : Jvm.MethodName) ({ cls := "PierYearsModel", name := "ahead", desc := "(III)I" } : Jvm.MethodName)) ∈ zTB := zm _ 1050 (by decide +kernel) rfl
theorem zw_998 : (Jvm.Cond.code ({ cls := "PierYearsModel", name := "ahead", desc := "(III)I" } : Jvm.MethodName) prog_14_method_43_code (4 : Nat) (Option.some Jvm.ClassFile.FieldType.int)) ∈ zTB := zm _ 1051 (by decide +kernel) rfl
theorem zw_999 : (Jvm.Cond.methodLink "PierYearsModel" (171 : Nat) ({ cls := "PierYearsModel", name := "begin", desc := "()V" } : Jvm.MethodName)) ∈ zTB := zm _ 1052 (by decide +kernel) rfl
theorem zw_1001 : (Jvm.Cond.instanceMethod ({ cls := "PierYearsModel", name := "begin", desc := "()V" } : Jvm.MethodName)) ∈ zTB := zm _ 1054 (by decide +kernel) rfl
theorem zw_1002 : (Jvm.Cond.code ({ cls := "PierYearsModel", name := "begin", desc := "()V" } : Jvm.MethodName) prog_14_method_41_code (1 : Nat) (Option.none : Option Jvm.ClassFile.FieldType)) ∈ zTB := zm _ 1055 (by decide +kernel) rfl
theorem zw_1003 : (Jvm.Cond.methodLink "PierYearsModel" (174 : Nat) ({ cls := "PierYearsModel", name := "goOn", desc := "(I)V" } : Jvm.MethodName)) ∈ zTB := zm _ 1056 (by decide +kernel) rfl
theorem zw_1005 : (Jvm.Cond.instanceMethod ({ cls := "PierYearsModel", name := "goOn", desc := "(I)V" } : Jvm.MethodName)) ∈ zTB := zm _ 1058 (by decide +kernel) rfl
theorem zw_1006 : (Jvm.Cond.code ({ cls := "PierYearsModel", name := "goOn", desc := "(I)V" } : Jvm.MethodName) prog_14_method_42_code (3 : Nat) (Option.none : Option Jvm.ClassFile.FieldType)) ∈ zTB := zm _ 1059 (by decide +kernel) rfl
theorem zw_1007 : (Jvm.Cond.methodLink "PierYearsLaw" (77 : Nat) ({ cls := "PierYearsModel", name := "purse", desc := "(I)I" } : Jvm.MethodName)) ∈ zTB := zm _ 1060 (by decide +kernel) rfl
theorem zw_1008 : (Jvm.Cond.instanceMethod ({ cls := "PierYearsModel", name := "purse", desc := "(I)I" } : Jvm.MethodName)) ∈ zTB := zm _ 1061 (by decide +kernel) rfl
theorem zw_1009 : (Jvm.Cond.selects "PierYearsModel" ({ cls := "PierYearsModel", name := "purse", desc := "(I)I" } : Jvm.MethodName) ({ cls := "PierYearsModel", name := "purse", desc := "(I)I" } : Jvm.MethodName)) ∈ zTB := zm _ 1062 (by decide +kernel) rfl
theorem zw_1010 : (Jvm.Cond.code ({ cls := "PierYearsModel", name := "purse", desc := "(I)I" } : Jvm.MethodName) prog_14_method_44_code (2 : Nat) (Option.some Jvm.ClassFile.FieldType.int)) ∈ zTB := zm _ 1063 (by decide +kernel) rfl
theorem zw_1011 : (Jvm.Cond.methodLink "PierYearsLaw" (81 : Nat) ({ cls := "PierYearsModel", name := "gone", desc := "(I)I" } : Jvm.MethodName)) ∈ zTB := zm _ 1064 (by decide +kernel) rfl
theorem zw_1012 : (Jvm.Cond.instanceMethod ({ cls := "PierYearsModel", name := "gone", desc := "(I)I" } : Jvm.MethodName)) ∈ zTB := zm _ 1065 (by decide +kernel) rfl
theorem zw_1013 : (Jvm.Cond.selects "PierYearsModel" ({ cls := "PierYearsModel", name := "gone", desc := "(I)I" } : Jvm.MethodName) ({ cls := "PierYearsModel", name := "gone", desc := "(I)I" } : Jvm.MethodName)) ∈ zTB := zm _ 1066 (by decide +kernel) rfl
theorem zw_1014 : (Jvm.Cond.code ({ cls := "PierYearsModel", name := "gone", desc := "(I)I" } : Jvm.MethodName) prog_14_method_45_code (3 : Nat) (Option.some Jvm.ClassFile.FieldType.int)) ∈ zTB := zm _ 1067 (by decide +kernel) rfl
theorem zw_1015 : (Jvm.Cond.constant "PierYearsModel" (178 : Nat) (-1000000 : Int32)) ∈ zTB := zm _ 1068 (by decide +kernel) rfl
theorem zw_1016 : (Jvm.Cond.methodLink "PierYearsLaw" (86 : Nat) ({ cls := "PierYearsModel", name := "aim", desc := "(IIII)I" } : Jvm.MethodName)) ∈ zTB := zm _ 1069 (by decide +kernel) rfl
theorem zw_1017 : (Jvm.Cond.instanceMethod ({ cls := "PierYearsModel", name := "aim", desc := "(IIII)I" } : Jvm.MethodName)) ∈ zTB := zm _ 1070 (by decide +kernel) rfl
theorem zw_1018 : (Jvm.Cond.selects "PierYearsModel" ({ cls := "PierYearsModel", name := "aim", desc := "(IIII)I" } : Jvm.MethodName) ({ cls := "PierYearsModel", name := "aim", desc := "(IIII)I" } : Jvm.MethodName)) ∈ zTB := zm _ 1071 (by decide +kernel) rfl
theorem zw_1019 : (Jvm.Cond.code ({ cls := "PierYearsModel", name := "aim", desc := "(IIII)I" } : Jvm.MethodName) prog_14_method_46_code (7 : Nat) (Option.some Jvm.ClassFile.FieldType.int)) ∈ zTB := zm _ 1072 (by decide +kernel) rfl
theorem zw_1020 : (Jvm.Cond.methodLink "PierYearsLaw" (90 : Nat) ({ cls := "PierYearsModel", name := "take", desc := "(II)I" } : Jvm.MethodName)) ∈ zTB := zm _ 1073 (by decide +kernel) rfl
theorem zw_1021 : (Jvm.Cond.instanceMethod ({ cls := "PierYearsModel", name := "take", desc := "(II)I" } : Jvm.MethodName)) ∈ zTB := zm _ 1074 (by decide +kernel) rfl
theorem zw_1022 : (Jvm.Cond.selects "PierYearsModel" ({ cls := "PierYearsModel", name := "take", desc := "(II)I" } : Jvm.MethodName) ({ cls := "PierYearsModel", name := "take", desc := "(II)I" } : Jvm.MethodName)) ∈ zTB := zm _ 1075 (by decide +kernel) rfl
theorem zw_1023 : (Jvm.Cond.code ({ cls := "PierYearsModel", name := "take", desc := "(II)I" } : Jvm.MethodName) prog_14_method_47_code (3 : Nat) (Option.some Jvm.ClassFile.FieldType.int)) ∈ zTB := zm _ 1076 (by decide +kernel) rfl
theorem zw_1024 : (Jvm.Cond.methodLink "PierYearsLaw" (94 : Nat) ({ cls := "PierYearsModel", name := "give", desc := "(II)I" } : Jvm.MethodName)) ∈ zTB := zm _ 1077 (by decide +kernel) rfl
theorem zw_1025 : (Jvm.Cond.instanceMethod ({ cls := "PierYearsModel", name := "give", desc := "(II)I" } : Jvm.MethodName)) ∈ zTB := zm _ 1078 (by decide +kernel) rfl
theorem zw_1026 : (Jvm.Cond.selects "PierYearsModel" ({ cls := "PierYearsModel", name := "give", desc := "(II)I" } : Jvm.MethodName) ({ cls := "PierYearsModel", name := "give", desc := "(II)I" } : Jvm.MethodName)) ∈ zTB := zm _ 1079 (by decide +kernel) rfl
theorem zw_1027 : (Jvm.Cond.code ({ cls := "PierYearsModel", name := "give", desc := "(II)I" } : Jvm.MethodName) prog_14_method_50_code (3 : Nat) (Option.some Jvm.ClassFile.FieldType.int)) ∈ zTB := zm _ 1080 (by decide +kernel) rfl
theorem zw_1028 : (Jvm.Cond.methodLink "PierYearsModel" (189 : Nat) ({ cls := "PierYearsModel", name := "layGive", desc := "(I)V" } : Jvm.MethodName)) ∈ zTB := zm _ 1081 (by decide +kernel) rfl
theorem zw_1030 : (Jvm.Cond.instanceMethod ({ cls := "PierYearsModel", name := "layGive", desc := "(I)V" } : Jvm.MethodName)) ∈ zTB := zm _ 1083 (by decide +kernel) rfl
theorem zw_1031 : (Jvm.Cond.code ({ cls := "PierYearsModel", name := "layGive", desc := "(I)V" } : Jvm.MethodName) prog_14_method_49_code (7 : Nat) (Option.none : Option Jvm.ClassFile.FieldType)) ∈ zTB := zm _ 1084 (by decide +kernel) rfl
theorem zw_1032 : (Jvm.Cond.methodLink "PierYearsModel" (185 : Nat) ({ cls := "PierYearsModel", name := "layGiven", desc := "(II)I" } : Jvm.MethodName)) ∈ zTB := zm _ 1085 (by decide +kernel) rfl
theorem zw_1034 : (Jvm.Cond.instanceMethod ({ cls := "PierYearsModel", name := "layGiven", desc := "(II)I" } : Jvm.MethodName)) ∈ zTB := zm _ 1087 (by decide +kernel) rfl
theorem zw_1035 : (Jvm.Cond.code ({ cls := "PierYearsModel", name := "layGiven", desc := "(II)I" } : Jvm.MethodName) prog_14_method_48_code (7 : Nat) (Option.some Jvm.ClassFile.FieldType.int)) ∈ zTB := zm _ 1088 (by decide +kernel) rfl
theorem zw_1036 : (Jvm.Cond.methodLink "PierYearsLaw" (98 : Nat) ({ cls := "PierYearsModel", name := "turning", desc := "(II)I" } : Jvm.MethodName)) ∈ zTB := zm _ 1089 (by decide +kernel) rfl
theorem zw_1037 : (Jvm.Cond.instanceMethod ({ cls := "PierYearsModel", name := "turning", desc := "(II)I" } : Jvm.MethodName)) ∈ zTB := zm _ 1090 (by decide +kernel) rfl
theorem zw_1038 : (Jvm.Cond.selects "PierYearsModel" ({ cls := "PierYearsModel", name := "turning", desc := "(II)I" } : Jvm.MethodName) ({ cls := "PierYearsModel", name := "turning", desc := "(II)I" } : Jvm.MethodName)) ∈ zTB := zm _ 1091 (by decide +kernel) rfl
theorem zw_1039 : (Jvm.Cond.code ({ cls := "PierYearsModel", name := "turning", desc := "(II)I" } : Jvm.MethodName) prog_14_method_51_code (7 : Nat) (Option.some Jvm.ClassFile.FieldType.int)) ∈ zTB := zm _ 1092 (by decide +kernel) rfl
theorem zw_1040 : (Jvm.Cond.methodLink "PierYearsLaw" (102 : Nat) ({ cls := "PierYearsModel", name := "cross", desc := "(I)I" } : Jvm.MethodName)) ∈ zTB := zm _ 1093 (by decide +kernel) rfl
theorem zw_1041 : (Jvm.Cond.instanceMethod ({ cls := "PierYearsModel", name := "cross", desc := "(I)I" } : Jvm.MethodName)) ∈ zTB := zm _ 1094 (by decide +kernel) rfl
theorem zw_1042 : (Jvm.Cond.selects "PierYearsModel" ({ cls := "PierYearsModel", name := "cross", desc := "(I)I" } : Jvm.MethodName) ({ cls := "PierYearsModel", name := "cross", desc := "(I)I" } : Jvm.MethodName)) ∈ zTB := zm _ 1095 (by decide +kernel) rfl
theorem zw_1043 : (Jvm.Cond.code ({ cls := "PierYearsModel", name := "cross", desc := "(I)I" } : Jvm.MethodName) prog_14_method_53_code (8 : Nat) (Option.some Jvm.ClassFile.FieldType.int)) ∈ zTB := zm _ 1096 (by decide +kernel) rfl
theorem zw_1044 : (Jvm.Cond.methodLink "PierYearsModel" (192 : Nat) ({ cls := "PierYearsModel", name := "crossOf", desc := "(II)I" } : Jvm.MethodName)) ∈ zTB := zm _ 1097 (by decide +kernel) rfl
theorem zw_1046 : (Jvm.Cond.instanceMethod ({ cls := "PierYearsModel", name := "crossOf", desc := "(II)I" } : Jvm.MethodName)) ∈ zTB := zm _ 1099 (by decide +kernel) rfl
theorem zw_1047 : (Jvm.Cond.code ({ cls := "PierYearsModel", name := "crossOf", desc := "(II)I" } : Jvm.MethodName) prog_14_method_52_code (4 : Nat) (Option.some Jvm.ClassFile.FieldType.int)) ∈ zTB := zm _ 1100 (by decide +kernel) rfl
theorem zw_1048 : (Jvm.Cond.methodLink "PierYearsLaw" (106 : Nat) ({ cls := "PierYearsModel", name := "fits", desc := "(IIIII)I" } : Jvm.MethodName)) ∈ zTB := zm _ 1101 (by decide +kernel) rfl
theorem zw_1049 : (Jvm.Cond.instanceMethod ({ cls := "PierYearsModel", name := "fits", desc := "(IIIII)I" } : Jvm.MethodName)) ∈ zTB := zm _ 1102 (by decide +kernel) rfl
theorem zw_1050 : (Jvm.Cond.selects "PierYearsModel" ({ cls := "PierYearsModel", name := "fits", desc := "(IIIII)I" } : Jvm.MethodName) ({ cls := "PierYearsModel", name := "fits", desc := "(IIIII)I" } : Jvm.MethodName)) ∈ zTB := zm _ 1103 (by decide +kernel) rfl
theorem zw_1051 : (Jvm.Cond.code ({ cls := "PierYearsModel", name := "fits", desc := "(IIIII)I" } : Jvm.MethodName) prog_14_method_56_code (11 : Nat) (Option.some Jvm.ClassFile.FieldType.int)) ∈ zTB := zm _ 1104 (by decide +kernel) rfl
theorem zw_1052 : (Jvm.Cond.methodLink "PierYearsModel" (195 : Nat) ({ cls := "PierYearsModel", name := "takeOut", desc := "(III)I" } : Jvm.MethodName)) ∈ zTB := zm _ 1105 (by decide +kernel) rfl
theorem zw_1054 : (Jvm.Cond.instanceMethod ({ cls := "PierYearsModel", name := "takeOut", desc := "(III)I" } : Jvm.MethodName)) ∈ zTB := zm _ 1107 (by decide +kernel) rfl
theorem zw_1055 : (Jvm.Cond.code ({ cls := "PierYearsModel", name := "takeOut", desc := "(III)I" } : Jvm.MethodName) prog_14_method_54_code (5 : Nat) (Option.some Jvm.ClassFile.FieldType.int)) ∈ zTB := zm _ 1108 (by decide +kernel) rfl
theorem zw_1056 : (Jvm.Cond.methodLink "PierYearsModel" (199 : Nat) ({ cls := "PierYearsModel", name := "isSo", desc := "(I)Z" } : Jvm.MethodName)) ∈ zTB := zm _ 1109 (by decide +kernel) rfl
theorem zw_1058 : (Jvm.Cond.instanceMethod ({ cls := "PierYearsModel", name := "isSo", desc := "(I)Z" } : Jvm.MethodName)) ∈ zTB := zm _ 1111 (by decide +kernel) rfl
theorem zw_1059 : (Jvm.Cond.code ({ cls := "PierYearsModel", name := "isSo", desc := "(I)Z" } : Jvm.MethodName) prog_14_method_55_code (3 : Nat) (Option.some Jvm.ClassFile.FieldType.boolean)) ∈ zTB := zm _ 1112 (by decide +kernel) rfl
theorem zw_1060 : (Jvm.Cond.methodLink "PierYearsLaw" (110 : Nat) ({ cls := "PierYearsModel", name := "fire", desc := "(III)I" } : Jvm.MethodName)) ∈ zTB := zm _ 1113 (by decide +kernel) rfl
theorem zw_1061 : (Jvm.Cond.instanceMethod ({ cls := "PierYearsModel", name := "fire", desc := "(III)I" } : Jvm.MethodName)) ∈ zTB := zm _ 1114 (by decide +kernel) rfl
theorem zw_1062 : (Jvm.Cond.selects "PierYearsModel" ({ cls := "PierYearsModel", name := "fire", desc := "(III)I" } : Jvm.MethodName) ({ cls := "PierYearsModel", name := "fire", desc := "(III)I" } : Jvm.MethodName)) ∈ zTB := zm _ 1115 (by decide +kernel) rfl
theorem zw_1063 : (Jvm.Cond.code ({ cls := "PierYearsModel", name := "fire", desc := "(III)I" } : Jvm.MethodName) prog_14_method_57_code (10 : Nat) (Option.some Jvm.ClassFile.FieldType.int)) ∈ zTB := zm _ 1116 (by decide +kernel) rfl
theorem zw_1064 : (Jvm.Cond.methodLink "PierYearsModel" (202 : Nat) ({ cls := "PierYearsModel", name := "isIn", desc := "(II)Z" } : Jvm.MethodName)) ∈ zTB := zm _ 1117 (by decide +kernel) rfl
theorem zw_1065 : (Jvm.Cond.static ({ cls := "PierYearsModel", name := "isIn", desc := "(II)Z" } : Jvm.MethodName)) ∈ zTB := zm _ 1118 (by decide +kernel) rfl
theorem zw_1066 : (Jvm.Cond.code ({ cls := "PierYearsModel", name := "isIn", desc := "(II)Z" } : Jvm.MethodName) prog_14_method_3_code (2 : Nat) (Option.some Jvm.ClassFile.FieldType.boolean)) ∈ zTB := zm _ 1119 (by decide +kernel) rfl
theorem zw_1067 : (Jvm.Cond.methodLink "PierYearsLaw" (114 : Nat) ({ cls := "PierYearsModel", name := "drawn", desc := "(III)I" } : Jvm.MethodName)) ∈ zTB := zm _ 1120 (by decide +kernel) rfl
theorem zw_1068 : (Jvm.Cond.instanceMethod ({ cls := "PierYearsModel", name := "drawn", desc := "(III)I" } : Jvm.MethodName)) ∈ zTB := zm _ 1121 (by decide +kernel) rfl
theorem zw_1069 : (Jvm.Cond.selects "PierYearsModel" ({ cls := "PierYearsModel", name := "drawn", desc := "(III)I" } : Jvm.MethodName) ({ cls := "PierYearsModel", name := "drawn", desc := "(III)I" } : Jvm.MethodName)) ∈ zTB := zm _ 1122 (by decide +kernel) rfl
theorem zw_1070 : (Jvm.Cond.code ({ cls := "PierYearsModel", name := "drawn", desc := "(III)I" } : Jvm.MethodName) prog_14_method_59_code (8 : Nat) (Option.some Jvm.ClassFile.FieldType.int)) ∈ zTB := zm _ 1123 (by decide +kernel) rfl
theorem zw_1071 : (Jvm.Cond.constant "PierYearsModel" (205 : Nat) (999999 : Int32)) ∈ zTB := zm _ 1124 (by decide +kernel) rfl
theorem zw_1072 : (Jvm.Cond.constantLong "PierYearsModel" (206 : Nat) (16807 : Int64)) ∈ zTB := zm _ 1125 (by decide +kernel) rfl
theorem zw_1073 : (Jvm.Cond.constantLong "PierYearsModel" (208 : Nat) (2147483647 : Int64)) ∈ zTB := zm _ 1126 (by decide +kernel) rfl
theorem zw_1074 : (Jvm.Cond.constantLong "PierYearsModel" (210 : Nat) (2 : Int64)) ∈ zTB := zm _ 1127 (by decide +kernel) rfl
theorem zw_1075 : (Jvm.Cond.constantLong "PierYearsModel" (212 : Nat) (5 : Int64)) ∈ zTB := zm _ 1128 (by decide +kernel) rfl
theorem zw_1076 : (Jvm.Cond.methodLink "PierYearsModel" (214 : Nat) ({ cls := "PierYearsModel", name := "allSpans", desc := "([I)I" } : Jvm.MethodName)) ∈ zTB := zm _ 1129 (by decide +kernel) rfl
theorem zw_1078 : (Jvm.Cond.instanceMethod ({ cls := "PierYearsModel", name := "allSpans", desc := "([I)I" } : Jvm.MethodName)) ∈ zTB := zm _ 1131 (by decide +kernel) rfl
theorem zw_1079 : (Jvm.Cond.code ({ cls := "PierYearsModel", name := "allSpans", desc := "([I)I" } : Jvm.MethodName) prog_14_method_58_code (4 : Nat) (Option.some Jvm.ClassFile.FieldType.int)) ∈ zTB := zm _ 1132 (by decide +kernel) rfl
theorem zw_1080 : (Jvm.Cond.methodLink "PierYearsLaw" (118 : Nat) ({ cls := "PierYearsModel", name := "image", desc := "(I)I" } : Jvm.MethodName)) ∈ zTB := zm _ 1133 (by decide +kernel) rfl
theorem zw_1081 : (Jvm.Cond.instanceMethod ({ cls := "PierYearsModel", name := "image", desc := "(I)I" } : Jvm.MethodName)) ∈ zTB := zm _ 1134 (by decide +kernel) rfl
theorem zw_1082 : (Jvm.Cond.selects "PierYearsModel" ({ cls := "PierYearsModel", name := "image", desc := "(I)I" } : Jvm.MethodName) ({ cls := "PierYearsModel", name := "image", desc := "(I)I" } : Jvm.MethodName)) ∈ zTB := zm _ 1135 (by decide +kernel) rfl
theorem zw_1083 : (Jvm.Cond.code ({ cls := "PierYearsModel", name := "image", desc := "(I)I" } : Jvm.MethodName) prog_14_method_60_code (2 : Nat) (Option.some Jvm.ClassFile.FieldType.int)) ∈ zTB := zm _ 1136 (by decide +kernel) rfl
theorem zw_1084 : (Jvm.Cond.methodLink "PierYearsLaw" (122 : Nat) ({ cls := "PierYearsModel", name := "restore", desc := "(I)I" } : Jvm.MethodName)) ∈ zTB := zm _ 1137 (by decide +kernel) rfl
theorem zw_1085 : (Jvm.Cond.instanceMethod ({ cls := "PierYearsModel", name := "restore", desc := "(I)I" } : Jvm.MethodName)) ∈ zTB := zm _ 1138 (by decide +kernel) rfl
theorem zw_1086 : (Jvm.Cond.selects "PierYearsModel" ({ cls := "PierYearsModel", name := "restore", desc := "(I)I" } : Jvm.MethodName) ({ cls := "PierYearsModel", name := "restore", desc := "(I)I" } : Jvm.MethodName)) ∈ zTB := zm _ 1139 (by decide +kernel) rfl
theorem zw_1087 : (Jvm.Cond.code ({ cls := "PierYearsModel", name := "restore", desc := "(I)I" } : Jvm.MethodName) prog_14_method_61_code (2 : Nat) (Option.some Jvm.ClassFile.FieldType.int)) ∈ zTB := zm _ 1140 (by decide +kernel) rfl
theorem zw_1088 : (Jvm.Cond.methodLink "PierYearsLaw" (126 : Nat) ({ cls := "PierYearsModel", name := "kind", desc := "(I)I" } : Jvm.MethodName)) ∈ zTB := zm _ 1141 (by decide +kernel) rfl
theorem zw_1089 : (Jvm.Cond.instanceMethod ({ cls := "PierYearsModel", name := "kind", desc := "(I)I" } : Jvm.MethodName)) ∈ zTB := zm _ 1142 (by decide +kernel) rfl
theorem zw_1090 : (Jvm.Cond.selects "PierYearsModel" ({ cls := "PierYearsModel", name := "kind", desc := "(I)I" } : Jvm.MethodName) ({ cls := "PierYearsModel", name := "kind", desc := "(I)I" } : Jvm.MethodName)) ∈ zTB := zm _ 1143 (by decide +kernel) rfl
theorem zw_1091 : (Jvm.Cond.code ({ cls := "PierYearsModel", name := "kind", desc := "(I)I" } : Jvm.MethodName) prog_14_method_62_code (2 : Nat) (Option.some Jvm.ClassFile.FieldType.int)) ∈ zTB := zm _ 1144 (by decide +kernel) rfl
theorem zw_1092 : (Jvm.Cond.methodLink "PierYearsLaw" (130 : Nat) ({ cls := "PierYearsModel", name := "as", desc := "(II)I" } : Jvm.MethodName)) ∈ zTB := zm _ 1145 (by decide +kernel) rfl
theorem zw_1093 : (Jvm.Cond.instanceMethod ({ cls := "PierYearsModel", name := "as", desc := "(II)I" } : Jvm.MethodName)) ∈ zTB := zm _ 1146 (by decide +kernel) rfl
theorem zw_1094 : (Jvm.Cond.selects "PierYearsModel" ({ cls := "PierYearsModel", name := "as", desc := "(II)I" } : Jvm.MethodName) ({ cls := "PierYearsModel", name := "as", desc := "(II)I" } : Jvm.MethodName)) ∈ zTB := zm _ 1147 (by decide +kernel) rfl
theorem zw_1095 : (Jvm.Cond.code ({ cls := "PierYearsModel", name := "as", desc := "(II)I" } : Jvm.MethodName) prog_14_method_64_code (5 : Nat) (Option.some Jvm.ClassFile.FieldType.int)) ∈ zTB := zm _ 1148 (by decide +kernel) rfl
theorem zw_1096 : (Jvm.Cond.methodLink "PierYearsModel" (217 : Nat) ({ cls := "PierYearsModel", name := "parentOf", desc := "(I)I" } : Jvm.MethodName)) ∈ zTB := zm _ 1149 (by decide +kernel) rfl
theorem zw_1097 : (Jvm.Cond.static ({ cls := "PierYearsModel", name := "parentOf", desc := "(I)I" } : Jvm.MethodName)) ∈ zTB := zm _ 1150 (by decide +kernel) rfl
theorem zw_1098 : (Jvm.Cond.code ({ cls := "PierYearsModel", name := "parentOf", desc := "(I)I" } : Jvm.MethodName) prog_14_method_63_code (1 : Nat) (Option.some Jvm.ClassFile.FieldType.int)) ∈ zTB := zm _ 1151 (by decide +kernel) rfl
theorem zw_1099 : (Jvm.Cond.methodLink "PierYearsLaw" (134 : Nat) ({ cls := "PierYearsModel", name := "ask", desc := "(II)I" } : Jvm.MethodName)) ∈ zTB := zm _ 1152 (by decide +kernel) rfl
theorem zw_1100 : (Jvm.Cond.instanceMethod ({ cls := "PierYearsModel", name := "ask", desc := "(II)I" } : Jvm.MethodName)) ∈ zTB := zm _ 1153 (by decide +kernel) rfl
theorem zw_1101 : (Jvm.Cond.selects "PierYearsModel" ({ cls := "PierYearsModel", name := "ask", desc := "(II)I" } : Jvm.MethodName) ({ cls := "PierYearsModel", name := "ask", desc := "(II)I" } : Jvm.MethodName)) ∈ zTB := zm _ 1154 (by decide +kernel) rfl
theorem zw_1102 : (Jvm.Cond.code ({ cls := "PierYearsModel", name := "ask", desc := "(II)I" } : Jvm.MethodName) prog_14_method_71_code (3 : Nat) (Option.some Jvm.ClassFile.FieldType.int)) ∈ zTB := zm _ 1155 (by decide +kernel) rfl
theorem zw_1103 : (Jvm.Cond.methodLink "PierYearsModel" (235 : Nat) ({ cls := "PierYearsModel", name := "sizeOf", desc := "(I)I" } : Jvm.MethodName)) ∈ zTB := zm _ 1156 (by decide +kernel) rfl
theorem zw_1105 : (Jvm.Cond.instanceMethod ({ cls := "PierYearsModel", name := "sizeOf", desc := "(I)I" } : Jvm.MethodName)) ∈ zTB := zm _ 1158 (by decide +kernel) rfl
theorem zw_1106 : (Jvm.Cond.code ({ cls := "PierYearsModel", name := "sizeOf", desc := "(I)I" } : Jvm.MethodName) prog_14_method_69_code (4 : Nat) (Option.some Jvm.ClassFile.FieldType.int)) ∈ zTB := zm _ 1159 (by decide +kernel) rfl
theorem zw_1107 : (Jvm.Cond.methodLink "PierYearsModel" (223 : Nat) ({ cls := "PierYearsModel", name := "begins", desc := "(I)V" } : Jvm.MethodName)) ∈ zTB := zm _ 1160 (by decide +kernel) rfl
theorem zw_1109 : (Jvm.Cond.instanceMethod ({ cls := "PierYearsModel", name := "begins", desc := "(I)V" } : Jvm.MethodName)) ∈ zTB := zm _ 1162 (by decide +kernel) rfl
theorem zw_1110 : (Jvm.Cond.code ({ cls := "PierYearsModel", name := "begins", desc := "(I)V" } : Jvm.MethodName) prog_14_method_65_code (2 : Nat) (Option.none : Option Jvm.ClassFile.FieldType)) ∈ zTB := zm _ 1163 (by decide +kernel) rfl
theorem zw_1111 : (Jvm.Cond.methodLink "PierYearsModel" (229 : Nat) ({ cls := "PierYearsModel", name := "sizeWooden", desc := "(I)I" } : Jvm.MethodName)) ∈ zTB := zm _ 1164 (by decide +kernel) rfl
theorem zw_1113 : (Jvm.Cond.instanceMethod ({ cls := "PierYearsModel", name := "sizeWooden", desc := "(I)I" } : Jvm.MethodName)) ∈ zTB := zm _ 1166 (by decide +kernel) rfl
theorem zw_1114 : (Jvm.Cond.code ({ cls := "PierYearsModel", name := "sizeWooden", desc := "(I)I" } : Jvm.MethodName) prog_14_method_68_code (2 : Nat) (Option.some Jvm.ClassFile.FieldType.int)) ∈ zTB := zm _ 1167 (by decide +kernel) rfl
theorem zw_1115 : (Jvm.Cond.methodLink "PierYearsModel" (232 : Nat) ({ cls := "PierYearsModel", name := "markNew", desc := "(I)I" } : Jvm.MethodName)) ∈ zTB := zm _ 1168 (by decide +kernel) rfl
theorem zw_1117 : (Jvm.Cond.instanceMethod ({ cls := "PierYearsModel", name := "markNew", desc := "(I)I" } : Jvm.MethodName)) ∈ zTB := zm _ 1170 (by decide +kernel) rfl
theorem zw_1118 : (Jvm.Cond.code ({ cls := "PierYearsModel", name := "markNew", desc := "(I)I" } : Jvm.MethodName) prog_14_method_67_code (3 : Nat) (Option.some Jvm.ClassFile.FieldType.int)) ∈ zTB := zm _ 1171 (by decide +kernel) rfl
theorem zw_1119 : (Jvm.Cond.methodLink "PierYearsModel" (226 : Nat) ({ cls := "PierYearsModel", name := "markIrons", desc := "(I)I" } : Jvm.MethodName)) ∈ zTB := zm _ 1172 (by decide +kernel) rfl
theorem zw_1121 : (Jvm.Cond.instanceMethod ({ cls := "PierYearsModel", name := "markIrons", desc := "(I)I" } : Jvm.MethodName)) ∈ zTB := zm _ 1174 (by decide +kernel) rfl
theorem zw_1122 : (Jvm.Cond.code ({ cls := "PierYearsModel", name := "markIrons", desc := "(I)I" } : Jvm.MethodName) prog_14_method_66_code (2 : Nat) (Option.some Jvm.ClassFile.FieldType.int)) ∈ zTB := zm _ 1175 (by decide +kernel) rfl
theorem zw_1123 : (Jvm.Cond.methodLink "PierYearsModel" (238 : Nat) ({ cls := "PierYearsModel", name := "markOf", desc := "(I)I" } : Jvm.MethodName)) ∈ zTB := zm _ 1176 (by decide +kernel) rfl
theorem zw_1125 : (Jvm.Cond.instanceMethod ({ cls := "PierYearsModel", name := "markOf", desc := "(I)I" } : Jvm.MethodName)) ∈ zTB := zm _ 1178 (by decide +kernel) rfl
theorem zw_1126 : (Jvm.Cond.code ({ cls := "PierYearsModel", name := "markOf", desc := "(I)I" } : Jvm.MethodName) prog_14_method_70_code (2 : Nat) (Option.some Jvm.ClassFile.FieldType.int)) ∈ zTB := zm _ 1179 (by decide +kernel) rfl
theorem zw_1127 : (Jvm.Cond.methodLink "PierYearsLaw" (138 : Nat) ({ cls := "PierYearsModel", name := "trace", desc := "(I)I" } : Jvm.MethodName)) ∈ zTB := zm _ 1180 (by decide +kernel) rfl
theorem zw_1128 : (Jvm.Cond.instanceMethod ({ cls := "PierYearsModel", name := "trace", desc := "(I)I" } : Jvm.MethodName)) ∈ zTB := zm _ 1181 (by decide +kernel) rfl
theorem zw_1129 : (Jvm.Cond.selects "PierYearsModel" ({ cls := "PierYearsModel", name := "trace", desc := "(I)I" } : Jvm.MethodName) ({ cls := "PierYearsModel", name := "trace", desc := "(I)I" } : Jvm.MethodName)) ∈ zTB := zm _ 1182 (by decide +kernel) rfl
theorem zw_1130 : (Jvm.Cond.code ({ cls := "PierYearsModel", name := "trace", desc := "(I)I" } : Jvm.MethodName) prog_14_method_72_code (2 : Nat) (Option.some Jvm.ClassFile.FieldType.int)) ∈ zTB := zm _ 1183 (by decide +kernel) rfl
theorem zw_1131 : (Jvm.Cond.methodLink "PierYearsLaw" (142 : Nat) ({ cls := "PierYearsModel", name := "count", desc := "(I)I" } : Jvm.MethodName)) ∈ zTB := zm _ 1184 (by decide +kernel) rfl
theorem zw_1132 : (Jvm.Cond.instanceMethod ({ cls := "PierYearsModel", name := "count", desc := "(I)I" } : Jvm.MethodName)) ∈ zTB := zm _ 1185 (by decide +kernel) rfl
theorem zw_1133 : (Jvm.Cond.selects "PierYearsModel" ({ cls := "PierYearsModel", name := "count", desc := "(I)I" } : Jvm.MethodName) ({ cls := "PierYearsModel", name := "count", desc := "(I)I" } : Jvm.MethodName)) ∈ zTB := zm _ 1186 (by decide +kernel) rfl
theorem zw_1134 : (Jvm.Cond.code ({ cls := "PierYearsModel", name := "count", desc := "(I)I" } : Jvm.MethodName) prog_14_method_73_code (4 : Nat) (Option.some Jvm.ClassFile.FieldType.int)) ∈ zTB := zm _ 1187 (by decide +kernel) rfl
theorem zw_1135 : (Jvm.Cond.methodLink "PierYearsLaw" (146 : Nat) ({ cls := "PierYearsModel", name := "status", desc := "()I" } : Jvm.MethodName)) ∈ zTB := zm _ 1188 (by decide +kernel) rfl
theorem zw_1136 : (Jvm.Cond.instanceMethod ({ cls := "PierYearsModel", name := "status", desc := "()I" } : Jvm.MethodName)) ∈ zTB := zm _ 1189 (by decide +kernel) rfl
theorem zw_1137 : (Jvm.Cond.selects "PierYearsModel" ({ cls := "PierYearsModel", name := "status", desc := "()I" } : Jvm.MethodName) ({ cls := "PierYearsModel", name := "status", desc := "()I" } : Jvm.MethodName)) ∈ zTB := zm _ 1190 (by decide +kernel) rfl
theorem zw_1138 : (Jvm.Cond.code ({ cls := "PierYearsModel", name := "status", desc := "()I" } : Jvm.MethodName) prog_14_method_74_code (1 : Nat) (Option.some Jvm.ClassFile.FieldType.int)) ∈ zTB := zm _ 1191 (by decide +kernel) rfl
theorem zw_1139 : (Jvm.Cond.sameMethod "PierYears$Irons" "PierYears$Irons" "size" "(LPierYears$Asking;)I") ∈ zTB := zm _ 1192 (by decide +kernel) rfl
theorem zw_1140 : (Jvm.Cond.sameMethod "PierYears$Pier" "PierYears$Pier" "mark" "(LPierYears$Asking;)I") ∈ zTB := zm _ 1193 (by decide +kernel) rfl
theorem zw_1141 : (Jvm.Cond.sameMethod "PierYears$Wooden" "PierYears$Wooden" "size" "(LPierYears$Asking;)I") ∈ zTB := zm _ 1194 (by decide +kernel) rfl
theorem zw_1142 : (Jvm.Cond.selects "PierYears$Cast" ({ cls := "PierYears$Pier", name := "mark", desc := "(LPierYears$Asking;)I" } : Jvm.MethodName) ({ cls := "PierYears$Cast", name := "mark", desc := "(LPierYears$Asking;)I" } : Jvm.MethodName)) ∈ zTB := zm _ 1195 (by decide +kernel) rfl
theorem zw_1143 : (Jvm.Cond.selects "PierYears$Irons" ({ cls := "PierYears$Pier", name := "mark", desc := "(LPierYears$Asking;)I" } : Jvm.MethodName) ({ cls := "PierYears$Irons", name := "mark", desc := "(LPierYears$Asking;)I" } : Jvm.MethodName)) ∈ zTB := zm _ 1196 (by decide +kernel) rfl
theorem zw_1144 : (Jvm.Cond.selects "PierYears$Piled" ({ cls := "PierYears$Pier", name := "mark", desc := "(LPierYears$Asking;)I" } : Jvm.MethodName) ({ cls := "PierYears$Wooden", name := "mark", desc := "(LPierYears$Asking;)I" } : Jvm.MethodName)) ∈ zTB := zm _ 1197 (by decide +kernel) rfl
theorem zw_1145 : (Jvm.Cond.selects "PierYears$Piled" ({ cls := "PierYears$Wooden", name := "size", desc := "(LPierYears$Asking;)I" } : Jvm.MethodName) ({ cls := "PierYears$Piled", name := "size", desc := "(LPierYears$Asking;)I" } : Jvm.MethodName)) ∈ zTB := zm _ 1198 (by decide +kernel) rfl
theorem zw_1146 : (Jvm.Cond.selects "PierYears$Wooden" ({ cls := "PierYears$Wooden", name := "size", desc := "(LPierYears$Asking;)I" } : Jvm.MethodName) ({ cls := "PierYears$Wooden", name := "size", desc := "(LPierYears$Asking;)I" } : Jvm.MethodName)) ∈ zTB := zm _ 1199 (by decide +kernel) rfl
theorem zw_1147 : (Jvm.Cond.selects "PierYears$Rusty" ({ cls := "PierYears$Pier", name := "mark", desc := "(LPierYears$Asking;)I" } : Jvm.MethodName) ({ cls := "PierYears$Rusty", name := "mark", desc := "(LPierYears$Asking;)I" } : Jvm.MethodName)) ∈ zTB := zm _ 1200 (by decide +kernel) rfl
theorem zw_1148 : (Jvm.Cond.selects "PierYears$Wooden" ({ cls := "PierYears$Pier", name := "mark", desc := "(LPierYears$Asking;)I" } : Jvm.MethodName) ({ cls := "PierYears$Wooden", name := "mark", desc := "(LPierYears$Asking;)I" } : Jvm.MethodName)) ∈ zTB := zm _ 1201 (by decide +kernel) rfl
theorem zs_0 : Cond.selects "PierYears" ⟨"PierYears", "found", "(I)I"⟩ ⟨"PierYears", "found", "(I)I"⟩ ∈ zTB := zm _ 0 (by decide +kernel) rfl
theorem zs_1 : Cond.selects "PierYears" ⟨"PierYears", "fine", "(I)I"⟩ ⟨"PierYears", "fine", "(I)I"⟩ ∈ zTB := zm _ 1 (by decide +kernel) rfl
theorem zs_2 : Cond.selects "PierYears$Tape" ⟨"PierYears$Tape", "readLaw", "(LPierYears$Coast;)Z"⟩ ⟨"PierYears$Tape", "readLaw", "(LPierYears$Coast;)Z"⟩ ∈ zTB := zm _ 2 (by decide +kernel) rfl
theorem zs_3 : Cond.selects "PierYears$Tape" ⟨"PierYears$Tape", "readSign", "(I)Z"⟩ ⟨"PierYears$Tape", "readSign", "(I)Z"⟩ ∈ zTB := zm _ 3 (by decide +kernel) rfl
theorem zs_4 : Cond.selects "PierYears$Tape" ⟨"PierYears$Tape", "byteHere", "()I"⟩ ⟨"PierYears$Tape", "byteHere", "()I"⟩ ∈ zTB := zm _ 4 (by decide +kernel) rfl
theorem zs_5 : Cond.selects "PierYears$Tape" ⟨"PierYears$Tape", "fail", "(I)Z"⟩ ⟨"PierYears$Tape", "fail", "(I)Z"⟩ ∈ zTB := zm _ 5 (by decide +kernel) rfl
theorem zs_6 : Cond.selects "PierYears$Tape" ⟨"PierYears$Tape", "readNumbers", "([I[I)Z"⟩ ⟨"PierYears$Tape", "readNumbers", "([I[I)Z"⟩ ∈ zTB := zm _ 6 (by decide +kernel) rfl
theorem zs_7 : Cond.selects "PierYears$Tape" ⟨"PierYears$Tape", "readNumber", "(III)Z"⟩ ⟨"PierYears$Tape", "readNumber", "(III)Z"⟩ ∈ zTB := zm _ 7 (by decide +kernel) rfl
theorem zs_8 : Cond.selects "PierYears$Tape" ⟨"PierYears$Tape", "readPiers", "(LPierYears$Coast;)Z"⟩ ⟨"PierYears$Tape", "readPiers", "(LPierYears$Coast;)Z"⟩ ∈ zTB := zm _ 8 (by decide +kernel) rfl
theorem zs_9 : Cond.selects "PierYears$Coast" ⟨"PierYears$Coast", "stormOf", "(I)I"⟩ ⟨"PierYears$Coast", "stormOf", "(I)I"⟩ ∈ zTB := zm _ 9 (by decide +kernel) rfl
theorem zs_10 : Cond.selects "PierYears" ⟨"PierYears", "isPier", "(I)Z"⟩ ⟨"PierYears", "isPier", "(I)Z"⟩ ∈ zTB := zm _ 10 (by decide +kernel) rfl
theorem zs_11 : Cond.selects "PierYears" ⟨"PierYears", "foretell", "(I)V"⟩ ⟨"PierYears", "foretell", "(I)V"⟩ ∈ zTB := zm _ 11 (by decide +kernel) rfl
theorem zs_12 : Cond.selects "PierYears" ⟨"PierYears", "weighGains", "(II)V"⟩ ⟨"PierYears", "weighGains", "(II)V"⟩ ∈ zTB := zm _ 12 (by decide +kernel) rfl
theorem zs_13 : Cond.selects "PierYears" ⟨"PierYears", "weighBests", "(I)V"⟩ ⟨"PierYears", "weighBests", "(I)V"⟩ ∈ zTB := zm _ 13 (by decide +kernel) rfl
theorem zs_14 : Cond.selects "PierYears" ⟨"PierYears", "gainBehind", "(III)I"⟩ ⟨"PierYears", "gainBehind", "(III)I"⟩ ∈ zTB := zm _ 14 (by decide +kernel) rfl
theorem zs_15 : Cond.selects "PierYears" ⟨"PierYears", "fewestOfBest", "(I)I"⟩ ⟨"PierYears", "fewestOfBest", "(I)I"⟩ ∈ zTB := zm _ 15 (by decide +kernel) rfl
theorem zs_16 : Cond.selects "PierYears" ⟨"PierYears", "purseWith", "(I)I"⟩ ⟨"PierYears", "purseWith", "(I)I"⟩ ∈ zTB := zm _ 16 (by decide +kernel) rfl
theorem zs_17 : Cond.selects "PierYears" ⟨"PierYears", "shareOut", "(II)V"⟩ ⟨"PierYears", "shareOut", "(II)V"⟩ ∈ zTB := zm _ 17 (by decide +kernel) rfl
theorem zs_18 : Cond.selects "PierYears" ⟨"PierYears", "firstShare", "(IIII)I"⟩ ⟨"PierYears", "firstShare", "(IIII)I"⟩ ∈ zTB := zm _ 18 (by decide +kernel) rfl
theorem zs_19 : Cond.selects "PierYears" ⟨"PierYears", "purseTurned", "(III)I"⟩ ⟨"PierYears", "purseTurned", "(III)I"⟩ ∈ zTB := zm _ 19 (by decide +kernel) rfl
theorem zs_20 : Cond.selects "PierYears" ⟨"PierYears", "isTaken", "(III)Z"⟩ ⟨"PierYears", "isTaken", "(III)Z"⟩ ∈ zTB := zm _ 20 (by decide +kernel) rfl
theorem zs_21 : Cond.selects "PierYears" ⟨"PierYears", "takenBy", "(I)I"⟩ ⟨"PierYears", "takenBy", "(I)I"⟩ ∈ zTB := zm _ 21 (by decide +kernel) rfl
theorem zs_22 : Cond.selects "PierYears" ⟨"PierYears", "chanceOf", "(II)I"⟩ ⟨"PierYears", "chanceOf", "(II)I"⟩ ∈ zTB := zm _ 22 (by decide +kernel) rfl
theorem zs_23 : Cond.selects "PierYears" ⟨"PierYears", "buildDrawn", "(J)V"⟩ ⟨"PierYears", "buildDrawn", "(J)V"⟩ ∈ zTB := zm _ 23 (by decide +kernel) rfl
theorem zs_24 : Cond.selects "PierYears" ⟨"PierYears", "imageOf", "(I)LPierYears$Coast;"⟩ ⟨"PierYears", "imageOf", "(I)LPierYears$Coast;"⟩ ∈ zTB := zm _ 24 (by decide +kernel) rfl
theorem zs_25 : Cond.selects "PierYears" ⟨"PierYears", "bodyOf", "(I)LPierYears$Pier;"⟩ ⟨"PierYears", "bodyOf", "(I)LPierYears$Pier;"⟩ ∈ zTB := zm _ 25 (by decide +kernel) rfl
theorem zs_26 : Cond.selects "PierYearsModel" ⟨"PierYearsModel", "finds", "(I)I"⟩ ⟨"PierYearsModel", "finds", "(I)I"⟩ ∈ zTB := zm _ 26 (by decide +kernel) rfl
theorem zs_27 : Cond.selects "PierYearsModel" ⟨"PierYearsModel", "done", "(I)I"⟩ ⟨"PierYearsModel", "done", "(I)I"⟩ ∈ zTB := zm _ 27 (by decide +kernel) rfl
theorem zs_28 : Cond.selects "PierYearsModel" ⟨"PierYearsModel", "isRead", "()Z"⟩ ⟨"PierYearsModel", "isRead", "()Z"⟩ ∈ zTB := zm _ 28 (by decide +kernel) rfl
theorem zs_29 : Cond.selects "PierYearsModel" ⟨"PierYearsModel", "isLaw", "()Z"⟩ ⟨"PierYearsModel", "isLaw", "()Z"⟩ ∈ zTB := zm _ 29 (by decide +kernel) rfl
theorem zs_30 : Cond.selects "PierYearsModel" ⟨"PierYearsModel", "isSign", "(I)Z"⟩ ⟨"PierYearsModel", "isSign", "(I)Z"⟩ ∈ zTB := zm _ 30 (by decide +kernel) rfl
theorem zs_31 : Cond.selects "PierYearsModel" ⟨"PierYearsModel", "nextToken", "()V"⟩ ⟨"PierYearsModel", "nextToken", "()V"⟩ ∈ zTB := zm _ 31 (by decide +kernel) rfl
theorem zs_32 : Cond.selects "PierYearsModel" ⟨"PierYearsModel", "fails", "(I)Z"⟩ ⟨"PierYearsModel", "fails", "(I)Z"⟩ ∈ zTB := zm _ 32 (by decide +kernel) rfl
theorem zs_33 : Cond.selects "PierYearsModel" ⟨"PierYearsModel", "isPart", "(IIII)Z"⟩ ⟨"PierYearsModel", "isPart", "(IIII)Z"⟩ ∈ zTB := zm _ 33 (by decide +kernel) rfl
theorem zs_34 : Cond.selects "PierYearsModel" ⟨"PierYearsModel", "isNumber", "(II)Z"⟩ ⟨"PierYearsModel", "isNumber", "(II)Z"⟩ ∈ zTB := zm _ 34 (by decide +kernel) rfl
theorem zs_35 : Cond.selects "PierYearsModel" ⟨"PierYearsModel", "isPier", "()Z"⟩ ⟨"PierYearsModel", "isPier", "()Z"⟩ ∈ zTB := zm _ 35 (by decide +kernel) rfl
theorem zs_36 : Cond.selects "PierYearsModel" ⟨"PierYearsModel", "isCoast", "()Z"⟩ ⟨"PierYearsModel", "isCoast", "()Z"⟩ ∈ zTB := zm _ 36 (by decide +kernel) rfl
theorem zs_37 : Cond.selects "PierYearsModel" ⟨"PierYearsModel", "note", "()V"⟩ ⟨"PierYearsModel", "note", "()V"⟩ ∈ zTB := zm _ 37 (by decide +kernel) rfl
theorem zs_38 : Cond.selects "PierYearsModel" ⟨"PierYearsModel", "isOne", "(I)Z"⟩ ⟨"PierYearsModel", "isOne", "(I)Z"⟩ ∈ zTB := zm _ 38 (by decide +kernel) rfl
theorem zs_39 : Cond.selects "PierYearsModel" ⟨"PierYearsModel", "begin", "()V"⟩ ⟨"PierYearsModel", "begin", "()V"⟩ ∈ zTB := zm _ 39 (by decide +kernel) rfl
theorem zs_40 : Cond.selects "PierYearsModel" ⟨"PierYearsModel", "goOn", "(I)V"⟩ ⟨"PierYearsModel", "goOn", "(I)V"⟩ ∈ zTB := zm _ 40 (by decide +kernel) rfl
theorem zs_41 : Cond.selects "PierYearsModel" ⟨"PierYearsModel", "layGive", "(I)V"⟩ ⟨"PierYearsModel", "layGive", "(I)V"⟩ ∈ zTB := zm _ 41 (by decide +kernel) rfl
theorem zs_42 : Cond.selects "PierYearsModel" ⟨"PierYearsModel", "layGiven", "(II)I"⟩ ⟨"PierYearsModel", "layGiven", "(II)I"⟩ ∈ zTB := zm _ 42 (by decide +kernel) rfl
theorem zs_43 : Cond.selects "PierYearsModel" ⟨"PierYearsModel", "crossOf", "(II)I"⟩ ⟨"PierYearsModel", "crossOf", "(II)I"⟩ ∈ zTB := zm _ 43 (by decide +kernel) rfl
theorem zs_44 : Cond.selects "PierYearsModel" ⟨"PierYearsModel", "takeOut", "(III)I"⟩ ⟨"PierYearsModel", "takeOut", "(III)I"⟩ ∈ zTB := zm _ 44 (by decide +kernel) rfl
theorem zs_45 : Cond.selects "PierYearsModel" ⟨"PierYearsModel", "isSo", "(I)Z"⟩ ⟨"PierYearsModel", "isSo", "(I)Z"⟩ ∈ zTB := zm _ 45 (by decide +kernel) rfl
theorem zs_46 : Cond.selects "PierYearsModel" ⟨"PierYearsModel", "allSpans", "([I)I"⟩ ⟨"PierYearsModel", "allSpans", "([I)I"⟩ ∈ zTB := zm _ 46 (by decide +kernel) rfl
theorem zs_47 : Cond.selects "PierYearsModel" ⟨"PierYearsModel", "sizeOf", "(I)I"⟩ ⟨"PierYearsModel", "sizeOf", "(I)I"⟩ ∈ zTB := zm _ 47 (by decide +kernel) rfl
theorem zs_48 : Cond.selects "PierYearsModel" ⟨"PierYearsModel", "begins", "(I)V"⟩ ⟨"PierYearsModel", "begins", "(I)V"⟩ ∈ zTB := zm _ 48 (by decide +kernel) rfl
theorem zs_49 : Cond.selects "PierYearsModel" ⟨"PierYearsModel", "sizeWooden", "(I)I"⟩ ⟨"PierYearsModel", "sizeWooden", "(I)I"⟩ ∈ zTB := zm _ 49 (by decide +kernel) rfl
theorem zs_50 : Cond.selects "PierYearsModel" ⟨"PierYearsModel", "markNew", "(I)I"⟩ ⟨"PierYearsModel", "markNew", "(I)I"⟩ ∈ zTB := zm _ 50 (by decide +kernel) rfl
theorem zs_51 : Cond.selects "PierYearsModel" ⟨"PierYearsModel", "markIrons", "(I)I"⟩ ⟨"PierYearsModel", "markIrons", "(I)I"⟩ ∈ zTB := zm _ 51 (by decide +kernel) rfl
theorem zs_52 : Cond.selects "PierYearsModel" ⟨"PierYearsModel", "markOf", "(I)I"⟩ ⟨"PierYearsModel", "markOf", "(I)I"⟩ ∈ zTB := zm _ 52 (by decide +kernel) rfl
