/-! the tables' words by their places, the methods' records (written by wip/whole/gen/gen_words.py) -/
theorem bw_t {w : Cond} (i : Nat) (h : tables_1[i]? = some w) (g : goodWord w = true) : w ∈ BW := List.mem_filter.mpr ⟨List.mem_append_left _ (List.mem_append_right _ (List.mem_of_getElem? h)), g⟩
theorem bw_s {w : Cond} (i : Nat) (h : (k2_sels lw_privs)[i]? = some w) (g : goodWord w = true) : w ∈ BW := List.mem_filter.mpr ⟨List.mem_append_left _ (List.mem_append_left _ (List.mem_of_getElem? h)), g⟩
theorem bw_0 : (Jvm.Cond.initialized "LiftSchedulerLaw") ∈ BW := bw_t 0 (by decide +kernel) rfl
theorem bw_1 : (Jvm.Cond.initialized "LiftSchedulerLaw$Random") ∈ BW := bw_t 1 (by decide +kernel) rfl
theorem bw_2 : (Jvm.Cond.initialized "LiftScheduler") ∈ BW := bw_t 2 (by decide +kernel) rfl
theorem bw_3 : (Jvm.Cond.initialized "LiftScheduler$Simulation") ∈ BW := bw_t 3 (by decide +kernel) rfl
theorem bw_4 : (Jvm.Cond.initialized "LiftScheduler$Script") ∈ BW := bw_t 4 (by decide +kernel) rfl
theorem bw_5 : (Jvm.Cond.initialized "java/lang/AbstractStringBuilder") ∈ BW := bw_t 5 (by decide +kernel) rfl
theorem bw_6 : (Jvm.Cond.initialized "java/lang/StringBuilder") ∈ BW := bw_t 6 (by decide +kernel) rfl
theorem bw_7 : (Jvm.Cond.initialized "java/lang/String") ∈ BW := bw_t 7 (by decide +kernel) rfl
theorem bw_8 : (Jvm.Cond.initialized "java/lang/StringUTF16") ∈ BW := bw_t 8 (by decide +kernel) rfl
theorem bw_9 : (Jvm.Cond.initialized "jdk/internal/util/ArraysSupport") ∈ BW := bw_t 9 (by decide +kernel) rfl
theorem bw_10 : (Jvm.Cond.initialized "java/lang/Math") ∈ BW := bw_t 10 (by decide +kernel) rfl
theorem bw_11 : (Jvm.Cond.initialized "java/util/Arrays") ∈ BW := bw_t 11 (by decide +kernel) rfl
theorem bw_12 : (Jvm.Cond.initialized "java/lang/System") ∈ BW := bw_t 12 (by decide +kernel) rfl
theorem bw_13 : (Jvm.Cond.initialized "jdk/internal/util/Preconditions") ∈ BW := bw_t 13 (by decide +kernel) rfl
theorem bw_14 : (Jvm.Cond.initialized "java/lang/StringLatin1") ∈ BW := bw_t 14 (by decide +kernel) rfl
theorem bw_15 : (Jvm.Cond.initialized "java/lang/Integer") ∈ BW := bw_t 15 (by decide +kernel) rfl
theorem bw_16 : (Jvm.Cond.initialized "java/lang/Enum") ∈ BW := bw_t 16 (by decide +kernel) rfl
theorem bw_17 : (Jvm.Cond.initialized "LiftScheduler$Kind") ∈ BW := bw_t 17 (by decide +kernel) rfl
theorem bw_18 : (Jvm.Cond.initialized "LiftScheduler$1") ∈ BW := bw_t 18 (by decide +kernel) rfl
theorem bw_19 : (Jvm.Cond.initialized "java/lang/Throwable") ∈ BW := bw_t 19 (by decide +kernel) rfl
theorem bw_20 : (Jvm.Cond.initialized "java/lang/Exception") ∈ BW := bw_t 20 (by decide +kernel) rfl
theorem bw_21 : (Jvm.Cond.initialized "java/lang/RuntimeException") ∈ BW := bw_t 21 (by decide +kernel) rfl
theorem bw_22 : (Jvm.Cond.initialized "java/lang/IllegalArgumentException") ∈ BW := bw_t 22 (by decide +kernel) rfl
theorem bw_23 : (Jvm.Cond.initialized "java/lang/IndexOutOfBoundsException") ∈ BW := bw_t 23 (by decide +kernel) rfl
theorem bw_24 : (Jvm.Cond.initialized "java/lang/IllegalStateException") ∈ BW := bw_t 24 (by decide +kernel) rfl
theorem bw_25 : (Jvm.Cond.classLink "LiftSchedulerLaw" (9 : Nat) "LiftScheduler") ∈ BW := bw_t 25 (by decide +kernel) rfl
theorem bw_26 : (Jvm.Cond.instantiable "LiftScheduler" (12 : Nat)) ∈ BW := bw_t 26 (by decide +kernel) rfl
theorem bw_27 : (Jvm.Cond.methodLink "LiftSchedulerLaw" (88 : Nat) ({ cls := "LiftScheduler", name := "<init>", desc := "()V" } : Jvm.MethodName)) ∈ BW := bw_t 27 (by decide +kernel) rfl
theorem bw_28 : (Jvm.Cond.instanceMethod ({ cls := "LiftScheduler", name := "<init>", desc := "()V" } : Jvm.MethodName)) ∈ BW := bw_t 28 (by decide +kernel) rfl
theorem bw_29 : (Jvm.Cond.code ({ cls := "LiftScheduler", name := "<init>", desc := "()V" } : Jvm.MethodName) prog_1_method_1_code (2 : Nat) (Option.none : Option Jvm.ClassFile.FieldType)) ∈ BW := bw_t 29 (by decide +kernel) rfl
theorem bw_30 : (Jvm.Cond.methodLink "LiftScheduler" (1 : Nat) ({ cls := "java/lang/Object", name := "<init>", desc := "()V" } : Jvm.MethodName)) ∈ BW := bw_t 30 (by decide +kernel) rfl
theorem bw_31 : (Jvm.Cond.instanceMethod ({ cls := "java/lang/Object", name := "<init>", desc := "()V" } : Jvm.MethodName)) ∈ BW := bw_t 31 (by decide +kernel) rfl
theorem bw_32 : (Jvm.Cond.code ({ cls := "java/lang/Object", name := "<init>", desc := "()V" } : Jvm.MethodName) object_method_1_code (1 : Nat) (Option.none : Option Jvm.ClassFile.FieldType)) ∈ BW := bw_t 32 (by decide +kernel) rfl
theorem bw_33 : (Jvm.Cond.classLink "LiftScheduler" (7 : Nat) "LiftScheduler$Simulation") ∈ BW := bw_t 33 (by decide +kernel) rfl
theorem bw_34 : (Jvm.Cond.instantiable "LiftScheduler$Simulation" (19 : Nat)) ∈ BW := bw_t 34 (by decide +kernel) rfl
theorem bw_35 : (Jvm.Cond.methodLink "LiftScheduler" (9 : Nat) ({ cls := "LiftScheduler$Simulation", name := "<init>", desc := "()V" } : Jvm.MethodName)) ∈ BW := bw_t 35 (by decide +kernel) rfl
theorem bw_36 : (Jvm.Cond.instanceMethod ({ cls := "LiftScheduler$Simulation", name := "<init>", desc := "()V" } : Jvm.MethodName)) ∈ BW := bw_t 36 (by decide +kernel) rfl
theorem bw_37 : (Jvm.Cond.code ({ cls := "LiftScheduler$Simulation", name := "<init>", desc := "()V" } : Jvm.MethodName) prog_5_method_1_code (1 : Nat) (Option.none : Option Jvm.ClassFile.FieldType)) ∈ BW := bw_t 37 (by decide +kernel) rfl
theorem bw_38 : (Jvm.Cond.methodLink "LiftScheduler$Simulation" (3 : Nat) ({ cls := "java/lang/Object", name := "<init>", desc := "()V" } : Jvm.MethodName)) ∈ BW := bw_t 38 (by decide +kernel) rfl
theorem bw_39 : (Jvm.Cond.methodLink "LiftScheduler$Simulation" (30 : Nat) ({ cls := "LiftScheduler$Simulation", name := "begin", desc := "(III)V" } : Jvm.MethodName)) ∈ BW := bw_t 39 (by decide +kernel) rfl
theorem bw_40 : (Jvm.Cond.instanceMethod ({ cls := "LiftScheduler$Simulation", name := "begin", desc := "(III)V" } : Jvm.MethodName)) ∈ BW := bw_t 40 (by decide +kernel) rfl
theorem bw_41 : (Jvm.Cond.selects "LiftScheduler$Simulation" ({ cls := "LiftScheduler$Simulation", name := "begin", desc := "(III)V" } : Jvm.MethodName) ({ cls := "LiftScheduler$Simulation", name := "begin", desc := "(III)V" } : Jvm.MethodName)) ∈ BW := bw_t 41 (by decide +kernel) rfl
theorem bw_42 : (Jvm.Cond.code ({ cls := "LiftScheduler$Simulation", name := "begin", desc := "(III)V" } : Jvm.MethodName) prog_5_method_2_code (4 : Nat) (Option.none : Option Jvm.ClassFile.FieldType)) ∈ BW := bw_t 42 (by decide +kernel) rfl
theorem bw_43 : (Jvm.Cond.fieldLink "LiftScheduler$Simulation" (34 : Nat) "LiftScheduler$Simulation" "floors" "I") ∈ BW := bw_t 43 (by decide +kernel) rfl
theorem bw_44 : (Jvm.Cond.fieldLink "LiftScheduler" (100 : Nat) "LiftScheduler$Simulation" "floors" "I") ∈ BW := bw_t 44 (by decide +kernel) rfl
theorem bw_45 : (Jvm.Cond.fieldLink "LiftScheduler$Script" (187 : Nat) "LiftScheduler$Simulation" "floors" "I") ∈ BW := bw_t 45 (by decide +kernel) rfl
theorem bw_46 : (Jvm.Cond.fieldLink "LiftScheduler$Simulation" (38 : Nat) "LiftScheduler$Simulation" "capacity" "I") ∈ BW := bw_t 46 (by decide +kernel) rfl
theorem bw_47 : (Jvm.Cond.fieldLink "LiftScheduler" (103 : Nat) "LiftScheduler$Simulation" "capacity" "I") ∈ BW := bw_t 47 (by decide +kernel) rfl
theorem bw_48 : (Jvm.Cond.fieldLink "LiftScheduler$Script" (211 : Nat) "LiftScheduler$Simulation" "capacity" "I") ∈ BW := bw_t 48 (by decide +kernel) rfl
theorem bw_49 : (Jvm.Cond.fieldLink "LiftScheduler$Simulation" (41 : Nat) "LiftScheduler$Simulation" "policy" "I") ∈ BW := bw_t 49 (by decide +kernel) rfl
theorem bw_50 : (Jvm.Cond.fieldLink "LiftScheduler" (106 : Nat) "LiftScheduler$Simulation" "policy" "I") ∈ BW := bw_t 50 (by decide +kernel) rfl
theorem bw_51 : (Jvm.Cond.fieldLink "LiftScheduler$Script" (205 : Nat) "LiftScheduler$Simulation" "policy" "I") ∈ BW := bw_t 51 (by decide +kernel) rfl
theorem bw_52 : (Jvm.Cond.fieldLink "LiftScheduler$Simulation" (44 : Nat) "LiftScheduler$Simulation" "time" "I") ∈ BW := bw_t 52 (by decide +kernel) rfl
theorem bw_53 : (Jvm.Cond.fieldLink "LiftScheduler" (109 : Nat) "LiftScheduler$Simulation" "time" "I") ∈ BW := bw_t 53 (by decide +kernel) rfl
theorem bw_54 : (Jvm.Cond.fieldLink "LiftScheduler$Script" (158 : Nat) "LiftScheduler$Simulation" "time" "I") ∈ BW := bw_t 54 (by decide +kernel) rfl
theorem bw_55 : (Jvm.Cond.fieldLink "LiftScheduler$Simulation" (47 : Nat) "LiftScheduler$Simulation" "floor" "I") ∈ BW := bw_t 55 (by decide +kernel) rfl
theorem bw_56 : (Jvm.Cond.fieldLink "LiftScheduler" (112 : Nat) "LiftScheduler$Simulation" "floor" "I") ∈ BW := bw_t 56 (by decide +kernel) rfl
theorem bw_57 : (Jvm.Cond.fieldLink "LiftScheduler$Script" (220 : Nat) "LiftScheduler$Simulation" "floor" "I") ∈ BW := bw_t 57 (by decide +kernel) rfl
theorem bw_58 : (Jvm.Cond.fieldLink "LiftScheduler$Simulation" (50 : Nat) "LiftScheduler$Simulation" "upward" "Z") ∈ BW := bw_t 58 (by decide +kernel) rfl
theorem bw_59 : (Jvm.Cond.fieldLink "LiftScheduler$Script" (168 : Nat) "LiftScheduler$Simulation" "upward" "Z") ∈ BW := bw_t 59 (by decide +kernel) rfl
theorem bw_60 : (Jvm.Cond.fieldLink "LiftScheduler$Simulation" (54 : Nat) "LiftScheduler$Simulation" "distance" "I") ∈ BW := bw_t 60 (by decide +kernel) rfl
theorem bw_61 : (Jvm.Cond.fieldLink "LiftScheduler" (133 : Nat) "LiftScheduler$Simulation" "distance" "I") ∈ BW := bw_t 61 (by decide +kernel) rfl
theorem bw_62 : (Jvm.Cond.fieldLink "LiftScheduler$Script" (223 : Nat) "LiftScheduler$Simulation" "distance" "I") ∈ BW := bw_t 62 (by decide +kernel) rfl
theorem bw_63 : (Jvm.Cond.fieldLink "LiftScheduler$Simulation" (57 : Nat) "LiftScheduler$Simulation" "doorTicks" "I") ∈ BW := bw_t 63 (by decide +kernel) rfl
theorem bw_64 : (Jvm.Cond.fieldLink "LiftScheduler" (136 : Nat) "LiftScheduler$Simulation" "doorTicks" "I") ∈ BW := bw_t 64 (by decide +kernel) rfl
theorem bw_65 : (Jvm.Cond.fieldLink "LiftScheduler$Simulation" (60 : Nat) "LiftScheduler$Simulation" "idleTicks" "I") ∈ BW := bw_t 65 (by decide +kernel) rfl
theorem bw_66 : (Jvm.Cond.fieldLink "LiftScheduler" (139 : Nat) "LiftScheduler$Simulation" "idleTicks" "I") ∈ BW := bw_t 66 (by decide +kernel) rfl
theorem bw_67 : (Jvm.Cond.fieldLink "LiftScheduler$Simulation" (63 : Nat) "LiftScheduler$Simulation" "reversals" "I") ∈ BW := bw_t 67 (by decide +kernel) rfl
theorem bw_68 : (Jvm.Cond.fieldLink "LiftScheduler$Simulation" (66 : Nat) "LiftScheduler$Simulation" "count" "I") ∈ BW := bw_t 68 (by decide +kernel) rfl
theorem bw_69 : (Jvm.Cond.fieldLink "LiftScheduler" (83 : Nat) "LiftScheduler$Simulation" "count" "I") ∈ BW := bw_t 69 (by decide +kernel) rfl
theorem bw_70 : (Jvm.Cond.fieldLink "LiftScheduler$Script" (184 : Nat) "LiftScheduler$Simulation" "count" "I") ∈ BW := bw_t 70 (by decide +kernel) rfl
theorem bw_71 : (Jvm.Cond.fieldLink "LiftScheduler$Simulation" (69 : Nat) "LiftScheduler$Simulation" "riding" "I") ∈ BW := bw_t 71 (by decide +kernel) rfl
theorem bw_72 : (Jvm.Cond.fieldLink "LiftScheduler" (119 : Nat) "LiftScheduler$Simulation" "riding" "I") ∈ BW := bw_t 72 (by decide +kernel) rfl
theorem bw_73 : (Jvm.Cond.fieldLink "LiftScheduler$Script" (208 : Nat) "LiftScheduler$Simulation" "riding" "I") ∈ BW := bw_t 73 (by decide +kernel) rfl
theorem bw_74 : (Jvm.Cond.fieldLink "LiftScheduler$Simulation" (72 : Nat) "LiftScheduler$Simulation" "done" "I") ∈ BW := bw_t 74 (by decide +kernel) rfl
theorem bw_75 : (Jvm.Cond.fieldLink "LiftScheduler$Script" (214 : Nat) "LiftScheduler$Simulation" "done" "I") ∈ BW := bw_t 75 (by decide +kernel) rfl
theorem bw_76 : (Jvm.Cond.fieldLink "LiftScheduler$Simulation" (9 : Nat) "LiftScheduler$Simulation" "origin" "[I") ∈ BW := bw_t 76 (by decide +kernel) rfl
theorem bw_77 : (Jvm.Cond.fieldLink "LiftScheduler" (151 : Nat) "LiftScheduler$Simulation" "origin" "[I") ∈ BW := bw_t 77 (by decide +kernel) rfl
theorem bw_78 : (Jvm.Cond.fieldLink "LiftScheduler$Simulation" (15 : Nat) "LiftScheduler$Simulation" "destination" "[I") ∈ BW := bw_t 78 (by decide +kernel) rfl
theorem bw_79 : (Jvm.Cond.fieldLink "LiftScheduler" (155 : Nat) "LiftScheduler$Simulation" "destination" "[I") ∈ BW := bw_t 79 (by decide +kernel) rfl
theorem bw_80 : (Jvm.Cond.fieldLink "LiftScheduler$Simulation" (18 : Nat) "LiftScheduler$Simulation" "arrival" "[I") ∈ BW := bw_t 80 (by decide +kernel) rfl
theorem bw_81 : (Jvm.Cond.fieldLink "LiftScheduler" (158 : Nat) "LiftScheduler$Simulation" "arrival" "[I") ∈ BW := bw_t 81 (by decide +kernel) rfl
theorem bw_82 : (Jvm.Cond.fieldLink "LiftScheduler$Simulation" (21 : Nat) "LiftScheduler$Simulation" "boarded" "[I") ∈ BW := bw_t 82 (by decide +kernel) rfl
theorem bw_83 : (Jvm.Cond.fieldLink "LiftScheduler" (161 : Nat) "LiftScheduler$Simulation" "boarded" "[I") ∈ BW := bw_t 83 (by decide +kernel) rfl
theorem bw_84 : (Jvm.Cond.fieldLink "LiftScheduler$Simulation" (24 : Nat) "LiftScheduler$Simulation" "left" "[I") ∈ BW := bw_t 84 (by decide +kernel) rfl
theorem bw_85 : (Jvm.Cond.fieldLink "LiftScheduler" (164 : Nat) "LiftScheduler$Simulation" "left" "[I") ∈ BW := bw_t 85 (by decide +kernel) rfl
theorem bw_86 : (Jvm.Cond.fieldLink "LiftScheduler$Simulation" (27 : Nat) "LiftScheduler$Simulation" "queue" "[I") ∈ BW := bw_t 86 (by decide +kernel) rfl
theorem bw_87 : (Jvm.Cond.fieldLink "LiftScheduler" (189 : Nat) "LiftScheduler$Simulation" "queue" "[I") ∈ BW := bw_t 87 (by decide +kernel) rfl
theorem bw_126 : (Jvm.Cond.superclass "LiftScheduler$Simulation" "java/lang/Object") ∈ BW := bw_t 126 (by decide +kernel) rfl
theorem bw_127 : (Jvm.Cond.arrayClass Jvm.ClassFile.FieldType.int) ∈ BW := bw_t 127 (by decide +kernel) rfl
theorem bw_129 : (Jvm.Cond.classLink "LiftScheduler" (44 : Nat) "LiftScheduler$Script") ∈ BW := bw_t 129 (by decide +kernel) rfl
theorem bw_130 : (Jvm.Cond.instantiable "LiftScheduler$Script" (9 : Nat)) ∈ BW := bw_t 130 (by decide +kernel) rfl
theorem bw_132 : (Jvm.Cond.instanceMethod ({ cls := "LiftScheduler$Script", name := "<init>", desc := "()V" } : Jvm.MethodName)) ∈ BW := bw_t 132 (by decide +kernel) rfl
theorem bw_133 : (Jvm.Cond.code ({ cls := "LiftScheduler$Script", name := "<init>", desc := "()V" } : Jvm.MethodName) prog_4_method_1_code (1 : Nat) (Option.none : Option Jvm.ClassFile.FieldType)) ∈ BW := bw_t 133 (by decide +kernel) rfl
theorem bw_134 : (Jvm.Cond.methodLink "LiftScheduler$Script" (3 : Nat) ({ cls := "java/lang/Object", name := "<init>", desc := "()V" } : Jvm.MethodName)) ∈ BW := bw_t 134 (by decide +kernel) rfl
theorem bw_135 : (Jvm.Cond.classLink "LiftScheduler$Script" (11 : Nat) "LiftScheduler$Kind") ∈ BW := bw_t 135 (by decide +kernel) rfl
theorem bw_137 : (Jvm.Cond.fieldLink "LiftScheduler$Script" (13 : Nat) "LiftScheduler$Script" "kinds" "[LLiftScheduler$Kind;") ∈ BW := bw_t 137 (by decide +kernel) rfl
theorem bw_138 : (Jvm.Cond.fieldLink "LiftScheduler$Script" (17 : Nat) "LiftScheduler$Script" "starts" "[I") ∈ BW := bw_t 138 (by decide +kernel) rfl
theorem bw_139 : (Jvm.Cond.fieldLink "LiftScheduler$Script" (21 : Nat) "LiftScheduler$Script" "values" "[I") ∈ BW := bw_t 139 (by decide +kernel) rfl
theorem bw_140 : (Jvm.Cond.fieldLink "LiftScheduler$Script" (24 : Nat) "LiftScheduler$Script" "tokens" "I") ∈ BW := bw_t 140 (by decide +kernel) rfl
theorem bw_141 : (Jvm.Cond.fieldLink "LiftScheduler$Script" (28 : Nat) "LiftScheduler$Script" "at" "I") ∈ BW := bw_t 141 (by decide +kernel) rfl
theorem bw_142 : (Jvm.Cond.fieldLink "LiftScheduler$Script" (120 : Nat) "LiftScheduler$Script" "simulation" "LLiftScheduler$Simulation;") ∈ BW := bw_t 142 (by decide +kernel) rfl
theorem bw_143 : (Jvm.Cond.fieldLink "LiftScheduler$Script" (31 : Nat) "LiftScheduler$Script" "executed" "I") ∈ BW := bw_t 143 (by decide +kernel) rfl
theorem bw_144 : (Jvm.Cond.fieldLink "LiftScheduler$Script" (34 : Nat) "LiftScheduler$Script" "errorCode" "I") ∈ BW := bw_t 144 (by decide +kernel) rfl
theorem bw_145 : (Jvm.Cond.fieldLink "LiftScheduler" (94 : Nat) "LiftScheduler$Script" "errorCode" "I") ∈ BW := bw_t 145 (by decide +kernel) rfl
theorem bw_146 : (Jvm.Cond.fieldLink "LiftScheduler$Script" (37 : Nat) "LiftScheduler$Script" "errorPosition" "I") ∈ BW := bw_t 146 (by decide +kernel) rfl
theorem bw_165 : (Jvm.Cond.superclass "LiftScheduler$Script" "java/lang/Object") ∈ BW := bw_t 165 (by decide +kernel) rfl
theorem bw_166 : (Jvm.Cond.arrayClass Jvm.ClassFile.FieldType.boolean) ∈ BW := bw_t 166 (by decide +kernel) rfl
theorem bw_167 : (Jvm.Cond.arrayClass Jvm.ClassFile.FieldType.byte) ∈ BW := bw_t 167 (by decide +kernel) rfl
theorem bw_168 : (Jvm.Cond.fieldLink "LiftScheduler" (10 : Nat) "LiftScheduler" "now" "LLiftScheduler$Simulation;") ∈ BW := bw_t 168 (by decide +kernel) rfl
theorem bw_169 : (Jvm.Cond.fieldLink "LiftScheduler" (16 : Nat) "LiftScheduler" "trial" "LLiftScheduler$Simulation;") ∈ BW := bw_t 169 (by decide +kernel) rfl
theorem bw_170 : (Jvm.Cond.fieldLink "LiftScheduler" (19 : Nat) "LiftScheduler" "past" "[LLiftScheduler$Simulation;") ∈ BW := bw_t 170 (by decide +kernel) rfl
theorem bw_171 : (Jvm.Cond.fieldLink "LiftScheduler" (23 : Nat) "LiftScheduler" "nextPast" "I") ∈ BW := bw_t 171 (by decide +kernel) rfl
theorem bw_172 : (Jvm.Cond.fieldLink "LiftScheduler" (27 : Nat) "LiftScheduler" "changes" "I") ∈ BW := bw_t 172 (by decide +kernel) rfl
theorem bw_173 : (Jvm.Cond.fieldLink "LiftScheduler" (30 : Nat) "LiftScheduler" "slots" "[LLiftScheduler$Simulation;") ∈ BW := bw_t 173 (by decide +kernel) rfl
theorem bw_174 : (Jvm.Cond.fieldLink "LiftScheduler" (33 : Nat) "LiftScheduler" "slotFilled" "[Z") ∈ BW := bw_t 174 (by decide +kernel) rfl
theorem bw_175 : (Jvm.Cond.fieldLink "LiftScheduler" (37 : Nat) "LiftScheduler" "input" "[B") ∈ BW := bw_t 175 (by decide +kernel) rfl
theorem bw_176 : (Jvm.Cond.fieldLink "LiftScheduler" (41 : Nat) "LiftScheduler" "inputLength" "I") ∈ BW := bw_t 176 (by decide +kernel) rfl
theorem bw_177 : (Jvm.Cond.fieldLink "LiftScheduler" (47 : Nat) "LiftScheduler" "script" "LLiftScheduler$Script;") ∈ BW := bw_t 177 (by decide +kernel) rfl
theorem bw_178 : (Jvm.Cond.fieldLink "LiftScheduler" (51 : Nat) "LiftScheduler" "output" "[B") ∈ BW := bw_t 178 (by decide +kernel) rfl
theorem bw_179 : (Jvm.Cond.fieldLink "LiftScheduler" (54 : Nat) "LiftScheduler" "outputLength" "I") ∈ BW := bw_t 179 (by decide +kernel) rfl
theorem bw_204 : (Jvm.Cond.superclass "LiftScheduler" "java/lang/Object") ∈ BW := bw_t 204 (by decide +kernel) rfl
theorem bw_205 : (Jvm.Cond.methodLink "LiftSchedulerLaw" (96 : Nat) ({ cls := "LiftScheduler", name := "capacity", desc := "()I" } : Jvm.MethodName)) ∈ BW := bw_t 205 (by decide +kernel) rfl
theorem bw_206 : (Jvm.Cond.instanceMethod ({ cls := "LiftScheduler", name := "capacity", desc := "()I" } : Jvm.MethodName)) ∈ BW := bw_t 206 (by decide +kernel) rfl
theorem bw_207 : (Jvm.Cond.selects "LiftScheduler" ({ cls := "LiftScheduler", name := "capacity", desc := "()I" } : Jvm.MethodName) ({ cls := "LiftScheduler", name := "capacity", desc := "()I" } : Jvm.MethodName)) ∈ BW := bw_t 207 (by decide +kernel) rfl
theorem bw_208 : (Jvm.Cond.code ({ cls := "LiftScheduler", name := "capacity", desc := "()I" } : Jvm.MethodName) prog_1_method_10_code (1 : Nat) (Option.some Jvm.ClassFile.FieldType.int)) ∈ BW := bw_t 208 (by decide +kernel) rfl
theorem bw_209 : (Jvm.Cond.methodLink "LiftSchedulerLaw" (72 : Nat) ({ cls := "LiftScheduler", name := "policy", desc := "()I" } : Jvm.MethodName)) ∈ BW := bw_t 209 (by decide +kernel) rfl
theorem bw_210 : (Jvm.Cond.instanceMethod ({ cls := "LiftScheduler", name := "policy", desc := "()I" } : Jvm.MethodName)) ∈ BW := bw_t 210 (by decide +kernel) rfl
theorem bw_211 : (Jvm.Cond.selects "LiftScheduler" ({ cls := "LiftScheduler", name := "policy", desc := "()I" } : Jvm.MethodName) ({ cls := "LiftScheduler", name := "policy", desc := "()I" } : Jvm.MethodName)) ∈ BW := bw_t 211 (by decide +kernel) rfl
theorem bw_212 : (Jvm.Cond.code ({ cls := "LiftScheduler", name := "policy", desc := "()I" } : Jvm.MethodName) prog_1_method_11_code (1 : Nat) (Option.some Jvm.ClassFile.FieldType.int)) ∈ BW := bw_t 212 (by decide +kernel) rfl
theorem bw_213 : (Jvm.Cond.methodLink "LiftSchedulerLaw" (78 : Nat) ({ cls := "LiftScheduler", name := "time", desc := "()I" } : Jvm.MethodName)) ∈ BW := bw_t 213 (by decide +kernel) rfl
theorem bw_214 : (Jvm.Cond.instanceMethod ({ cls := "LiftScheduler", name := "time", desc := "()I" } : Jvm.MethodName)) ∈ BW := bw_t 214 (by decide +kernel) rfl
theorem bw_215 : (Jvm.Cond.selects "LiftScheduler" ({ cls := "LiftScheduler", name := "time", desc := "()I" } : Jvm.MethodName) ({ cls := "LiftScheduler", name := "time", desc := "()I" } : Jvm.MethodName)) ∈ BW := bw_t 215 (by decide +kernel) rfl
theorem bw_216 : (Jvm.Cond.code ({ cls := "LiftScheduler", name := "time", desc := "()I" } : Jvm.MethodName) prog_1_method_12_code (1 : Nat) (Option.some Jvm.ClassFile.FieldType.int)) ∈ BW := bw_t 216 (by decide +kernel) rfl
theorem bw_217 : (Jvm.Cond.methodLink "LiftSchedulerLaw" (115 : Nat) ({ cls := "LiftScheduler", name := "floor", desc := "()I" } : Jvm.MethodName)) ∈ BW := bw_t 217 (by decide +kernel) rfl
theorem bw_218 : (Jvm.Cond.instanceMethod ({ cls := "LiftScheduler", name := "floor", desc := "()I" } : Jvm.MethodName)) ∈ BW := bw_t 218 (by decide +kernel) rfl
theorem bw_219 : (Jvm.Cond.selects "LiftScheduler" ({ cls := "LiftScheduler", name := "floor", desc := "()I" } : Jvm.MethodName) ({ cls := "LiftScheduler", name := "floor", desc := "()I" } : Jvm.MethodName)) ∈ BW := bw_t 219 (by decide +kernel) rfl
theorem bw_220 : (Jvm.Cond.code ({ cls := "LiftScheduler", name := "floor", desc := "()I" } : Jvm.MethodName) prog_1_method_13_code (1 : Nat) (Option.some Jvm.ClassFile.FieldType.int)) ∈ BW := bw_t 220 (by decide +kernel) rfl
theorem bw_221 : (Jvm.Cond.methodLink "LiftSchedulerLaw" (99 : Nat) ({ cls := "LiftScheduler", name := "isFull", desc := "()Z" } : Jvm.MethodName)) ∈ BW := bw_t 221 (by decide +kernel) rfl
theorem bw_222 : (Jvm.Cond.instanceMethod ({ cls := "LiftScheduler", name := "isFull", desc := "()Z" } : Jvm.MethodName)) ∈ BW := bw_t 222 (by decide +kernel) rfl
theorem bw_223 : (Jvm.Cond.selects "LiftScheduler" ({ cls := "LiftScheduler", name := "isFull", desc := "()Z" } : Jvm.MethodName) ({ cls := "LiftScheduler", name := "isFull", desc := "()Z" } : Jvm.MethodName)) ∈ BW := bw_t 223 (by decide +kernel) rfl
theorem bw_224 : (Jvm.Cond.code ({ cls := "LiftScheduler", name := "isFull", desc := "()Z" } : Jvm.MethodName) prog_1_method_15_code (1 : Nat) (Option.some Jvm.ClassFile.FieldType.boolean)) ∈ BW := bw_t 224 (by decide +kernel) rfl
theorem bw_225 : (Jvm.Cond.methodLink "LiftSchedulerLaw" (148 : Nat) ({ cls := "LiftScheduler", name := "stopMask", desc := "()I" } : Jvm.MethodName)) ∈ BW := bw_t 225 (by decide +kernel) rfl
theorem bw_226 : (Jvm.Cond.instanceMethod ({ cls := "LiftScheduler", name := "stopMask", desc := "()I" } : Jvm.MethodName)) ∈ BW := bw_t 226 (by decide +kernel) rfl
theorem bw_227 : (Jvm.Cond.selects "LiftScheduler" ({ cls := "LiftScheduler", name := "stopMask", desc := "()I" } : Jvm.MethodName) ({ cls := "LiftScheduler", name := "stopMask", desc := "()I" } : Jvm.MethodName)) ∈ BW := bw_t 227 (by decide +kernel) rfl
theorem bw_228 : (Jvm.Cond.code ({ cls := "LiftScheduler", name := "stopMask", desc := "()I" } : Jvm.MethodName) prog_1_method_16_code (1 : Nat) (Option.some Jvm.ClassFile.FieldType.int)) ∈ BW := bw_t 228 (by decide +kernel) rfl
theorem bw_229 : (Jvm.Cond.methodLink "LiftScheduler" (122 : Nat) ({ cls := "LiftScheduler$Simulation", name := "findStops", desc := "()I" } : Jvm.MethodName)) ∈ BW := bw_t 229 (by decide +kernel) rfl
theorem bw_230 : (Jvm.Cond.instanceMethod ({ cls := "LiftScheduler$Simulation", name := "findStops", desc := "()I" } : Jvm.MethodName)) ∈ BW := bw_t 230 (by decide +kernel) rfl
theorem bw_231 : (Jvm.Cond.selects "LiftScheduler$Simulation" ({ cls := "LiftScheduler$Simulation", name := "findStops", desc := "()I" } : Jvm.MethodName) ({ cls := "LiftScheduler$Simulation", name := "findStops", desc := "()I" } : Jvm.MethodName)) ∈ BW := bw_t 231 (by decide +kernel) rfl
theorem bw_232 : (Jvm.Cond.code ({ cls := "LiftScheduler$Simulation", name := "findStops", desc := "()I" } : Jvm.MethodName) prog_5_method_14_code (4 : Nat) (Option.some Jvm.ClassFile.FieldType.int)) ∈ BW := bw_t 232 (by decide +kernel) rfl
theorem bw_233 : (Jvm.Cond.methodLink "LiftSchedulerLaw" (161 : Nat) ({ cls := "LiftScheduler", name := "targetBy", desc := "(I)I" } : Jvm.MethodName)) ∈ BW := bw_t 233 (by decide +kernel) rfl
theorem bw_234 : (Jvm.Cond.instanceMethod ({ cls := "LiftScheduler", name := "targetBy", desc := "(I)I" } : Jvm.MethodName)) ∈ BW := bw_t 234 (by decide +kernel) rfl
theorem bw_235 : (Jvm.Cond.selects "LiftScheduler" ({ cls := "LiftScheduler", name := "targetBy", desc := "(I)I" } : Jvm.MethodName) ({ cls := "LiftScheduler", name := "targetBy", desc := "(I)I" } : Jvm.MethodName)) ∈ BW := bw_t 235 (by decide +kernel) rfl
theorem bw_236 : (Jvm.Cond.code ({ cls := "LiftScheduler", name := "targetBy", desc := "(I)I" } : Jvm.MethodName) prog_1_method_17_code (2 : Nat) (Option.some Jvm.ClassFile.FieldType.int)) ∈ BW := bw_t 236 (by decide +kernel) rfl
theorem bw_237 : (Jvm.Cond.methodLink "LiftScheduler" (126 : Nat) ({ cls := "LiftScheduler", name := "requirePolicy", desc := "(I)V" } : Jvm.MethodName)) ∈ BW := bw_t 237 (by decide +kernel) rfl
theorem bw_239 : (Jvm.Cond.instanceMethod ({ cls := "LiftScheduler", name := "requirePolicy", desc := "(I)V" } : Jvm.MethodName)) ∈ BW := bw_t 239 (by decide +kernel) rfl
theorem bw_240 : (Jvm.Cond.code ({ cls := "LiftScheduler", name := "requirePolicy", desc := "(I)V" } : Jvm.MethodName) prog_1_method_75_code (2 : Nat) (Option.none : Option Jvm.ClassFile.FieldType)) ∈ BW := bw_t 240 (by decide +kernel) rfl
theorem bw_241 : (Jvm.Cond.classLink "LiftScheduler" (72 : Nat) "java/lang/IllegalArgumentException") ∈ BW := bw_t 241 (by decide +kernel) rfl
theorem bw_242 : (Jvm.Cond.instantiable "java/lang/IllegalArgumentException" (6 : Nat)) ∈ BW := bw_t 242 (by decide +kernel) rfl
theorem bw_250 : (Jvm.Cond.selects "java/lang/IllegalArgumentException" ({ cls := "java/lang/Throwable", name := "fillInStackTrace", desc := "(I)Ljava/lang/Throwable;" } : Jvm.MethodName) ({ cls := "java/lang/Throwable", name := "fillInStackTrace", desc := "(I)Ljava/lang/Throwable;" } : Jvm.MethodName)) ∈ BW := bw_t 250 (by decide +kernel) rfl
theorem bw_251 : (Jvm.Cond.selects "java/lang/IllegalArgumentException" ({ cls := "java/lang/Throwable", name := "fillInStackTrace", desc := "()Ljava/lang/Throwable;" } : Jvm.MethodName) ({ cls := "java/lang/Throwable", name := "fillInStackTrace", desc := "()Ljava/lang/Throwable;" } : Jvm.MethodName)) ∈ BW := bw_t 251 (by decide +kernel) rfl
theorem bw_262 : (Jvm.Cond.fieldLink "java/lang/Throwable" (198 : Nat) "java/lang/Throwable" "backtrace" "Ljava/lang/Object;") ∈ BW := bw_t 262 (by decide +kernel) rfl
theorem bw_263 : (Jvm.Cond.superclass "java/lang/Throwable" "java/lang/Object") ∈ BW := bw_t 263 (by decide +kernel) rfl
theorem bw_264 : (Jvm.Cond.instanceMethod ({ cls := "java/lang/Throwable", name := "<init>", desc := "()V" } : Jvm.MethodName)) ∈ BW := bw_t 264 (by decide +kernel) rfl
theorem bw_265 : (Jvm.Cond.code ({ cls := "java/lang/Throwable", name := "<init>", desc := "()V" } : Jvm.MethodName) prog_25_method_1_code (1 : Nat) (Option.none : Option Jvm.ClassFile.FieldType)) ∈ BW := bw_t 265 (by decide +kernel) rfl
theorem bw_266 : (Jvm.Cond.methodLink "java/lang/Throwable" (1 : Nat) ({ cls := "java/lang/Object", name := "<init>", desc := "()V" } : Jvm.MethodName)) ∈ BW := bw_t 266 (by decide +kernel) rfl
theorem bw_267 : (Jvm.Cond.fieldLink "java/lang/Throwable" (13 : Nat) "java/lang/Throwable" "UNASSIGNED_STACK" "[Ljava/lang/StackTraceElement;") ∈ BW := bw_t 267 (by decide +kernel) rfl
theorem bw_269 : (Jvm.Cond.fieldLink "java/lang/Throwable" (20 : Nat) "java/lang/Throwable" "SUPPRESSED_SENTINEL" "Ljava/util/List;") ∈ BW := bw_t 269 (by decide +kernel) rfl
theorem bw_271 : (Jvm.Cond.methodLink "java/lang/Throwable" (27 : Nat) ({ cls := "java/lang/Throwable", name := "fillInStackTrace", desc := "()Ljava/lang/Throwable;" } : Jvm.MethodName)) ∈ BW := bw_t 271 (by decide +kernel) rfl
theorem bw_272 : (Jvm.Cond.instanceMethod ({ cls := "java/lang/Throwable", name := "fillInStackTrace", desc := "()Ljava/lang/Throwable;" } : Jvm.MethodName)) ∈ BW := bw_t 272 (by decide +kernel) rfl
theorem bw_273 : (Jvm.Cond.sameMethod "java/lang/Throwable" "java/lang/Throwable" "fillInStackTrace" "()Ljava/lang/Throwable;") ∈ BW := bw_t 273 (by decide +kernel) rfl
theorem bw_274 : (Jvm.Cond.selects "java/lang/IllegalStateException" ({ cls := "java/lang/Throwable", name := "fillInStackTrace", desc := "()Ljava/lang/Throwable;" } : Jvm.MethodName) ({ cls := "java/lang/Throwable", name := "fillInStackTrace", desc := "()Ljava/lang/Throwable;" } : Jvm.MethodName)) ∈ BW := bw_t 274 (by decide +kernel) rfl
theorem bw_275 : (Jvm.Cond.selects "java/lang/IndexOutOfBoundsException" ({ cls := "java/lang/Throwable", name := "fillInStackTrace", desc := "()Ljava/lang/Throwable;" } : Jvm.MethodName) ({ cls := "java/lang/Throwable", name := "fillInStackTrace", desc := "()Ljava/lang/Throwable;" } : Jvm.MethodName)) ∈ BW := bw_t 275 (by decide +kernel) rfl
theorem bw_277 : (Jvm.Cond.methodLink "java/lang/Throwable" (202 : Nat) ({ cls := "java/lang/Throwable", name := "fillInStackTrace", desc := "(I)Ljava/lang/Throwable;" } : Jvm.MethodName)) ∈ BW := bw_t 277 (by decide +kernel) rfl
theorem bw_279 : (Jvm.Cond.instanceMethod ({ cls := "java/lang/Throwable", name := "fillInStackTrace", desc := "(I)Ljava/lang/Throwable;" } : Jvm.MethodName)) ∈ BW := bw_t 279 (by decide +kernel) rfl
theorem bw_280 : (Jvm.Cond.instantiable "java/lang/Throwable" (6 : Nat)) ∈ BW := bw_t 280 (by decide +kernel) rfl
theorem bw_281 : (Jvm.Cond.native ({ cls := "java/lang/Throwable", name := "fillInStackTrace", desc := "(I)Ljava/lang/Throwable;" } : Jvm.MethodName)) ∈ BW := bw_t 281 (by decide +kernel) rfl
theorem bw_283 : (Jvm.Cond.methodLink "LiftScheduler" (76 : Nat) ({ cls := "java/lang/IllegalArgumentException", name := "<init>", desc := "(Ljava/lang/String;)V" } : Jvm.MethodName)) ∈ BW := bw_t 283 (by decide +kernel) rfl
theorem bw_284 : (Jvm.Cond.instanceMethod ({ cls := "java/lang/IllegalArgumentException", name := "<init>", desc := "(Ljava/lang/String;)V" } : Jvm.MethodName)) ∈ BW := bw_t 284 (by decide +kernel) rfl
theorem bw_285 : (Jvm.Cond.code ({ cls := "java/lang/IllegalArgumentException", name := "<init>", desc := "(Ljava/lang/String;)V" } : Jvm.MethodName) prog_14_method_2_code (2 : Nat) (Option.none : Option Jvm.ClassFile.FieldType)) ∈ BW := bw_t 285 (by decide +kernel) rfl
theorem bw_286 : (Jvm.Cond.methodLink "java/lang/IllegalArgumentException" (7 : Nat) ({ cls := "java/lang/RuntimeException", name := "<init>", desc := "(Ljava/lang/String;)V" } : Jvm.MethodName)) ∈ BW := bw_t 286 (by decide +kernel) rfl
theorem bw_287 : (Jvm.Cond.instanceMethod ({ cls := "java/lang/RuntimeException", name := "<init>", desc := "(Ljava/lang/String;)V" } : Jvm.MethodName)) ∈ BW := bw_t 287 (by decide +kernel) rfl
theorem bw_288 : (Jvm.Cond.code ({ cls := "java/lang/RuntimeException", name := "<init>", desc := "(Ljava/lang/String;)V" } : Jvm.MethodName) prog_19_method_2_code (2 : Nat) (Option.none : Option Jvm.ClassFile.FieldType)) ∈ BW := bw_t 288 (by decide +kernel) rfl
theorem bw_289 : (Jvm.Cond.methodLink "java/lang/RuntimeException" (7 : Nat) ({ cls := "java/lang/Exception", name := "<init>", desc := "(Ljava/lang/String;)V" } : Jvm.MethodName)) ∈ BW := bw_t 289 (by decide +kernel) rfl
theorem bw_290 : (Jvm.Cond.instanceMethod ({ cls := "java/lang/Exception", name := "<init>", desc := "(Ljava/lang/String;)V" } : Jvm.MethodName)) ∈ BW := bw_t 290 (by decide +kernel) rfl
theorem bw_291 : (Jvm.Cond.code ({ cls := "java/lang/Exception", name := "<init>", desc := "(Ljava/lang/String;)V" } : Jvm.MethodName) prog_13_method_2_code (2 : Nat) (Option.none : Option Jvm.ClassFile.FieldType)) ∈ BW := bw_t 291 (by decide +kernel) rfl
theorem bw_292 : (Jvm.Cond.methodLink "java/lang/Exception" (7 : Nat) ({ cls := "java/lang/Throwable", name := "<init>", desc := "(Ljava/lang/String;)V" } : Jvm.MethodName)) ∈ BW := bw_t 292 (by decide +kernel) rfl
theorem bw_293 : (Jvm.Cond.instanceMethod ({ cls := "java/lang/Throwable", name := "<init>", desc := "(Ljava/lang/String;)V" } : Jvm.MethodName)) ∈ BW := bw_t 293 (by decide +kernel) rfl
theorem bw_294 : (Jvm.Cond.code ({ cls := "java/lang/Throwable", name := "<init>", desc := "(Ljava/lang/String;)V" } : Jvm.MethodName) prog_25_method_2_code (2 : Nat) (Option.none : Option Jvm.ClassFile.FieldType)) ∈ BW := bw_t 294 (by decide +kernel) rfl
theorem bw_295 : (Jvm.Cond.fieldLink "java/lang/Throwable" (198 : Nat) "java/lang/Throwable" "backtrace" "Ljava/lang/Object;") ∈ BW := bw_t 295 (by decide +kernel) rfl
theorem bw_296 : (Jvm.Cond.fieldLink "java/lang/Throwable" (31 : Nat) "java/lang/Throwable" "detailMessage" "Ljava/lang/String;") ∈ BW := bw_t 296 (by decide +kernel) rfl
theorem bw_297 : (Jvm.Cond.fieldLink "java/lang/Throwable" (7 : Nat) "java/lang/Throwable" "cause" "Ljava/lang/Throwable;") ∈ BW := bw_t 297 (by decide +kernel) rfl
theorem bw_298 : (Jvm.Cond.fieldLink "java/lang/Throwable" (17 : Nat) "java/lang/Throwable" "stackTrace" "[Ljava/lang/StackTraceElement;") ∈ BW := bw_t 298 (by decide +kernel) rfl
theorem bw_299 : (Jvm.Cond.fieldLink "java/lang/Throwable" (24 : Nat) "java/lang/Throwable" "suppressedExceptions" "Ljava/util/List;") ∈ BW := bw_t 299 (by decide +kernel) rfl
theorem bw_307 : (Jvm.Cond.superclass "java/lang/IllegalArgumentException" "java/lang/RuntimeException") ∈ BW := bw_t 307 (by decide +kernel) rfl
theorem bw_308 : (Jvm.Cond.methodLink "LiftScheduler" (129 : Nat) ({ cls := "LiftScheduler$Simulation", name := "findTarget", desc := "(I)I" } : Jvm.MethodName)) ∈ BW := bw_t 308 (by decide +kernel) rfl
theorem bw_309 : (Jvm.Cond.instanceMethod ({ cls := "LiftScheduler$Simulation", name := "findTarget", desc := "(I)I" } : Jvm.MethodName)) ∈ BW := bw_t 309 (by decide +kernel) rfl
theorem bw_310 : (Jvm.Cond.selects "LiftScheduler$Simulation" ({ cls := "LiftScheduler$Simulation", name := "findTarget", desc := "(I)I" } : Jvm.MethodName) ({ cls := "LiftScheduler$Simulation", name := "findTarget", desc := "(I)I" } : Jvm.MethodName)) ∈ BW := bw_t 310 (by decide +kernel) rfl
theorem bw_311 : (Jvm.Cond.code ({ cls := "LiftScheduler$Simulation", name := "findTarget", desc := "(I)I" } : Jvm.MethodName) prog_5_method_15_code (5 : Nat) (Option.some Jvm.ClassFile.FieldType.int)) ∈ BW := bw_t 311 (by decide +kernel) rfl
theorem bw_312 : (Jvm.Cond.methodLink "LiftScheduler$Simulation" (94 : Nat) ({ cls := "LiftScheduler$Simulation", name := "findStops", desc := "()I" } : Jvm.MethodName)) ∈ BW := bw_t 312 (by decide +kernel) rfl
theorem bw_313 : (Jvm.Cond.methodLink "LiftScheduler$Simulation" (98 : Nat) ({ cls := "LiftScheduler$Simulation", name := "findFirstRiding", desc := "()I" } : Jvm.MethodName)) ∈ BW := bw_t 313 (by decide +kernel) rfl
theorem bw_315 : (Jvm.Cond.instanceMethod ({ cls := "LiftScheduler$Simulation", name := "findFirstRiding", desc := "()I" } : Jvm.MethodName)) ∈ BW := bw_t 315 (by decide +kernel) rfl
theorem bw_316 : (Jvm.Cond.code ({ cls := "LiftScheduler$Simulation", name := "findFirstRiding", desc := "()I" } : Jvm.MethodName) prog_5_method_16_code (2 : Nat) (Option.some Jvm.ClassFile.FieldType.int)) ∈ BW := bw_t 316 (by decide +kernel) rfl
theorem bw_317 : (Jvm.Cond.methodLink "LiftScheduler$Simulation" (101 : Nat) ({ cls := "LiftScheduler$Simulation", name := "findFirstWaiting", desc := "()I" } : Jvm.MethodName)) ∈ BW := bw_t 317 (by decide +kernel) rfl
theorem bw_318 : (Jvm.Cond.instanceMethod ({ cls := "LiftScheduler$Simulation", name := "findFirstWaiting", desc := "()I" } : Jvm.MethodName)) ∈ BW := bw_t 318 (by decide +kernel) rfl
theorem bw_319 : (Jvm.Cond.selects "LiftScheduler$Simulation" ({ cls := "LiftScheduler$Simulation", name := "findFirstWaiting", desc := "()I" } : Jvm.MethodName) ({ cls := "LiftScheduler$Simulation", name := "findFirstWaiting", desc := "()I" } : Jvm.MethodName)) ∈ BW := bw_t 319 (by decide +kernel) rfl
theorem bw_320 : (Jvm.Cond.code ({ cls := "LiftScheduler$Simulation", name := "findFirstWaiting", desc := "()I" } : Jvm.MethodName) prog_5_method_10_code (3 : Nat) (Option.some Jvm.ClassFile.FieldType.int)) ∈ BW := bw_t 320 (by decide +kernel) rfl
theorem bw_321 : (Jvm.Cond.methodLink "LiftScheduler$Simulation" (104 : Nat) ({ cls := "LiftScheduler$Simulation", name := "findStopBelow", desc := "(I)I" } : Jvm.MethodName)) ∈ BW := bw_t 321 (by decide +kernel) rfl
theorem bw_323 : (Jvm.Cond.instanceMethod ({ cls := "LiftScheduler$Simulation", name := "findStopBelow", desc := "(I)I" } : Jvm.MethodName)) ∈ BW := bw_t 323 (by decide +kernel) rfl
theorem bw_324 : (Jvm.Cond.code ({ cls := "LiftScheduler$Simulation", name := "findStopBelow", desc := "(I)I" } : Jvm.MethodName) prog_5_method_17_code (3 : Nat) (Option.some Jvm.ClassFile.FieldType.int)) ∈ BW := bw_t 324 (by decide +kernel) rfl
theorem bw_325 : (Jvm.Cond.methodLink "LiftScheduler$Simulation" (107 : Nat) ({ cls := "LiftScheduler$Simulation", name := "findStopAbove", desc := "(I)I" } : Jvm.MethodName)) ∈ BW := bw_t 325 (by decide +kernel) rfl
theorem bw_327 : (Jvm.Cond.instanceMethod ({ cls := "LiftScheduler$Simulation", name := "findStopAbove", desc := "(I)I" } : Jvm.MethodName)) ∈ BW := bw_t 327 (by decide +kernel) rfl
theorem bw_328 : (Jvm.Cond.code ({ cls := "LiftScheduler$Simulation", name := "findStopAbove", desc := "(I)I" } : Jvm.MethodName) prog_5_method_18_code (3 : Nat) (Option.some Jvm.ClassFile.FieldType.int)) ∈ BW := bw_t 328 (by decide +kernel) rfl
theorem bw_329 : (Jvm.Cond.methodLink "LiftSchedulerLaw" (103 : Nat) ({ cls := "LiftScheduler", name := "distance", desc := "()I" } : Jvm.MethodName)) ∈ BW := bw_t 329 (by decide +kernel) rfl
theorem bw_330 : (Jvm.Cond.instanceMethod ({ cls := "LiftScheduler", name := "distance", desc := "()I" } : Jvm.MethodName)) ∈ BW := bw_t 330 (by decide +kernel) rfl
theorem bw_331 : (Jvm.Cond.selects "LiftScheduler" ({ cls := "LiftScheduler", name := "distance", desc := "()I" } : Jvm.MethodName) ({ cls := "LiftScheduler", name := "distance", desc := "()I" } : Jvm.MethodName)) ∈ BW := bw_t 331 (by decide +kernel) rfl
theorem bw_332 : (Jvm.Cond.code ({ cls := "LiftScheduler", name := "distance", desc := "()I" } : Jvm.MethodName) prog_1_method_18_code (1 : Nat) (Option.some Jvm.ClassFile.FieldType.int)) ∈ BW := bw_t 332 (by decide +kernel) rfl
theorem bw_333 : (Jvm.Cond.methodLink "LiftSchedulerLaw" (106 : Nat) ({ cls := "LiftScheduler", name := "doorTicks", desc := "()I" } : Jvm.MethodName)) ∈ BW := bw_t 333 (by decide +kernel) rfl
theorem bw_334 : (Jvm.Cond.instanceMethod ({ cls := "LiftScheduler", name := "doorTicks", desc := "()I" } : Jvm.MethodName)) ∈ BW := bw_t 334 (by decide +kernel) rfl
theorem bw_335 : (Jvm.Cond.selects "LiftScheduler" ({ cls := "LiftScheduler", name := "doorTicks", desc := "()I" } : Jvm.MethodName) ({ cls := "LiftScheduler", name := "doorTicks", desc := "()I" } : Jvm.MethodName)) ∈ BW := bw_t 335 (by decide +kernel) rfl
theorem bw_336 : (Jvm.Cond.code ({ cls := "LiftScheduler", name := "doorTicks", desc := "()I" } : Jvm.MethodName) prog_1_method_19_code (1 : Nat) (Option.some Jvm.ClassFile.FieldType.int)) ∈ BW := bw_t 336 (by decide +kernel) rfl
theorem bw_337 : (Jvm.Cond.methodLink "LiftSchedulerLaw" (109 : Nat) ({ cls := "LiftScheduler", name := "idleTicks", desc := "()I" } : Jvm.MethodName)) ∈ BW := bw_t 337 (by decide +kernel) rfl
theorem bw_338 : (Jvm.Cond.instanceMethod ({ cls := "LiftScheduler", name := "idleTicks", desc := "()I" } : Jvm.MethodName)) ∈ BW := bw_t 338 (by decide +kernel) rfl
theorem bw_339 : (Jvm.Cond.selects "LiftScheduler" ({ cls := "LiftScheduler", name := "idleTicks", desc := "()I" } : Jvm.MethodName) ({ cls := "LiftScheduler", name := "idleTicks", desc := "()I" } : Jvm.MethodName)) ∈ BW := bw_t 339 (by decide +kernel) rfl
theorem bw_340 : (Jvm.Cond.code ({ cls := "LiftScheduler", name := "idleTicks", desc := "()I" } : Jvm.MethodName) prog_1_method_20_code (1 : Nat) (Option.some Jvm.ClassFile.FieldType.int)) ∈ BW := bw_t 340 (by decide +kernel) rfl
theorem bw_341 : (Jvm.Cond.methodLink "LiftSchedulerLaw" (118 : Nat) ({ cls := "LiftScheduler", name := "statusOf", desc := "(I)I" } : Jvm.MethodName)) ∈ BW := bw_t 341 (by decide +kernel) rfl
theorem bw_342 : (Jvm.Cond.instanceMethod ({ cls := "LiftScheduler", name := "statusOf", desc := "(I)I" } : Jvm.MethodName)) ∈ BW := bw_t 342 (by decide +kernel) rfl
theorem bw_343 : (Jvm.Cond.selects "LiftScheduler" ({ cls := "LiftScheduler", name := "statusOf", desc := "(I)I" } : Jvm.MethodName) ({ cls := "LiftScheduler", name := "statusOf", desc := "(I)I" } : Jvm.MethodName)) ∈ BW := bw_t 343 (by decide +kernel) rfl
theorem bw_344 : (Jvm.Cond.code ({ cls := "LiftScheduler", name := "statusOf", desc := "(I)I" } : Jvm.MethodName) prog_1_method_23_code (2 : Nat) (Option.some Jvm.ClassFile.FieldType.int)) ∈ BW := bw_t 344 (by decide +kernel) rfl
theorem bw_345 : (Jvm.Cond.methodLink "LiftScheduler" (145 : Nat) ({ cls := "LiftScheduler", name := "requirePassenger", desc := "(I)V" } : Jvm.MethodName)) ∈ BW := bw_t 345 (by decide +kernel) rfl
theorem bw_347 : (Jvm.Cond.instanceMethod ({ cls := "LiftScheduler", name := "requirePassenger", desc := "(I)V" } : Jvm.MethodName)) ∈ BW := bw_t 347 (by decide +kernel) rfl
theorem bw_348 : (Jvm.Cond.code ({ cls := "LiftScheduler", name := "requirePassenger", desc := "(I)V" } : Jvm.MethodName) prog_1_method_73_code (2 : Nat) (Option.none : Option Jvm.ClassFile.FieldType)) ∈ BW := bw_t 348 (by decide +kernel) rfl
theorem bw_349 : (Jvm.Cond.classLink "LiftScheduler" (264 : Nat) "java/lang/IndexOutOfBoundsException") ∈ BW := bw_t 349 (by decide +kernel) rfl
theorem bw_350 : (Jvm.Cond.instantiable "java/lang/IndexOutOfBoundsException" (6 : Nat)) ∈ BW := bw_t 350 (by decide +kernel) rfl
theorem bw_352 : (Jvm.Cond.selects "java/lang/IndexOutOfBoundsException" ({ cls := "java/lang/Throwable", name := "fillInStackTrace", desc := "(I)Ljava/lang/Throwable;" } : Jvm.MethodName) ({ cls := "java/lang/Throwable", name := "fillInStackTrace", desc := "(I)Ljava/lang/Throwable;" } : Jvm.MethodName)) ∈ BW := bw_t 352 (by decide +kernel) rfl
theorem bw_359 : (Jvm.Cond.methodLink "LiftScheduler" (268 : Nat) ({ cls := "java/lang/IndexOutOfBoundsException", name := "<init>", desc := "(Ljava/lang/String;)V" } : Jvm.MethodName)) ∈ BW := bw_t 359 (by decide +kernel) rfl
theorem bw_360 : (Jvm.Cond.instanceMethod ({ cls := "java/lang/IndexOutOfBoundsException", name := "<init>", desc := "(Ljava/lang/String;)V" } : Jvm.MethodName)) ∈ BW := bw_t 360 (by decide +kernel) rfl
theorem bw_361 : (Jvm.Cond.code ({ cls := "java/lang/IndexOutOfBoundsException", name := "<init>", desc := "(Ljava/lang/String;)V" } : Jvm.MethodName) prog_16_method_2_code (2 : Nat) (Option.none : Option Jvm.ClassFile.FieldType)) ∈ BW := bw_t 361 (by decide +kernel) rfl
theorem bw_362 : (Jvm.Cond.methodLink "java/lang/IndexOutOfBoundsException" (7 : Nat) ({ cls := "java/lang/RuntimeException", name := "<init>", desc := "(Ljava/lang/String;)V" } : Jvm.MethodName)) ∈ BW := bw_t 362 (by decide +kernel) rfl
theorem bw_364 : (Jvm.Cond.superclass "java/lang/IndexOutOfBoundsException" "java/lang/RuntimeException") ∈ BW := bw_t 364 (by decide +kernel) rfl
theorem bw_365 : (Jvm.Cond.methodLink "LiftScheduler" (148 : Nat) ({ cls := "LiftScheduler$Simulation", name := "findStatus", desc := "(I)I" } : Jvm.MethodName)) ∈ BW := bw_t 365 (by decide +kernel) rfl
theorem bw_366 : (Jvm.Cond.instanceMethod ({ cls := "LiftScheduler$Simulation", name := "findStatus", desc := "(I)I" } : Jvm.MethodName)) ∈ BW := bw_t 366 (by decide +kernel) rfl
theorem bw_367 : (Jvm.Cond.selects "LiftScheduler$Simulation" ({ cls := "LiftScheduler$Simulation", name := "findStatus", desc := "(I)I" } : Jvm.MethodName) ({ cls := "LiftScheduler$Simulation", name := "findStatus", desc := "(I)I" } : Jvm.MethodName)) ∈ BW := bw_t 367 (by decide +kernel) rfl
theorem bw_368 : (Jvm.Cond.code ({ cls := "LiftScheduler$Simulation", name := "findStatus", desc := "(I)I" } : Jvm.MethodName) prog_5_method_5_code (2 : Nat) (Option.some Jvm.ClassFile.FieldType.int)) ∈ BW := bw_t 368 (by decide +kernel) rfl
theorem bw_369 : (Jvm.Cond.methodLink "LiftSchedulerLaw" (142 : Nat) ({ cls := "LiftScheduler", name := "originOf", desc := "(I)I" } : Jvm.MethodName)) ∈ BW := bw_t 369 (by decide +kernel) rfl
theorem bw_370 : (Jvm.Cond.instanceMethod ({ cls := "LiftScheduler", name := "originOf", desc := "(I)I" } : Jvm.MethodName)) ∈ BW := bw_t 370 (by decide +kernel) rfl
theorem bw_371 : (Jvm.Cond.selects "LiftScheduler" ({ cls := "LiftScheduler", name := "originOf", desc := "(I)I" } : Jvm.MethodName) ({ cls := "LiftScheduler", name := "originOf", desc := "(I)I" } : Jvm.MethodName)) ∈ BW := bw_t 371 (by decide +kernel) rfl
theorem bw_372 : (Jvm.Cond.code ({ cls := "LiftScheduler", name := "originOf", desc := "(I)I" } : Jvm.MethodName) prog_1_method_24_code (2 : Nat) (Option.some Jvm.ClassFile.FieldType.int)) ∈ BW := bw_t 372 (by decide +kernel) rfl
theorem bw_373 : (Jvm.Cond.methodLink "LiftSchedulerLaw" (139 : Nat) ({ cls := "LiftScheduler", name := "destinationOf", desc := "(I)I" } : Jvm.MethodName)) ∈ BW := bw_t 373 (by decide +kernel) rfl
theorem bw_374 : (Jvm.Cond.instanceMethod ({ cls := "LiftScheduler", name := "destinationOf", desc := "(I)I" } : Jvm.MethodName)) ∈ BW := bw_t 374 (by decide +kernel) rfl
theorem bw_375 : (Jvm.Cond.selects "LiftScheduler" ({ cls := "LiftScheduler", name := "destinationOf", desc := "(I)I" } : Jvm.MethodName) ({ cls := "LiftScheduler", name := "destinationOf", desc := "(I)I" } : Jvm.MethodName)) ∈ BW := bw_t 375 (by decide +kernel) rfl
theorem bw_376 : (Jvm.Cond.code ({ cls := "LiftScheduler", name := "destinationOf", desc := "(I)I" } : Jvm.MethodName) prog_1_method_25_code (2 : Nat) (Option.some Jvm.ClassFile.FieldType.int)) ∈ BW := bw_t 376 (by decide +kernel) rfl
theorem bw_377 : (Jvm.Cond.methodLink "LiftSchedulerLaw" (121 : Nat) ({ cls := "LiftScheduler", name := "arrivalOf", desc := "(I)I" } : Jvm.MethodName)) ∈ BW := bw_t 377 (by decide +kernel) rfl
theorem bw_378 : (Jvm.Cond.instanceMethod ({ cls := "LiftScheduler", name := "arrivalOf", desc := "(I)I" } : Jvm.MethodName)) ∈ BW := bw_t 378 (by decide +kernel) rfl
theorem bw_379 : (Jvm.Cond.selects "LiftScheduler" ({ cls := "LiftScheduler", name := "arrivalOf", desc := "(I)I" } : Jvm.MethodName) ({ cls := "LiftScheduler", name := "arrivalOf", desc := "(I)I" } : Jvm.MethodName)) ∈ BW := bw_t 379 (by decide +kernel) rfl
theorem bw_380 : (Jvm.Cond.code ({ cls := "LiftScheduler", name := "arrivalOf", desc := "(I)I" } : Jvm.MethodName) prog_1_method_26_code (2 : Nat) (Option.some Jvm.ClassFile.FieldType.int)) ∈ BW := bw_t 380 (by decide +kernel) rfl
theorem bw_381 : (Jvm.Cond.methodLink "LiftSchedulerLaw" (124 : Nat) ({ cls := "LiftScheduler", name := "boardedAt", desc := "(I)I" } : Jvm.MethodName)) ∈ BW := bw_t 381 (by decide +kernel) rfl
theorem bw_382 : (Jvm.Cond.instanceMethod ({ cls := "LiftScheduler", name := "boardedAt", desc := "(I)I" } : Jvm.MethodName)) ∈ BW := bw_t 382 (by decide +kernel) rfl
theorem bw_383 : (Jvm.Cond.selects "LiftScheduler" ({ cls := "LiftScheduler", name := "boardedAt", desc := "(I)I" } : Jvm.MethodName) ({ cls := "LiftScheduler", name := "boardedAt", desc := "(I)I" } : Jvm.MethodName)) ∈ BW := bw_t 383 (by decide +kernel) rfl
theorem bw_384 : (Jvm.Cond.code ({ cls := "LiftScheduler", name := "boardedAt", desc := "(I)I" } : Jvm.MethodName) prog_1_method_27_code (2 : Nat) (Option.some Jvm.ClassFile.FieldType.int)) ∈ BW := bw_t 384 (by decide +kernel) rfl
theorem bw_385 : (Jvm.Cond.methodLink "LiftSchedulerLaw" (127 : Nat) ({ cls := "LiftScheduler", name := "leftAt", desc := "(I)I" } : Jvm.MethodName)) ∈ BW := bw_t 385 (by decide +kernel) rfl
theorem bw_386 : (Jvm.Cond.instanceMethod ({ cls := "LiftScheduler", name := "leftAt", desc := "(I)I" } : Jvm.MethodName)) ∈ BW := bw_t 386 (by decide +kernel) rfl
theorem bw_387 : (Jvm.Cond.selects "LiftScheduler" ({ cls := "LiftScheduler", name := "leftAt", desc := "(I)I" } : Jvm.MethodName) ({ cls := "LiftScheduler", name := "leftAt", desc := "(I)I" } : Jvm.MethodName)) ∈ BW := bw_t 387 (by decide +kernel) rfl
theorem bw_388 : (Jvm.Cond.code ({ cls := "LiftScheduler", name := "leftAt", desc := "(I)I" } : Jvm.MethodName) prog_1_method_28_code (2 : Nat) (Option.some Jvm.ClassFile.FieldType.int)) ∈ BW := bw_t 388 (by decide +kernel) rfl
theorem bw_389 : (Jvm.Cond.methodLink "LiftSchedulerLaw" (130 : Nat) ({ cls := "LiftScheduler", name := "waitOf", desc := "(I)I" } : Jvm.MethodName)) ∈ BW := bw_t 389 (by decide +kernel) rfl
theorem bw_390 : (Jvm.Cond.instanceMethod ({ cls := "LiftScheduler", name := "waitOf", desc := "(I)I" } : Jvm.MethodName)) ∈ BW := bw_t 390 (by decide +kernel) rfl
theorem bw_391 : (Jvm.Cond.selects "LiftScheduler" ({ cls := "LiftScheduler", name := "waitOf", desc := "(I)I" } : Jvm.MethodName) ({ cls := "LiftScheduler", name := "waitOf", desc := "(I)I" } : Jvm.MethodName)) ∈ BW := bw_t 391 (by decide +kernel) rfl
theorem bw_392 : (Jvm.Cond.code ({ cls := "LiftScheduler", name := "waitOf", desc := "(I)I" } : Jvm.MethodName) prog_1_method_29_code (2 : Nat) (Option.some Jvm.ClassFile.FieldType.int)) ∈ BW := bw_t 392 (by decide +kernel) rfl
theorem bw_393 : (Jvm.Cond.methodLink "LiftScheduler" (167 : Nat) ({ cls := "LiftScheduler$Simulation", name := "findWait", desc := "(I)I" } : Jvm.MethodName)) ∈ BW := bw_t 393 (by decide +kernel) rfl
theorem bw_394 : (Jvm.Cond.instanceMethod ({ cls := "LiftScheduler$Simulation", name := "findWait", desc := "(I)I" } : Jvm.MethodName)) ∈ BW := bw_t 394 (by decide +kernel) rfl
theorem bw_395 : (Jvm.Cond.selects "LiftScheduler$Simulation" ({ cls := "LiftScheduler$Simulation", name := "findWait", desc := "(I)I" } : Jvm.MethodName) ({ cls := "LiftScheduler$Simulation", name := "findWait", desc := "(I)I" } : Jvm.MethodName)) ∈ BW := bw_t 395 (by decide +kernel) rfl
theorem bw_396 : (Jvm.Cond.code ({ cls := "LiftScheduler$Simulation", name := "findWait", desc := "(I)I" } : Jvm.MethodName) prog_5_method_6_code (2 : Nat) (Option.some Jvm.ClassFile.FieldType.int)) ∈ BW := bw_t 396 (by decide +kernel) rfl
theorem bw_397 : (Jvm.Cond.methodLink "LiftSchedulerLaw" (133 : Nat) ({ cls := "LiftScheduler", name := "rideOf", desc := "(I)I" } : Jvm.MethodName)) ∈ BW := bw_t 397 (by decide +kernel) rfl
theorem bw_398 : (Jvm.Cond.instanceMethod ({ cls := "LiftScheduler", name := "rideOf", desc := "(I)I" } : Jvm.MethodName)) ∈ BW := bw_t 398 (by decide +kernel) rfl
theorem bw_399 : (Jvm.Cond.selects "LiftScheduler" ({ cls := "LiftScheduler", name := "rideOf", desc := "(I)I" } : Jvm.MethodName) ({ cls := "LiftScheduler", name := "rideOf", desc := "(I)I" } : Jvm.MethodName)) ∈ BW := bw_t 399 (by decide +kernel) rfl
theorem bw_400 : (Jvm.Cond.code ({ cls := "LiftScheduler", name := "rideOf", desc := "(I)I" } : Jvm.MethodName) prog_1_method_30_code (2 : Nat) (Option.some Jvm.ClassFile.FieldType.int)) ∈ BW := bw_t 400 (by decide +kernel) rfl
theorem bw_401 : (Jvm.Cond.methodLink "LiftScheduler" (170 : Nat) ({ cls := "LiftScheduler$Simulation", name := "findRide", desc := "(I)I" } : Jvm.MethodName)) ∈ BW := bw_t 401 (by decide +kernel) rfl
theorem bw_402 : (Jvm.Cond.instanceMethod ({ cls := "LiftScheduler$Simulation", name := "findRide", desc := "(I)I" } : Jvm.MethodName)) ∈ BW := bw_t 402 (by decide +kernel) rfl
theorem bw_403 : (Jvm.Cond.selects "LiftScheduler$Simulation" ({ cls := "LiftScheduler$Simulation", name := "findRide", desc := "(I)I" } : Jvm.MethodName) ({ cls := "LiftScheduler$Simulation", name := "findRide", desc := "(I)I" } : Jvm.MethodName)) ∈ BW := bw_t 403 (by decide +kernel) rfl
theorem bw_404 : (Jvm.Cond.code ({ cls := "LiftScheduler$Simulation", name := "findRide", desc := "(I)I" } : Jvm.MethodName) prog_5_method_7_code (2 : Nat) (Option.some Jvm.ClassFile.FieldType.int)) ∈ BW := bw_t 404 (by decide +kernel) rfl
theorem bw_405 : (Jvm.Cond.methodLink "LiftSchedulerLaw" (136 : Nat) ({ cls := "LiftScheduler", name := "detourOf", desc := "(I)I" } : Jvm.MethodName)) ∈ BW := bw_t 405 (by decide +kernel) rfl
theorem bw_406 : (Jvm.Cond.instanceMethod ({ cls := "LiftScheduler", name := "detourOf", desc := "(I)I" } : Jvm.MethodName)) ∈ BW := bw_t 406 (by decide +kernel) rfl
theorem bw_407 : (Jvm.Cond.selects "LiftScheduler" ({ cls := "LiftScheduler", name := "detourOf", desc := "(I)I" } : Jvm.MethodName) ({ cls := "LiftScheduler", name := "detourOf", desc := "(I)I" } : Jvm.MethodName)) ∈ BW := bw_t 407 (by decide +kernel) rfl
theorem bw_408 : (Jvm.Cond.code ({ cls := "LiftScheduler", name := "detourOf", desc := "(I)I" } : Jvm.MethodName) prog_1_method_31_code (3 : Nat) (Option.some Jvm.ClassFile.FieldType.int)) ∈ BW := bw_t 408 (by decide +kernel) rfl
theorem bw_409 : (Jvm.Cond.methodLink "LiftScheduler" (173 : Nat) ({ cls := "java/lang/Math", name := "abs", desc := "(I)I" } : Jvm.MethodName)) ∈ BW := bw_t 409 (by decide +kernel) rfl
theorem bw_410 : (Jvm.Cond.static ({ cls := "java/lang/Math", name := "abs", desc := "(I)I" } : Jvm.MethodName)) ∈ BW := bw_t 410 (by decide +kernel) rfl
theorem bw_411 : (Jvm.Cond.code ({ cls := "java/lang/Math", name := "abs", desc := "(I)I" } : Jvm.MethodName) prog_18_method_59_code (1 : Nat) (Option.some Jvm.ClassFile.FieldType.int)) ∈ BW := bw_t 411 (by decide +kernel) rfl
theorem bw_412 : (Jvm.Cond.methodLink "LiftSchedulerLaw" (93 : Nat) ({ cls := "LiftScheduler", name := "countStatus", desc := "(I)I" } : Jvm.MethodName)) ∈ BW := bw_t 412 (by decide +kernel) rfl
theorem bw_413 : (Jvm.Cond.instanceMethod ({ cls := "LiftScheduler", name := "countStatus", desc := "(I)I" } : Jvm.MethodName)) ∈ BW := bw_t 413 (by decide +kernel) rfl
theorem bw_414 : (Jvm.Cond.selects "LiftScheduler" ({ cls := "LiftScheduler", name := "countStatus", desc := "(I)I" } : Jvm.MethodName) ({ cls := "LiftScheduler", name := "countStatus", desc := "(I)I" } : Jvm.MethodName)) ∈ BW := bw_t 414 (by decide +kernel) rfl
theorem bw_415 : (Jvm.Cond.code ({ cls := "LiftScheduler", name := "countStatus", desc := "(I)I" } : Jvm.MethodName) prog_1_method_32_code (2 : Nat) (Option.some Jvm.ClassFile.FieldType.int)) ∈ BW := bw_t 415 (by decide +kernel) rfl
theorem bw_417 : (Jvm.Cond.methodLink "LiftScheduler" (180 : Nat) ({ cls := "LiftScheduler$Simulation", name := "countWith", desc := "(I)I" } : Jvm.MethodName)) ∈ BW := bw_t 417 (by decide +kernel) rfl
theorem bw_418 : (Jvm.Cond.instanceMethod ({ cls := "LiftScheduler$Simulation", name := "countWith", desc := "(I)I" } : Jvm.MethodName)) ∈ BW := bw_t 418 (by decide +kernel) rfl
theorem bw_419 : (Jvm.Cond.selects "LiftScheduler$Simulation" ({ cls := "LiftScheduler$Simulation", name := "countWith", desc := "(I)I" } : Jvm.MethodName) ({ cls := "LiftScheduler$Simulation", name := "countWith", desc := "(I)I" } : Jvm.MethodName)) ∈ BW := bw_t 419 (by decide +kernel) rfl
theorem bw_420 : (Jvm.Cond.code ({ cls := "LiftScheduler$Simulation", name := "countWith", desc := "(I)I" } : Jvm.MethodName) prog_5_method_8_code (4 : Nat) (Option.some Jvm.ClassFile.FieldType.int)) ∈ BW := bw_t 420 (by decide +kernel) rfl
theorem bw_421 : (Jvm.Cond.methodLink "LiftScheduler$Simulation" (81 : Nat) ({ cls := "LiftScheduler$Simulation", name := "findStatus", desc := "(I)I" } : Jvm.MethodName)) ∈ BW := bw_t 421 (by decide +kernel) rfl
theorem bw_422 : (Jvm.Cond.methodLink "LiftSchedulerLaw" (151 : Nat) ({ cls := "LiftScheduler", name := "waitingAt", desc := "(I)I" } : Jvm.MethodName)) ∈ BW := bw_t 422 (by decide +kernel) rfl
theorem bw_423 : (Jvm.Cond.instanceMethod ({ cls := "LiftScheduler", name := "waitingAt", desc := "(I)I" } : Jvm.MethodName)) ∈ BW := bw_t 423 (by decide +kernel) rfl
theorem bw_424 : (Jvm.Cond.selects "LiftScheduler" ({ cls := "LiftScheduler", name := "waitingAt", desc := "(I)I" } : Jvm.MethodName) ({ cls := "LiftScheduler", name := "waitingAt", desc := "(I)I" } : Jvm.MethodName)) ∈ BW := bw_t 424 (by decide +kernel) rfl
theorem bw_425 : (Jvm.Cond.code ({ cls := "LiftScheduler", name := "waitingAt", desc := "(I)I" } : Jvm.MethodName) prog_1_method_33_code (2 : Nat) (Option.some Jvm.ClassFile.FieldType.int)) ∈ BW := bw_t 425 (by decide +kernel) rfl
theorem bw_426 : (Jvm.Cond.methodLink "LiftScheduler" (183 : Nat) ({ cls := "LiftScheduler", name := "requireFloor", desc := "(I)V" } : Jvm.MethodName)) ∈ BW := bw_t 426 (by decide +kernel) rfl
theorem bw_428 : (Jvm.Cond.instanceMethod ({ cls := "LiftScheduler", name := "requireFloor", desc := "(I)V" } : Jvm.MethodName)) ∈ BW := bw_t 428 (by decide +kernel) rfl
theorem bw_429 : (Jvm.Cond.code ({ cls := "LiftScheduler", name := "requireFloor", desc := "(I)V" } : Jvm.MethodName) prog_1_method_74_code (2 : Nat) (Option.none : Option Jvm.ClassFile.FieldType)) ∈ BW := bw_t 429 (by decide +kernel) rfl
theorem bw_431 : (Jvm.Cond.methodLink "LiftScheduler" (186 : Nat) ({ cls := "LiftScheduler$Simulation", name := "countWaiting", desc := "(I)I" } : Jvm.MethodName)) ∈ BW := bw_t 431 (by decide +kernel) rfl
theorem bw_432 : (Jvm.Cond.instanceMethod ({ cls := "LiftScheduler$Simulation", name := "countWaiting", desc := "(I)I" } : Jvm.MethodName)) ∈ BW := bw_t 432 (by decide +kernel) rfl
theorem bw_433 : (Jvm.Cond.selects "LiftScheduler$Simulation" ({ cls := "LiftScheduler$Simulation", name := "countWaiting", desc := "(I)I" } : Jvm.MethodName) ({ cls := "LiftScheduler$Simulation", name := "countWaiting", desc := "(I)I" } : Jvm.MethodName)) ∈ BW := bw_t 433 (by decide +kernel) rfl
theorem bw_434 : (Jvm.Cond.code ({ cls := "LiftScheduler$Simulation", name := "countWaiting", desc := "(I)I" } : Jvm.MethodName) prog_5_method_9_code (4 : Nat) (Option.some Jvm.ClassFile.FieldType.int)) ∈ BW := bw_t 434 (by decide +kernel) rfl
theorem bw_435 : (Jvm.Cond.methodLink "LiftSchedulerLaw" (154 : Nat) ({ cls := "LiftScheduler", name := "queueAt", desc := "(II)I" } : Jvm.MethodName)) ∈ BW := bw_t 435 (by decide +kernel) rfl
theorem bw_436 : (Jvm.Cond.instanceMethod ({ cls := "LiftScheduler", name := "queueAt", desc := "(II)I" } : Jvm.MethodName)) ∈ BW := bw_t 436 (by decide +kernel) rfl
theorem bw_437 : (Jvm.Cond.selects "LiftScheduler" ({ cls := "LiftScheduler", name := "queueAt", desc := "(II)I" } : Jvm.MethodName) ({ cls := "LiftScheduler", name := "queueAt", desc := "(II)I" } : Jvm.MethodName)) ∈ BW := bw_t 437 (by decide +kernel) rfl
theorem bw_438 : (Jvm.Cond.code ({ cls := "LiftScheduler", name := "queueAt", desc := "(II)I" } : Jvm.MethodName) prog_1_method_34_code (6 : Nat) (Option.some Jvm.ClassFile.FieldType.int)) ∈ BW := bw_t 438 (by decide +kernel) rfl
theorem bw_439 : (Jvm.Cond.methodLink "LiftSchedulerLaw" (158 : Nat) ({ cls := "LiftScheduler", name := "firstWaiting", desc := "()I" } : Jvm.MethodName)) ∈ BW := bw_t 439 (by decide +kernel) rfl
theorem bw_440 : (Jvm.Cond.instanceMethod ({ cls := "LiftScheduler", name := "firstWaiting", desc := "()I" } : Jvm.MethodName)) ∈ BW := bw_t 440 (by decide +kernel) rfl
theorem bw_441 : (Jvm.Cond.selects "LiftScheduler" ({ cls := "LiftScheduler", name := "firstWaiting", desc := "()I" } : Jvm.MethodName) ({ cls := "LiftScheduler", name := "firstWaiting", desc := "()I" } : Jvm.MethodName)) ∈ BW := bw_t 441 (by decide +kernel) rfl
theorem bw_442 : (Jvm.Cond.code ({ cls := "LiftScheduler", name := "firstWaiting", desc := "()I" } : Jvm.MethodName) prog_1_method_35_code (1 : Nat) (Option.some Jvm.ClassFile.FieldType.int)) ∈ BW := bw_t 442 (by decide +kernel) rfl
theorem bw_443 : (Jvm.Cond.methodLink "LiftScheduler" (192 : Nat) ({ cls := "LiftScheduler$Simulation", name := "findFirstWaiting", desc := "()I" } : Jvm.MethodName)) ∈ BW := bw_t 443 (by decide +kernel) rfl
theorem bw_444 : (Jvm.Cond.methodLink "LiftSchedulerLaw" (145 : Nat) ({ cls := "LiftScheduler", name := "totalWait", desc := "()I" } : Jvm.MethodName)) ∈ BW := bw_t 444 (by decide +kernel) rfl
theorem bw_445 : (Jvm.Cond.instanceMethod ({ cls := "LiftScheduler", name := "totalWait", desc := "()I" } : Jvm.MethodName)) ∈ BW := bw_t 445 (by decide +kernel) rfl
theorem bw_446 : (Jvm.Cond.selects "LiftScheduler" ({ cls := "LiftScheduler", name := "totalWait", desc := "()I" } : Jvm.MethodName) ({ cls := "LiftScheduler", name := "totalWait", desc := "()I" } : Jvm.MethodName)) ∈ BW := bw_t 446 (by decide +kernel) rfl
theorem bw_447 : (Jvm.Cond.code ({ cls := "LiftScheduler", name := "totalWait", desc := "()I" } : Jvm.MethodName) prog_1_method_44_code (1 : Nat) (Option.some Jvm.ClassFile.FieldType.int)) ∈ BW := bw_t 447 (by decide +kernel) rfl
theorem bw_448 : (Jvm.Cond.methodLink "LiftScheduler" (199 : Nat) ({ cls := "LiftScheduler$Simulation", name := "sumWaits", desc := "()I" } : Jvm.MethodName)) ∈ BW := bw_t 448 (by decide +kernel) rfl
theorem bw_449 : (Jvm.Cond.instanceMethod ({ cls := "LiftScheduler$Simulation", name := "sumWaits", desc := "()I" } : Jvm.MethodName)) ∈ BW := bw_t 449 (by decide +kernel) rfl
theorem bw_450 : (Jvm.Cond.selects "LiftScheduler$Simulation" ({ cls := "LiftScheduler$Simulation", name := "sumWaits", desc := "()I" } : Jvm.MethodName) ({ cls := "LiftScheduler$Simulation", name := "sumWaits", desc := "()I" } : Jvm.MethodName)) ∈ BW := bw_t 450 (by decide +kernel) rfl
theorem bw_451 : (Jvm.Cond.code ({ cls := "LiftScheduler$Simulation", name := "sumWaits", desc := "()I" } : Jvm.MethodName) prog_5_method_11_code (3 : Nat) (Option.some Jvm.ClassFile.FieldType.int)) ∈ BW := bw_t 451 (by decide +kernel) rfl
theorem bw_452 : (Jvm.Cond.methodLink "LiftScheduler$Simulation" (85 : Nat) ({ cls := "LiftScheduler$Simulation", name := "findWait", desc := "(I)I" } : Jvm.MethodName)) ∈ BW := bw_t 452 (by decide +kernel) rfl
theorem bw_453 : (Jvm.Cond.methodLink "LiftScheduler$Simulation" (88 : Nat) ({ cls := "java/lang/Math", name := "max", desc := "(II)I" } : Jvm.MethodName)) ∈ BW := bw_t 453 (by decide +kernel) rfl
theorem bw_454 : (Jvm.Cond.static ({ cls := "java/lang/Math", name := "max", desc := "(II)I" } : Jvm.MethodName)) ∈ BW := bw_t 454 (by decide +kernel) rfl
theorem bw_455 : (Jvm.Cond.code ({ cls := "java/lang/Math", name := "max", desc := "(II)I" } : Jvm.MethodName) prog_18_method_65_code (2 : Nat) (Option.some Jvm.ClassFile.FieldType.int)) ∈ BW := bw_t 455 (by decide +kernel) rfl
theorem bw_456 : (Jvm.Cond.methodLink "LiftSchedulerLaw" (112 : Nat) ({ cls := "LiftScheduler", name := "isFinished", desc := "()Z" } : Jvm.MethodName)) ∈ BW := bw_t 456 (by decide +kernel) rfl
theorem bw_457 : (Jvm.Cond.instanceMethod ({ cls := "LiftScheduler", name := "isFinished", desc := "()Z" } : Jvm.MethodName)) ∈ BW := bw_t 457 (by decide +kernel) rfl
theorem bw_458 : (Jvm.Cond.selects "LiftScheduler" ({ cls := "LiftScheduler", name := "isFinished", desc := "()Z" } : Jvm.MethodName) ({ cls := "LiftScheduler", name := "isFinished", desc := "()Z" } : Jvm.MethodName)) ∈ BW := bw_t 458 (by decide +kernel) rfl
theorem bw_459 : (Jvm.Cond.code ({ cls := "LiftScheduler", name := "isFinished", desc := "()Z" } : Jvm.MethodName) prog_1_method_47_code (1 : Nat) (Option.some Jvm.ClassFile.FieldType.boolean)) ∈ BW := bw_t 459 (by decide +kernel) rfl
theorem bw_460 : (Jvm.Cond.methodLink "LiftScheduler" (208 : Nat) ({ cls := "LiftScheduler$Simulation", name := "isOver", desc := "()Z" } : Jvm.MethodName)) ∈ BW := bw_t 460 (by decide +kernel) rfl
theorem bw_461 : (Jvm.Cond.instanceMethod ({ cls := "LiftScheduler$Simulation", name := "isOver", desc := "()Z" } : Jvm.MethodName)) ∈ BW := bw_t 461 (by decide +kernel) rfl
theorem bw_462 : (Jvm.Cond.selects "LiftScheduler$Simulation" ({ cls := "LiftScheduler$Simulation", name := "isOver", desc := "()Z" } : Jvm.MethodName) ({ cls := "LiftScheduler$Simulation", name := "isOver", desc := "()Z" } : Jvm.MethodName)) ∈ BW := bw_t 462 (by decide +kernel) rfl
theorem bw_463 : (Jvm.Cond.code ({ cls := "LiftScheduler$Simulation", name := "isOver", desc := "()Z" } : Jvm.MethodName) prog_5_method_13_code (1 : Nat) (Option.some Jvm.ClassFile.FieldType.boolean)) ∈ BW := bw_t 463 (by decide +kernel) rfl
theorem bw_464 : (Jvm.Cond.methodLink "LiftSchedulerLaw" (167 : Nat) ({ cls := "LiftScheduler", name := "run", desc := "(I)I" } : Jvm.MethodName)) ∈ BW := bw_t 464 (by decide +kernel) rfl
theorem bw_465 : (Jvm.Cond.instanceMethod ({ cls := "LiftScheduler", name := "run", desc := "(I)I" } : Jvm.MethodName)) ∈ BW := bw_t 465 (by decide +kernel) rfl
theorem bw_466 : (Jvm.Cond.selects "LiftScheduler" ({ cls := "LiftScheduler", name := "run", desc := "(I)I" } : Jvm.MethodName) ({ cls := "LiftScheduler", name := "run", desc := "(I)I" } : Jvm.MethodName)) ∈ BW := bw_t 466 (by decide +kernel) rfl
theorem bw_467 : (Jvm.Cond.code ({ cls := "LiftScheduler", name := "run", desc := "(I)I" } : Jvm.MethodName) prog_1_method_58_code (3 : Nat) (Option.some Jvm.ClassFile.FieldType.int)) ∈ BW := bw_t 467 (by decide +kernel) rfl
theorem bw_469 : (Jvm.Cond.classLink "LiftScheduler" (229 : Nat) "java/lang/IllegalStateException") ∈ BW := bw_t 469 (by decide +kernel) rfl
theorem bw_470 : (Jvm.Cond.instantiable "java/lang/IllegalStateException" (6 : Nat)) ∈ BW := bw_t 470 (by decide +kernel) rfl
theorem bw_472 : (Jvm.Cond.selects "java/lang/IllegalStateException" ({ cls := "java/lang/Throwable", name := "fillInStackTrace", desc := "(I)Ljava/lang/Throwable;" } : Jvm.MethodName) ({ cls := "java/lang/Throwable", name := "fillInStackTrace", desc := "(I)Ljava/lang/Throwable;" } : Jvm.MethodName)) ∈ BW := bw_t 472 (by decide +kernel) rfl
theorem bw_479 : (Jvm.Cond.methodLink "LiftScheduler" (233 : Nat) ({ cls := "java/lang/IllegalStateException", name := "<init>", desc := "(Ljava/lang/String;)V" } : Jvm.MethodName)) ∈ BW := bw_t 479 (by decide +kernel) rfl
theorem bw_480 : (Jvm.Cond.instanceMethod ({ cls := "java/lang/IllegalStateException", name := "<init>", desc := "(Ljava/lang/String;)V" } : Jvm.MethodName)) ∈ BW := bw_t 480 (by decide +kernel) rfl
theorem bw_481 : (Jvm.Cond.code ({ cls := "java/lang/IllegalStateException", name := "<init>", desc := "(Ljava/lang/String;)V" } : Jvm.MethodName) prog_15_method_2_code (2 : Nat) (Option.none : Option Jvm.ClassFile.FieldType)) ∈ BW := bw_t 481 (by decide +kernel) rfl
theorem bw_482 : (Jvm.Cond.methodLink "java/lang/IllegalStateException" (7 : Nat) ({ cls := "java/lang/RuntimeException", name := "<init>", desc := "(Ljava/lang/String;)V" } : Jvm.MethodName)) ∈ BW := bw_t 482 (by decide +kernel) rfl
theorem bw_484 : (Jvm.Cond.superclass "java/lang/IllegalStateException" "java/lang/RuntimeException") ∈ BW := bw_t 484 (by decide +kernel) rfl
theorem bw_485 : (Jvm.Cond.methodLink "LiftScheduler" (88 : Nat) ({ cls := "LiftScheduler", name := "rememberState", desc := "()V" } : Jvm.MethodName)) ∈ BW := bw_t 485 (by decide +kernel) rfl
theorem bw_487 : (Jvm.Cond.instanceMethod ({ cls := "LiftScheduler", name := "rememberState", desc := "()V" } : Jvm.MethodName)) ∈ BW := bw_t 487 (by decide +kernel) rfl
theorem bw_488 : (Jvm.Cond.code ({ cls := "LiftScheduler", name := "rememberState", desc := "()V" } : Jvm.MethodName) prog_1_method_64_code (1 : Nat) (Option.none : Option Jvm.ClassFile.FieldType)) ∈ BW := bw_t 488 (by decide +kernel) rfl
theorem bw_489 : (Jvm.Cond.methodLink "LiftScheduler" (79 : Nat) ({ cls := "LiftScheduler$Simulation", name := "copyFrom", desc := "(LLiftScheduler$Simulation;)V" } : Jvm.MethodName)) ∈ BW := bw_t 489 (by decide +kernel) rfl
theorem bw_490 : (Jvm.Cond.instanceMethod ({ cls := "LiftScheduler$Simulation", name := "copyFrom", desc := "(LLiftScheduler$Simulation;)V" } : Jvm.MethodName)) ∈ BW := bw_t 490 (by decide +kernel) rfl
theorem bw_491 : (Jvm.Cond.selects "LiftScheduler$Simulation" ({ cls := "LiftScheduler$Simulation", name := "copyFrom", desc := "(LLiftScheduler$Simulation;)V" } : Jvm.MethodName) ({ cls := "LiftScheduler$Simulation", name := "copyFrom", desc := "(LLiftScheduler$Simulation;)V" } : Jvm.MethodName)) ∈ BW := bw_t 491 (by decide +kernel) rfl
theorem bw_492 : (Jvm.Cond.code ({ cls := "LiftScheduler$Simulation", name := "copyFrom", desc := "(LLiftScheduler$Simulation;)V" } : Jvm.MethodName) prog_5_method_3_code (2 : Nat) (Option.none : Option Jvm.ClassFile.FieldType)) ∈ BW := bw_t 492 (by decide +kernel) rfl
theorem bw_493 : (Jvm.Cond.methodLink "LiftScheduler$Simulation" (75 : Nat) ({ cls := "java/lang/System", name := "arraycopy", desc := "(Ljava/lang/Object;ILjava/lang/Object;II)V" } : Jvm.MethodName)) ∈ BW := bw_t 493 (by decide +kernel) rfl
theorem bw_494 : (Jvm.Cond.static ({ cls := "java/lang/System", name := "arraycopy", desc := "(Ljava/lang/Object;ILjava/lang/Object;II)V" } : Jvm.MethodName)) ∈ BW := bw_t 494 (by decide +kernel) rfl
theorem bw_495 : (Jvm.Cond.native ({ cls := "java/lang/System", name := "arraycopy", desc := "(Ljava/lang/Object;ILjava/lang/Object;II)V" } : Jvm.MethodName)) ∈ BW := bw_t 495 (by decide +kernel) rfl
theorem bw_496 : (Jvm.Cond.methodLink "LiftScheduler" (247 : Nat) ({ cls := "java/lang/Math", name := "min", desc := "(II)I" } : Jvm.MethodName)) ∈ BW := bw_t 496 (by decide +kernel) rfl
theorem bw_497 : (Jvm.Cond.static ({ cls := "java/lang/Math", name := "min", desc := "(II)I" } : Jvm.MethodName)) ∈ BW := bw_t 497 (by decide +kernel) rfl
theorem bw_498 : (Jvm.Cond.code ({ cls := "java/lang/Math", name := "min", desc := "(II)I" } : Jvm.MethodName) prog_18_method_69_code (2 : Nat) (Option.some Jvm.ClassFile.FieldType.int)) ∈ BW := bw_t 498 (by decide +kernel) rfl
theorem bw_499 : (Jvm.Cond.methodLink "LiftScheduler" (242 : Nat) ({ cls := "LiftScheduler$Simulation", name := "tick", desc := "()V" } : Jvm.MethodName)) ∈ BW := bw_t 499 (by decide +kernel) rfl
theorem bw_500 : (Jvm.Cond.instanceMethod ({ cls := "LiftScheduler$Simulation", name := "tick", desc := "()V" } : Jvm.MethodName)) ∈ BW := bw_t 500 (by decide +kernel) rfl
theorem bw_501 : (Jvm.Cond.selects "LiftScheduler$Simulation" ({ cls := "LiftScheduler$Simulation", name := "tick", desc := "()V" } : Jvm.MethodName) ({ cls := "LiftScheduler$Simulation", name := "tick", desc := "()V" } : Jvm.MethodName)) ∈ BW := bw_t 501 (by decide +kernel) rfl
theorem bw_502 : (Jvm.Cond.code ({ cls := "LiftScheduler$Simulation", name := "tick", desc := "()V" } : Jvm.MethodName) prog_5_method_19_code (2 : Nat) (Option.none : Option Jvm.ClassFile.FieldType)) ∈ BW := bw_t 502 (by decide +kernel) rfl
theorem bw_503 : (Jvm.Cond.methodLink "LiftScheduler$Simulation" (110 : Nat) ({ cls := "LiftScheduler$Simulation", name := "findTarget", desc := "(I)I" } : Jvm.MethodName)) ∈ BW := bw_t 503 (by decide +kernel) rfl
theorem bw_504 : (Jvm.Cond.methodLink "LiftScheduler$Simulation" (113 : Nat) ({ cls := "LiftScheduler$Simulation", name := "openDoors", desc := "()V" } : Jvm.MethodName)) ∈ BW := bw_t 504 (by decide +kernel) rfl
theorem bw_506 : (Jvm.Cond.instanceMethod ({ cls := "LiftScheduler$Simulation", name := "openDoors", desc := "()V" } : Jvm.MethodName)) ∈ BW := bw_t 506 (by decide +kernel) rfl
theorem bw_507 : (Jvm.Cond.code ({ cls := "LiftScheduler$Simulation", name := "openDoors", desc := "()V" } : Jvm.MethodName) prog_5_method_21_code (3 : Nat) (Option.none : Option Jvm.ClassFile.FieldType)) ∈ BW := bw_t 507 (by decide +kernel) rfl
theorem bw_508 : (Jvm.Cond.methodLink "LiftScheduler$Simulation" (116 : Nat) ({ cls := "LiftScheduler$Simulation", name := "moveTowards", desc := "(I)V" } : Jvm.MethodName)) ∈ BW := bw_t 508 (by decide +kernel) rfl
theorem bw_510 : (Jvm.Cond.instanceMethod ({ cls := "LiftScheduler$Simulation", name := "moveTowards", desc := "(I)V" } : Jvm.MethodName)) ∈ BW := bw_t 510 (by decide +kernel) rfl
theorem bw_511 : (Jvm.Cond.code ({ cls := "LiftScheduler$Simulation", name := "moveTowards", desc := "(I)V" } : Jvm.MethodName) prog_5_method_22_code (3 : Nat) (Option.none : Option Jvm.ClassFile.FieldType)) ∈ BW := bw_t 511 (by decide +kernel) rfl
theorem bw_512 : (Jvm.Cond.methodLink "LiftSchedulerLaw" (164 : Nat) ({ cls := "LiftScheduler", name := "setCapacity", desc := "(I)I" } : Jvm.MethodName)) ∈ BW := bw_t 512 (by decide +kernel) rfl
theorem bw_513 : (Jvm.Cond.instanceMethod ({ cls := "LiftScheduler", name := "setCapacity", desc := "(I)I" } : Jvm.MethodName)) ∈ BW := bw_t 513 (by decide +kernel) rfl
theorem bw_514 : (Jvm.Cond.selects "LiftScheduler" ({ cls := "LiftScheduler", name := "setCapacity", desc := "(I)I" } : Jvm.MethodName) ({ cls := "LiftScheduler", name := "setCapacity", desc := "(I)I" } : Jvm.MethodName)) ∈ BW := bw_t 514 (by decide +kernel) rfl
theorem bw_515 : (Jvm.Cond.code ({ cls := "LiftScheduler", name := "setCapacity", desc := "(I)I" } : Jvm.MethodName) prog_1_method_61_code (3 : Nat) (Option.some Jvm.ClassFile.FieldType.int)) ∈ BW := bw_t 515 (by decide +kernel) rfl
theorem bw_516 : (Jvm.Cond.methodLink "LiftScheduler" (218 : Nat) ({ cls := "LiftScheduler", name := "requireCapacity", desc := "(I)V" } : Jvm.MethodName)) ∈ BW := bw_t 516 (by decide +kernel) rfl
theorem bw_518 : (Jvm.Cond.instanceMethod ({ cls := "LiftScheduler", name := "requireCapacity", desc := "(I)V" } : Jvm.MethodName)) ∈ BW := bw_t 518 (by decide +kernel) rfl
theorem bw_519 : (Jvm.Cond.code ({ cls := "LiftScheduler", name := "requireCapacity", desc := "(I)V" } : Jvm.MethodName) prog_1_method_76_code (2 : Nat) (Option.none : Option Jvm.ClassFile.FieldType)) ∈ BW := bw_t 519 (by decide +kernel) rfl
theorem bw_522 : (Jvm.Cond.classLink "LiftSchedulerLaw" (29 : Nat) "LiftSchedulerLaw$Random") ∈ BW := bw_t 522 (by decide +kernel) rfl
theorem bw_523 : (Jvm.Cond.instantiable "LiftSchedulerLaw$Random" (1 : Nat)) ∈ BW := bw_t 523 (by decide +kernel) rfl
theorem bw_524 : (Jvm.Cond.methodLink "LiftSchedulerLaw" (85 : Nat) ({ cls := "LiftSchedulerLaw$Random", name := "<init>", desc := "(I)V" } : Jvm.MethodName)) ∈ BW := bw_t 524 (by decide +kernel) rfl
theorem bw_525 : (Jvm.Cond.instanceMethod ({ cls := "LiftSchedulerLaw$Random", name := "<init>", desc := "(I)V" } : Jvm.MethodName)) ∈ BW := bw_t 525 (by decide +kernel) rfl
theorem bw_526 : (Jvm.Cond.code ({ cls := "LiftSchedulerLaw$Random", name := "<init>", desc := "(I)V" } : Jvm.MethodName) prog_7_method_1_code (2 : Nat) (Option.none : Option Jvm.ClassFile.FieldType)) ∈ BW := bw_t 526 (by decide +kernel) rfl
theorem bw_527 : (Jvm.Cond.methodLink "LiftSchedulerLaw$Random" (1 : Nat) ({ cls := "java/lang/Object", name := "<init>", desc := "()V" } : Jvm.MethodName)) ∈ BW := bw_t 527 (by decide +kernel) rfl
theorem bw_528 : (Jvm.Cond.fieldLink "LiftSchedulerLaw$Random" (7 : Nat) "LiftSchedulerLaw$Random" "v" "I") ∈ BW := bw_t 528 (by decide +kernel) rfl
theorem bw_531 : (Jvm.Cond.superclass "LiftSchedulerLaw$Random" "java/lang/Object") ∈ BW := bw_t 531 (by decide +kernel) rfl
theorem bw_532 : (Jvm.Cond.methodLink "LiftSchedulerLaw" (81 : Nat) ({ cls := "LiftSchedulerLaw", name := "draw", desc := "([II)I" } : Jvm.MethodName)) ∈ BW := bw_t 532 (by decide +kernel) rfl
theorem bw_533 : (Jvm.Cond.static ({ cls := "LiftSchedulerLaw", name := "draw", desc := "([II)I" } : Jvm.MethodName)) ∈ BW := bw_t 533 (by decide +kernel) rfl
theorem bw_534 : (Jvm.Cond.code ({ cls := "LiftSchedulerLaw", name := "draw", desc := "([II)I" } : Jvm.MethodName) method_2_code (2 : Nat) (Option.some Jvm.ClassFile.FieldType.int)) ∈ BW := bw_t 534 (by decide +kernel) rfl
theorem bw_535 : (Jvm.Cond.constant "LiftSchedulerLaw" (7 : Nat) (2147483647 : Int32)) ∈ BW := bw_t 535 (by decide +kernel) rfl
theorem bw_536 : (Jvm.Cond.methodLink "LiftSchedulerLaw" (89 : Nat) ({ cls := "LiftSchedulerLaw", name := "loads", desc := "(LLiftScheduler;LLiftSchedulerLaw$Random;II)Z" } : Jvm.MethodName)) ∈ BW := bw_t 536 (by decide +kernel) rfl
theorem bw_537 : (Jvm.Cond.static ({ cls := "LiftSchedulerLaw", name := "loads", desc := "(LLiftScheduler;LLiftSchedulerLaw$Random;II)Z" } : Jvm.MethodName)) ∈ BW := bw_t 537 (by decide +kernel) rfl
theorem bw_538 : (Jvm.Cond.code ({ cls := "LiftSchedulerLaw", name := "loads", desc := "(LLiftScheduler;LLiftSchedulerLaw$Random;II)Z" } : Jvm.MethodName) method_4_code (8 : Nat) (Option.some Jvm.ClassFile.FieldType.boolean)) ∈ BW := bw_t 538 (by decide +kernel) rfl
theorem bw_539 : (Jvm.Cond.methodLink "LiftSchedulerLaw" (28 : Nat) ({ cls := "LiftSchedulerLaw$Random", name := "next", desc := "(I)I" } : Jvm.MethodName)) ∈ BW := bw_t 539 (by decide +kernel) rfl
theorem bw_540 : (Jvm.Cond.instanceMethod ({ cls := "LiftSchedulerLaw$Random", name := "next", desc := "(I)I" } : Jvm.MethodName)) ∈ BW := bw_t 540 (by decide +kernel) rfl
theorem bw_541 : (Jvm.Cond.selects "LiftSchedulerLaw$Random" ({ cls := "LiftSchedulerLaw$Random", name := "next", desc := "(I)I" } : Jvm.MethodName) ({ cls := "LiftSchedulerLaw$Random", name := "next", desc := "(I)I" } : Jvm.MethodName)) ∈ BW := bw_t 541 (by decide +kernel) rfl
theorem bw_542 : (Jvm.Cond.code ({ cls := "LiftSchedulerLaw$Random", name := "next", desc := "(I)I" } : Jvm.MethodName) prog_7_method_2_code (2 : Nat) (Option.some Jvm.ClassFile.FieldType.int)) ∈ BW := bw_t 542 (by decide +kernel) rfl
theorem bw_543 : (Jvm.Cond.constant "LiftSchedulerLaw$Random" (13 : Nat) (1103515245 : Int32)) ∈ BW := bw_t 543 (by decide +kernel) rfl
theorem bw_544 : (Jvm.Cond.classLink "LiftSchedulerLaw" (34 : Nat) "java/lang/StringBuilder") ∈ BW := bw_t 544 (by decide +kernel) rfl
theorem bw_545 : (Jvm.Cond.instantiable "java/lang/StringBuilder" (4 : Nat)) ∈ BW := bw_t 545 (by decide +kernel) rfl
theorem bw_547 : (Jvm.Cond.methodLink "LiftSchedulerLaw" (38 : Nat) ({ cls := "java/lang/StringBuilder", name := "<init>", desc := "(Ljava/lang/String;)V" } : Jvm.MethodName)) ∈ BW := bw_t 547 (by decide +kernel) rfl
theorem bw_548 : (Jvm.Cond.instanceMethod ({ cls := "java/lang/StringBuilder", name := "<init>", desc := "(Ljava/lang/String;)V" } : Jvm.MethodName)) ∈ BW := bw_t 548 (by decide +kernel) rfl
theorem bw_549 : (Jvm.Cond.code ({ cls := "java/lang/StringBuilder", name := "<init>", desc := "(Ljava/lang/String;)V" } : Jvm.MethodName) prog_21_method_3_code (2 : Nat) (Option.none : Option Jvm.ClassFile.FieldType)) ∈ BW := bw_t 549 (by decide +kernel) rfl
theorem bw_550 : (Jvm.Cond.methodLink "java/lang/StringBuilder" (7 : Nat) ({ cls := "java/lang/AbstractStringBuilder", name := "<init>", desc := "(Ljava/lang/String;)V" } : Jvm.MethodName)) ∈ BW := bw_t 550 (by decide +kernel) rfl
theorem bw_551 : (Jvm.Cond.instanceMethod ({ cls := "java/lang/AbstractStringBuilder", name := "<init>", desc := "(Ljava/lang/String;)V" } : Jvm.MethodName)) ∈ BW := bw_t 551 (by decide +kernel) rfl
theorem bw_552 : (Jvm.Cond.code ({ cls := "java/lang/AbstractStringBuilder", name := "<init>", desc := "(Ljava/lang/String;)V" } : Jvm.MethodName) prog_9_method_3_code (5 : Nat) (Option.none : Option Jvm.ClassFile.FieldType)) ∈ BW := bw_t 552 (by decide +kernel) rfl
theorem bw_553 : (Jvm.Cond.methodLink "java/lang/AbstractStringBuilder" (3 : Nat) ({ cls := "java/lang/Object", name := "<init>", desc := "()V" } : Jvm.MethodName)) ∈ BW := bw_t 553 (by decide +kernel) rfl
theorem bw_554 : (Jvm.Cond.methodLink "java/lang/AbstractStringBuilder" (32 : Nat) ({ cls := "java/lang/String", name := "length", desc := "()I" } : Jvm.MethodName)) ∈ BW := bw_t 554 (by decide +kernel) rfl
theorem bw_555 : (Jvm.Cond.instanceMethod ({ cls := "java/lang/String", name := "length", desc := "()I" } : Jvm.MethodName)) ∈ BW := bw_t 555 (by decide +kernel) rfl
theorem bw_556 : (Jvm.Cond.selects "java/lang/String" ({ cls := "java/lang/String", name := "length", desc := "()I" } : Jvm.MethodName) ({ cls := "java/lang/String", name := "length", desc := "()I" } : Jvm.MethodName)) ∈ BW := bw_t 556 (by decide +kernel) rfl
theorem bw_557 : (Jvm.Cond.code ({ cls := "java/lang/String", name := "length", desc := "()I" } : Jvm.MethodName) prog_20_method_54_code (1 : Nat) (Option.some Jvm.ClassFile.FieldType.int)) ∈ BW := bw_t 557 (by decide +kernel) rfl
theorem bw_558 : (Jvm.Cond.methodLink "java/lang/String" (335 : Nat) ({ cls := "java/lang/String", name := "coder", desc := "()B" } : Jvm.MethodName)) ∈ BW := bw_t 558 (by decide +kernel) rfl
theorem bw_559 : (Jvm.Cond.instanceMethod ({ cls := "java/lang/String", name := "coder", desc := "()B" } : Jvm.MethodName)) ∈ BW := bw_t 559 (by decide +kernel) rfl
theorem bw_560 : (Jvm.Cond.selects "java/lang/String" ({ cls := "java/lang/String", name := "coder", desc := "()B" } : Jvm.MethodName) ({ cls := "java/lang/String", name := "coder", desc := "()B" } : Jvm.MethodName)) ∈ BW := bw_t 560 (by decide +kernel) rfl
theorem bw_561 : (Jvm.Cond.code ({ cls := "java/lang/String", name := "coder", desc := "()B" } : Jvm.MethodName) prog_20_method_152_code (1 : Nat) (Option.some Jvm.ClassFile.FieldType.byte)) ∈ BW := bw_t 561 (by decide +kernel) rfl
theorem bw_562 : (Jvm.Cond.fieldLink "java/lang/String" (38 : Nat) "java/lang/String" "COMPACT_STRINGS" "Z") ∈ BW := bw_t 562 (by decide +kernel) rfl
theorem bw_564 : (Jvm.Cond.constant "java/lang/AbstractStringBuilder" (38 : Nat) (2147483631 : Int32)) ∈ BW := bw_t 564 (by decide +kernel) rfl
theorem bw_565 : (Jvm.Cond.constant "java/lang/AbstractStringBuilder" (39 : Nat) (2147483647 : Int32)) ∈ BW := bw_t 565 (by decide +kernel) rfl
theorem bw_566 : (Jvm.Cond.methodLink "java/lang/AbstractStringBuilder" (40 : Nat) ({ cls := "java/lang/String", name := "coder", desc := "()B" } : Jvm.MethodName)) ∈ BW := bw_t 566 (by decide +kernel) rfl
theorem bw_567 : (Jvm.Cond.methodLink "java/lang/AbstractStringBuilder" (26 : Nat) ({ cls := "java/lang/StringUTF16", name := "newBytesFor", desc := "(I)[B" } : Jvm.MethodName)) ∈ BW := bw_t 567 (by decide +kernel) rfl
theorem bw_568 : (Jvm.Cond.static ({ cls := "java/lang/StringUTF16", name := "newBytesFor", desc := "(I)[B" } : Jvm.MethodName)) ∈ BW := bw_t 568 (by decide +kernel) rfl
theorem bw_569 : (Jvm.Cond.code ({ cls := "java/lang/StringUTF16", name := "newBytesFor", desc := "(I)[B" } : Jvm.MethodName) prog_23_method_2_code (1 : Nat) (Option.some (Jvm.ClassFile.FieldType.array Jvm.ClassFile.FieldType.byte))) ∈ BW := bw_t 569 (by decide +kernel) rfl
theorem bw_570 : (Jvm.Cond.methodLink "java/lang/StringUTF16" (11 : Nat) ({ cls := "java/lang/StringUTF16", name := "newBytesLength", desc := "(I)I" } : Jvm.MethodName)) ∈ BW := bw_t 570 (by decide +kernel) rfl
theorem bw_571 : (Jvm.Cond.static ({ cls := "java/lang/StringUTF16", name := "newBytesLength", desc := "(I)I" } : Jvm.MethodName)) ∈ BW := bw_t 571 (by decide +kernel) rfl
theorem bw_572 : (Jvm.Cond.code ({ cls := "java/lang/StringUTF16", name := "newBytesLength", desc := "(I)I" } : Jvm.MethodName) prog_23_method_3_code (1 : Nat) (Option.some Jvm.ClassFile.FieldType.int)) ∈ BW := bw_t 572 (by decide +kernel) rfl
theorem bw_573 : (Jvm.Cond.constant "java/lang/StringUTF16" (20 : Nat) (1073741823 : Int32)) ∈ BW := bw_t 573 (by decide +kernel) rfl
theorem bw_574 : (Jvm.Cond.methodLink "java/lang/AbstractStringBuilder" (43 : Nat) ({ cls := "java/lang/AbstractStringBuilder", name := "append", desc := "(Ljava/lang/String;)Ljava/lang/AbstractStringBuilder;" } : Jvm.MethodName)) ∈ BW := bw_t 574 (by decide +kernel) rfl
theorem bw_575 : (Jvm.Cond.instanceMethod ({ cls := "java/lang/AbstractStringBuilder", name := "append", desc := "(Ljava/lang/String;)Ljava/lang/AbstractStringBuilder;" } : Jvm.MethodName)) ∈ BW := bw_t 575 (by decide +kernel) rfl
theorem bw_576 : (Jvm.Cond.sameMethod "java/lang/AbstractStringBuilder" "java/lang/AbstractStringBuilder" "append" "(Ljava/lang/String;)Ljava/lang/AbstractStringBuilder;") ∈ BW := bw_t 576 (by decide +kernel) rfl
theorem bw_577 : (Jvm.Cond.selects "java/lang/StringBuilder" ({ cls := "java/lang/AbstractStringBuilder", name := "append", desc := "(Ljava/lang/String;)Ljava/lang/AbstractStringBuilder;" } : Jvm.MethodName) ({ cls := "java/lang/StringBuilder", name := "append", desc := "(Ljava/lang/String;)Ljava/lang/AbstractStringBuilder;" } : Jvm.MethodName)) ∈ BW := bw_t 577 (by decide +kernel) rfl
theorem bw_578 : (Jvm.Cond.instanceMethod ({ cls := "java/lang/StringBuilder", name := "append", desc := "(Ljava/lang/String;)Ljava/lang/AbstractStringBuilder;" } : Jvm.MethodName)) ∈ BW := bw_t 578 (by decide +kernel) rfl
theorem bw_579 : (Jvm.Cond.code ({ cls := "java/lang/StringBuilder", name := "append", desc := "(Ljava/lang/String;)Ljava/lang/AbstractStringBuilder;" } : Jvm.MethodName) prog_21_method_80_code (2 : Nat) (Option.some (Jvm.ClassFile.FieldType.object "java/lang/AbstractStringBuilder"))) ∈ BW := bw_t 579 (by decide +kernel) rfl
theorem bw_580 : (Jvm.Cond.methodLink "java/lang/StringBuilder" (23 : Nat) ({ cls := "java/lang/StringBuilder", name := "append", desc := "(Ljava/lang/String;)Ljava/lang/StringBuilder;" } : Jvm.MethodName)) ∈ BW := bw_t 580 (by decide +kernel) rfl
theorem bw_581 : (Jvm.Cond.instanceMethod ({ cls := "java/lang/StringBuilder", name := "append", desc := "(Ljava/lang/String;)Ljava/lang/StringBuilder;" } : Jvm.MethodName)) ∈ BW := bw_t 581 (by decide +kernel) rfl
theorem bw_582 : (Jvm.Cond.selects "java/lang/StringBuilder" ({ cls := "java/lang/StringBuilder", name := "append", desc := "(Ljava/lang/String;)Ljava/lang/StringBuilder;" } : Jvm.MethodName) ({ cls := "java/lang/StringBuilder", name := "append", desc := "(Ljava/lang/String;)Ljava/lang/StringBuilder;" } : Jvm.MethodName)) ∈ BW := bw_t 582 (by decide +kernel) rfl
theorem bw_583 : (Jvm.Cond.code ({ cls := "java/lang/StringBuilder", name := "append", desc := "(Ljava/lang/String;)Ljava/lang/StringBuilder;" } : Jvm.MethodName) prog_21_method_7_code (2 : Nat) (Option.some (Jvm.ClassFile.FieldType.object "java/lang/StringBuilder"))) ∈ BW := bw_t 583 (by decide +kernel) rfl
theorem bw_584 : (Jvm.Cond.methodLink "java/lang/StringBuilder" (29 : Nat) ({ cls := "java/lang/AbstractStringBuilder", name := "append", desc := "(Ljava/lang/String;)Ljava/lang/AbstractStringBuilder;" } : Jvm.MethodName)) ∈ BW := bw_t 584 (by decide +kernel) rfl
theorem bw_585 : (Jvm.Cond.superclass "java/lang/StringBuilder" "java/lang/AbstractStringBuilder") ∈ BW := bw_t 585 (by decide +kernel) rfl
theorem bw_586 : (Jvm.Cond.code ({ cls := "java/lang/AbstractStringBuilder", name := "append", desc := "(Ljava/lang/String;)Ljava/lang/AbstractStringBuilder;" } : Jvm.MethodName) prog_9_method_22_code (3 : Nat) (Option.some (Jvm.ClassFile.FieldType.object "java/lang/AbstractStringBuilder"))) ∈ BW := bw_t 586 (by decide +kernel) rfl
theorem bw_587 : (Jvm.Cond.methodLink "java/lang/AbstractStringBuilder" (204 : Nat) ({ cls := "java/lang/AbstractStringBuilder", name := "appendNull", desc := "()Ljava/lang/AbstractStringBuilder;" } : Jvm.MethodName)) ∈ BW := bw_t 587 (by decide +kernel) rfl
theorem bw_589 : (Jvm.Cond.instanceMethod ({ cls := "java/lang/AbstractStringBuilder", name := "appendNull", desc := "()Ljava/lang/AbstractStringBuilder;" } : Jvm.MethodName)) ∈ BW := bw_t 589 (by decide +kernel) rfl
theorem bw_590 : (Jvm.Cond.code ({ cls := "java/lang/AbstractStringBuilder", name := "appendNull", desc := "()Ljava/lang/AbstractStringBuilder;" } : Jvm.MethodName) prog_9_method_26_code (3 : Nat) (Option.some (Jvm.ClassFile.FieldType.object "java/lang/AbstractStringBuilder"))) ∈ BW := bw_t 590 (by decide +kernel) rfl
theorem bw_591 : (Jvm.Cond.methodLink "java/lang/AbstractStringBuilder" (100 : Nat) ({ cls := "java/lang/AbstractStringBuilder", name := "ensureCapacityInternal", desc := "(I)V" } : Jvm.MethodName)) ∈ BW := bw_t 591 (by decide +kernel) rfl
theorem bw_593 : (Jvm.Cond.instanceMethod ({ cls := "java/lang/AbstractStringBuilder", name := "ensureCapacityInternal", desc := "(I)V" } : Jvm.MethodName)) ∈ BW := bw_t 593 (by decide +kernel) rfl
theorem bw_594 : (Jvm.Cond.code ({ cls := "java/lang/AbstractStringBuilder", name := "ensureCapacityInternal", desc := "(I)V" } : Jvm.MethodName) prog_9_method_9_code (3 : Nat) (Option.none : Option Jvm.ClassFile.FieldType)) ∈ BW := bw_t 594 (by decide +kernel) rfl
theorem bw_595 : (Jvm.Cond.methodLink "java/lang/AbstractStringBuilder" (104 : Nat) ({ cls := "java/lang/AbstractStringBuilder", name := "newCapacity", desc := "(I)I" } : Jvm.MethodName)) ∈ BW := bw_t 595 (by decide +kernel) rfl
theorem bw_597 : (Jvm.Cond.instanceMethod ({ cls := "java/lang/AbstractStringBuilder", name := "newCapacity", desc := "(I)I" } : Jvm.MethodName)) ∈ BW := bw_t 597 (by decide +kernel) rfl
theorem bw_598 : (Jvm.Cond.code ({ cls := "java/lang/AbstractStringBuilder", name := "newCapacity", desc := "(I)I" } : Jvm.MethodName) prog_9_method_10_code (6 : Nat) (Option.some Jvm.ClassFile.FieldType.int)) ∈ BW := bw_t 598 (by decide +kernel) rfl
theorem bw_599 : (Jvm.Cond.methodLink "java/lang/AbstractStringBuilder" (114 : Nat) ({ cls := "jdk/internal/util/ArraysSupport", name := "newLength", desc := "(III)I" } : Jvm.MethodName)) ∈ BW := bw_t 599 (by decide +kernel) rfl
theorem bw_600 : (Jvm.Cond.static ({ cls := "jdk/internal/util/ArraysSupport", name := "newLength", desc := "(III)I" } : Jvm.MethodName)) ∈ BW := bw_t 600 (by decide +kernel) rfl
theorem bw_601 : (Jvm.Cond.code ({ cls := "jdk/internal/util/ArraysSupport", name := "newLength", desc := "(III)I" } : Jvm.MethodName) prog_27_method_27_code (4 : Nat) (Option.some Jvm.ClassFile.FieldType.int)) ∈ BW := bw_t 601 (by decide +kernel) rfl
theorem bw_602 : (Jvm.Cond.methodLink "jdk/internal/util/ArraysSupport" (194 : Nat) ({ cls := "java/lang/Math", name := "max", desc := "(II)I" } : Jvm.MethodName)) ∈ BW := bw_t 602 (by decide +kernel) rfl
theorem bw_603 : (Jvm.Cond.constant "jdk/internal/util/ArraysSupport" (200 : Nat) (2147483639 : Int32)) ∈ BW := bw_t 603 (by decide +kernel) rfl
theorem bw_604 : (Jvm.Cond.methodLink "jdk/internal/util/ArraysSupport" (201 : Nat) ({ cls := "jdk/internal/util/ArraysSupport", name := "hugeLength", desc := "(II)I" } : Jvm.MethodName)) ∈ BW := bw_t 604 (by decide +kernel) rfl
theorem bw_605 : (Jvm.Cond.static ({ cls := "jdk/internal/util/ArraysSupport", name := "hugeLength", desc := "(II)I" } : Jvm.MethodName)) ∈ BW := bw_t 605 (by decide +kernel) rfl
theorem bw_606 : (Jvm.Cond.code ({ cls := "jdk/internal/util/ArraysSupport", name := "hugeLength", desc := "(II)I" } : Jvm.MethodName) prog_27_method_28_code (3 : Nat) (Option.some Jvm.ClassFile.FieldType.int)) ∈ BW := bw_t 606 (by decide +kernel) rfl
theorem bw_607 : (Jvm.Cond.methodLink "java/lang/AbstractStringBuilder" (108 : Nat) ({ cls := "java/util/Arrays", name := "copyOf", desc := "([BI)[B" } : Jvm.MethodName)) ∈ BW := bw_t 607 (by decide +kernel) rfl
theorem bw_608 : (Jvm.Cond.static ({ cls := "java/util/Arrays", name := "copyOf", desc := "([BI)[B" } : Jvm.MethodName)) ∈ BW := bw_t 608 (by decide +kernel) rfl
theorem bw_609 : (Jvm.Cond.code ({ cls := "java/util/Arrays", name := "copyOf", desc := "([BI)[B" } : Jvm.MethodName) prog_26_method_121_code (3 : Nat) (Option.some (Jvm.ClassFile.FieldType.array Jvm.ClassFile.FieldType.byte))) ∈ BW := bw_t 609 (by decide +kernel) rfl
theorem bw_610 : (Jvm.Cond.methodLink "java/util/Arrays" (310 : Nat) ({ cls := "[B", name := "clone", desc := "()Ljava/lang/Object;" } : Jvm.MethodName)) ∈ BW := bw_t 610 (by decide +kernel) rfl
theorem bw_611 : (Jvm.Cond.sameMethod "[B" "java/lang/Object" "clone" "()Ljava/lang/Object;") ∈ BW := bw_t 611 (by decide +kernel) rfl
theorem bw_612 : (Jvm.Cond.native ({ cls := "java/lang/Object", name := "clone", desc := "()Ljava/lang/Object;" } : Jvm.MethodName)) ∈ BW := bw_t 612 (by decide +kernel) rfl
theorem bw_613 : (Jvm.Cond.instanceMethod ({ cls := "java/lang/Object", name := "clone", desc := "()Ljava/lang/Object;" } : Jvm.MethodName)) ∈ BW := bw_t 613 (by decide +kernel) rfl
theorem bw_614 : (Jvm.Cond.selects "[B" ({ cls := "[B", name := "clone", desc := "()Ljava/lang/Object;" } : Jvm.MethodName) ({ cls := "java/lang/Object", name := "clone", desc := "()Ljava/lang/Object;" } : Jvm.MethodName)) ∈ BW := bw_t 614 (by decide +kernel) rfl
theorem bw_616 : (Jvm.Cond.classLink "java/util/Arrays" (311 : Nat) "[B") ∈ BW := bw_t 616 (by decide +kernel) rfl
theorem bw_617 : (Jvm.Cond.methodLink "java/util/Arrays" (304 : Nat) ({ cls := "java/lang/Math", name := "min", desc := "(II)I" } : Jvm.MethodName)) ∈ BW := bw_t 617 (by decide +kernel) rfl
theorem bw_618 : (Jvm.Cond.methodLink "java/util/Arrays" (150 : Nat) ({ cls := "java/lang/System", name := "arraycopy", desc := "(Ljava/lang/Object;ILjava/lang/Object;II)V" } : Jvm.MethodName)) ∈ BW := bw_t 618 (by decide +kernel) rfl
theorem bw_619 : (Jvm.Cond.methodLink "java/lang/AbstractStringBuilder" (83 : Nat) ({ cls := "java/lang/AbstractStringBuilder", name := "isLatin1", desc := "()Z" } : Jvm.MethodName)) ∈ BW := bw_t 619 (by decide +kernel) rfl
theorem bw_620 : (Jvm.Cond.instanceMethod ({ cls := "java/lang/AbstractStringBuilder", name := "isLatin1", desc := "()Z" } : Jvm.MethodName)) ∈ BW := bw_t 620 (by decide +kernel) rfl
theorem bw_621 : (Jvm.Cond.sameMethod "java/lang/AbstractStringBuilder" "java/lang/AbstractStringBuilder" "isLatin1" "()Z") ∈ BW := bw_t 621 (by decide +kernel) rfl
theorem bw_622 : (Jvm.Cond.selects "java/lang/StringBuilder" ({ cls := "java/lang/AbstractStringBuilder", name := "isLatin1", desc := "()Z" } : Jvm.MethodName) ({ cls := "java/lang/AbstractStringBuilder", name := "isLatin1", desc := "()Z" } : Jvm.MethodName)) ∈ BW := bw_t 622 (by decide +kernel) rfl
theorem bw_623 : (Jvm.Cond.code ({ cls := "java/lang/AbstractStringBuilder", name := "isLatin1", desc := "()Z" } : Jvm.MethodName) prog_9_method_68_code (1 : Nat) (Option.some Jvm.ClassFile.FieldType.boolean)) ∈ BW := bw_t 623 (by decide +kernel) rfl
theorem bw_624 : (Jvm.Cond.fieldLink "java/lang/AbstractStringBuilder" (18 : Nat) "java/lang/String" "COMPACT_STRINGS" "Z") ∈ BW := bw_t 624 (by decide +kernel) rfl
theorem bw_625 : (Jvm.Cond.methodLink "java/lang/AbstractStringBuilder" (226 : Nat) ({ cls := "java/lang/StringUTF16", name := "putCharsAt", desc := "([BICCCC)I" } : Jvm.MethodName)) ∈ BW := bw_t 625 (by decide +kernel) rfl
theorem bw_626 : (Jvm.Cond.static ({ cls := "java/lang/StringUTF16", name := "putCharsAt", desc := "([BICCCC)I" } : Jvm.MethodName)) ∈ BW := bw_t 626 (by decide +kernel) rfl
theorem bw_627 : (Jvm.Cond.code ({ cls := "java/lang/StringUTF16", name := "putCharsAt", desc := "([BICCCC)I" } : Jvm.MethodName) prog_23_method_81_code (7 : Nat) (Option.some Jvm.ClassFile.FieldType.int)) ∈ BW := bw_t 627 (by decide +kernel) rfl
theorem bw_628 : (Jvm.Cond.methodLink "java/lang/StringUTF16" (96 : Nat) ({ cls := "java/lang/StringUTF16", name := "checkBoundsBeginEnd", desc := "(II[B)V" } : Jvm.MethodName)) ∈ BW := bw_t 628 (by decide +kernel) rfl
theorem bw_629 : (Jvm.Cond.static ({ cls := "java/lang/StringUTF16", name := "checkBoundsBeginEnd", desc := "(II[B)V" } : Jvm.MethodName)) ∈ BW := bw_t 629 (by decide +kernel) rfl
theorem bw_630 : (Jvm.Cond.code ({ cls := "java/lang/StringUTF16", name := "checkBoundsBeginEnd", desc := "(II[B)V" } : Jvm.MethodName) prog_23_method_93_code (3 : Nat) (Option.none : Option Jvm.ClassFile.FieldType)) ∈ BW := bw_t 630 (by decide +kernel) rfl
theorem bw_631 : (Jvm.Cond.methodLink "java/lang/StringUTF16" (48 : Nat) ({ cls := "java/lang/StringUTF16", name := "length", desc := "([B)I" } : Jvm.MethodName)) ∈ BW := bw_t 631 (by decide +kernel) rfl
theorem bw_632 : (Jvm.Cond.static ({ cls := "java/lang/StringUTF16", name := "length", desc := "([B)I" } : Jvm.MethodName)) ∈ BW := bw_t 632 (by decide +kernel) rfl
theorem bw_633 : (Jvm.Cond.code ({ cls := "java/lang/StringUTF16", name := "length", desc := "([B)I" } : Jvm.MethodName) prog_23_method_6_code (1 : Nat) (Option.some Jvm.ClassFile.FieldType.int)) ∈ BW := bw_t 633 (by decide +kernel) rfl
theorem bw_634 : (Jvm.Cond.methodLink "java/lang/StringUTF16" (241 : Nat) ({ cls := "java/lang/String", name := "checkBoundsBeginEnd", desc := "(III)V" } : Jvm.MethodName)) ∈ BW := bw_t 634 (by decide +kernel) rfl
theorem bw_635 : (Jvm.Cond.static ({ cls := "java/lang/String", name := "checkBoundsBeginEnd", desc := "(III)V" } : Jvm.MethodName)) ∈ BW := bw_t 635 (by decide +kernel) rfl
theorem bw_636 : (Jvm.Cond.code ({ cls := "java/lang/String", name := "checkBoundsBeginEnd", desc := "(III)V" } : Jvm.MethodName) prog_20_method_158_code (3 : Nat) (Option.none : Option Jvm.ClassFile.FieldType)) ∈ BW := bw_t 636 (by decide +kernel) rfl
theorem bw_637 : (Jvm.Cond.fieldLink "java/lang/String" (1053 : Nat) "jdk/internal/util/Preconditions" "SIOOBE_FORMATTER" "Ljava/util/function/BiFunction;") ∈ BW := bw_t 637 (by decide +kernel) rfl
theorem bw_639 : (Jvm.Cond.methodLink "java/lang/String" (1062 : Nat) ({ cls := "jdk/internal/util/Preconditions", name := "checkFromToIndex", desc := "(IIILjava/util/function/BiFunction;)I" } : Jvm.MethodName)) ∈ BW := bw_t 639 (by decide +kernel) rfl
theorem bw_640 : (Jvm.Cond.static ({ cls := "jdk/internal/util/Preconditions", name := "checkFromToIndex", desc := "(IIILjava/util/function/BiFunction;)I" } : Jvm.MethodName)) ∈ BW := bw_t 640 (by decide +kernel) rfl
theorem bw_641 : (Jvm.Cond.code ({ cls := "jdk/internal/util/Preconditions", name := "checkFromToIndex", desc := "(IIILjava/util/function/BiFunction;)I" } : Jvm.MethodName) prog_28_method_12_code (4 : Nat) (Option.some Jvm.ClassFile.FieldType.int)) ∈ BW := bw_t 641 (by decide +kernel) rfl
theorem bw_642 : (Jvm.Cond.methodLink "java/lang/StringUTF16" (111 : Nat) ({ cls := "java/lang/StringUTF16", name := "putChar", desc := "([BII)V" } : Jvm.MethodName)) ∈ BW := bw_t 642 (by decide +kernel) rfl
theorem bw_643 : (Jvm.Cond.static ({ cls := "java/lang/StringUTF16", name := "putChar", desc := "([BII)V" } : Jvm.MethodName)) ∈ BW := bw_t 643 (by decide +kernel) rfl
theorem bw_644 : (Jvm.Cond.code ({ cls := "java/lang/StringUTF16", name := "putChar", desc := "([BII)V" } : Jvm.MethodName) prog_23_method_4_code (3 : Nat) (Option.none : Option Jvm.ClassFile.FieldType)) ∈ BW := bw_t 644 (by decide +kernel) rfl
theorem bw_645 : (Jvm.Cond.fieldLink "java/lang/StringUTF16" (44 : Nat) "java/lang/StringUTF16" "$assertionsDisabled" "Z") ∈ BW := bw_t 645 (by decide +kernel) rfl
theorem bw_647 : (Jvm.Cond.fieldLink "java/lang/StringUTF16" (59 : Nat) "java/lang/StringUTF16" "HI_BYTE_SHIFT" "I") ∈ BW := bw_t 647 (by decide +kernel) rfl
theorem bw_649 : (Jvm.Cond.fieldLink "java/lang/StringUTF16" (63 : Nat) "java/lang/StringUTF16" "LO_BYTE_SHIFT" "I") ∈ BW := bw_t 649 (by decide +kernel) rfl
theorem bw_651 : (Jvm.Cond.methodLink "java/lang/AbstractStringBuilder" (208 : Nat) ({ cls := "java/lang/AbstractStringBuilder", name := "putStringAt", desc := "(ILjava/lang/String;)V" } : Jvm.MethodName)) ∈ BW := bw_t 651 (by decide +kernel) rfl
theorem bw_653 : (Jvm.Cond.instanceMethod ({ cls := "java/lang/AbstractStringBuilder", name := "putStringAt", desc := "(ILjava/lang/String;)V" } : Jvm.MethodName)) ∈ BW := bw_t 653 (by decide +kernel) rfl
theorem bw_654 : (Jvm.Cond.code ({ cls := "java/lang/AbstractStringBuilder", name := "putStringAt", desc := "(ILjava/lang/String;)V" } : Jvm.MethodName) prog_9_method_73_code (3 : Nat) (Option.none : Option Jvm.ClassFile.FieldType)) ∈ BW := bw_t 654 (by decide +kernel) rfl
theorem bw_655 : (Jvm.Cond.methodLink "java/lang/AbstractStringBuilder" (397 : Nat) ({ cls := "java/lang/AbstractStringBuilder", name := "inflateIfNeededFor", desc := "(Ljava/lang/String;)V" } : Jvm.MethodName)) ∈ BW := bw_t 655 (by decide +kernel) rfl
theorem bw_657 : (Jvm.Cond.instanceMethod ({ cls := "java/lang/AbstractStringBuilder", name := "inflateIfNeededFor", desc := "(Ljava/lang/String;)V" } : Jvm.MethodName)) ∈ BW := bw_t 657 (by decide +kernel) rfl
theorem bw_658 : (Jvm.Cond.code ({ cls := "java/lang/AbstractStringBuilder", name := "inflateIfNeededFor", desc := "(Ljava/lang/String;)V" } : Jvm.MethodName) prog_9_method_71_code (2 : Nat) (Option.none : Option Jvm.ClassFile.FieldType)) ∈ BW := bw_t 658 (by decide +kernel) rfl
theorem bw_659 : (Jvm.Cond.methodLink "java/lang/AbstractStringBuilder" (195 : Nat) ({ cls := "java/lang/AbstractStringBuilder", name := "inflate", desc := "()V" } : Jvm.MethodName)) ∈ BW := bw_t 659 (by decide +kernel) rfl
theorem bw_661 : (Jvm.Cond.instanceMethod ({ cls := "java/lang/AbstractStringBuilder", name := "inflate", desc := "()V" } : Jvm.MethodName)) ∈ BW := bw_t 661 (by decide +kernel) rfl
theorem bw_662 : (Jvm.Cond.code ({ cls := "java/lang/AbstractStringBuilder", name := "inflate", desc := "()V" } : Jvm.MethodName) prog_9_method_11_code (2 : Nat) (Option.none : Option Jvm.ClassFile.FieldType)) ∈ BW := bw_t 662 (by decide +kernel) rfl
theorem bw_663 : (Jvm.Cond.methodLink "java/lang/AbstractStringBuilder" (125 : Nat) ({ cls := "java/lang/StringLatin1", name := "inflate", desc := "([BI[BII)V" } : Jvm.MethodName)) ∈ BW := bw_t 663 (by decide +kernel) rfl
theorem bw_664 : (Jvm.Cond.static ({ cls := "java/lang/StringLatin1", name := "inflate", desc := "([BI[BII)V" } : Jvm.MethodName)) ∈ BW := bw_t 664 (by decide +kernel) rfl
theorem bw_665 : (Jvm.Cond.code ({ cls := "java/lang/StringLatin1", name := "inflate", desc := "([BI[BII)V" } : Jvm.MethodName) prog_22_method_50_code (5 : Nat) (Option.none : Option Jvm.ClassFile.FieldType)) ∈ BW := bw_t 665 (by decide +kernel) rfl
theorem bw_666 : (Jvm.Cond.methodLink "java/lang/StringLatin1" (240 : Nat) ({ cls := "java/lang/StringUTF16", name := "inflate", desc := "([BI[BII)V" } : Jvm.MethodName)) ∈ BW := bw_t 666 (by decide +kernel) rfl
theorem bw_667 : (Jvm.Cond.static ({ cls := "java/lang/StringUTF16", name := "inflate", desc := "([BI[BII)V" } : Jvm.MethodName)) ∈ BW := bw_t 667 (by decide +kernel) rfl
theorem bw_668 : (Jvm.Cond.code ({ cls := "java/lang/StringUTF16", name := "inflate", desc := "([BI[BII)V" } : Jvm.MethodName) prog_23_method_86_code (6 : Nat) (Option.none : Option Jvm.ClassFile.FieldType)) ∈ BW := bw_t 668 (by decide +kernel) rfl
theorem bw_669 : (Jvm.Cond.methodLink "java/lang/StringUTF16" (173 : Nat) ({ cls := "java/lang/StringUTF16", name := "checkBoundsOffCount", desc := "(II[B)V" } : Jvm.MethodName)) ∈ BW := bw_t 669 (by decide +kernel) rfl
theorem bw_670 : (Jvm.Cond.static ({ cls := "java/lang/StringUTF16", name := "checkBoundsOffCount", desc := "(II[B)V" } : Jvm.MethodName)) ∈ BW := bw_t 670 (by decide +kernel) rfl
theorem bw_671 : (Jvm.Cond.code ({ cls := "java/lang/StringUTF16", name := "checkBoundsOffCount", desc := "(II[B)V" } : Jvm.MethodName) prog_23_method_94_code (3 : Nat) (Option.none : Option Jvm.ClassFile.FieldType)) ∈ BW := bw_t 671 (by decide +kernel) rfl
theorem bw_672 : (Jvm.Cond.methodLink "java/lang/StringUTF16" (419 : Nat) ({ cls := "java/lang/String", name := "checkBoundsOffCount", desc := "(III)I" } : Jvm.MethodName)) ∈ BW := bw_t 672 (by decide +kernel) rfl
theorem bw_673 : (Jvm.Cond.static ({ cls := "java/lang/String", name := "checkBoundsOffCount", desc := "(III)I" } : Jvm.MethodName)) ∈ BW := bw_t 673 (by decide +kernel) rfl
theorem bw_674 : (Jvm.Cond.code ({ cls := "java/lang/String", name := "checkBoundsOffCount", desc := "(III)I" } : Jvm.MethodName) prog_20_method_157_code (3 : Nat) (Option.some Jvm.ClassFile.FieldType.int)) ∈ BW := bw_t 674 (by decide +kernel) rfl
theorem bw_675 : (Jvm.Cond.methodLink "java/lang/String" (1065 : Nat) ({ cls := "jdk/internal/util/Preconditions", name := "checkFromIndexSize", desc := "(IIILjava/util/function/BiFunction;)I" } : Jvm.MethodName)) ∈ BW := bw_t 675 (by decide +kernel) rfl
theorem bw_676 : (Jvm.Cond.static ({ cls := "jdk/internal/util/Preconditions", name := "checkFromIndexSize", desc := "(IIILjava/util/function/BiFunction;)I" } : Jvm.MethodName)) ∈ BW := bw_t 676 (by decide +kernel) rfl
theorem bw_677 : (Jvm.Cond.code ({ cls := "jdk/internal/util/Preconditions", name := "checkFromIndexSize", desc := "(IIILjava/util/function/BiFunction;)I" } : Jvm.MethodName) prog_28_method_13_code (4 : Nat) (Option.some Jvm.ClassFile.FieldType.int)) ∈ BW := bw_t 677 (by decide +kernel) rfl
theorem bw_678 : (Jvm.Cond.methodLink "java/lang/AbstractStringBuilder" (399 : Nat) ({ cls := "java/lang/String", name := "getBytes", desc := "([BIB)V" } : Jvm.MethodName)) ∈ BW := bw_t 678 (by decide +kernel) rfl
theorem bw_679 : (Jvm.Cond.instanceMethod ({ cls := "java/lang/String", name := "getBytes", desc := "([BIB)V" } : Jvm.MethodName)) ∈ BW := bw_t 679 (by decide +kernel) rfl
theorem bw_680 : (Jvm.Cond.selects "java/lang/String" ({ cls := "java/lang/String", name := "getBytes", desc := "([BIB)V" } : Jvm.MethodName) ({ cls := "java/lang/String", name := "getBytes", desc := "([BIB)V" } : Jvm.MethodName)) ∈ BW := bw_t 680 (by decide +kernel) rfl
theorem bw_681 : (Jvm.Cond.code ({ cls := "java/lang/String", name := "getBytes", desc := "([BIB)V" } : Jvm.MethodName) prog_20_method_147_code (4 : Nat) (Option.none : Option Jvm.ClassFile.FieldType)) ∈ BW := bw_t 681 (by decide +kernel) rfl
theorem bw_682 : (Jvm.Cond.methodLink "java/lang/String" (212 : Nat) ({ cls := "java/lang/System", name := "arraycopy", desc := "(Ljava/lang/Object;ILjava/lang/Object;II)V" } : Jvm.MethodName)) ∈ BW := bw_t 682 (by decide +kernel) rfl
theorem bw_683 : (Jvm.Cond.methodLink "java/lang/String" (106 : Nat) ({ cls := "java/lang/StringLatin1", name := "inflate", desc := "([BI[BII)V" } : Jvm.MethodName)) ∈ BW := bw_t 683 (by decide +kernel) rfl
theorem bw_684 : (Jvm.Cond.fieldLink "java/lang/AbstractStringBuilder" (15 : Nat) "java/lang/AbstractStringBuilder" "value" "[B") ∈ BW := bw_t 684 (by decide +kernel) rfl
theorem bw_685 : (Jvm.Cond.fieldLink "java/lang/AbstractStringBuilder" (22 : Nat) "java/lang/AbstractStringBuilder" "coder" "B") ∈ BW := bw_t 685 (by decide +kernel) rfl
theorem bw_686 : (Jvm.Cond.fieldLink "java/lang/AbstractStringBuilder" (79 : Nat) "java/lang/AbstractStringBuilder" "count" "I") ∈ BW := bw_t 686 (by decide +kernel) rfl
theorem bw_695 : (Jvm.Cond.methodLink "LiftSchedulerLaw" (41 : Nat) ({ cls := "java/lang/StringBuilder", name := "append", desc := "(I)Ljava/lang/StringBuilder;" } : Jvm.MethodName)) ∈ BW := bw_t 695 (by decide +kernel) rfl
theorem bw_696 : (Jvm.Cond.instanceMethod ({ cls := "java/lang/StringBuilder", name := "append", desc := "(I)Ljava/lang/StringBuilder;" } : Jvm.MethodName)) ∈ BW := bw_t 696 (by decide +kernel) rfl
theorem bw_697 : (Jvm.Cond.selects "java/lang/StringBuilder" ({ cls := "java/lang/StringBuilder", name := "append", desc := "(I)Ljava/lang/StringBuilder;" } : Jvm.MethodName) ({ cls := "java/lang/StringBuilder", name := "append", desc := "(I)Ljava/lang/StringBuilder;" } : Jvm.MethodName)) ∈ BW := bw_t 697 (by decide +kernel) rfl
theorem bw_698 : (Jvm.Cond.code ({ cls := "java/lang/StringBuilder", name := "append", desc := "(I)Ljava/lang/StringBuilder;" } : Jvm.MethodName) prog_21_method_15_code (2 : Nat) (Option.some (Jvm.ClassFile.FieldType.object "java/lang/StringBuilder"))) ∈ BW := bw_t 698 (by decide +kernel) rfl
theorem bw_699 : (Jvm.Cond.methodLink "java/lang/StringBuilder" (53 : Nat) ({ cls := "java/lang/AbstractStringBuilder", name := "append", desc := "(I)Ljava/lang/AbstractStringBuilder;" } : Jvm.MethodName)) ∈ BW := bw_t 699 (by decide +kernel) rfl
theorem bw_700 : (Jvm.Cond.instanceMethod ({ cls := "java/lang/AbstractStringBuilder", name := "append", desc := "(I)Ljava/lang/AbstractStringBuilder;" } : Jvm.MethodName)) ∈ BW := bw_t 700 (by decide +kernel) rfl
theorem bw_701 : (Jvm.Cond.code ({ cls := "java/lang/AbstractStringBuilder", name := "append", desc := "(I)Ljava/lang/AbstractStringBuilder;" } : Jvm.MethodName) prog_9_method_32_code (4 : Nat) (Option.some (Jvm.ClassFile.FieldType.object "java/lang/AbstractStringBuilder"))) ∈ BW := bw_t 701 (by decide +kernel) rfl
theorem bw_702 : (Jvm.Cond.methodLink "java/lang/AbstractStringBuilder" (245 : Nat) ({ cls := "java/lang/Integer", name := "stringSize", desc := "(I)I" } : Jvm.MethodName)) ∈ BW := bw_t 702 (by decide +kernel) rfl
theorem bw_703 : (Jvm.Cond.static ({ cls := "java/lang/Integer", name := "stringSize", desc := "(I)I" } : Jvm.MethodName)) ∈ BW := bw_t 703 (by decide +kernel) rfl
theorem bw_704 : (Jvm.Cond.code ({ cls := "java/lang/Integer", name := "stringSize", desc := "(I)I" } : Jvm.MethodName) prog_17_method_13_code (4 : Nat) (Option.some Jvm.ClassFile.FieldType.int)) ∈ BW := bw_t 704 (by decide +kernel) rfl
theorem bw_705 : (Jvm.Cond.methodLink "java/lang/AbstractStringBuilder" (248 : Nat) ({ cls := "java/lang/Integer", name := "getChars", desc := "(II[B)I" } : Jvm.MethodName)) ∈ BW := bw_t 705 (by decide +kernel) rfl
theorem bw_706 : (Jvm.Cond.static ({ cls := "java/lang/Integer", name := "getChars", desc := "(II[B)I" } : Jvm.MethodName)) ∈ BW := bw_t 706 (by decide +kernel) rfl
theorem bw_707 : (Jvm.Cond.code ({ cls := "java/lang/Integer", name := "getChars", desc := "(II[B)I" } : Jvm.MethodName) prog_17_method_12_code (7 : Nat) (Option.some Jvm.ClassFile.FieldType.int)) ∈ BW := bw_t 707 (by decide +kernel) rfl
theorem bw_708 : (Jvm.Cond.fieldLink "java/lang/Integer" (83 : Nat) "java/lang/Integer" "DigitOnes" "[B") ∈ BW := bw_t 708 (by decide +kernel) rfl
theorem bw_710 : (Jvm.Cond.fieldLink "java/lang/Integer" (87 : Nat) "java/lang/Integer" "DigitTens" "[B") ∈ BW := bw_t 710 (by decide +kernel) rfl
theorem bw_712 : (Jvm.Cond.methodLink "java/lang/AbstractStringBuilder" (251 : Nat) ({ cls := "java/lang/StringUTF16", name := "getChars", desc := "(III[B)I" } : Jvm.MethodName)) ∈ BW := bw_t 712 (by decide +kernel) rfl
theorem bw_713 : (Jvm.Cond.static ({ cls := "java/lang/StringUTF16", name := "getChars", desc := "(III[B)I" } : Jvm.MethodName)) ∈ BW := bw_t 713 (by decide +kernel) rfl
theorem bw_714 : (Jvm.Cond.code ({ cls := "java/lang/StringUTF16", name := "getChars", desc := "(III[B)I" } : Jvm.MethodName) prog_23_method_77_code (5 : Nat) (Option.some Jvm.ClassFile.FieldType.int)) ∈ BW := bw_t 714 (by decide +kernel) rfl
theorem bw_715 : (Jvm.Cond.methodLink "java/lang/StringUTF16" (393 : Nat) ({ cls := "java/lang/StringUTF16", name := "getChars", desc := "(II[B)I" } : Jvm.MethodName)) ∈ BW := bw_t 715 (by decide +kernel) rfl
theorem bw_716 : (Jvm.Cond.static ({ cls := "java/lang/StringUTF16", name := "getChars", desc := "(II[B)I" } : Jvm.MethodName)) ∈ BW := bw_t 716 (by decide +kernel) rfl
theorem bw_717 : (Jvm.Cond.code ({ cls := "java/lang/StringUTF16", name := "getChars", desc := "(II[B)I" } : Jvm.MethodName) prog_23_method_89_code (7 : Nat) (Option.some Jvm.ClassFile.FieldType.int)) ∈ BW := bw_t 717 (by decide +kernel) rfl
theorem bw_718 : (Jvm.Cond.fieldLink "java/lang/StringUTF16" (403 : Nat) "java/lang/Integer" "DigitOnes" "[B") ∈ BW := bw_t 718 (by decide +kernel) rfl
theorem bw_719 : (Jvm.Cond.fieldLink "java/lang/StringUTF16" (407 : Nat) "java/lang/Integer" "DigitTens" "[B") ∈ BW := bw_t 719 (by decide +kernel) rfl
theorem bw_720 : (Jvm.Cond.methodLink "LiftSchedulerLaw" (44 : Nat) ({ cls := "java/lang/StringBuilder", name := "append", desc := "(C)Ljava/lang/StringBuilder;" } : Jvm.MethodName)) ∈ BW := bw_t 720 (by decide +kernel) rfl
theorem bw_721 : (Jvm.Cond.instanceMethod ({ cls := "java/lang/StringBuilder", name := "append", desc := "(C)Ljava/lang/StringBuilder;" } : Jvm.MethodName)) ∈ BW := bw_t 721 (by decide +kernel) rfl
theorem bw_722 : (Jvm.Cond.selects "java/lang/StringBuilder" ({ cls := "java/lang/StringBuilder", name := "append", desc := "(C)Ljava/lang/StringBuilder;" } : Jvm.MethodName) ({ cls := "java/lang/StringBuilder", name := "append", desc := "(C)Ljava/lang/StringBuilder;" } : Jvm.MethodName)) ∈ BW := bw_t 722 (by decide +kernel) rfl
theorem bw_723 : (Jvm.Cond.code ({ cls := "java/lang/StringBuilder", name := "append", desc := "(C)Ljava/lang/StringBuilder;" } : Jvm.MethodName) prog_21_method_14_code (2 : Nat) (Option.some (Jvm.ClassFile.FieldType.object "java/lang/StringBuilder"))) ∈ BW := bw_t 723 (by decide +kernel) rfl
theorem bw_724 : (Jvm.Cond.methodLink "java/lang/StringBuilder" (50 : Nat) ({ cls := "java/lang/AbstractStringBuilder", name := "append", desc := "(C)Ljava/lang/AbstractStringBuilder;" } : Jvm.MethodName)) ∈ BW := bw_t 724 (by decide +kernel) rfl
theorem bw_725 : (Jvm.Cond.instanceMethod ({ cls := "java/lang/AbstractStringBuilder", name := "append", desc := "(C)Ljava/lang/AbstractStringBuilder;" } : Jvm.MethodName)) ∈ BW := bw_t 725 (by decide +kernel) rfl
theorem bw_726 : (Jvm.Cond.code ({ cls := "java/lang/AbstractStringBuilder", name := "append", desc := "(C)Ljava/lang/AbstractStringBuilder;" } : Jvm.MethodName) prog_9_method_31_code (2 : Nat) (Option.some (Jvm.ClassFile.FieldType.object "java/lang/AbstractStringBuilder"))) ∈ BW := bw_t 726 (by decide +kernel) rfl
theorem bw_727 : (Jvm.Cond.methodLink "java/lang/AbstractStringBuilder" (191 : Nat) ({ cls := "java/lang/StringLatin1", name := "canEncode", desc := "(C)Z" } : Jvm.MethodName)) ∈ BW := bw_t 727 (by decide +kernel) rfl
theorem bw_728 : (Jvm.Cond.static ({ cls := "java/lang/StringLatin1", name := "canEncode", desc := "(C)Z" } : Jvm.MethodName)) ∈ BW := bw_t 728 (by decide +kernel) rfl
theorem bw_729 : (Jvm.Cond.code ({ cls := "java/lang/StringLatin1", name := "canEncode", desc := "(C)Z" } : Jvm.MethodName) prog_22_method_3_code (1 : Nat) (Option.some Jvm.ClassFile.FieldType.boolean)) ∈ BW := bw_t 729 (by decide +kernel) rfl
theorem bw_730 : (Jvm.Cond.methodLink "java/lang/AbstractStringBuilder" (197 : Nat) ({ cls := "java/lang/StringUTF16", name := "putCharSB", desc := "([BII)V" } : Jvm.MethodName)) ∈ BW := bw_t 730 (by decide +kernel) rfl
theorem bw_731 : (Jvm.Cond.static ({ cls := "java/lang/StringUTF16", name := "putCharSB", desc := "([BII)V" } : Jvm.MethodName)) ∈ BW := bw_t 731 (by decide +kernel) rfl
theorem bw_732 : (Jvm.Cond.code ({ cls := "java/lang/StringUTF16", name := "putCharSB", desc := "([BII)V" } : Jvm.MethodName) prog_23_method_71_code (3 : Nat) (Option.none : Option Jvm.ClassFile.FieldType)) ∈ BW := bw_t 732 (by decide +kernel) rfl
theorem bw_733 : (Jvm.Cond.methodLink "java/lang/StringUTF16" (67 : Nat) ({ cls := "java/lang/StringUTF16", name := "checkIndex", desc := "(I[B)V" } : Jvm.MethodName)) ∈ BW := bw_t 733 (by decide +kernel) rfl
theorem bw_734 : (Jvm.Cond.static ({ cls := "java/lang/StringUTF16", name := "checkIndex", desc := "(I[B)V" } : Jvm.MethodName)) ∈ BW := bw_t 734 (by decide +kernel) rfl
theorem bw_735 : (Jvm.Cond.code ({ cls := "java/lang/StringUTF16", name := "checkIndex", desc := "(I[B)V" } : Jvm.MethodName) prog_23_method_91_code (2 : Nat) (Option.none : Option Jvm.ClassFile.FieldType)) ∈ BW := bw_t 735 (by decide +kernel) rfl
theorem bw_736 : (Jvm.Cond.methodLink "java/lang/StringUTF16" (414 : Nat) ({ cls := "java/lang/String", name := "checkIndex", desc := "(II)V" } : Jvm.MethodName)) ∈ BW := bw_t 736 (by decide +kernel) rfl
theorem bw_737 : (Jvm.Cond.static ({ cls := "java/lang/String", name := "checkIndex", desc := "(II)V" } : Jvm.MethodName)) ∈ BW := bw_t 737 (by decide +kernel) rfl
theorem bw_738 : (Jvm.Cond.code ({ cls := "java/lang/String", name := "checkIndex", desc := "(II)V" } : Jvm.MethodName) prog_20_method_155_code (2 : Nat) (Option.none : Option Jvm.ClassFile.FieldType)) ∈ BW := bw_t 738 (by decide +kernel) rfl
theorem bw_739 : (Jvm.Cond.methodLink "java/lang/String" (1059 : Nat) ({ cls := "jdk/internal/util/Preconditions", name := "checkIndex", desc := "(IILjava/util/function/BiFunction;)I" } : Jvm.MethodName)) ∈ BW := bw_t 739 (by decide +kernel) rfl
theorem bw_740 : (Jvm.Cond.static ({ cls := "jdk/internal/util/Preconditions", name := "checkIndex", desc := "(IILjava/util/function/BiFunction;)I" } : Jvm.MethodName)) ∈ BW := bw_t 740 (by decide +kernel) rfl
theorem bw_741 : (Jvm.Cond.code ({ cls := "jdk/internal/util/Preconditions", name := "checkIndex", desc := "(IILjava/util/function/BiFunction;)I" } : Jvm.MethodName) prog_28_method_11_code (3 : Nat) (Option.some Jvm.ClassFile.FieldType.int)) ∈ BW := bw_t 741 (by decide +kernel) rfl
theorem bw_745 : (Jvm.Cond.methodLink "LiftSchedulerLaw" (53 : Nat) ({ cls := "java/lang/StringBuilder", name := "append", desc := "(Ljava/lang/String;)Ljava/lang/StringBuilder;" } : Jvm.MethodName)) ∈ BW := bw_t 745 (by decide +kernel) rfl
theorem bw_748 : (Jvm.Cond.methodLink "LiftSchedulerLaw" (60 : Nat) ({ cls := "LiftSchedulerLaw", name := "lays", desc := "(LLiftScheduler;Ljava/lang/CharSequence;)Z" } : Jvm.MethodName)) ∈ BW := bw_t 748 (by decide +kernel) rfl
theorem bw_749 : (Jvm.Cond.static ({ cls := "LiftSchedulerLaw", name := "lays", desc := "(LLiftScheduler;Ljava/lang/CharSequence;)Z" } : Jvm.MethodName)) ∈ BW := bw_t 749 (by decide +kernel) rfl
theorem bw_750 : (Jvm.Cond.code ({ cls := "LiftSchedulerLaw", name := "lays", desc := "(LLiftScheduler;Ljava/lang/CharSequence;)Z" } : Jvm.MethodName) method_3_code (6 : Nat) (Option.some Jvm.ClassFile.FieldType.boolean)) ∈ BW := bw_t 750 (by decide +kernel) rfl
theorem bw_751 : (Jvm.Cond.methodLink "LiftSchedulerLaw" (8 : Nat) ({ cls := "LiftScheduler", name := "truncate", desc := "(I)Z" } : Jvm.MethodName)) ∈ BW := bw_t 751 (by decide +kernel) rfl
theorem bw_752 : (Jvm.Cond.instanceMethod ({ cls := "LiftScheduler", name := "truncate", desc := "(I)Z" } : Jvm.MethodName)) ∈ BW := bw_t 752 (by decide +kernel) rfl
theorem bw_753 : (Jvm.Cond.selects "LiftScheduler" ({ cls := "LiftScheduler", name := "truncate", desc := "(I)Z" } : Jvm.MethodName) ({ cls := "LiftScheduler", name := "truncate", desc := "(I)Z" } : Jvm.MethodName)) ∈ BW := bw_t 753 (by decide +kernel) rfl
theorem bw_754 : (Jvm.Cond.code ({ cls := "LiftScheduler", name := "truncate", desc := "(I)Z" } : Jvm.MethodName) prog_1_method_4_code (2 : Nat) (Option.some Jvm.ClassFile.FieldType.boolean)) ∈ BW := bw_t 754 (by decide +kernel) rfl
theorem bw_756 : (Jvm.Cond.methodLink "LiftSchedulerLaw" (14 : Nat) ({ cls := "java/lang/CharSequence", name := "length", desc := "()I" } : Jvm.MethodName)) ∈ BW := bw_t 756 (by decide +kernel) rfl
theorem bw_760 : (Jvm.Cond.selects "java/lang/StringBuilder" ({ cls := "java/lang/CharSequence", name := "length", desc := "()I" } : Jvm.MethodName) ({ cls := "java/lang/StringBuilder", name := "length", desc := "()I" } : Jvm.MethodName)) ∈ BW := bw_t 760 (by decide +kernel) rfl
theorem bw_762 : (Jvm.Cond.instanceMethod ({ cls := "java/lang/StringBuilder", name := "length", desc := "()I" } : Jvm.MethodName)) ∈ BW := bw_t 762 (by decide +kernel) rfl
theorem bw_764 : (Jvm.Cond.code ({ cls := "java/lang/StringBuilder", name := "length", desc := "()I" } : Jvm.MethodName) prog_21_method_93_code (1 : Nat) (Option.some Jvm.ClassFile.FieldType.int)) ∈ BW := bw_t 764 (by decide +kernel) rfl
theorem bw_765 : (Jvm.Cond.methodLink "java/lang/StringBuilder" (343 : Nat) ({ cls := "java/lang/AbstractStringBuilder", name := "length", desc := "()I" } : Jvm.MethodName)) ∈ BW := bw_t 765 (by decide +kernel) rfl
theorem bw_766 : (Jvm.Cond.instanceMethod ({ cls := "java/lang/AbstractStringBuilder", name := "length", desc := "()I" } : Jvm.MethodName)) ∈ BW := bw_t 766 (by decide +kernel) rfl
theorem bw_767 : (Jvm.Cond.code ({ cls := "java/lang/AbstractStringBuilder", name := "length", desc := "()I" } : Jvm.MethodName) prog_9_method_6_code (1 : Nat) (Option.some Jvm.ClassFile.FieldType.int)) ∈ BW := bw_t 767 (by decide +kernel) rfl
theorem bw_769 : (Jvm.Cond.methodLink "LiftSchedulerLaw" (20 : Nat) ({ cls := "java/lang/CharSequence", name := "charAt", desc := "(I)C" } : Jvm.MethodName)) ∈ BW := bw_t 769 (by decide +kernel) rfl
theorem bw_772 : (Jvm.Cond.selects "java/lang/StringBuilder" ({ cls := "java/lang/CharSequence", name := "charAt", desc := "(I)C" } : Jvm.MethodName) ({ cls := "java/lang/StringBuilder", name := "charAt", desc := "(I)C" } : Jvm.MethodName)) ∈ BW := bw_t 772 (by decide +kernel) rfl
theorem bw_774 : (Jvm.Cond.instanceMethod ({ cls := "java/lang/StringBuilder", name := "charAt", desc := "(I)C" } : Jvm.MethodName)) ∈ BW := bw_t 774 (by decide +kernel) rfl
theorem bw_776 : (Jvm.Cond.code ({ cls := "java/lang/StringBuilder", name := "charAt", desc := "(I)C" } : Jvm.MethodName) prog_21_method_88_code (2 : Nat) (Option.some Jvm.ClassFile.FieldType.char)) ∈ BW := bw_t 776 (by decide +kernel) rfl
theorem bw_777 : (Jvm.Cond.methodLink "java/lang/StringBuilder" (329 : Nat) ({ cls := "java/lang/AbstractStringBuilder", name := "charAt", desc := "(I)C" } : Jvm.MethodName)) ∈ BW := bw_t 777 (by decide +kernel) rfl
theorem bw_778 : (Jvm.Cond.instanceMethod ({ cls := "java/lang/AbstractStringBuilder", name := "charAt", desc := "(I)C" } : Jvm.MethodName)) ∈ BW := bw_t 778 (by decide +kernel) rfl
theorem bw_779 : (Jvm.Cond.code ({ cls := "java/lang/AbstractStringBuilder", name := "charAt", desc := "(I)C" } : Jvm.MethodName) prog_9_method_14_code (5 : Nat) (Option.some Jvm.ClassFile.FieldType.char)) ∈ BW := bw_t 779 (by decide +kernel) rfl
theorem bw_780 : (Jvm.Cond.methodLink "java/lang/AbstractStringBuilder" (138 : Nat) ({ cls := "java/lang/Math", name := "min", desc := "(II)I" } : Jvm.MethodName)) ∈ BW := bw_t 780 (by decide +kernel) rfl
theorem bw_781 : (Jvm.Cond.methodLink "java/lang/AbstractStringBuilder" (144 : Nat) ({ cls := "java/lang/String", name := "checkIndex", desc := "(II)V" } : Jvm.MethodName)) ∈ BW := bw_t 781 (by decide +kernel) rfl
theorem bw_782 : (Jvm.Cond.methodLink "java/lang/AbstractStringBuilder" (148 : Nat) ({ cls := "java/lang/StringUTF16", name := "getChar", desc := "([BI)C" } : Jvm.MethodName)) ∈ BW := bw_t 782 (by decide +kernel) rfl
theorem bw_783 : (Jvm.Cond.static ({ cls := "java/lang/StringUTF16", name := "getChar", desc := "([BI)C" } : Jvm.MethodName)) ∈ BW := bw_t 783 (by decide +kernel) rfl
theorem bw_784 : (Jvm.Cond.code ({ cls := "java/lang/StringUTF16", name := "getChar", desc := "([BI)C" } : Jvm.MethodName) prog_23_method_5_code (2 : Nat) (Option.some Jvm.ClassFile.FieldType.char)) ∈ BW := bw_t 784 (by decide +kernel) rfl
theorem bw_785 : (Jvm.Cond.methodLink "LiftSchedulerLaw" (24 : Nat) ({ cls := "LiftScheduler", name := "append", desc := "(IIIII)I" } : Jvm.MethodName)) ∈ BW := bw_t 785 (by decide +kernel) rfl
theorem bw_786 : (Jvm.Cond.instanceMethod ({ cls := "LiftScheduler", name := "append", desc := "(IIIII)I" } : Jvm.MethodName)) ∈ BW := bw_t 786 (by decide +kernel) rfl
theorem bw_787 : (Jvm.Cond.selects "LiftScheduler" ({ cls := "LiftScheduler", name := "append", desc := "(IIIII)I" } : Jvm.MethodName) ({ cls := "LiftScheduler", name := "append", desc := "(IIIII)I" } : Jvm.MethodName)) ∈ BW := bw_t 787 (by decide +kernel) rfl
theorem bw_788 : (Jvm.Cond.code ({ cls := "LiftScheduler", name := "append", desc := "(IIIII)I" } : Jvm.MethodName) prog_1_method_2_code (6 : Nat) (Option.some Jvm.ClassFile.FieldType.int)) ∈ BW := bw_t 788 (by decide +kernel) rfl
theorem bw_789 : (Jvm.Cond.methodLink "LiftScheduler" (57 : Nat) ({ cls := "LiftScheduler", name := "appendFour", desc := "(I)V" } : Jvm.MethodName)) ∈ BW := bw_t 789 (by decide +kernel) rfl
theorem bw_791 : (Jvm.Cond.instanceMethod ({ cls := "LiftScheduler", name := "appendFour", desc := "(I)V" } : Jvm.MethodName)) ∈ BW := bw_t 791 (by decide +kernel) rfl
theorem bw_792 : (Jvm.Cond.code ({ cls := "LiftScheduler", name := "appendFour", desc := "(I)V" } : Jvm.MethodName) prog_1_method_3_code (3 : Nat) (Option.none : Option Jvm.ClassFile.FieldType)) ∈ BW := bw_t 792 (by decide +kernel) rfl
theorem bw_793 : (Jvm.Cond.methodLink "LiftSchedulerLaw" (66 : Nat) ({ cls := "LiftScheduler", name := "load", desc := "()I" } : Jvm.MethodName)) ∈ BW := bw_t 793 (by decide +kernel) rfl
theorem bw_794 : (Jvm.Cond.instanceMethod ({ cls := "LiftScheduler", name := "load", desc := "()I" } : Jvm.MethodName)) ∈ BW := bw_t 794 (by decide +kernel) rfl
theorem bw_795 : (Jvm.Cond.selects "LiftScheduler" ({ cls := "LiftScheduler", name := "load", desc := "()I" } : Jvm.MethodName) ({ cls := "LiftScheduler", name := "load", desc := "()I" } : Jvm.MethodName)) ∈ BW := bw_t 795 (by decide +kernel) rfl
theorem bw_796 : (Jvm.Cond.code ({ cls := "LiftScheduler", name := "load", desc := "()I" } : Jvm.MethodName) prog_1_method_5_code (2 : Nat) (Option.some Jvm.ClassFile.FieldType.int)) ∈ BW := bw_t 796 (by decide +kernel) rfl
theorem bw_797 : (Jvm.Cond.methodLink "LiftScheduler" (61 : Nat) ({ cls := "LiftScheduler$Script", name := "readTokens", desc := "([BI)V" } : Jvm.MethodName)) ∈ BW := bw_t 797 (by decide +kernel) rfl
theorem bw_798 : (Jvm.Cond.instanceMethod ({ cls := "LiftScheduler$Script", name := "readTokens", desc := "([BI)V" } : Jvm.MethodName)) ∈ BW := bw_t 798 (by decide +kernel) rfl
theorem bw_799 : (Jvm.Cond.selects "LiftScheduler$Script" ({ cls := "LiftScheduler$Script", name := "readTokens", desc := "([BI)V" } : Jvm.MethodName) ({ cls := "LiftScheduler$Script", name := "readTokens", desc := "([BI)V" } : Jvm.MethodName)) ∈ BW := bw_t 799 (by decide +kernel) rfl
theorem bw_800 : (Jvm.Cond.code ({ cls := "LiftScheduler$Script", name := "readTokens", desc := "([BI)V" } : Jvm.MethodName) prog_4_method_2_code (5 : Nat) (Option.none : Option Jvm.ClassFile.FieldType)) ∈ BW := bw_t 800 (by decide +kernel) rfl
theorem bw_801 : (Jvm.Cond.methodLink "LiftScheduler$Script" (40 : Nat) ({ cls := "LiftScheduler$Script", name := "isSpace", desc := "(I)Z" } : Jvm.MethodName)) ∈ BW := bw_t 801 (by decide +kernel) rfl
theorem bw_802 : (Jvm.Cond.static ({ cls := "LiftScheduler$Script", name := "isSpace", desc := "(I)Z" } : Jvm.MethodName)) ∈ BW := bw_t 802 (by decide +kernel) rfl
theorem bw_803 : (Jvm.Cond.code ({ cls := "LiftScheduler$Script", name := "isSpace", desc := "(I)Z" } : Jvm.MethodName) prog_4_method_4_code (1 : Nat) (Option.some Jvm.ClassFile.FieldType.boolean)) ∈ BW := bw_t 803 (by decide +kernel) rfl
theorem bw_804 : (Jvm.Cond.methodLink "LiftScheduler$Script" (44 : Nat) ({ cls := "LiftScheduler$Script", name := "belongTogether", desc := "(II)Z" } : Jvm.MethodName)) ∈ BW := bw_t 804 (by decide +kernel) rfl
theorem bw_805 : (Jvm.Cond.static ({ cls := "LiftScheduler$Script", name := "belongTogether", desc := "(II)Z" } : Jvm.MethodName)) ∈ BW := bw_t 805 (by decide +kernel) rfl
theorem bw_806 : (Jvm.Cond.code ({ cls := "LiftScheduler$Script", name := "belongTogether", desc := "(II)Z" } : Jvm.MethodName) prog_4_method_7_code (2 : Nat) (Option.some Jvm.ClassFile.FieldType.boolean)) ∈ BW := bw_t 806 (by decide +kernel) rfl
theorem bw_807 : (Jvm.Cond.methodLink "LiftScheduler$Script" (70 : Nat) ({ cls := "LiftScheduler$Script", name := "isLetter", desc := "(I)Z" } : Jvm.MethodName)) ∈ BW := bw_t 807 (by decide +kernel) rfl
theorem bw_808 : (Jvm.Cond.static ({ cls := "LiftScheduler$Script", name := "isLetter", desc := "(I)Z" } : Jvm.MethodName)) ∈ BW := bw_t 808 (by decide +kernel) rfl
theorem bw_809 : (Jvm.Cond.code ({ cls := "LiftScheduler$Script", name := "isLetter", desc := "(I)Z" } : Jvm.MethodName) prog_4_method_6_code (1 : Nat) (Option.some Jvm.ClassFile.FieldType.boolean)) ∈ BW := bw_t 809 (by decide +kernel) rfl
theorem bw_810 : (Jvm.Cond.methodLink "LiftScheduler$Script" (48 : Nat) ({ cls := "LiftScheduler$Script", name := "isDigit", desc := "(I)Z" } : Jvm.MethodName)) ∈ BW := bw_t 810 (by decide +kernel) rfl
theorem bw_811 : (Jvm.Cond.static ({ cls := "LiftScheduler$Script", name := "isDigit", desc := "(I)Z" } : Jvm.MethodName)) ∈ BW := bw_t 811 (by decide +kernel) rfl
theorem bw_812 : (Jvm.Cond.code ({ cls := "LiftScheduler$Script", name := "isDigit", desc := "(I)Z" } : Jvm.MethodName) prog_4_method_5_code (1 : Nat) (Option.some Jvm.ClassFile.FieldType.boolean)) ∈ BW := bw_t 812 (by decide +kernel) rfl
theorem bw_813 : (Jvm.Cond.fieldLink "LiftScheduler$Script" (51 : Nat) "LiftScheduler$Kind" "NUMBER" "LLiftScheduler$Kind;") ∈ BW := bw_t 813 (by decide +kernel) rfl
theorem bw_815 : (Jvm.Cond.methodLink "LiftScheduler$Script" (55 : Nat) ({ cls := "LiftScheduler$Script", name := "numberOf", desc := "([BII)I" } : Jvm.MethodName)) ∈ BW := bw_t 815 (by decide +kernel) rfl
theorem bw_816 : (Jvm.Cond.static ({ cls := "LiftScheduler$Script", name := "numberOf", desc := "([BII)I" } : Jvm.MethodName)) ∈ BW := bw_t 816 (by decide +kernel) rfl
theorem bw_817 : (Jvm.Cond.code ({ cls := "LiftScheduler$Script", name := "numberOf", desc := "([BII)I" } : Jvm.MethodName) prog_4_method_8_code (5 : Nat) (Option.some Jvm.ClassFile.FieldType.int)) ∈ BW := bw_t 817 (by decide +kernel) rfl
theorem bw_818 : (Jvm.Cond.methodLink "LiftScheduler$Script" (59 : Nat) ({ cls := "LiftScheduler$Script", name := "addToken", desc := "(LLiftScheduler$Kind;II)V" } : Jvm.MethodName)) ∈ BW := bw_t 818 (by decide +kernel) rfl
theorem bw_820 : (Jvm.Cond.instanceMethod ({ cls := "LiftScheduler$Script", name := "addToken", desc := "(LLiftScheduler$Kind;II)V" } : Jvm.MethodName)) ∈ BW := bw_t 820 (by decide +kernel) rfl
theorem bw_821 : (Jvm.Cond.code ({ cls := "LiftScheduler$Script", name := "addToken", desc := "(LLiftScheduler$Kind;II)V" } : Jvm.MethodName) prog_4_method_3_code (4 : Nat) (Option.none : Option Jvm.ClassFile.FieldType)) ∈ BW := bw_t 821 (by decide +kernel) rfl
theorem bw_822 : (Jvm.Cond.methodLink "LiftScheduler$Script" (63 : Nat) ({ cls := "LiftScheduler$Script", name := "kindOf", desc := "([BII)LLiftScheduler$Kind;" } : Jvm.MethodName)) ∈ BW := bw_t 822 (by decide +kernel) rfl
theorem bw_823 : (Jvm.Cond.static ({ cls := "LiftScheduler$Script", name := "kindOf", desc := "([BII)LLiftScheduler$Kind;" } : Jvm.MethodName)) ∈ BW := bw_t 823 (by decide +kernel) rfl
theorem bw_824 : (Jvm.Cond.code ({ cls := "LiftScheduler$Script", name := "kindOf", desc := "([BII)LLiftScheduler$Kind;" } : Jvm.MethodName) prog_4_method_9_code (7 : Nat) (Option.some (Jvm.ClassFile.FieldType.object "LiftScheduler$Kind"))) ∈ BW := bw_t 824 (by decide +kernel) rfl
theorem bw_825 : (Jvm.Cond.fieldLink "LiftScheduler$Script" (73 : Nat) "LiftScheduler$Script" "KINDS" "[LLiftScheduler$Kind;") ∈ BW := bw_t 825 (by decide +kernel) rfl
theorem bw_827 : (Jvm.Cond.methodLink "LiftScheduler$Script" (80 : Nat) ({ cls := "LiftScheduler$Script", name := "isText", desc := "(Ljava/lang/String;[BII)Z" } : Jvm.MethodName)) ∈ BW := bw_t 827 (by decide +kernel) rfl
theorem bw_828 : (Jvm.Cond.static ({ cls := "LiftScheduler$Script", name := "isText", desc := "(Ljava/lang/String;[BII)Z" } : Jvm.MethodName)) ∈ BW := bw_t 828 (by decide +kernel) rfl
theorem bw_829 : (Jvm.Cond.code ({ cls := "LiftScheduler$Script", name := "isText", desc := "(Ljava/lang/String;[BII)Z" } : Jvm.MethodName) prog_4_method_10_code (5 : Nat) (Option.some Jvm.ClassFile.FieldType.boolean)) ∈ BW := bw_t 829 (by decide +kernel) rfl
theorem bw_830 : (Jvm.Cond.methodLink "LiftScheduler$Script" (87 : Nat) ({ cls := "java/lang/String", name := "length", desc := "()I" } : Jvm.MethodName)) ∈ BW := bw_t 830 (by decide +kernel) rfl
theorem bw_831 : (Jvm.Cond.methodLink "LiftScheduler$Script" (93 : Nat) ({ cls := "java/lang/String", name := "charAt", desc := "(I)C" } : Jvm.MethodName)) ∈ BW := bw_t 831 (by decide +kernel) rfl
theorem bw_832 : (Jvm.Cond.instanceMethod ({ cls := "java/lang/String", name := "charAt", desc := "(I)C" } : Jvm.MethodName)) ∈ BW := bw_t 832 (by decide +kernel) rfl
theorem bw_833 : (Jvm.Cond.selects "java/lang/String" ({ cls := "java/lang/String", name := "charAt", desc := "(I)C" } : Jvm.MethodName) ({ cls := "java/lang/String", name := "charAt", desc := "(I)C" } : Jvm.MethodName)) ∈ BW := bw_t 833 (by decide +kernel) rfl
theorem bw_834 : (Jvm.Cond.code ({ cls := "java/lang/String", name := "charAt", desc := "(I)C" } : Jvm.MethodName) prog_20_method_56_code (2 : Nat) (Option.some Jvm.ClassFile.FieldType.char)) ∈ BW := bw_t 834 (by decide +kernel) rfl
theorem bw_835 : (Jvm.Cond.methodLink "java/lang/String" (492 : Nat) ({ cls := "java/lang/String", name := "isLatin1", desc := "()Z" } : Jvm.MethodName)) ∈ BW := bw_t 835 (by decide +kernel) rfl
theorem bw_836 : (Jvm.Cond.instanceMethod ({ cls := "java/lang/String", name := "isLatin1", desc := "()Z" } : Jvm.MethodName)) ∈ BW := bw_t 836 (by decide +kernel) rfl
theorem bw_837 : (Jvm.Cond.selects "java/lang/String" ({ cls := "java/lang/String", name := "isLatin1", desc := "()Z" } : Jvm.MethodName) ({ cls := "java/lang/String", name := "isLatin1", desc := "()Z" } : Jvm.MethodName)) ∈ BW := bw_t 837 (by decide +kernel) rfl
theorem bw_838 : (Jvm.Cond.code ({ cls := "java/lang/String", name := "isLatin1", desc := "()Z" } : Jvm.MethodName) prog_20_method_154_code (1 : Nat) (Option.some Jvm.ClassFile.FieldType.boolean)) ∈ BW := bw_t 838 (by decide +kernel) rfl
theorem bw_839 : (Jvm.Cond.methodLink "java/lang/String" (495 : Nat) ({ cls := "java/lang/StringLatin1", name := "charAt", desc := "([BI)C" } : Jvm.MethodName)) ∈ BW := bw_t 839 (by decide +kernel) rfl
theorem bw_840 : (Jvm.Cond.static ({ cls := "java/lang/StringLatin1", name := "charAt", desc := "([BI)C" } : Jvm.MethodName)) ∈ BW := bw_t 840 (by decide +kernel) rfl
theorem bw_841 : (Jvm.Cond.code ({ cls := "java/lang/StringLatin1", name := "charAt", desc := "([BI)C" } : Jvm.MethodName) prog_22_method_2_code (2 : Nat) (Option.some Jvm.ClassFile.FieldType.char)) ∈ BW := bw_t 841 (by decide +kernel) rfl
theorem bw_842 : (Jvm.Cond.methodLink "java/lang/StringLatin1" (9 : Nat) ({ cls := "java/lang/String", name := "checkIndex", desc := "(II)V" } : Jvm.MethodName)) ∈ BW := bw_t 842 (by decide +kernel) rfl
theorem bw_843 : (Jvm.Cond.methodLink "java/lang/String" (498 : Nat) ({ cls := "java/lang/StringUTF16", name := "charAt", desc := "([BI)C" } : Jvm.MethodName)) ∈ BW := bw_t 843 (by decide +kernel) rfl
theorem bw_844 : (Jvm.Cond.static ({ cls := "java/lang/StringUTF16", name := "charAt", desc := "([BI)C" } : Jvm.MethodName)) ∈ BW := bw_t 844 (by decide +kernel) rfl
theorem bw_845 : (Jvm.Cond.code ({ cls := "java/lang/StringUTF16", name := "charAt", desc := "([BI)C" } : Jvm.MethodName) prog_23_method_83_code (2 : Nat) (Option.some Jvm.ClassFile.FieldType.char)) ∈ BW := bw_t 845 (by decide +kernel) rfl
theorem bw_846 : (Jvm.Cond.methodLink "java/lang/StringUTF16" (71 : Nat) ({ cls := "java/lang/StringUTF16", name := "getChar", desc := "([BI)C" } : Jvm.MethodName)) ∈ BW := bw_t 846 (by decide +kernel) rfl
theorem bw_847 : (Jvm.Cond.fieldLink "LiftScheduler$Script" (84 : Nat) "LiftScheduler$Kind" "INVALID" "LLiftScheduler$Kind;") ∈ BW := bw_t 847 (by decide +kernel) rfl
theorem bw_849 : (Jvm.Cond.fieldLink "LiftScheduler$Script" (67 : Nat) "LiftScheduler$Kind" "END" "LLiftScheduler$Kind;") ∈ BW := bw_t 849 (by decide +kernel) rfl
theorem bw_851 : (Jvm.Cond.methodLink "LiftScheduler" (65 : Nat) ({ cls := "LiftScheduler$Script", name := "performHeader", desc := "(LLiftScheduler$Simulation;)Z" } : Jvm.MethodName)) ∈ BW := bw_t 851 (by decide +kernel) rfl
theorem bw_852 : (Jvm.Cond.instanceMethod ({ cls := "LiftScheduler$Script", name := "performHeader", desc := "(LLiftScheduler$Simulation;)Z" } : Jvm.MethodName)) ∈ BW := bw_t 852 (by decide +kernel) rfl
theorem bw_853 : (Jvm.Cond.selects "LiftScheduler$Script" ({ cls := "LiftScheduler$Script", name := "performHeader", desc := "(LLiftScheduler$Simulation;)Z" } : Jvm.MethodName) ({ cls := "LiftScheduler$Script", name := "performHeader", desc := "(LLiftScheduler$Simulation;)Z" } : Jvm.MethodName)) ∈ BW := bw_t 853 (by decide +kernel) rfl
theorem bw_854 : (Jvm.Cond.code ({ cls := "LiftScheduler$Script", name := "performHeader", desc := "(LLiftScheduler$Simulation;)Z" } : Jvm.MethodName) prog_4_method_11_code (5 : Nat) (Option.some Jvm.ClassFile.FieldType.boolean)) ∈ BW := bw_t 854 (by decide +kernel) rfl
theorem bw_855 : (Jvm.Cond.fieldLink "LiftScheduler$Script" (97 : Nat) "LiftScheduler$Kind" "LIFT" "LLiftScheduler$Kind;") ∈ BW := bw_t 855 (by decide +kernel) rfl
theorem bw_857 : (Jvm.Cond.methodLink "LiftScheduler$Script" (100 : Nat) ({ cls := "LiftScheduler$Script", name := "take", desc := "(LLiftScheduler$Kind;)Z" } : Jvm.MethodName)) ∈ BW := bw_t 857 (by decide +kernel) rfl
theorem bw_859 : (Jvm.Cond.instanceMethod ({ cls := "LiftScheduler$Script", name := "take", desc := "(LLiftScheduler$Kind;)Z" } : Jvm.MethodName)) ∈ BW := bw_t 859 (by decide +kernel) rfl
theorem bw_860 : (Jvm.Cond.code ({ cls := "LiftScheduler$Script", name := "take", desc := "(LLiftScheduler$Kind;)Z" } : Jvm.MethodName) prog_4_method_23_code (2 : Nat) (Option.some Jvm.ClassFile.FieldType.boolean)) ∈ BW := bw_t 860 (by decide +kernel) rfl
theorem bw_861 : (Jvm.Cond.methodLink "LiftScheduler$Script" (124 : Nat) ({ cls := "LiftScheduler$Script", name := "nextKind", desc := "()LLiftScheduler$Kind;" } : Jvm.MethodName)) ∈ BW := bw_t 861 (by decide +kernel) rfl
theorem bw_863 : (Jvm.Cond.instanceMethod ({ cls := "LiftScheduler$Script", name := "nextKind", desc := "()LLiftScheduler$Kind;" } : Jvm.MethodName)) ∈ BW := bw_t 863 (by decide +kernel) rfl
theorem bw_864 : (Jvm.Cond.code ({ cls := "LiftScheduler$Script", name := "nextKind", desc := "()LLiftScheduler$Kind;" } : Jvm.MethodName) prog_4_method_22_code (1 : Nat) (Option.some (Jvm.ClassFile.FieldType.object "LiftScheduler$Kind"))) ∈ BW := bw_t 864 (by decide +kernel) rfl
theorem bw_865 : (Jvm.Cond.methodLink "LiftScheduler$Script" (181 : Nat) ({ cls := "LiftScheduler$Script", name := "fail", desc := "(II)Z" } : Jvm.MethodName)) ∈ BW := bw_t 865 (by decide +kernel) rfl
theorem bw_867 : (Jvm.Cond.instanceMethod ({ cls := "LiftScheduler$Script", name := "fail", desc := "(II)Z" } : Jvm.MethodName)) ∈ BW := bw_t 867 (by decide +kernel) rfl
theorem bw_868 : (Jvm.Cond.code ({ cls := "LiftScheduler$Script", name := "fail", desc := "(II)Z" } : Jvm.MethodName) prog_4_method_27_code (3 : Nat) (Option.some Jvm.ClassFile.FieldType.boolean)) ∈ BW := bw_t 868 (by decide +kernel) rfl
theorem bw_869 : (Jvm.Cond.methodLink "LiftScheduler$Script" (104 : Nat) ({ cls := "LiftScheduler$Script", name := "takeNumber", desc := "(II)I" } : Jvm.MethodName)) ∈ BW := bw_t 869 (by decide +kernel) rfl
theorem bw_871 : (Jvm.Cond.instanceMethod ({ cls := "LiftScheduler$Script", name := "takeNumber", desc := "(II)I" } : Jvm.MethodName)) ∈ BW := bw_t 871 (by decide +kernel) rfl
theorem bw_872 : (Jvm.Cond.code ({ cls := "LiftScheduler$Script", name := "takeNumber", desc := "(II)I" } : Jvm.MethodName) prog_4_method_24_code (4 : Nat) (Option.some Jvm.ClassFile.FieldType.int)) ∈ BW := bw_t 872 (by decide +kernel) rfl
theorem bw_873 : (Jvm.Cond.methodLink "LiftScheduler$Script" (108 : Nat) ({ cls := "LiftScheduler$Script", name := "takePolicy", desc := "()I" } : Jvm.MethodName)) ∈ BW := bw_t 873 (by decide +kernel) rfl
theorem bw_875 : (Jvm.Cond.instanceMethod ({ cls := "LiftScheduler$Script", name := "takePolicy", desc := "()I" } : Jvm.MethodName)) ∈ BW := bw_t 875 (by decide +kernel) rfl
theorem bw_876 : (Jvm.Cond.code ({ cls := "LiftScheduler$Script", name := "takePolicy", desc := "()I" } : Jvm.MethodName) prog_4_method_25_code (2 : Nat) (Option.some Jvm.ClassFile.FieldType.int)) ∈ BW := bw_t 876 (by decide +kernel) rfl
theorem bw_877 : (Jvm.Cond.fieldLink "LiftScheduler$Script" (144 : Nat) "LiftScheduler$1" "$SwitchMap$LiftScheduler$Kind" "[I") ∈ BW := bw_t 877 (by decide +kernel) rfl
theorem bw_879 : (Jvm.Cond.methodLink "LiftScheduler$Script" (149 : Nat) ({ cls := "LiftScheduler$Kind", name := "ordinal", desc := "()I" } : Jvm.MethodName)) ∈ BW := bw_t 879 (by decide +kernel) rfl
theorem bw_880 : (Jvm.Cond.sameMethod "LiftScheduler$Kind" "java/lang/Enum" "ordinal" "()I") ∈ BW := bw_t 880 (by decide +kernel) rfl
theorem bw_882 : (Jvm.Cond.selects "LiftScheduler$Kind" ({ cls := "LiftScheduler$Kind", name := "ordinal", desc := "()I" } : Jvm.MethodName) ({ cls := "java/lang/Enum", name := "ordinal", desc := "()I" } : Jvm.MethodName)) ∈ BW := bw_t 882 (by decide +kernel) rfl
theorem bw_883 : (Jvm.Cond.instanceMethod ({ cls := "java/lang/Enum", name := "ordinal", desc := "()I" } : Jvm.MethodName)) ∈ BW := bw_t 883 (by decide +kernel) rfl
theorem bw_884 : (Jvm.Cond.code ({ cls := "java/lang/Enum", name := "ordinal", desc := "()I" } : Jvm.MethodName) prog_12_method_2_code (1 : Nat) (Option.some Jvm.ClassFile.FieldType.int)) ∈ BW := bw_t 884 (by decide +kernel) rfl
theorem bw_885 : (Jvm.Cond.methodLink "LiftScheduler$Script" (111 : Nat) ({ cls := "LiftScheduler$Simulation", name := "begin", desc := "(III)V" } : Jvm.MethodName)) ∈ BW := bw_t 885 (by decide +kernel) rfl
theorem bw_886 : (Jvm.Cond.fieldLink "LiftScheduler$Script" (117 : Nat) "LiftScheduler$Kind" "SEMICOLON" "LLiftScheduler$Kind;") ∈ BW := bw_t 886 (by decide +kernel) rfl
theorem bw_888 : (Jvm.Cond.methodLink "LiftScheduler" (69 : Nat) ({ cls := "LiftScheduler$Script", name := "performCommands", desc := "(LLiftScheduler$Simulation;)Z" } : Jvm.MethodName)) ∈ BW := bw_t 888 (by decide +kernel) rfl
theorem bw_889 : (Jvm.Cond.instanceMethod ({ cls := "LiftScheduler$Script", name := "performCommands", desc := "(LLiftScheduler$Simulation;)Z" } : Jvm.MethodName)) ∈ BW := bw_t 889 (by decide +kernel) rfl
theorem bw_890 : (Jvm.Cond.selects "LiftScheduler$Script" ({ cls := "LiftScheduler$Script", name := "performCommands", desc := "(LLiftScheduler$Simulation;)Z" } : Jvm.MethodName) ({ cls := "LiftScheduler$Script", name := "performCommands", desc := "(LLiftScheduler$Simulation;)Z" } : Jvm.MethodName)) ∈ BW := bw_t 890 (by decide +kernel) rfl
theorem bw_891 : (Jvm.Cond.code ({ cls := "LiftScheduler$Script", name := "performCommands", desc := "(LLiftScheduler$Simulation;)Z" } : Jvm.MethodName) prog_4_method_12_code (4 : Nat) (Option.some Jvm.ClassFile.FieldType.boolean)) ∈ BW := bw_t 891 (by decide +kernel) rfl
theorem bw_892 : (Jvm.Cond.fieldLink "LiftScheduler$Script" (128 : Nat) "LiftScheduler$Kind" "REPEAT" "LLiftScheduler$Kind;") ∈ BW := bw_t 892 (by decide +kernel) rfl
theorem bw_894 : (Jvm.Cond.methodLink "LiftScheduler$Script" (131 : Nat) ({ cls := "LiftScheduler$Script", name := "performRepeat", desc := "()Z" } : Jvm.MethodName)) ∈ BW := bw_t 894 (by decide +kernel) rfl
theorem bw_896 : (Jvm.Cond.instanceMethod ({ cls := "LiftScheduler$Script", name := "performRepeat", desc := "()Z" } : Jvm.MethodName)) ∈ BW := bw_t 896 (by decide +kernel) rfl
theorem bw_897 : (Jvm.Cond.code ({ cls := "LiftScheduler$Script", name := "performRepeat", desc := "()Z" } : Jvm.MethodName) prog_4_method_13_code (5 : Nat) (Option.some Jvm.ClassFile.FieldType.boolean)) ∈ BW := bw_t 897 (by decide +kernel) rfl
theorem bw_898 : (Jvm.Cond.fieldLink "LiftScheduler$Script" (138 : Nat) "LiftScheduler$Kind" "OPEN" "LLiftScheduler$Kind;") ∈ BW := bw_t 898 (by decide +kernel) rfl
theorem bw_900 : (Jvm.Cond.fieldLink "LiftScheduler$Script" (141 : Nat) "LiftScheduler$Kind" "CLOSE" "LLiftScheduler$Kind;") ∈ BW := bw_t 900 (by decide +kernel) rfl
theorem bw_902 : (Jvm.Cond.methodLink "LiftScheduler$Script" (135 : Nat) ({ cls := "LiftScheduler$Script", name := "performSimple", desc := "()Z" } : Jvm.MethodName)) ∈ BW := bw_t 902 (by decide +kernel) rfl
theorem bw_904 : (Jvm.Cond.instanceMethod ({ cls := "LiftScheduler$Script", name := "performSimple", desc := "()Z" } : Jvm.MethodName)) ∈ BW := bw_t 904 (by decide +kernel) rfl
theorem bw_905 : (Jvm.Cond.code ({ cls := "LiftScheduler$Script", name := "performSimple", desc := "()Z" } : Jvm.MethodName) prog_4_method_14_code (1 : Nat) (Option.some Jvm.ClassFile.FieldType.boolean)) ∈ BW := bw_t 905 (by decide +kernel) rfl
theorem bw_906 : (Jvm.Cond.methodLink "LiftScheduler$Script" (152 : Nat) ({ cls := "LiftScheduler$Script", name := "performCall", desc := "()Z" } : Jvm.MethodName)) ∈ BW := bw_t 906 (by decide +kernel) rfl
theorem bw_908 : (Jvm.Cond.instanceMethod ({ cls := "LiftScheduler$Script", name := "performCall", desc := "()Z" } : Jvm.MethodName)) ∈ BW := bw_t 908 (by decide +kernel) rfl
theorem bw_909 : (Jvm.Cond.code ({ cls := "LiftScheduler$Script", name := "performCall", desc := "()Z" } : Jvm.MethodName) prog_4_method_15_code (4 : Nat) (Option.some Jvm.ClassFile.FieldType.boolean)) ∈ BW := bw_t 909 (by decide +kernel) rfl
theorem bw_910 : (Jvm.Cond.fieldLink "LiftScheduler$Script" (190 : Nat) "LiftScheduler$Kind" "AT" "LLiftScheduler$Kind;") ∈ BW := bw_t 910 (by decide +kernel) rfl
theorem bw_912 : (Jvm.Cond.methodLink "LiftScheduler$Script" (193 : Nat) ({ cls := "LiftScheduler$Simulation", name := "addArrival", desc := "(III)V" } : Jvm.MethodName)) ∈ BW := bw_t 912 (by decide +kernel) rfl
theorem bw_913 : (Jvm.Cond.instanceMethod ({ cls := "LiftScheduler$Simulation", name := "addArrival", desc := "(III)V" } : Jvm.MethodName)) ∈ BW := bw_t 913 (by decide +kernel) rfl
theorem bw_914 : (Jvm.Cond.selects "LiftScheduler$Simulation" ({ cls := "LiftScheduler$Simulation", name := "addArrival", desc := "(III)V" } : Jvm.MethodName) ({ cls := "LiftScheduler$Simulation", name := "addArrival", desc := "(III)V" } : Jvm.MethodName)) ∈ BW := bw_t 914 (by decide +kernel) rfl
theorem bw_915 : (Jvm.Cond.code ({ cls := "LiftScheduler$Simulation", name := "addArrival", desc := "(III)V" } : Jvm.MethodName) prog_5_method_4_code (5 : Nat) (Option.none : Option Jvm.ClassFile.FieldType)) ∈ BW := bw_t 915 (by decide +kernel) rfl
theorem bw_916 : (Jvm.Cond.methodLink "LiftScheduler$Script" (155 : Nat) ({ cls := "LiftScheduler$Script", name := "performRun", desc := "()Z" } : Jvm.MethodName)) ∈ BW := bw_t 916 (by decide +kernel) rfl
theorem bw_918 : (Jvm.Cond.instanceMethod ({ cls := "LiftScheduler$Script", name := "performRun", desc := "()Z" } : Jvm.MethodName)) ∈ BW := bw_t 918 (by decide +kernel) rfl
theorem bw_919 : (Jvm.Cond.code ({ cls := "LiftScheduler$Script", name := "performRun", desc := "()Z" } : Jvm.MethodName) prog_4_method_16_code (3 : Nat) (Option.some Jvm.ClassFile.FieldType.boolean)) ∈ BW := bw_t 919 (by decide +kernel) rfl
theorem bw_920 : (Jvm.Cond.methodLink "LiftScheduler$Script" (196 : Nat) ({ cls := "LiftScheduler$Simulation", name := "tick", desc := "()V" } : Jvm.MethodName)) ∈ BW := bw_t 920 (by decide +kernel) rfl
theorem bw_921 : (Jvm.Cond.methodLink "LiftScheduler$Script" (161 : Nat) ({ cls := "LiftScheduler$Simulation", name := "tickToEnd", desc := "(I)I" } : Jvm.MethodName)) ∈ BW := bw_t 921 (by decide +kernel) rfl
theorem bw_922 : (Jvm.Cond.instanceMethod ({ cls := "LiftScheduler$Simulation", name := "tickToEnd", desc := "(I)I" } : Jvm.MethodName)) ∈ BW := bw_t 922 (by decide +kernel) rfl
theorem bw_923 : (Jvm.Cond.selects "LiftScheduler$Simulation" ({ cls := "LiftScheduler$Simulation", name := "tickToEnd", desc := "(I)I" } : Jvm.MethodName) ({ cls := "LiftScheduler$Simulation", name := "tickToEnd", desc := "(I)I" } : Jvm.MethodName)) ∈ BW := bw_t 923 (by decide +kernel) rfl
theorem bw_924 : (Jvm.Cond.code ({ cls := "LiftScheduler$Simulation", name := "tickToEnd", desc := "(I)I" } : Jvm.MethodName) prog_5_method_20_code (3 : Nat) (Option.some Jvm.ClassFile.FieldType.int)) ∈ BW := bw_t 924 (by decide +kernel) rfl
theorem bw_925 : (Jvm.Cond.methodLink "LiftScheduler$Simulation" (120 : Nat) ({ cls := "LiftScheduler$Simulation", name := "isOver", desc := "()Z" } : Jvm.MethodName)) ∈ BW := bw_t 925 (by decide +kernel) rfl
theorem bw_926 : (Jvm.Cond.methodLink "LiftScheduler$Simulation" (124 : Nat) ({ cls := "LiftScheduler$Simulation", name := "tick", desc := "()V" } : Jvm.MethodName)) ∈ BW := bw_t 926 (by decide +kernel) rfl
theorem bw_927 : (Jvm.Cond.methodLink "LiftScheduler$Script" (165 : Nat) ({ cls := "LiftScheduler$Script", name := "performUntil", desc := "()Z" } : Jvm.MethodName)) ∈ BW := bw_t 927 (by decide +kernel) rfl
theorem bw_929 : (Jvm.Cond.instanceMethod ({ cls := "LiftScheduler$Script", name := "performUntil", desc := "()Z" } : Jvm.MethodName)) ∈ BW := bw_t 929 (by decide +kernel) rfl
theorem bw_930 : (Jvm.Cond.code ({ cls := "LiftScheduler$Script", name := "performUntil", desc := "()Z" } : Jvm.MethodName) prog_4_method_17_code (4 : Nat) (Option.some Jvm.ClassFile.FieldType.boolean)) ∈ BW := bw_t 930 (by decide +kernel) rfl
theorem bw_931 : (Jvm.Cond.methodLink "LiftScheduler$Script" (199 : Nat) ({ cls := "LiftScheduler$Script", name := "takeCounterAndValue", desc := "()I" } : Jvm.MethodName)) ∈ BW := bw_t 931 (by decide +kernel) rfl
theorem bw_933 : (Jvm.Cond.instanceMethod ({ cls := "LiftScheduler$Script", name := "takeCounterAndValue", desc := "()I" } : Jvm.MethodName)) ∈ BW := bw_t 933 (by decide +kernel) rfl
theorem bw_934 : (Jvm.Cond.code ({ cls := "LiftScheduler$Script", name := "takeCounterAndValue", desc := "()I" } : Jvm.MethodName) prog_4_method_26_code (1 : Nat) (Option.some Jvm.ClassFile.FieldType.int)) ∈ BW := bw_t 934 (by decide +kernel) rfl
theorem bw_935 : (Jvm.Cond.methodLink "LiftScheduler$Script" (226 : Nat) ({ cls := "LiftScheduler$Kind", name := "isCounter", desc := "()Z" } : Jvm.MethodName)) ∈ BW := bw_t 935 (by decide +kernel) rfl
theorem bw_936 : (Jvm.Cond.instanceMethod ({ cls := "LiftScheduler$Kind", name := "isCounter", desc := "()Z" } : Jvm.MethodName)) ∈ BW := bw_t 936 (by decide +kernel) rfl
theorem bw_937 : (Jvm.Cond.selects "LiftScheduler$Kind" ({ cls := "LiftScheduler$Kind", name := "isCounter", desc := "()Z" } : Jvm.MethodName) ({ cls := "LiftScheduler$Kind", name := "isCounter", desc := "()Z" } : Jvm.MethodName)) ∈ BW := bw_t 937 (by decide +kernel) rfl
theorem bw_938 : (Jvm.Cond.code ({ cls := "LiftScheduler$Kind", name := "isCounter", desc := "()Z" } : Jvm.MethodName) prog_3_method_4_code (1 : Nat) (Option.some Jvm.ClassFile.FieldType.boolean)) ∈ BW := bw_t 938 (by decide +kernel) rfl
theorem bw_939 : (Jvm.Cond.fieldLink "LiftScheduler$Kind" (46 : Nat) "LiftScheduler$Kind" "DONE" "LLiftScheduler$Kind;") ∈ BW := bw_t 939 (by decide +kernel) rfl
theorem bw_941 : (Jvm.Cond.fieldLink "LiftScheduler$Kind" (49 : Nat) "LiftScheduler$Kind" "RIDING" "LLiftScheduler$Kind;") ∈ BW := bw_t 941 (by decide +kernel) rfl
theorem bw_943 : (Jvm.Cond.fieldLink "LiftScheduler$Kind" (52 : Nat) "LiftScheduler$Kind" "WAITING" "LLiftScheduler$Kind;") ∈ BW := bw_t 943 (by decide +kernel) rfl
theorem bw_945 : (Jvm.Cond.fieldLink "LiftScheduler$Kind" (55 : Nat) "LiftScheduler$Kind" "FLOOR" "LLiftScheduler$Kind;") ∈ BW := bw_t 945 (by decide +kernel) rfl
theorem bw_947 : (Jvm.Cond.fieldLink "LiftScheduler$Kind" (58 : Nat) "LiftScheduler$Kind" "DISTANCE" "LLiftScheduler$Kind;") ∈ BW := bw_t 947 (by decide +kernel) rfl
theorem bw_949 : (Jvm.Cond.fieldLink "LiftScheduler$Kind" (61 : Nat) "LiftScheduler$Kind" "TIME" "LLiftScheduler$Kind;") ∈ BW := bw_t 949 (by decide +kernel) rfl
theorem bw_951 : (Jvm.Cond.methodLink "LiftScheduler$Script" (202 : Nat) ({ cls := "LiftScheduler$Script", name := "count", desc := "(LLiftScheduler$Kind;)I" } : Jvm.MethodName)) ∈ BW := bw_t 951 (by decide +kernel) rfl
theorem bw_953 : (Jvm.Cond.instanceMethod ({ cls := "LiftScheduler$Script", name := "count", desc := "(LLiftScheduler$Kind;)I" } : Jvm.MethodName)) ∈ BW := bw_t 953 (by decide +kernel) rfl
theorem bw_954 : (Jvm.Cond.code ({ cls := "LiftScheduler$Script", name := "count", desc := "(LLiftScheduler$Kind;)I" } : Jvm.MethodName) prog_4_method_21_code (2 : Nat) (Option.some Jvm.ClassFile.FieldType.int)) ∈ BW := bw_t 954 (by decide +kernel) rfl
theorem bw_955 : (Jvm.Cond.methodLink "LiftScheduler$Script" (217 : Nat) ({ cls := "LiftScheduler$Simulation", name := "countWith", desc := "(I)I" } : Jvm.MethodName)) ∈ BW := bw_t 955 (by decide +kernel) rfl
theorem bw_956 : (Jvm.Cond.methodLink "LiftScheduler$Script" (172 : Nat) ({ cls := "LiftScheduler$Script", name := "performPolicy", desc := "()Z" } : Jvm.MethodName)) ∈ BW := bw_t 956 (by decide +kernel) rfl
theorem bw_958 : (Jvm.Cond.instanceMethod ({ cls := "LiftScheduler$Script", name := "performPolicy", desc := "()Z" } : Jvm.MethodName)) ∈ BW := bw_t 958 (by decide +kernel) rfl
theorem bw_959 : (Jvm.Cond.code ({ cls := "LiftScheduler$Script", name := "performPolicy", desc := "()Z" } : Jvm.MethodName) prog_4_method_18_code (2 : Nat) (Option.some Jvm.ClassFile.FieldType.boolean)) ∈ BW := bw_t 959 (by decide +kernel) rfl
theorem bw_960 : (Jvm.Cond.methodLink "LiftScheduler$Script" (175 : Nat) ({ cls := "LiftScheduler$Script", name := "performCapacity", desc := "()Z" } : Jvm.MethodName)) ∈ BW := bw_t 960 (by decide +kernel) rfl
theorem bw_962 : (Jvm.Cond.instanceMethod ({ cls := "LiftScheduler$Script", name := "performCapacity", desc := "()Z" } : Jvm.MethodName)) ∈ BW := bw_t 962 (by decide +kernel) rfl
theorem bw_963 : (Jvm.Cond.code ({ cls := "LiftScheduler$Script", name := "performCapacity", desc := "()Z" } : Jvm.MethodName) prog_4_method_19_code (2 : Nat) (Option.some Jvm.ClassFile.FieldType.boolean)) ∈ BW := bw_t 963 (by decide +kernel) rfl
theorem bw_964 : (Jvm.Cond.methodLink "LiftScheduler$Script" (178 : Nat) ({ cls := "LiftScheduler$Script", name := "performExpect", desc := "()Z" } : Jvm.MethodName)) ∈ BW := bw_t 964 (by decide +kernel) rfl
theorem bw_966 : (Jvm.Cond.instanceMethod ({ cls := "LiftScheduler$Script", name := "performExpect", desc := "()Z" } : Jvm.MethodName)) ∈ BW := bw_t 966 (by decide +kernel) rfl
theorem bw_967 : (Jvm.Cond.code ({ cls := "LiftScheduler$Script", name := "performExpect", desc := "()Z" } : Jvm.MethodName) prog_4_method_20_code (4 : Nat) (Option.some Jvm.ClassFile.FieldType.boolean)) ∈ BW := bw_t 967 (by decide +kernel) rfl
theorem bw_969 : (Jvm.Cond.methodLink "LiftSchedulerLaw" (69 : Nat) ({ cls := "LiftScheduler", name := "floorCount", desc := "()I" } : Jvm.MethodName)) ∈ BW := bw_t 969 (by decide +kernel) rfl
theorem bw_970 : (Jvm.Cond.instanceMethod ({ cls := "LiftScheduler", name := "floorCount", desc := "()I" } : Jvm.MethodName)) ∈ BW := bw_t 970 (by decide +kernel) rfl
theorem bw_971 : (Jvm.Cond.selects "LiftScheduler" ({ cls := "LiftScheduler", name := "floorCount", desc := "()I" } : Jvm.MethodName) ({ cls := "LiftScheduler", name := "floorCount", desc := "()I" } : Jvm.MethodName)) ∈ BW := bw_t 971 (by decide +kernel) rfl
theorem bw_972 : (Jvm.Cond.code ({ cls := "LiftScheduler", name := "floorCount", desc := "()I" } : Jvm.MethodName) prog_1_method_9_code (1 : Nat) (Option.some Jvm.ClassFile.FieldType.int)) ∈ BW := bw_t 972 (by decide +kernel) rfl
theorem bw_973 : (Jvm.Cond.methodLink "LiftSchedulerLaw" (75 : Nat) ({ cls := "LiftScheduler", name := "parseError", desc := "()I" } : Jvm.MethodName)) ∈ BW := bw_t 973 (by decide +kernel) rfl
theorem bw_974 : (Jvm.Cond.instanceMethod ({ cls := "LiftScheduler", name := "parseError", desc := "()I" } : Jvm.MethodName)) ∈ BW := bw_t 974 (by decide +kernel) rfl
theorem bw_975 : (Jvm.Cond.selects "LiftScheduler" ({ cls := "LiftScheduler", name := "parseError", desc := "()I" } : Jvm.MethodName) ({ cls := "LiftScheduler", name := "parseError", desc := "()I" } : Jvm.MethodName)) ∈ BW := bw_t 975 (by decide +kernel) rfl
theorem bw_976 : (Jvm.Cond.code ({ cls := "LiftScheduler", name := "parseError", desc := "()I" } : Jvm.MethodName) prog_1_method_7_code (1 : Nat) (Option.some Jvm.ClassFile.FieldType.int)) ∈ BW := bw_t 976 (by decide +kernel) rfl
theorem bw_977 : (Jvm.Cond.methodLink "LiftSchedulerLaw" (170 : Nat) ({ cls := "java/lang/Math", name := "abs", desc := "(I)I" } : Jvm.MethodName)) ∈ BW := bw_t 977 (by decide +kernel) rfl
theorem bw_978 : (Jvm.Cond.sameMethod "java/lang/Throwable" "java/lang/Throwable" "fillInStackTrace" "(I)Ljava/lang/Throwable;") ∈ BW := bw_t 978 (by decide +kernel) rfl
theorem bw_979 : (Jvm.Cond.sameMethod "java/lang/AbstractStringBuilder" "java/lang/AbstractStringBuilder" "appendNull" "()Ljava/lang/AbstractStringBuilder;") ∈ BW := bw_t 979 (by decide +kernel) rfl
theorem bw_980 : (Jvm.Cond.sameMethod "java/lang/AbstractStringBuilder" "java/lang/AbstractStringBuilder" "ensureCapacityInternal" "(I)V") ∈ BW := bw_t 980 (by decide +kernel) rfl
theorem bw_981 : (Jvm.Cond.sameMethod "java/lang/AbstractStringBuilder" "java/lang/AbstractStringBuilder" "newCapacity" "(I)I") ∈ BW := bw_t 981 (by decide +kernel) rfl
theorem bw_982 : (Jvm.Cond.sameMethod "java/lang/AbstractStringBuilder" "java/lang/AbstractStringBuilder" "putStringAt" "(ILjava/lang/String;)V") ∈ BW := bw_t 982 (by decide +kernel) rfl
theorem bw_983 : (Jvm.Cond.sameMethod "java/lang/AbstractStringBuilder" "java/lang/AbstractStringBuilder" "inflateIfNeededFor" "(Ljava/lang/String;)V") ∈ BW := bw_t 983 (by decide +kernel) rfl
theorem bw_984 : (Jvm.Cond.sameMethod "java/lang/AbstractStringBuilder" "java/lang/AbstractStringBuilder" "inflate" "()V") ∈ BW := bw_t 984 (by decide +kernel) rfl
theorem bw_985 : (Jvm.Cond.sameMethod "java/lang/AbstractStringBuilder" "java/lang/AbstractStringBuilder" "append" "(I)Ljava/lang/AbstractStringBuilder;") ∈ BW := bw_t 985 (by decide +kernel) rfl
theorem bw_986 : (Jvm.Cond.sameMethod "java/lang/AbstractStringBuilder" "java/lang/AbstractStringBuilder" "append" "(C)Ljava/lang/AbstractStringBuilder;") ∈ BW := bw_t 986 (by decide +kernel) rfl
theorem bw_987 : (Jvm.Cond.sameMethod "java/lang/AbstractStringBuilder" "java/lang/AbstractStringBuilder" "length" "()I") ∈ BW := bw_t 987 (by decide +kernel) rfl
theorem bw_988 : (Jvm.Cond.sameMethod "java/lang/AbstractStringBuilder" "java/lang/AbstractStringBuilder" "charAt" "(I)C") ∈ BW := bw_t 988 (by decide +kernel) rfl
theorem bw_989 : (Jvm.Cond.fieldLink "java/lang/String" (9 : Nat) "java/lang/String" "value" "[B") ∈ BW := bw_t 989 (by decide +kernel) rfl
theorem bw_990 : (Jvm.Cond.fieldLink "java/lang/String" (15 : Nat) "java/lang/String" "coder" "B") ∈ BW := bw_t 990 (by decide +kernel) rfl
theorem bw_991 : (Jvm.Cond.fieldLink "LiftScheduler$Script" (76 : Nat) "LiftScheduler$Kind" "text" "Ljava/lang/String;") ∈ BW := bw_t 991 (by decide +kernel) rfl
theorem bw_992 : (Jvm.Cond.fieldLink "java/lang/Enum" (7 : Nat) "java/lang/Enum" "ordinal" "I") ∈ BW := bw_t 992 (by decide +kernel) rfl
theorem bs_0 : Cond.selects "LiftScheduler" ⟨"LiftScheduler", "requirePolicy", "(I)V"⟩ ⟨"LiftScheduler", "requirePolicy", "(I)V"⟩ ∈ BW := bw_s 0 (by decide +kernel) rfl
theorem bs_1 : Cond.selects "java/lang/Throwable" ⟨"java/lang/Throwable", "fillInStackTrace", "(I)Ljava/lang/Throwable;"⟩ ⟨"java/lang/Throwable", "fillInStackTrace", "(I)Ljava/lang/Throwable;"⟩ ∈ BW := bw_s 1 (by decide +kernel) rfl
theorem bs_2 : Cond.selects "LiftScheduler$Simulation" ⟨"LiftScheduler$Simulation", "findFirstRiding", "()I"⟩ ⟨"LiftScheduler$Simulation", "findFirstRiding", "()I"⟩ ∈ BW := bw_s 2 (by decide +kernel) rfl
theorem bs_3 : Cond.selects "LiftScheduler$Simulation" ⟨"LiftScheduler$Simulation", "findStopBelow", "(I)I"⟩ ⟨"LiftScheduler$Simulation", "findStopBelow", "(I)I"⟩ ∈ BW := bw_s 3 (by decide +kernel) rfl
theorem bs_4 : Cond.selects "LiftScheduler$Simulation" ⟨"LiftScheduler$Simulation", "findStopAbove", "(I)I"⟩ ⟨"LiftScheduler$Simulation", "findStopAbove", "(I)I"⟩ ∈ BW := bw_s 4 (by decide +kernel) rfl
theorem bs_5 : Cond.selects "LiftScheduler" ⟨"LiftScheduler", "requirePassenger", "(I)V"⟩ ⟨"LiftScheduler", "requirePassenger", "(I)V"⟩ ∈ BW := bw_s 5 (by decide +kernel) rfl
theorem bs_6 : Cond.selects "LiftScheduler" ⟨"LiftScheduler", "requireFloor", "(I)V"⟩ ⟨"LiftScheduler", "requireFloor", "(I)V"⟩ ∈ BW := bw_s 6 (by decide +kernel) rfl
theorem bs_7 : Cond.selects "LiftScheduler" ⟨"LiftScheduler", "rememberState", "()V"⟩ ⟨"LiftScheduler", "rememberState", "()V"⟩ ∈ BW := bw_s 7 (by decide +kernel) rfl
theorem bs_8 : Cond.selects "LiftScheduler$Simulation" ⟨"LiftScheduler$Simulation", "openDoors", "()V"⟩ ⟨"LiftScheduler$Simulation", "openDoors", "()V"⟩ ∈ BW := bw_s 8 (by decide +kernel) rfl
theorem bs_9 : Cond.selects "LiftScheduler$Simulation" ⟨"LiftScheduler$Simulation", "moveTowards", "(I)V"⟩ ⟨"LiftScheduler$Simulation", "moveTowards", "(I)V"⟩ ∈ BW := bw_s 9 (by decide +kernel) rfl
theorem bs_10 : Cond.selects "LiftScheduler" ⟨"LiftScheduler", "requireCapacity", "(I)V"⟩ ⟨"LiftScheduler", "requireCapacity", "(I)V"⟩ ∈ BW := bw_s 10 (by decide +kernel) rfl
theorem bs_11 : Cond.selects "LiftScheduler" ⟨"LiftScheduler", "appendFour", "(I)V"⟩ ⟨"LiftScheduler", "appendFour", "(I)V"⟩ ∈ BW := bw_s 11 (by decide +kernel) rfl
theorem bs_12 : Cond.selects "LiftScheduler$Script" ⟨"LiftScheduler$Script", "addToken", "(LLiftScheduler$Kind;II)V"⟩ ⟨"LiftScheduler$Script", "addToken", "(LLiftScheduler$Kind;II)V"⟩ ∈ BW := bw_s 12 (by decide +kernel) rfl
theorem bs_13 : Cond.selects "LiftScheduler$Script" ⟨"LiftScheduler$Script", "take", "(LLiftScheduler$Kind;)Z"⟩ ⟨"LiftScheduler$Script", "take", "(LLiftScheduler$Kind;)Z"⟩ ∈ BW := bw_s 13 (by decide +kernel) rfl
theorem bs_14 : Cond.selects "LiftScheduler$Script" ⟨"LiftScheduler$Script", "nextKind", "()LLiftScheduler$Kind;"⟩ ⟨"LiftScheduler$Script", "nextKind", "()LLiftScheduler$Kind;"⟩ ∈ BW := bw_s 14 (by decide +kernel) rfl
theorem bs_15 : Cond.selects "LiftScheduler$Script" ⟨"LiftScheduler$Script", "fail", "(II)Z"⟩ ⟨"LiftScheduler$Script", "fail", "(II)Z"⟩ ∈ BW := bw_s 15 (by decide +kernel) rfl
theorem bs_16 : Cond.selects "LiftScheduler$Script" ⟨"LiftScheduler$Script", "takeNumber", "(II)I"⟩ ⟨"LiftScheduler$Script", "takeNumber", "(II)I"⟩ ∈ BW := bw_s 16 (by decide +kernel) rfl
theorem bs_17 : Cond.selects "LiftScheduler$Script" ⟨"LiftScheduler$Script", "takePolicy", "()I"⟩ ⟨"LiftScheduler$Script", "takePolicy", "()I"⟩ ∈ BW := bw_s 17 (by decide +kernel) rfl
theorem bs_18 : Cond.selects "LiftScheduler$Script" ⟨"LiftScheduler$Script", "performRepeat", "()Z"⟩ ⟨"LiftScheduler$Script", "performRepeat", "()Z"⟩ ∈ BW := bw_s 18 (by decide +kernel) rfl
theorem bs_19 : Cond.selects "LiftScheduler$Script" ⟨"LiftScheduler$Script", "performSimple", "()Z"⟩ ⟨"LiftScheduler$Script", "performSimple", "()Z"⟩ ∈ BW := bw_s 19 (by decide +kernel) rfl
theorem bs_20 : Cond.selects "LiftScheduler$Script" ⟨"LiftScheduler$Script", "performCall", "()Z"⟩ ⟨"LiftScheduler$Script", "performCall", "()Z"⟩ ∈ BW := bw_s 20 (by decide +kernel) rfl
theorem bs_21 : Cond.selects "LiftScheduler$Script" ⟨"LiftScheduler$Script", "performRun", "()Z"⟩ ⟨"LiftScheduler$Script", "performRun", "()Z"⟩ ∈ BW := bw_s 21 (by decide +kernel) rfl
theorem bs_22 : Cond.selects "LiftScheduler$Script" ⟨"LiftScheduler$Script", "performUntil", "()Z"⟩ ⟨"LiftScheduler$Script", "performUntil", "()Z"⟩ ∈ BW := bw_s 22 (by decide +kernel) rfl
theorem bs_23 : Cond.selects "LiftScheduler$Script" ⟨"LiftScheduler$Script", "takeCounterAndValue", "()I"⟩ ⟨"LiftScheduler$Script", "takeCounterAndValue", "()I"⟩ ∈ BW := bw_s 23 (by decide +kernel) rfl
theorem bs_24 : Cond.selects "LiftScheduler$Script" ⟨"LiftScheduler$Script", "count", "(LLiftScheduler$Kind;)I"⟩ ⟨"LiftScheduler$Script", "count", "(LLiftScheduler$Kind;)I"⟩ ∈ BW := bw_s 24 (by decide +kernel) rfl
theorem bs_25 : Cond.selects "LiftScheduler$Script" ⟨"LiftScheduler$Script", "performPolicy", "()Z"⟩ ⟨"LiftScheduler$Script", "performPolicy", "()Z"⟩ ∈ BW := bw_s 25 (by decide +kernel) rfl
theorem bs_26 : Cond.selects "LiftScheduler$Script" ⟨"LiftScheduler$Script", "performCapacity", "()Z"⟩ ⟨"LiftScheduler$Script", "performCapacity", "()Z"⟩ ∈ BW := bw_s 26 (by decide +kernel) rfl
theorem bs_27 : Cond.selects "LiftScheduler$Script" ⟨"LiftScheduler$Script", "performExpect", "()Z"⟩ ⟨"LiftScheduler$Script", "performExpect", "()Z"⟩ ∈ BW := bw_s 27 (by decide +kernel) rfl
def TX1_isCounter : MT := (yX1_isCounter, cX1_isCounter, 1, (some .boolean), [])
theorem MX1_isCounter : MWv TX1_isCounter 0 := ⟨⟨⟨by decide +kernel, by decide +kernel⟩, by decide +kernel, by decide, bw_17, bw_938, rfl⟩, bw_936, bw_937⟩
def TX2_init : MT := (yX2_init, cX2_init, 1, none, [])
theorem MX2_init : MWi TX2_init 0 := ⟨⟨⟨by decide +kernel, by decide +kernel⟩, by decide +kernel, by decide, bw_4, bw_133, rfl⟩, bw_132, by decide +kernel⟩
def TX2_isSpace : MT := (yX2_isSpace, cX2_isSpace, 1, (some .boolean), [])
theorem MX2_isSpace : MWs TX2_isSpace 1 := ⟨⟨⟨by decide +kernel, by decide +kernel⟩, by decide +kernel, by decide, bw_4, bw_803, rfl⟩, bw_802⟩
def TX2_isLetter : MT := (yX2_isLetter, cX2_isLetter, 1, (some .boolean), [])
theorem MX2_isLetter : MWs TX2_isLetter 1 := ⟨⟨⟨by decide +kernel, by decide +kernel⟩, by decide +kernel, by decide, bw_4, bw_809, rfl⟩, bw_808⟩
def TX2_isDigit : MT := (yX2_isDigit, cX2_isDigit, 1, (some .boolean), [])
theorem MX2_isDigit : MWs TX2_isDigit 1 := ⟨⟨⟨by decide +kernel, by decide +kernel⟩, by decide +kernel, by decide, bw_4, bw_812, rfl⟩, bw_811⟩
def TX2_belongTogether : MT := (yX2_belongTogether, cX2_belongTogether, 2, (some .boolean), [])
theorem MX2_belongTogether : MWs TX2_belongTogether 2 := ⟨⟨⟨by decide +kernel, by decide +kernel⟩, by decide +kernel, by decide, bw_4, bw_806, rfl⟩, bw_805⟩
def TX2_numberOf : MT := (yX2_numberOf, cX2_numberOf, 5, (some .int), [])
theorem MX2_numberOf : MWs TX2_numberOf 3 := ⟨⟨⟨by decide +kernel, by decide +kernel⟩, by decide +kernel, by decide, bw_4, bw_817, rfl⟩, bw_816⟩
def TX2_addToken : MT := (yX2_addToken, cX2_addToken, 4, none, [])
theorem MX2_addToken : MWv TX2_addToken 3 := ⟨⟨⟨by decide +kernel, by decide +kernel⟩, by decide +kernel, by decide, bw_4, bw_821, rfl⟩, bw_820, bs_12⟩
def TJ0_coder_7d493 : MT := (yJ0_coder_7d493, cJ0_coder_7d493, 1, (some .byte), [])
theorem MJ0_coder_7d493 : MWv TJ0_coder_7d493 0 := ⟨⟨⟨by decide +kernel, by decide +kernel⟩, by decide +kernel, by decide, bw_7, bw_561, rfl⟩, bw_559, bw_560⟩
def TJ0_length_8abf5 : MT := (yJ0_length_8abf5, cJ0_length_8abf5, 1, (some .int), [])
theorem MJ0_length_8abf5 : MWv TJ0_length_8abf5 0 := ⟨⟨⟨by decide +kernel, by decide +kernel⟩, by decide +kernel, by decide, bw_7, bw_557, rfl⟩, bw_555, bw_556⟩
def TJ0_isLatin1_aae02 : MT := (yJ0_isLatin1_aae02, cJ0_isLatin1_aae02, 1, (some .boolean), [])
theorem MJ0_isLatin1_aae02 : MWv TJ0_isLatin1_aae02 0 := ⟨⟨⟨by decide +kernel, by decide +kernel⟩, by decide +kernel, by decide, bw_7, bw_838, rfl⟩, bw_836, bw_837⟩
def TJ3_checkIndex_8e157 : MT := (yJ3_checkIndex_8e157, cJ3_checkIndex_8e157, 3, (some .int), [])
theorem MJ3_checkIndex_8e157 : MWs TJ3_checkIndex_8e157 3 := ⟨⟨⟨by decide +kernel, by decide +kernel⟩, by decide +kernel, by decide, bw_13, bw_741, rfl⟩, bw_740⟩
def TJ0_checkIndex_df160 : MT := (yJ0_checkIndex_df160, cJ0_checkIndex_df160, 2, none, [])
theorem MJ0_checkIndex_df160 : MWs TJ0_checkIndex_df160 2 := ⟨⟨⟨by decide +kernel, by decide +kernel⟩, by decide +kernel, by decide, bw_7, bw_738, rfl⟩, bw_737⟩
def TJ1_charAt_3b067 : MT := (yJ1_charAt_3b067, cJ1_charAt_3b067, 2, (some .char), [])
theorem MJ1_charAt_3b067 : MWs TJ1_charAt_3b067 2 := ⟨⟨⟨by decide +kernel, by decide +kernel⟩, by decide +kernel, by decide, bw_14, bw_841, rfl⟩, bw_840⟩
def TJ2_length_9d52b : MT := (yJ2_length_9d52b, cJ2_length_9d52b, 1, (some .int), [])
theorem MJ2_length_9d52b : MWs TJ2_length_9d52b 1 := ⟨⟨⟨by decide +kernel, by decide +kernel⟩, by decide +kernel, by decide, bw_8, bw_633, rfl⟩, bw_632⟩
def TJ2_checkIndex_2214a : MT := (yJ2_checkIndex_2214a, cJ2_checkIndex_2214a, 2, none, [])
theorem MJ2_checkIndex_2214a : MWs TJ2_checkIndex_2214a 2 := ⟨⟨⟨by decide +kernel, by decide +kernel⟩, by decide +kernel, by decide, bw_8, bw_735, rfl⟩, bw_734⟩
def TJ2_getChar_3b067 : MT := (yJ2_getChar_3b067, cJ2_getChar_3b067, 2, (some .char), [])
theorem MJ2_getChar_3b067 : MWs TJ2_getChar_3b067 2 := ⟨⟨⟨by decide +kernel, by decide +kernel⟩, by decide +kernel, by decide, bw_8, bw_784, rfl⟩, bw_783⟩
def TJ2_charAt_3b067 : MT := (yJ2_charAt_3b067, cJ2_charAt_3b067, 2, (some .char), [])
theorem MJ2_charAt_3b067 : MWs TJ2_charAt_3b067 2 := ⟨⟨⟨by decide +kernel, by decide +kernel⟩, by decide +kernel, by decide, bw_8, bw_845, rfl⟩, bw_844⟩
def TJ0_charAt_5068e : MT := (yJ0_charAt_5068e, cJ0_charAt_5068e, 2, (some .char), [])
theorem MJ0_charAt_5068e : MWv TJ0_charAt_5068e 1 := ⟨⟨⟨by decide +kernel, by decide +kernel⟩, by decide +kernel, by decide, bw_7, bw_834, rfl⟩, bw_832, bw_833⟩
def TX2_isText : MT := (yX2_isText, cX2_isText, 5, (some .boolean), [])
theorem MX2_isText : MWs TX2_isText 4 := ⟨⟨⟨by decide +kernel, by decide +kernel⟩, by decide +kernel, by decide, bw_4, bw_829, rfl⟩, bw_828⟩
def TX2_kindOf : MT := (yX2_kindOf, cX2_kindOf, 7, (some (.object "LiftScheduler$Kind")), [])
theorem MX2_kindOf : MWs TX2_kindOf 3 := ⟨⟨⟨by decide +kernel, by decide +kernel⟩, by decide +kernel, by decide, bw_4, bw_824, rfl⟩, bw_823⟩
def TX2_readTokens : MT := (yX2_readTokens, cX2_readTokens, 5, none, [])
theorem MX2_readTokens : MWv TX2_readTokens 2 := ⟨⟨⟨by decide +kernel, by decide +kernel⟩, by decide +kernel, by decide, bw_4, bw_800, rfl⟩, bw_798, bw_799⟩
def TX2_nextKind : MT := (yX2_nextKind, cX2_nextKind, 1, (some (.object "LiftScheduler$Kind")), [])
theorem MX2_nextKind : MWv TX2_nextKind 0 := ⟨⟨⟨by decide +kernel, by decide +kernel⟩, by decide +kernel, by decide, bw_4, bw_864, rfl⟩, bw_863, bs_14⟩
def TX2_fail : MT := (yX2_fail, cX2_fail, 3, (some .boolean), [])
theorem MX2_fail : MWv TX2_fail 2 := ⟨⟨⟨by decide +kernel, by decide +kernel⟩, by decide +kernel, by decide, bw_4, bw_868, rfl⟩, bw_867, bs_15⟩
def TX2_take : MT := (yX2_take, cX2_take, 2, (some .boolean), [])
theorem MX2_take : MWv TX2_take 1 := ⟨⟨⟨by decide +kernel, by decide +kernel⟩, by decide +kernel, by decide, bw_4, bw_860, rfl⟩, bw_859, bs_13⟩
def TX2_takeNumber : MT := (yX2_takeNumber, cX2_takeNumber, 4, (some .int), [])
theorem MX2_takeNumber : MWv TX2_takeNumber 2 := ⟨⟨⟨by decide +kernel, by decide +kernel⟩, by decide +kernel, by decide, bw_4, bw_872, rfl⟩, bw_871, bs_16⟩
def TJx29ce0_ordinal_8abf5 : MT := (yJx29ce0_ordinal_8abf5, cJx29ce0_ordinal_8abf5, 1, (some .int), [])
theorem MUJx29ce0_ordinal_8abf5 : MWb TJx29ce0_ordinal_8abf5 0 ∧ Cond.instanceMethod TJx29ce0_ordinal_8abf5.1 ∈ BW := ⟨⟨⟨by decide +kernel, by decide +kernel⟩, by decide +kernel, by decide, bw_16, bw_884, rfl⟩, bw_883⟩
def TX2_takePolicy : MT := (yX2_takePolicy, cX2_takePolicy, 2, (some .int), [])
theorem MX2_takePolicy : MWv TX2_takePolicy 0 := ⟨⟨⟨by decide +kernel, by decide +kernel⟩, by decide +kernel, by decide, bw_4, bw_876, rfl⟩, bw_875, bs_17⟩
def TX3_begin : MT := (yX3_begin, cX3_begin, 4, none, [])
theorem MX3_begin : MWv TX3_begin 3 := ⟨⟨⟨by decide +kernel, by decide +kernel⟩, by decide +kernel, by decide, bw_3, bw_42, rfl⟩, bw_40, bw_41⟩
def TX2_performHeader : MT := (yX2_performHeader, cX2_performHeader, 5, (some .boolean), [])
theorem MX2_performHeader : MWv TX2_performHeader 1 := ⟨⟨⟨by decide +kernel, by decide +kernel⟩, by decide +kernel, by decide, bw_4, bw_854, rfl⟩, bw_852, bw_853⟩
def TX3_addArrival : MT := (yX3_addArrival, cX3_addArrival, 5, none, [])
theorem MX3_addArrival : MWv TX3_addArrival 3 := ⟨⟨⟨by decide +kernel, by decide +kernel⟩, by decide +kernel, by decide, bw_3, bw_915, rfl⟩, bw_913, bw_914⟩
def TX2_performCall : MT := (yX2_performCall, cX2_performCall, 4, (some .boolean), [])
theorem MX2_performCall : MWv TX2_performCall 0 := ⟨⟨⟨by decide +kernel, by decide +kernel⟩, by decide +kernel, by decide, bw_4, bw_909, rfl⟩, bw_908, bs_20⟩
def TX3_findStops : MT := (yX3_findStops, cX3_findStops, 4, (some .int), [])
theorem MX3_findStops : MWv TX3_findStops 0 := ⟨⟨⟨by decide +kernel, by decide +kernel⟩, by decide +kernel, by decide, bw_3, bw_232, rfl⟩, bw_230, bw_231⟩
def TX3_findFirstRiding : MT := (yX3_findFirstRiding, cX3_findFirstRiding, 2, (some .int), [])
theorem MX3_findFirstRiding : MWv TX3_findFirstRiding 0 := ⟨⟨⟨by decide +kernel, by decide +kernel⟩, by decide +kernel, by decide, bw_3, bw_316, rfl⟩, bw_315, bs_2⟩
def TX3_findFirstWaiting : MT := (yX3_findFirstWaiting, cX3_findFirstWaiting, 3, (some .int), [])
theorem MX3_findFirstWaiting : MWv TX3_findFirstWaiting 0 := ⟨⟨⟨by decide +kernel, by decide +kernel⟩, by decide +kernel, by decide, bw_3, bw_320, rfl⟩, bw_318, bw_319⟩
def TX3_findStopBelow : MT := (yX3_findStopBelow, cX3_findStopBelow, 3, (some .int), [])
theorem MX3_findStopBelow : MWv TX3_findStopBelow 1 := ⟨⟨⟨by decide +kernel, by decide +kernel⟩, by decide +kernel, by decide, bw_3, bw_324, rfl⟩, bw_323, bs_3⟩
def TX3_findStopAbove : MT := (yX3_findStopAbove, cX3_findStopAbove, 3, (some .int), [])
theorem MX3_findStopAbove : MWv TX3_findStopAbove 1 := ⟨⟨⟨by decide +kernel, by decide +kernel⟩, by decide +kernel, by decide, bw_3, bw_328, rfl⟩, bw_327, bs_4⟩
def TX3_findTarget : MT := (yX3_findTarget, cX3_findTarget, 5, (some .int), [])
theorem MX3_findTarget : MWv TX3_findTarget 1 := ⟨⟨⟨by decide +kernel, by decide +kernel⟩, by decide +kernel, by decide, bw_3, bw_311, rfl⟩, bw_309, bw_310⟩
def TX3_openDoors : MT := (yX3_openDoors, cX3_openDoors, 3, none, [])
theorem MX3_openDoors : MWv TX3_openDoors 0 := ⟨⟨⟨by decide +kernel, by decide +kernel⟩, by decide +kernel, by decide, bw_3, bw_507, rfl⟩, bw_506, bs_8⟩
def TX3_moveTowards : MT := (yX3_moveTowards, cX3_moveTowards, 3, none, [])
theorem MX3_moveTowards : MWv TX3_moveTowards 1 := ⟨⟨⟨by decide +kernel, by decide +kernel⟩, by decide +kernel, by decide, bw_3, bw_511, rfl⟩, bw_510, bs_9⟩
def TX3_tick : MT := (yX3_tick, cX3_tick, 2, none, [])
theorem MX3_tick : MWv TX3_tick 0 := ⟨⟨⟨by decide +kernel, by decide +kernel⟩, by decide +kernel, by decide, bw_3, bw_502, rfl⟩, bw_500, bw_501⟩
def TX2_performRun : MT := (yX2_performRun, cX2_performRun, 3, (some .boolean), [])
theorem MX2_performRun : MWv TX2_performRun 0 := ⟨⟨⟨by decide +kernel, by decide +kernel⟩, by decide +kernel, by decide, bw_4, bw_919, rfl⟩, bw_918, bs_21⟩
def TX3_isOver : MT := (yX3_isOver, cX3_isOver, 1, (some .boolean), [])
theorem MX3_isOver : MWv TX3_isOver 0 := ⟨⟨⟨by decide +kernel, by decide +kernel⟩, by decide +kernel, by decide, bw_3, bw_463, rfl⟩, bw_461, bw_462⟩
def TX3_tickToEnd : MT := (yX3_tickToEnd, cX3_tickToEnd, 3, (some .int), [])
theorem MX3_tickToEnd : MWv TX3_tickToEnd 1 := ⟨⟨⟨by decide +kernel, by decide +kernel⟩, by decide +kernel, by decide, bw_3, bw_924, rfl⟩, bw_922, bw_923⟩
def TX2_takeCounterAndValue : MT := (yX2_takeCounterAndValue, cX2_takeCounterAndValue, 1, (some .int), [])
theorem MX2_takeCounterAndValue : MWv TX2_takeCounterAndValue 0 := ⟨⟨⟨by decide +kernel, by decide +kernel⟩, by decide +kernel, by decide, bw_4, bw_934, rfl⟩, bw_933, bs_23⟩
def TX3_findStatus : MT := (yX3_findStatus, cX3_findStatus, 2, (some .int), [])
theorem MX3_findStatus : MWv TX3_findStatus 1 := ⟨⟨⟨by decide +kernel, by decide +kernel⟩, by decide +kernel, by decide, bw_3, bw_368, rfl⟩, bw_366, bw_367⟩
def TX3_countWith : MT := (yX3_countWith, cX3_countWith, 4, (some .int), [])
theorem MX3_countWith : MWv TX3_countWith 1 := ⟨⟨⟨by decide +kernel, by decide +kernel⟩, by decide +kernel, by decide, bw_3, bw_420, rfl⟩, bw_418, bw_419⟩
def TX2_count : MT := (yX2_count, cX2_count, 2, (some .int), [])
theorem MX2_count : MWv TX2_count 1 := ⟨⟨⟨by decide +kernel, by decide +kernel⟩, by decide +kernel, by decide, bw_4, bw_954, rfl⟩, bw_953, bs_24⟩
def TX2_performUntil : MT := (yX2_performUntil, cX2_performUntil, 4, (some .boolean), [])
theorem MX2_performUntil : MWv TX2_performUntil 0 := ⟨⟨⟨by decide +kernel, by decide +kernel⟩, by decide +kernel, by decide, bw_4, bw_930, rfl⟩, bw_929, bs_22⟩
def TX2_performPolicy : MT := (yX2_performPolicy, cX2_performPolicy, 2, (some .boolean), [])
theorem MX2_performPolicy : MWv TX2_performPolicy 0 := ⟨⟨⟨by decide +kernel, by decide +kernel⟩, by decide +kernel, by decide, bw_4, bw_959, rfl⟩, bw_958, bs_25⟩
def TX2_performCapacity : MT := (yX2_performCapacity, cX2_performCapacity, 2, (some .boolean), [])
theorem MX2_performCapacity : MWv TX2_performCapacity 0 := ⟨⟨⟨by decide +kernel, by decide +kernel⟩, by decide +kernel, by decide, bw_4, bw_963, rfl⟩, bw_962, bs_26⟩
def TX2_performExpect : MT := (yX2_performExpect, cX2_performExpect, 4, (some .boolean), [])
theorem MX2_performExpect : MWv TX2_performExpect 0 := ⟨⟨⟨by decide +kernel, by decide +kernel⟩, by decide +kernel, by decide, bw_4, bw_967, rfl⟩, bw_966, bs_27⟩
def TX2_performSimple : MT := (yX2_performSimple, cX2_performSimple, 1, (some .boolean), [])
theorem MX2_performSimple : MWv TX2_performSimple 0 := ⟨⟨⟨by decide +kernel, by decide +kernel⟩, by decide +kernel, by decide, bw_4, bw_905, rfl⟩, bw_904, bs_19⟩
def TX2_performRepeat : MT := (yX2_performRepeat, cX2_performRepeat, 5, (some .boolean), [])
theorem MX2_performRepeat : MWv TX2_performRepeat 0 := ⟨⟨⟨by decide +kernel, by decide +kernel⟩, by decide +kernel, by decide, bw_4, bw_897, rfl⟩, bw_896, bs_18⟩
def TX2_performCommands : MT := (yX2_performCommands, cX2_performCommands, 4, (some .boolean), [])
theorem MX2_performCommands : MWv TX2_performCommands 1 := ⟨⟨⟨by decide +kernel, by decide +kernel⟩, by decide +kernel, by decide, bw_4, bw_891, rfl⟩, bw_889, bw_890⟩
def TX3_init : MT := (yX3_init, cX3_init, 1, none, [])
theorem MX3_init : MWi TX3_init 0 := ⟨⟨⟨by decide +kernel, by decide +kernel⟩, by decide +kernel, by decide, bw_3, bw_37, rfl⟩, bw_36, by decide +kernel⟩
def TX3_copyFrom : MT := (yX3_copyFrom, cX3_copyFrom, 2, none, [])
theorem MX3_copyFrom : MWv TX3_copyFrom 1 := ⟨⟨⟨by decide +kernel, by decide +kernel⟩, by decide +kernel, by decide, bw_3, bw_492, rfl⟩, bw_490, bw_491⟩
def TX3_findWait : MT := (yX3_findWait, cX3_findWait, 2, (some .int), [])
theorem MX3_findWait : MWv TX3_findWait 1 := ⟨⟨⟨by decide +kernel, by decide +kernel⟩, by decide +kernel, by decide, bw_3, bw_396, rfl⟩, bw_394, bw_395⟩
def TX3_findRide : MT := (yX3_findRide, cX3_findRide, 2, (some .int), [])
theorem MX3_findRide : MWv TX3_findRide 1 := ⟨⟨⟨by decide +kernel, by decide +kernel⟩, by decide +kernel, by decide, bw_3, bw_404, rfl⟩, bw_402, bw_403⟩
def TX3_countWaiting : MT := (yX3_countWaiting, cX3_countWaiting, 4, (some .int), [])
theorem MX3_countWaiting : MWv TX3_countWaiting 1 := ⟨⟨⟨by decide +kernel, by decide +kernel⟩, by decide +kernel, by decide, bw_3, bw_434, rfl⟩, bw_432, bw_433⟩
def TX3_sumWaits : MT := (yX3_sumWaits, cX3_sumWaits, 3, (some .int), [])
theorem MX3_sumWaits : MWv TX3_sumWaits 0 := ⟨⟨⟨by decide +kernel, by decide +kernel⟩, by decide +kernel, by decide, bw_3, bw_451, rfl⟩, bw_449, bw_450⟩
def TX4_init : MT := (yX4_init, cX4_init, 2, none, [])
theorem MX4_init : MWi TX4_init 0 := ⟨⟨⟨by decide +kernel, by decide +kernel⟩, by decide +kernel, by decide, bw_2, bw_29, rfl⟩, bw_28, by decide +kernel⟩
def TX4_appendFour : MT := (yX4_appendFour, cX4_appendFour, 3, none, [])
theorem MX4_appendFour : MWv TX4_appendFour 1 := ⟨⟨⟨by decide +kernel, by decide +kernel⟩, by decide +kernel, by decide, bw_2, bw_792, rfl⟩, bw_791, bs_11⟩
def TX4_append : MT := (yX4_append, cX4_append, 6, (some .int), [])
theorem MX4_append : MWv TX4_append 5 := ⟨⟨⟨by decide +kernel, by decide +kernel⟩, by decide +kernel, by decide, bw_2, bw_788, rfl⟩, bw_786, bw_787⟩
def TX4_truncate : MT := (yX4_truncate, cX4_truncate, 2, (some .boolean), [])
theorem MX4_truncate : MWv TX4_truncate 1 := ⟨⟨⟨by decide +kernel, by decide +kernel⟩, by decide +kernel, by decide, bw_2, bw_754, rfl⟩, bw_752, bw_753⟩
def TX4_load : MT := (yX4_load, cX4_load, 2, (some .int), [])
theorem MX4_load : MWv TX4_load 0 := ⟨⟨⟨by decide +kernel, by decide +kernel⟩, by decide +kernel, by decide, bw_2, bw_796, rfl⟩, bw_794, bw_795⟩
def TX4_parseError : MT := (yX4_parseError, cX4_parseError, 1, (some .int), [])
theorem MX4_parseError : MWv TX4_parseError 0 := ⟨⟨⟨by decide +kernel, by decide +kernel⟩, by decide +kernel, by decide, bw_2, bw_976, rfl⟩, bw_974, bw_975⟩
def TX4_floorCount : MT := (yX4_floorCount, cX4_floorCount, 1, (some .int), [])
theorem MX4_floorCount : MWv TX4_floorCount 0 := ⟨⟨⟨by decide +kernel, by decide +kernel⟩, by decide +kernel, by decide, bw_2, bw_972, rfl⟩, bw_970, bw_971⟩
def TX4_capacity : MT := (yX4_capacity, cX4_capacity, 1, (some .int), [])
theorem MX4_capacity : MWv TX4_capacity 0 := ⟨⟨⟨by decide +kernel, by decide +kernel⟩, by decide +kernel, by decide, bw_2, bw_208, rfl⟩, bw_206, bw_207⟩
def TX4_policy : MT := (yX4_policy, cX4_policy, 1, (some .int), [])
theorem MX4_policy : MWv TX4_policy 0 := ⟨⟨⟨by decide +kernel, by decide +kernel⟩, by decide +kernel, by decide, bw_2, bw_212, rfl⟩, bw_210, bw_211⟩
def TX4_time : MT := (yX4_time, cX4_time, 1, (some .int), [])
theorem MX4_time : MWv TX4_time 0 := ⟨⟨⟨by decide +kernel, by decide +kernel⟩, by decide +kernel, by decide, bw_2, bw_216, rfl⟩, bw_214, bw_215⟩
def TX4_floor : MT := (yX4_floor, cX4_floor, 1, (some .int), [])
theorem MX4_floor : MWv TX4_floor 0 := ⟨⟨⟨by decide +kernel, by decide +kernel⟩, by decide +kernel, by decide, bw_2, bw_220, rfl⟩, bw_218, bw_219⟩
def TX4_isFull : MT := (yX4_isFull, cX4_isFull, 1, (some .boolean), [])
theorem MX4_isFull : MWv TX4_isFull 0 := ⟨⟨⟨by decide +kernel, by decide +kernel⟩, by decide +kernel, by decide, bw_2, bw_224, rfl⟩, bw_222, bw_223⟩
def TX4_stopMask : MT := (yX4_stopMask, cX4_stopMask, 1, (some .int), [])
theorem MX4_stopMask : MWv TX4_stopMask 0 := ⟨⟨⟨by decide +kernel, by decide +kernel⟩, by decide +kernel, by decide, bw_2, bw_228, rfl⟩, bw_226, bw_227⟩
def TX4_requirePolicy : MT := (yX4_requirePolicy, cX4_requirePolicy, 2, none, [])
theorem MX4_requirePolicy : MWv TX4_requirePolicy 1 := ⟨⟨⟨by decide +kernel, by decide +kernel⟩, by decide +kernel, by decide, bw_2, bw_240, rfl⟩, bw_239, bs_0⟩
def TX4_targetBy : MT := (yX4_targetBy, cX4_targetBy, 2, (some .int), [])
theorem MX4_targetBy : MWv TX4_targetBy 1 := ⟨⟨⟨by decide +kernel, by decide +kernel⟩, by decide +kernel, by decide, bw_2, bw_236, rfl⟩, bw_234, bw_235⟩
def TX4_distance : MT := (yX4_distance, cX4_distance, 1, (some .int), [])
theorem MX4_distance : MWv TX4_distance 0 := ⟨⟨⟨by decide +kernel, by decide +kernel⟩, by decide +kernel, by decide, bw_2, bw_332, rfl⟩, bw_330, bw_331⟩
def TX4_doorTicks : MT := (yX4_doorTicks, cX4_doorTicks, 1, (some .int), [])
theorem MX4_doorTicks : MWv TX4_doorTicks 0 := ⟨⟨⟨by decide +kernel, by decide +kernel⟩, by decide +kernel, by decide, bw_2, bw_336, rfl⟩, bw_334, bw_335⟩
def TX4_idleTicks : MT := (yX4_idleTicks, cX4_idleTicks, 1, (some .int), [])
theorem MX4_idleTicks : MWv TX4_idleTicks 0 := ⟨⟨⟨by decide +kernel, by decide +kernel⟩, by decide +kernel, by decide, bw_2, bw_340, rfl⟩, bw_338, bw_339⟩
def TX4_requirePassenger : MT := (yX4_requirePassenger, cX4_requirePassenger, 2, none, [])
theorem MX4_requirePassenger : MWv TX4_requirePassenger 1 := ⟨⟨⟨by decide +kernel, by decide +kernel⟩, by decide +kernel, by decide, bw_2, bw_348, rfl⟩, bw_347, bs_5⟩
def TX4_statusOf : MT := (yX4_statusOf, cX4_statusOf, 2, (some .int), [])
theorem MX4_statusOf : MWv TX4_statusOf 1 := ⟨⟨⟨by decide +kernel, by decide +kernel⟩, by decide +kernel, by decide, bw_2, bw_344, rfl⟩, bw_342, bw_343⟩
def TX4_originOf : MT := (yX4_originOf, cX4_originOf, 2, (some .int), [])
theorem MX4_originOf : MWv TX4_originOf 1 := ⟨⟨⟨by decide +kernel, by decide +kernel⟩, by decide +kernel, by decide, bw_2, bw_372, rfl⟩, bw_370, bw_371⟩
def TX4_destinationOf : MT := (yX4_destinationOf, cX4_destinationOf, 2, (some .int), [])
theorem MX4_destinationOf : MWv TX4_destinationOf 1 := ⟨⟨⟨by decide +kernel, by decide +kernel⟩, by decide +kernel, by decide, bw_2, bw_376, rfl⟩, bw_374, bw_375⟩
def TX4_arrivalOf : MT := (yX4_arrivalOf, cX4_arrivalOf, 2, (some .int), [])
theorem MX4_arrivalOf : MWv TX4_arrivalOf 1 := ⟨⟨⟨by decide +kernel, by decide +kernel⟩, by decide +kernel, by decide, bw_2, bw_380, rfl⟩, bw_378, bw_379⟩
def TX4_boardedAt : MT := (yX4_boardedAt, cX4_boardedAt, 2, (some .int), [])
theorem MX4_boardedAt : MWv TX4_boardedAt 1 := ⟨⟨⟨by decide +kernel, by decide +kernel⟩, by decide +kernel, by decide, bw_2, bw_384, rfl⟩, bw_382, bw_383⟩
def TX4_leftAt : MT := (yX4_leftAt, cX4_leftAt, 2, (some .int), [])
theorem MX4_leftAt : MWv TX4_leftAt 1 := ⟨⟨⟨by decide +kernel, by decide +kernel⟩, by decide +kernel, by decide, bw_2, bw_388, rfl⟩, bw_386, bw_387⟩
def TX4_waitOf : MT := (yX4_waitOf, cX4_waitOf, 2, (some .int), [])
theorem MX4_waitOf : MWv TX4_waitOf 1 := ⟨⟨⟨by decide +kernel, by decide +kernel⟩, by decide +kernel, by decide, bw_2, bw_392, rfl⟩, bw_390, bw_391⟩
def TX4_rideOf : MT := (yX4_rideOf, cX4_rideOf, 2, (some .int), [])
theorem MX4_rideOf : MWv TX4_rideOf 1 := ⟨⟨⟨by decide +kernel, by decide +kernel⟩, by decide +kernel, by decide, bw_2, bw_400, rfl⟩, bw_398, bw_399⟩
def TX4_detourOf : MT := (yX4_detourOf, cX4_detourOf, 3, (some .int), [])
theorem MX4_detourOf : MWv TX4_detourOf 1 := ⟨⟨⟨by decide +kernel, by decide +kernel⟩, by decide +kernel, by decide, bw_2, bw_408, rfl⟩, bw_406, bw_407⟩
def TX4_countStatus : MT := (yX4_countStatus, cX4_countStatus, 2, (some .int), [])
theorem MX4_countStatus : MWv TX4_countStatus 1 := ⟨⟨⟨by decide +kernel, by decide +kernel⟩, by decide +kernel, by decide, bw_2, bw_415, rfl⟩, bw_413, bw_414⟩
def TX4_requireFloor : MT := (yX4_requireFloor, cX4_requireFloor, 2, none, [])
theorem MX4_requireFloor : MWv TX4_requireFloor 1 := ⟨⟨⟨by decide +kernel, by decide +kernel⟩, by decide +kernel, by decide, bw_2, bw_429, rfl⟩, bw_428, bs_6⟩
def TX4_waitingAt : MT := (yX4_waitingAt, cX4_waitingAt, 2, (some .int), [])
theorem MX4_waitingAt : MWv TX4_waitingAt 1 := ⟨⟨⟨by decide +kernel, by decide +kernel⟩, by decide +kernel, by decide, bw_2, bw_425, rfl⟩, bw_423, bw_424⟩
def TX4_queueAt : MT := (yX4_queueAt, cX4_queueAt, 6, (some .int), [])
theorem MX4_queueAt : MWv TX4_queueAt 2 := ⟨⟨⟨by decide +kernel, by decide +kernel⟩, by decide +kernel, by decide, bw_2, bw_438, rfl⟩, bw_436, bw_437⟩
def TX4_firstWaiting : MT := (yX4_firstWaiting, cX4_firstWaiting, 1, (some .int), [])
theorem MX4_firstWaiting : MWv TX4_firstWaiting 0 := ⟨⟨⟨by decide +kernel, by decide +kernel⟩, by decide +kernel, by decide, bw_2, bw_442, rfl⟩, bw_440, bw_441⟩
def TX4_totalWait : MT := (yX4_totalWait, cX4_totalWait, 1, (some .int), [])
theorem MX4_totalWait : MWv TX4_totalWait 0 := ⟨⟨⟨by decide +kernel, by decide +kernel⟩, by decide +kernel, by decide, bw_2, bw_447, rfl⟩, bw_445, bw_446⟩
def TX4_isFinished : MT := (yX4_isFinished, cX4_isFinished, 1, (some .boolean), [])
theorem MX4_isFinished : MWv TX4_isFinished 0 := ⟨⟨⟨by decide +kernel, by decide +kernel⟩, by decide +kernel, by decide, bw_2, bw_459, rfl⟩, bw_457, bw_458⟩
def TX4_rememberState : MT := (yX4_rememberState, cX4_rememberState, 1, none, [])
theorem MX4_rememberState : MWv TX4_rememberState 0 := ⟨⟨⟨by decide +kernel, by decide +kernel⟩, by decide +kernel, by decide, bw_2, bw_488, rfl⟩, bw_487, bs_7⟩
def TX4_run : MT := (yX4_run, cX4_run, 3, (some .int), [])
theorem MX4_run : MWv TX4_run 1 := ⟨⟨⟨by decide +kernel, by decide +kernel⟩, by decide +kernel, by decide, bw_2, bw_467, rfl⟩, bw_465, bw_466⟩
def TX4_requireCapacity : MT := (yX4_requireCapacity, cX4_requireCapacity, 2, none, [])
theorem MX4_requireCapacity : MWv TX4_requireCapacity 1 := ⟨⟨⟨by decide +kernel, by decide +kernel⟩, by decide +kernel, by decide, bw_2, bw_519, rfl⟩, bw_518, bs_10⟩
def TX4_setCapacity : MT := (yX4_setCapacity, cX4_setCapacity, 3, (some .int), [])
theorem MX4_setCapacity : MWv TX4_setCapacity 1 := ⟨⟨⟨by decide +kernel, by decide +kernel⟩, by decide +kernel, by decide, bw_2, bw_515, rfl⟩, bw_513, bw_514⟩
def TX5_init : MT := (yX5_init, cX5_init, 2, none, [])
theorem MX5_init : MWi TX5_init 1 := ⟨⟨⟨by decide +kernel, by decide +kernel⟩, by decide +kernel, by decide, bw_1, bw_526, rfl⟩, bw_525, by decide +kernel⟩
def TX5_next : MT := (yX5_next, cX5_next, 2, (some .int), [])
theorem MX5_next : MWv TX5_next 1 := ⟨⟨⟨by decide +kernel, by decide +kernel⟩, by decide +kernel, by decide, bw_1, bw_542, rfl⟩, bw_540, bw_541⟩
def TJ2_newBytesLength_0f7a4 : MT := (yJ2_newBytesLength_0f7a4, cJ2_newBytesLength_0f7a4, 1, (some .int), [])
theorem MJ2_newBytesLength_0f7a4 : MWs TJ2_newBytesLength_0f7a4 1 := ⟨⟨⟨by decide +kernel, by decide +kernel⟩, by decide +kernel, by decide, bw_8, bw_572, rfl⟩, bw_571⟩
def TJ2_newBytesFor_77867 : MT := (yJ2_newBytesFor_77867, cJ2_newBytesFor_77867, 1, (some (.array .byte)), [])
theorem MJ2_newBytesFor_77867 : MWs TJ2_newBytesFor_77867 1 := ⟨⟨⟨by decide +kernel, by decide +kernel⟩, by decide +kernel, by decide, bw_8, bw_569, rfl⟩, bw_568⟩
def TJ8_hugeLength_7cf53 : MT := (yJ8_hugeLength_7cf53, cJ8_hugeLength_7cf53, 3, (some .int), [])
theorem MJ8_hugeLength_7cf53 : MWs TJ8_hugeLength_7cf53 2 := ⟨⟨⟨by decide +kernel, by decide +kernel⟩, by decide +kernel, by decide, bw_9, bw_606, rfl⟩, bw_605⟩
def TJ8_newLength_cabcc : MT := (yJ8_newLength_cabcc, cJ8_newLength_cabcc, 4, (some .int), [])
theorem MJ8_newLength_cabcc : MWs TJ8_newLength_cabcc 3 := ⟨⟨⟨by decide +kernel, by decide +kernel⟩, by decide +kernel, by decide, bw_9, bw_601, rfl⟩, bw_600⟩
def TJ5_newCapacity_0f7a4 : MT := (yJ5_newCapacity_0f7a4, cJ5_newCapacity_0f7a4, 6, (some .int), [])
theorem MUJ5_newCapacity_0f7a4 : MWb TJ5_newCapacity_0f7a4 1 ∧ Cond.instanceMethod TJ5_newCapacity_0f7a4.1 ∈ BW := ⟨⟨⟨by decide +kernel, by decide +kernel⟩, by decide +kernel, by decide, bw_5, bw_598, rfl⟩, bw_597⟩
def TJ7_copyOf_9075b : MT := (yJ7_copyOf_9075b, cJ7_copyOf_9075b, 3, (some (.array .byte)), [])
theorem MJ7_copyOf_9075b : MWs TJ7_copyOf_9075b 2 := ⟨⟨⟨by decide +kernel, by decide +kernel⟩, by decide +kernel, by decide, bw_11, bw_609, rfl⟩, bw_608⟩
def TJ5_ensureCapacityInternal_d00df : MT := (yJ5_ensureCapacityInternal_d00df, cJ5_ensureCapacityInternal_d00df, 3, none, [])
theorem MUJ5_ensureCapacityInternal_d00df : MWb TJ5_ensureCapacityInternal_d00df 1 ∧ Cond.instanceMethod TJ5_ensureCapacityInternal_d00df.1 ∈ BW := ⟨⟨⟨by decide +kernel, by decide +kernel⟩, by decide +kernel, by decide, bw_5, bw_594, rfl⟩, bw_593⟩
def TJ5_isLatin1_aae02 : MT := (yJ5_isLatin1_aae02, cJ5_isLatin1_aae02, 1, (some .boolean), [])
theorem MUJ5_isLatin1_aae02 : MWb TJ5_isLatin1_aae02 0 ∧ Cond.instanceMethod TJ5_isLatin1_aae02.1 ∈ BW := ⟨⟨⟨by decide +kernel, by decide +kernel⟩, by decide +kernel, by decide, bw_5, bw_623, rfl⟩, bw_620⟩
def TJ3_checkFromToIndex_8c36e : MT := (yJ3_checkFromToIndex_8c36e, cJ3_checkFromToIndex_8c36e, 4, (some .int), [])
theorem MJ3_checkFromToIndex_8c36e : MWs TJ3_checkFromToIndex_8c36e 4 := ⟨⟨⟨by decide +kernel, by decide +kernel⟩, by decide +kernel, by decide, bw_13, bw_641, rfl⟩, bw_640⟩
def TJ0_checkBoundsBeginEnd_23922 : MT := (yJ0_checkBoundsBeginEnd_23922, cJ0_checkBoundsBeginEnd_23922, 3, none, [])
theorem MJ0_checkBoundsBeginEnd_23922 : MWs TJ0_checkBoundsBeginEnd_23922 3 := ⟨⟨⟨by decide +kernel, by decide +kernel⟩, by decide +kernel, by decide, bw_7, bw_636, rfl⟩, bw_635⟩
def TJ2_checkBoundsBeginEnd_d044e : MT := (yJ2_checkBoundsBeginEnd_d044e, cJ2_checkBoundsBeginEnd_d044e, 3, none, [])
theorem MJ2_checkBoundsBeginEnd_d044e : MWs TJ2_checkBoundsBeginEnd_d044e 3 := ⟨⟨⟨by decide +kernel, by decide +kernel⟩, by decide +kernel, by decide, bw_8, bw_630, rfl⟩, bw_629⟩
def TJ2_putChar_b72d1 : MT := (yJ2_putChar_b72d1, cJ2_putChar_b72d1, 3, none, [])
theorem MJ2_putChar_b72d1 : MWs TJ2_putChar_b72d1 3 := ⟨⟨⟨by decide +kernel, by decide +kernel⟩, by decide +kernel, by decide, bw_8, bw_644, rfl⟩, bw_643⟩
def TJ2_putCharsAt_cd4e5 : MT := (yJ2_putCharsAt_cd4e5, cJ2_putCharsAt_cd4e5, 7, (some .int), [])
theorem MJ2_putCharsAt_cd4e5 : MWs TJ2_putCharsAt_cd4e5 6 := ⟨⟨⟨by decide +kernel, by decide +kernel⟩, by decide +kernel, by decide, bw_8, bw_627, rfl⟩, bw_626⟩
def TJ5_appendNull_278bc : MT := (yJ5_appendNull_278bc, cJ5_appendNull_278bc, 3, (some (.object "java/lang/AbstractStringBuilder")), [])
theorem MUJ5_appendNull_278bc : MWb TJ5_appendNull_278bc 0 ∧ Cond.instanceMethod TJ5_appendNull_278bc.1 ∈ BW := ⟨⟨⟨by decide +kernel, by decide +kernel⟩, by decide +kernel, by decide, bw_5, bw_590, rfl⟩, bw_589⟩
def TJ3_checkFromIndexSize_8c36e : MT := (yJ3_checkFromIndexSize_8c36e, cJ3_checkFromIndexSize_8c36e, 4, (some .int), [])
theorem MJ3_checkFromIndexSize_8c36e : MWs TJ3_checkFromIndexSize_8c36e 4 := ⟨⟨⟨by decide +kernel, by decide +kernel⟩, by decide +kernel, by decide, bw_13, bw_677, rfl⟩, bw_676⟩
def TJ0_checkBoundsOffCount_cabcc : MT := (yJ0_checkBoundsOffCount_cabcc, cJ0_checkBoundsOffCount_cabcc, 3, (some .int), [])
theorem MJ0_checkBoundsOffCount_cabcc : MWs TJ0_checkBoundsOffCount_cabcc 3 := ⟨⟨⟨by decide +kernel, by decide +kernel⟩, by decide +kernel, by decide, bw_7, bw_674, rfl⟩, bw_673⟩
def TJ2_checkBoundsOffCount_d044e : MT := (yJ2_checkBoundsOffCount_d044e, cJ2_checkBoundsOffCount_d044e, 3, none, [])
theorem MJ2_checkBoundsOffCount_d044e : MWs TJ2_checkBoundsOffCount_d044e 3 := ⟨⟨⟨by decide +kernel, by decide +kernel⟩, by decide +kernel, by decide, bw_8, bw_671, rfl⟩, bw_670⟩
def TJ2_inflate_0e8fd : MT := (yJ2_inflate_0e8fd, cJ2_inflate_0e8fd, 6, none, [])
theorem MJ2_inflate_0e8fd : MWs TJ2_inflate_0e8fd 5 := ⟨⟨⟨by decide +kernel, by decide +kernel⟩, by decide +kernel, by decide, bw_8, bw_668, rfl⟩, bw_667⟩
def TJ1_inflate_0e8fd : MT := (yJ1_inflate_0e8fd, cJ1_inflate_0e8fd, 5, none, [])
theorem MJ1_inflate_0e8fd : MWs TJ1_inflate_0e8fd 5 := ⟨⟨⟨by decide +kernel, by decide +kernel⟩, by decide +kernel, by decide, bw_14, bw_665, rfl⟩, bw_664⟩
def TJ5_inflate_da8c8 : MT := (yJ5_inflate_da8c8, cJ5_inflate_da8c8, 2, none, [])
theorem MUJ5_inflate_da8c8 : MWb TJ5_inflate_da8c8 0 ∧ Cond.instanceMethod TJ5_inflate_da8c8.1 ∈ BW := ⟨⟨⟨by decide +kernel, by decide +kernel⟩, by decide +kernel, by decide, bw_5, bw_662, rfl⟩, bw_661⟩
def TJ5_inflateIfNeededFor_a7421 : MT := (yJ5_inflateIfNeededFor_a7421, cJ5_inflateIfNeededFor_a7421, 2, none, [])
theorem MUJ5_inflateIfNeededFor_a7421 : MWb TJ5_inflateIfNeededFor_a7421 1 ∧ Cond.instanceMethod TJ5_inflateIfNeededFor_a7421.1 ∈ BW := ⟨⟨⟨by decide +kernel, by decide +kernel⟩, by decide +kernel, by decide, bw_5, bw_658, rfl⟩, bw_657⟩
def TJ0_getBytes_840e7 : MT := (yJ0_getBytes_840e7, cJ0_getBytes_840e7, 4, none, [])
theorem MJ0_getBytes_840e7 : MWv TJ0_getBytes_840e7 3 := ⟨⟨⟨by decide +kernel, by decide +kernel⟩, by decide +kernel, by decide, bw_7, bw_681, rfl⟩, bw_679, bw_680⟩
def TJ5_putStringAt_47b60 : MT := (yJ5_putStringAt_47b60, cJ5_putStringAt_47b60, 3, none, [])
theorem MUJ5_putStringAt_47b60 : MWb TJ5_putStringAt_47b60 2 ∧ Cond.instanceMethod TJ5_putStringAt_47b60.1 ∈ BW := ⟨⟨⟨by decide +kernel, by decide +kernel⟩, by decide +kernel, by decide, bw_5, bw_654, rfl⟩, bw_653⟩
def TJ5_append_cf1ce : MT := (yJ5_append_cf1ce, cJ5_append_cf1ce, 3, (some (.object "java/lang/AbstractStringBuilder")), [])
theorem MUJ5_append_cf1ce : MWb TJ5_append_cf1ce 1 ∧ Cond.instanceMethod TJ5_append_cf1ce.1 ∈ BW := ⟨⟨⟨by decide +kernel, by decide +kernel⟩, by decide +kernel, by decide, bw_5, bw_586, rfl⟩, bw_575⟩
def TJ4_append_15ec4 : MT := (yJ4_append_15ec4, cJ4_append_15ec4, 2, (some (.object "java/lang/StringBuilder")), [])
theorem MJ4_append_15ec4 : MWv TJ4_append_15ec4 1 := ⟨⟨⟨by decide +kernel, by decide +kernel⟩, by decide +kernel, by decide, bw_6, bw_583, rfl⟩, bw_581, bw_582⟩
def TJ4_append_cf1ce : MT := (yJ4_append_cf1ce, cJ4_append_cf1ce, 2, (some (.object "java/lang/AbstractStringBuilder")), [])
theorem MUJ4_append_cf1ce : MWb TJ4_append_cf1ce 1 ∧ Cond.instanceMethod TJ4_append_cf1ce.1 ∈ BW := ⟨⟨⟨by decide +kernel, by decide +kernel⟩, by decide +kernel, by decide, bw_6, bw_579, rfl⟩, bw_578⟩
def TJ5_init_a7421 : MT := (yJ5_init_a7421, cJ5_init_a7421, 5, none, [])
theorem MJ5_init_a7421 : MWi TJ5_init_a7421 1 := ⟨⟨⟨by decide +kernel, by decide +kernel⟩, by decide +kernel, by decide, bw_5, bw_552, rfl⟩, bw_551, by decide +kernel⟩
def TJ5_length_8abf5 : MT := (yJ5_length_8abf5, cJ5_length_8abf5, 1, (some .int), [])
theorem MUJ5_length_8abf5 : MWb TJ5_length_8abf5 0 ∧ Cond.instanceMethod TJ5_length_8abf5.1 ∈ BW := ⟨⟨⟨by decide +kernel, by decide +kernel⟩, by decide +kernel, by decide, bw_5, bw_767, rfl⟩, bw_766⟩
def TJ5_charAt_5068e : MT := (yJ5_charAt_5068e, cJ5_charAt_5068e, 5, (some .char), [])
theorem MUJ5_charAt_5068e : MWb TJ5_charAt_5068e 1 ∧ Cond.instanceMethod TJ5_charAt_5068e.1 ∈ BW := ⟨⟨⟨by decide +kernel, by decide +kernel⟩, by decide +kernel, by decide, bw_5, bw_779, rfl⟩, bw_778⟩
def TJ1_canEncode_fc78d : MT := (yJ1_canEncode_fc78d, cJ1_canEncode_fc78d, 1, (some .boolean), [])
theorem MJ1_canEncode_fc78d : MWs TJ1_canEncode_fc78d 1 := ⟨⟨⟨by decide +kernel, by decide +kernel⟩, by decide +kernel, by decide, bw_14, bw_729, rfl⟩, bw_728⟩
def TJ2_putCharSB_b72d1 : MT := (yJ2_putCharSB_b72d1, cJ2_putCharSB_b72d1, 3, none, [])
theorem MJ2_putCharSB_b72d1 : MWs TJ2_putCharSB_b72d1 3 := ⟨⟨⟨by decide +kernel, by decide +kernel⟩, by decide +kernel, by decide, bw_8, bw_732, rfl⟩, bw_731⟩
def TJ5_append_3fe6f : MT := (yJ5_append_3fe6f, cJ5_append_3fe6f, 2, (some (.object "java/lang/AbstractStringBuilder")), [])
theorem MUJ5_append_3fe6f : MWb TJ5_append_3fe6f 1 ∧ Cond.instanceMethod TJ5_append_3fe6f.1 ∈ BW := ⟨⟨⟨by decide +kernel, by decide +kernel⟩, by decide +kernel, by decide, bw_5, bw_726, rfl⟩, bw_725⟩
def TJ6_stringSize_0f7a4 : MT := (yJ6_stringSize_0f7a4, cJ6_stringSize_0f7a4, 4, (some .int), [])
theorem MJ6_stringSize_0f7a4 : MWs TJ6_stringSize_0f7a4 1 := ⟨⟨⟨by decide +kernel, by decide +kernel⟩, by decide +kernel, by decide, bw_15, bw_704, rfl⟩, bw_703⟩
def TJ6_getChars_ba4f3 : MT := (yJ6_getChars_ba4f3, cJ6_getChars_ba4f3, 7, (some .int), [])
theorem MJ6_getChars_ba4f3 : MWs TJ6_getChars_ba4f3 3 := ⟨⟨⟨by decide +kernel, by decide +kernel⟩, by decide +kernel, by decide, bw_15, bw_707, rfl⟩, bw_706⟩
def TJ2_getChars_ba4f3 : MT := (yJ2_getChars_ba4f3, cJ2_getChars_ba4f3, 7, (some .int), [])
theorem MJ2_getChars_ba4f3 : MWs TJ2_getChars_ba4f3 3 := ⟨⟨⟨by decide +kernel, by decide +kernel⟩, by decide +kernel, by decide, bw_8, bw_717, rfl⟩, bw_716⟩
def TJ2_getChars_46870 : MT := (yJ2_getChars_46870, cJ2_getChars_46870, 5, (some .int), [])
theorem MJ2_getChars_46870 : MWs TJ2_getChars_46870 4 := ⟨⟨⟨by decide +kernel, by decide +kernel⟩, by decide +kernel, by decide, bw_8, bw_714, rfl⟩, bw_713⟩
def TJ5_append_c97b9 : MT := (yJ5_append_c97b9, cJ5_append_c97b9, 4, (some (.object "java/lang/AbstractStringBuilder")), [])
theorem MUJ5_append_c97b9 : MWb TJ5_append_c97b9 1 ∧ Cond.instanceMethod TJ5_append_c97b9.1 ∈ BW := ⟨⟨⟨by decide +kernel, by decide +kernel⟩, by decide +kernel, by decide, bw_5, bw_701, rfl⟩, bw_700⟩
def TJ4_init_a7421 : MT := (yJ4_init_a7421, cJ4_init_a7421, 2, none, [])
theorem MJ4_init_a7421 : MWi TJ4_init_a7421 1 := ⟨⟨⟨by decide +kernel, by decide +kernel⟩, by decide +kernel, by decide, bw_6, bw_549, rfl⟩, bw_548, by decide +kernel⟩
def TJ4_append_cf468 : MT := (yJ4_append_cf468, cJ4_append_cf468, 2, (some (.object "java/lang/StringBuilder")), [])
theorem MJ4_append_cf468 : MWv TJ4_append_cf468 1 := ⟨⟨⟨by decide +kernel, by decide +kernel⟩, by decide +kernel, by decide, bw_6, bw_723, rfl⟩, bw_721, bw_722⟩
def TJ4_append_bf812 : MT := (yJ4_append_bf812, cJ4_append_bf812, 2, (some (.object "java/lang/StringBuilder")), [])
theorem MJ4_append_bf812 : MWv TJ4_append_bf812 1 := ⟨⟨⟨by decide +kernel, by decide +kernel⟩, by decide +kernel, by decide, bw_6, bw_698, rfl⟩, bw_696, bw_697⟩
def TJ4_charAt_5068e : MT := (yJ4_charAt_5068e, cJ4_charAt_5068e, 2, (some .char), [])
theorem MUJ4_charAt_5068e : MWb TJ4_charAt_5068e 1 ∧ Cond.instanceMethod TJ4_charAt_5068e.1 ∈ BW := ⟨⟨⟨by decide +kernel, by decide +kernel⟩, by decide +kernel, by decide, bw_6, bw_776, rfl⟩, bw_774⟩
def TJ4_length_8abf5 : MT := (yJ4_length_8abf5, cJ4_length_8abf5, 1, (some .int), [])
theorem MUJ4_length_8abf5 : MWb TJ4_length_8abf5 0 ∧ Cond.instanceMethod TJ4_length_8abf5.1 ∈ BW := ⟨⟨⟨by decide +kernel, by decide +kernel⟩, by decide +kernel, by decide, bw_6, bw_764, rfl⟩, bw_762⟩
def TL_draw : MT := (yL_draw, cL_draw, 2, (some .int), [])
theorem ML_draw : MWs TL_draw 2 := ⟨⟨⟨by decide +kernel, by decide +kernel⟩, by decide +kernel, by decide, bw_0, bw_534, rfl⟩, bw_533⟩
def TL_lays : MT := (yL_lays, cL_lays, 6, (some .boolean), [])
theorem ML_lays : MWs TL_lays 2 := ⟨⟨⟨by decide +kernel, by decide +kernel⟩, by decide +kernel, by decide, bw_0, bw_750, rfl⟩, bw_749⟩
def TL_loads : MT := (yL_loads, cL_loads, 8, (some .boolean), [])
theorem ML_loads : MWs TL_loads 4 := ⟨⟨⟨by decide +kernel, by decide +kernel⟩, by decide +kernel, by decide, bw_0, bw_538, rfl⟩, bw_537⟩
theorem inX2 : ∀ w ∈ u_ws RX2 TX2 9, w ∈ BW := by
  have h : (u_ws RX2 TX2 9).all (fun w => decide (w ∈ lw_tbl) && goodWord w) = true := by decide +kernel
  intro w hw
  have h1 := List.all_eq_true.mp h w hw
  simp only [Bool.and_eq_true, decide_eq_true_eq] at h1
  exact List.mem_filter.mpr ⟨List.mem_append_left _ h1.1, h1.2⟩
theorem inX3 : ∀ w ∈ u_ws RX3 TX3 19, w ∈ BW := by
  have h : (u_ws RX3 TX3 19).all (fun w => decide (w ∈ lw_tbl) && goodWord w) = true := by decide +kernel
  intro w hw
  have h1 := List.all_eq_true.mp h w hw
  simp only [Bool.and_eq_true, decide_eq_true_eq] at h1
  exact List.mem_filter.mpr ⟨List.mem_append_left _ h1.1, h1.2⟩
theorem inX4 : ∀ w ∈ u_ws RX4 TX4 12, w ∈ BW := by
  have h : (u_ws RX4 TX4 12).all (fun w => decide (w ∈ lw_tbl) && goodWord w) = true := by decide +kernel
  intro w hw
  have h1 := List.all_eq_true.mp h w hw
  simp only [Bool.and_eq_true, decide_eq_true_eq] at h1
  exact List.mem_filter.mpr ⟨List.mem_append_left _ h1.1, h1.2⟩
theorem inX5 : ∀ w ∈ u_ws RX5 TX5 1, w ∈ BW := by
  have h : (u_ws RX5 TX5 1).all (fun w => decide (w ∈ lw_tbl) && goodWord w) = true := by decide +kernel
  intro w hw
  have h1 := List.all_eq_true.mp h w hw
  simp only [Bool.and_eq_true, decide_eq_true_eq] at h1
  exact List.mem_filter.mpr ⟨List.mem_append_left _ h1.1, h1.2⟩
theorem inJ4 : ∀ w ∈ u_ws RJ4 TJ4 4, w ∈ BW := by
  have h : (u_ws RJ4 TJ4 4).all (fun w => decide (w ∈ lw_tbl) && goodWord w) = true := by decide +kernel
  intro w hw
  have h1 := List.all_eq_true.mp h w hw
  simp only [Bool.and_eq_true, decide_eq_true_eq] at h1
  exact List.mem_filter.mpr ⟨List.mem_append_left _ h1.1, h1.2⟩
theorem bw_x {w : Cond} (i : Nat) (h : sxW[i]? = some w) (g : goodWord w = true) : w ∈ BW := List.mem_filter.mpr ⟨List.mem_append_right _ (List.mem_of_getElem? h), g⟩
